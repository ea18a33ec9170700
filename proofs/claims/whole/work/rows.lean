section
-- ===== PART A: goes FIRST, ahead of the names: the tables' words, and 'selects' of the private methods out of them =====
/-- a private method of a class that the tables say can be made, by its rows of tables_1 -/
def lw_okq (q : MethodName × Nat) : Prop := (q.1.cls ≠ "java/lang/invoke/MethodHandle" ∧ q.1.cls ≠ "java/lang/invoke/VarHandle") ∧ Cond.instantiable q.1.cls q.2 ∈ tables_1 ∧ Cond.privateMethod q.1 ∈ tables_1 ∧ Cond.instanceMethod q.1 ∈ tables_1
theorem lw_p0 : lw_okq (⟨"PromiseLoop", "checkpoint", "()Z"⟩, 18) := ⟨⟨by decide +kernel, by decide +kernel⟩, List.mem_of_getElem? (i := 15) (by decide +kernel), List.mem_of_getElem? (i := 231) (by decide +kernel), List.mem_of_getElem? (i := 232) (by decide +kernel)⟩
theorem lw_p1 : lw_okq (⟨"PromiseLoop", "microtaskBeginsRun", "()Z"⟩, 18) := ⟨⟨by decide +kernel, by decide +kernel⟩, List.mem_of_getElem? (i := 15) (by decide +kernel), List.mem_of_getElem? (i := 239) (by decide +kernel), List.mem_of_getElem? (i := 240) (by decide +kernel)⟩
theorem lw_p2 : lw_okq (⟨"PromiseLoop", "run", "(III)V"⟩, 18) := ⟨⟨by decide +kernel, by decide +kernel⟩, List.mem_of_getElem? (i := 15) (by decide +kernel), List.mem_of_getElem? (i := 269) (by decide +kernel), List.mem_of_getElem? (i := 270) (by decide +kernel)⟩
theorem lw_p3 : lw_okq (⟨"PromiseLoop", "countRun", "(I)V"⟩, 18) := ⟨⟨by decide +kernel, by decide +kernel⟩, List.mem_of_getElem? (i := 15) (by decide +kernel), List.mem_of_getElem? (i := 273) (by decide +kernel), List.mem_of_getElem? (i := 274) (by decide +kernel)⟩
theorem lw_p4 : lw_okq (⟨"PromiseLoop", "endWith", "(IZ)V"⟩, 18) := ⟨⟨by decide +kernel, by decide +kernel⟩, List.mem_of_getElem? (i := 15) (by decide +kernel), List.mem_of_getElem? (i := 277) (by decide +kernel), List.mem_of_getElem? (i := 278) (by decide +kernel)⟩
theorem lw_p5 : lw_okq (⟨"PromiseLoop", "doStep", "(IIIII)V"⟩, 18) := ⟨⟨by decide +kernel, by decide +kernel⟩, List.mem_of_getElem? (i := 15) (by decide +kernel), List.mem_of_getElem? (i := 297) (by decide +kernel), List.mem_of_getElem? (i := 298) (by decide +kernel)⟩
theorem lw_p6 : lw_okq (⟨"PromiseLoop", "postStep", "(III)V"⟩, 18) := ⟨⟨by decide +kernel, by decide +kernel⟩, List.mem_of_getElem? (i := 15) (by decide +kernel), List.mem_of_getElem? (i := 305) (by decide +kernel), List.mem_of_getElem? (i := 306) (by decide +kernel)⟩
theorem lw_p7 : lw_okq (⟨"PromiseLoop", "waitingTasks", "()I"⟩, 18) := ⟨⟨by decide +kernel, by decide +kernel⟩, List.mem_of_getElem? (i := 15) (by decide +kernel), List.mem_of_getElem? (i := 309) (by decide +kernel), List.mem_of_getElem? (i := 310) (by decide +kernel)⟩
theorem lw_p8 : lw_okq (⟨"PromiseLoop", "fail", "(I)V"⟩, 18) := ⟨⟨by decide +kernel, by decide +kernel⟩, List.mem_of_getElem? (i := 15) (by decide +kernel), List.mem_of_getElem? (i := 313) (by decide +kernel), List.mem_of_getElem? (i := 314) (by decide +kernel)⟩
theorem lw_p9 : lw_okq (⟨"PromiseLoop", "microStep", "(II)V"⟩, 18) := ⟨⟨by decide +kernel, by decide +kernel⟩, List.mem_of_getElem? (i := 15) (by decide +kernel), List.mem_of_getElem? (i := 321) (by decide +kernel), List.mem_of_getElem? (i := 322) (by decide +kernel)⟩
theorem lw_p10 : lw_okq (⟨"PromiseLoop", "timerStep", "(IIIZ)V"⟩, 18) := ⟨⟨by decide +kernel, by decide +kernel⟩, List.mem_of_getElem? (i := 15) (by decide +kernel), List.mem_of_getElem? (i := 325) (by decide +kernel), List.mem_of_getElem? (i := 326) (by decide +kernel)⟩
theorem lw_p11 : lw_okq (⟨"PromiseLoop$Timers", "freePlace", "()I"⟩, 10) := ⟨⟨by decide +kernel, by decide +kernel⟩, List.mem_of_getElem? (i := 135) (by decide +kernel), List.mem_of_getElem? (i := 337) (by decide +kernel), List.mem_of_getElem? (i := 338) (by decide +kernel)⟩
theorem lw_p12 : lw_okq (⟨"PromiseLoop$Timers", "start", "(III)V"⟩, 10) := ⟨⟨by decide +kernel, by decide +kernel⟩, List.mem_of_getElem? (i := 135) (by decide +kernel), List.mem_of_getElem? (i := 341) (by decide +kernel), List.mem_of_getElem? (i := 342) (by decide +kernel)⟩
theorem lw_p13 : lw_okq (⟨"PromiseLoop", "callStep", "(III)V"⟩, 18) := ⟨⟨by decide +kernel, by decide +kernel⟩, List.mem_of_getElem? (i := 15) (by decide +kernel), List.mem_of_getElem? (i := 353) (by decide +kernel), List.mem_of_getElem? (i := 354) (by decide +kernel)⟩
theorem lw_p14 : lw_okq (⟨"PromiseLoop", "mayCall", "(I)Z"⟩, 18) := ⟨⟨by decide +kernel, by decide +kernel⟩, List.mem_of_getElem? (i := 15) (by decide +kernel), List.mem_of_getElem? (i := 357) (by decide +kernel), List.mem_of_getElem? (i := 358) (by decide +kernel)⟩
theorem lw_p15 : lw_okq (⟨"PromiseLoop", "tryStep", "(IIII)V"⟩, 18) := ⟨⟨by decide +kernel, by decide +kernel⟩, List.mem_of_getElem? (i := 15) (by decide +kernel), List.mem_of_getElem? (i := 361) (by decide +kernel), List.mem_of_getElem? (i := 362) (by decide +kernel)⟩
def lw_privs_1 : List (MethodName × Nat) := [(⟨"PromiseLoop", "checkpoint", "()Z"⟩, 18), (⟨"PromiseLoop", "microtaskBeginsRun", "()Z"⟩, 18), (⟨"PromiseLoop", "run", "(III)V"⟩, 18), (⟨"PromiseLoop", "countRun", "(I)V"⟩, 18), (⟨"PromiseLoop", "endWith", "(IZ)V"⟩, 18), (⟨"PromiseLoop", "doStep", "(IIIII)V"⟩, 18), (⟨"PromiseLoop", "postStep", "(III)V"⟩, 18), (⟨"PromiseLoop", "waitingTasks", "()I"⟩, 18), (⟨"PromiseLoop", "fail", "(I)V"⟩, 18), (⟨"PromiseLoop", "microStep", "(II)V"⟩, 18), (⟨"PromiseLoop", "timerStep", "(IIIZ)V"⟩, 18), (⟨"PromiseLoop$Timers", "freePlace", "()I"⟩, 10), (⟨"PromiseLoop$Timers", "start", "(III)V"⟩, 10), (⟨"PromiseLoop", "callStep", "(III)V"⟩, 18), (⟨"PromiseLoop", "mayCall", "(I)Z"⟩, 18), (⟨"PromiseLoop", "tryStep", "(IIII)V"⟩, 18)]
theorem lw_r1 : ∀ q ∈ lw_privs_1, lw_okq q := List.forall_mem_cons.mpr ⟨lw_p0, List.forall_mem_cons.mpr ⟨lw_p1, List.forall_mem_cons.mpr ⟨lw_p2, List.forall_mem_cons.mpr ⟨lw_p3, List.forall_mem_cons.mpr ⟨lw_p4, List.forall_mem_cons.mpr ⟨lw_p5, List.forall_mem_cons.mpr ⟨lw_p6, List.forall_mem_cons.mpr ⟨lw_p7, List.forall_mem_cons.mpr ⟨lw_p8, List.forall_mem_cons.mpr ⟨lw_p9, List.forall_mem_cons.mpr ⟨lw_p10, List.forall_mem_cons.mpr ⟨lw_p11, List.forall_mem_cons.mpr ⟨lw_p12, List.forall_mem_cons.mpr ⟨lw_p13, List.forall_mem_cons.mpr ⟨lw_p14, List.forall_mem_cons.mpr ⟨lw_p15, fun _ h => absurd h List.not_mem_nil⟩⟩⟩⟩⟩⟩⟩⟩⟩⟩⟩⟩⟩⟩⟩⟩
theorem lw_p16 : lw_okq (⟨"PromiseLoop", "answerStep", "(III)V"⟩, 18) := ⟨⟨by decide +kernel, by decide +kernel⟩, List.mem_of_getElem? (i := 15) (by decide +kernel), List.mem_of_getElem? (i := 365) (by decide +kernel), List.mem_of_getElem? (i := 366) (by decide +kernel)⟩
theorem lw_p17 : lw_okq (⟨"PromiseLoop", "makeStep", "(I)V"⟩, 18) := ⟨⟨by decide +kernel, by decide +kernel⟩, List.mem_of_getElem? (i := 15) (by decide +kernel), List.mem_of_getElem? (i := 369) (by decide +kernel), List.mem_of_getElem? (i := 370) (by decide +kernel)⟩
theorem lw_p18 : lw_okq (⟨"PromiseLoop", "thenStep", "(III)V"⟩, 18) := ⟨⟨by decide +kernel, by decide +kernel⟩, List.mem_of_getElem? (i := 15) (by decide +kernel), List.mem_of_getElem? (i := 398) (by decide +kernel), List.mem_of_getElem? (i := 399) (by decide +kernel)⟩
theorem lw_p19 : lw_okq (⟨"PromiseLoop", "frameStep", "(I)V"⟩, 18) := ⟨⟨by decide +kernel, by decide +kernel⟩, List.mem_of_getElem? (i := 15) (by decide +kernel), List.mem_of_getElem? (i := 407) (by decide +kernel), List.mem_of_getElem? (i := 408) (by decide +kernel)⟩
theorem lw_p20 : lw_okq (⟨"PromiseLoop", "reportFailure", "()V"⟩, 18) := ⟨⟨by decide +kernel, by decide +kernel⟩, List.mem_of_getElem? (i := 15) (by decide +kernel), List.mem_of_getElem? (i := 411) (by decide +kernel), List.mem_of_getElem? (i := 412) (by decide +kernel)⟩
theorem lw_p21 : lw_okq (⟨"PromiseLoop", "doReaction", "(I)V"⟩, 18) := ⟨⟨by decide +kernel, by decide +kernel⟩, List.mem_of_getElem? (i := 15) (by decide +kernel), List.mem_of_getElem? (i := 415) (by decide +kernel), List.mem_of_getElem? (i := 416) (by decide +kernel)⟩
theorem lw_p22 : lw_okq (⟨"PromiseLoop", "settleWithResult", "(I)V"⟩, 18) := ⟨⟨by decide +kernel, by decide +kernel⟩, List.mem_of_getElem? (i := 15) (by decide +kernel), List.mem_of_getElem? (i := 436) (by decide +kernel), List.mem_of_getElem? (i := 437) (by decide +kernel)⟩
theorem lw_p23 : lw_okq (⟨"PromiseLoop", "doTask", "()Z"⟩, 18) := ⟨⟨by decide +kernel, by decide +kernel⟩, List.mem_of_getElem? (i := 15) (by decide +kernel), List.mem_of_getElem? (i := 444) (by decide +kernel), List.mem_of_getElem? (i := 445) (by decide +kernel)⟩
theorem lw_p24 : lw_okq (⟨"PromiseLoop", "sourceOfNextTask", "()I"⟩, 18) := ⟨⟨by decide +kernel, by decide +kernel⟩, List.mem_of_getElem? (i := 15) (by decide +kernel), List.mem_of_getElem? (i := 448) (by decide +kernel), List.mem_of_getElem? (i := 449) (by decide +kernel)⟩
theorem lw_p25 : lw_okq (⟨"PromiseLoop", "doTimer", "(I)V"⟩, 18) := ⟨⟨by decide +kernel, by decide +kernel⟩, List.mem_of_getElem? (i := 15) (by decide +kernel), List.mem_of_getElem? (i := 453) (by decide +kernel), List.mem_of_getElem? (i := 454) (by decide +kernel)⟩
theorem lw_p26 : lw_okq (⟨"PromiseLoop", "doFrame", "(Z)Z"⟩, 18) := ⟨⟨by decide +kernel, by decide +kernel⟩, List.mem_of_getElem? (i := 15) (by decide +kernel), List.mem_of_getElem? (i := 477) (by decide +kernel), List.mem_of_getElem? (i := 478) (by decide +kernel)⟩
theorem lw_p27 : lw_okq (⟨"java/lang/Throwable", "fillInStackTrace", "(I)Ljava/lang/Throwable;"⟩, 6) := ⟨⟨by decide +kernel, by decide +kernel⟩, List.mem_of_getElem? (i := 555) (by decide +kernel), List.mem_of_getElem? (i := 553) (by decide +kernel), List.mem_of_getElem? (i := 554) (by decide +kernel)⟩
theorem lw_p28 : lw_okq (⟨"PromiseLoop$Timers", "nextDue", "(I)I"⟩, 10) := ⟨⟨by decide +kernel, by decide +kernel⟩, List.mem_of_getElem? (i := 135) (by decide +kernel), List.mem_of_getElem? (i := 646) (by decide +kernel), List.mem_of_getElem? (i := 647) (by decide +kernel)⟩
theorem lw_p29 : lw_okq (⟨"PromiseLoop$Timers", "isBefore", "(II)Z"⟩, 10) := ⟨⟨by decide +kernel, by decide +kernel⟩, List.mem_of_getElem? (i := 135) (by decide +kernel), List.mem_of_getElem? (i := 650) (by decide +kernel), List.mem_of_getElem? (i := 651) (by decide +kernel)⟩
theorem lw_p30 : lw_okq (⟨"PromiseLoopModel", "outside", "(III)Z"⟩, 67) := ⟨⟨by decide +kernel, by decide +kernel⟩, List.mem_of_getElem? (i := 744) (by decide +kernel), List.mem_of_getElem? (i := 960) (by decide +kernel), List.mem_of_getElem? (i := 961) (by decide +kernel)⟩
theorem lw_p31 : lw_okq (⟨"PromiseLoopModel", "fits", "(III)Z"⟩, 67) := ⟨⟨by decide +kernel, by decide +kernel⟩, List.mem_of_getElem? (i := 744) (by decide +kernel), List.mem_of_getElem? (i := 964) (by decide +kernel), List.mem_of_getElem? (i := 965) (by decide +kernel)⟩
def lw_privs_2 : List (MethodName × Nat) := [(⟨"PromiseLoop", "answerStep", "(III)V"⟩, 18), (⟨"PromiseLoop", "makeStep", "(I)V"⟩, 18), (⟨"PromiseLoop", "thenStep", "(III)V"⟩, 18), (⟨"PromiseLoop", "frameStep", "(I)V"⟩, 18), (⟨"PromiseLoop", "reportFailure", "()V"⟩, 18), (⟨"PromiseLoop", "doReaction", "(I)V"⟩, 18), (⟨"PromiseLoop", "settleWithResult", "(I)V"⟩, 18), (⟨"PromiseLoop", "doTask", "()Z"⟩, 18), (⟨"PromiseLoop", "sourceOfNextTask", "()I"⟩, 18), (⟨"PromiseLoop", "doTimer", "(I)V"⟩, 18), (⟨"PromiseLoop", "doFrame", "(Z)Z"⟩, 18), (⟨"java/lang/Throwable", "fillInStackTrace", "(I)Ljava/lang/Throwable;"⟩, 6), (⟨"PromiseLoop$Timers", "nextDue", "(I)I"⟩, 10), (⟨"PromiseLoop$Timers", "isBefore", "(II)Z"⟩, 10), (⟨"PromiseLoopModel", "outside", "(III)Z"⟩, 67), (⟨"PromiseLoopModel", "fits", "(III)Z"⟩, 67)]
theorem lw_r2 : ∀ q ∈ lw_privs_2, lw_okq q := List.forall_mem_cons.mpr ⟨lw_p16, List.forall_mem_cons.mpr ⟨lw_p17, List.forall_mem_cons.mpr ⟨lw_p18, List.forall_mem_cons.mpr ⟨lw_p19, List.forall_mem_cons.mpr ⟨lw_p20, List.forall_mem_cons.mpr ⟨lw_p21, List.forall_mem_cons.mpr ⟨lw_p22, List.forall_mem_cons.mpr ⟨lw_p23, List.forall_mem_cons.mpr ⟨lw_p24, List.forall_mem_cons.mpr ⟨lw_p25, List.forall_mem_cons.mpr ⟨lw_p26, List.forall_mem_cons.mpr ⟨lw_p27, List.forall_mem_cons.mpr ⟨lw_p28, List.forall_mem_cons.mpr ⟨lw_p29, List.forall_mem_cons.mpr ⟨lw_p30, List.forall_mem_cons.mpr ⟨lw_p31, fun _ h => absurd h List.not_mem_nil⟩⟩⟩⟩⟩⟩⟩⟩⟩⟩⟩⟩⟩⟩⟩⟩
theorem lw_p32 : lw_okq (⟨"PromiseLoopModel", "addTask", "(IIII)V"⟩, 67) := ⟨⟨by decide +kernel, by decide +kernel⟩, List.mem_of_getElem? (i := 744) (by decide +kernel), List.mem_of_getElem? (i := 976) (by decide +kernel), List.mem_of_getElem? (i := 977) (by decide +kernel)⟩
theorem lw_p33 : lw_okq (⟨"PromiseLoopModel", "checkpoint", "()Z"⟩, 67) := ⟨⟨by decide +kernel, by decide +kernel⟩, List.mem_of_getElem? (i := 744) (by decide +kernel), List.mem_of_getElem? (i := 992) (by decide +kernel), List.mem_of_getElem? (i := 993) (by decide +kernel)⟩
theorem lw_p34 : lw_okq (⟨"PromiseLoopModel", "functionOf", "(I)I"⟩, 67) := ⟨⟨by decide +kernel, by decide +kernel⟩, List.mem_of_getElem? (i := 744) (by decide +kernel), List.mem_of_getElem? (i := 996) (by decide +kernel), List.mem_of_getElem? (i := 997) (by decide +kernel)⟩
theorem lw_p35 : lw_okq (⟨"PromiseLoopModel", "runAndTell", "(II)V"⟩, 67) := ⟨⟨by decide +kernel, by decide +kernel⟩, List.mem_of_getElem? (i := 744) (by decide +kernel), List.mem_of_getElem? (i := 1000) (by decide +kernel), List.mem_of_getElem? (i := 1001) (by decide +kernel)⟩
theorem lw_p36 : lw_okq (⟨"PromiseLoopModel", "run", "(II)Z"⟩, 67) := ⟨⟨by decide +kernel, by decide +kernel⟩, List.mem_of_getElem? (i := 744) (by decide +kernel), List.mem_of_getElem? (i := 1004) (by decide +kernel), List.mem_of_getElem? (i := 1005) (by decide +kernel)⟩
theorem lw_p37 : lw_okq (⟨"PromiseLoopModel", "begin", "(IIII)V"⟩, 67) := ⟨⟨by decide +kernel, by decide +kernel⟩, List.mem_of_getElem? (i := 744) (by decide +kernel), List.mem_of_getElem? (i := 1008) (by decide +kernel), List.mem_of_getElem? (i := 1009) (by decide +kernel)⟩
theorem lw_p38 : lw_okq (⟨"PromiseLoopModel", "doStep", "(I)V"⟩, 67) := ⟨⟨by decide +kernel, by decide +kernel⟩, List.mem_of_getElem? (i := 744) (by decide +kernel), List.mem_of_getElem? (i := 1012) (by decide +kernel), List.mem_of_getElem? (i := 1013) (by decide +kernel)⟩
theorem lw_p39 : lw_okq (⟨"PromiseLoopModel", "timerAt", "(I)I"⟩, 67) := ⟨⟨by decide +kernel, by decide +kernel⟩, List.mem_of_getElem? (i := 744) (by decide +kernel), List.mem_of_getElem? (i := 1016) (by decide +kernel), List.mem_of_getElem? (i := 1017) (by decide +kernel)⟩
theorem lw_p40 : lw_okq (⟨"PromiseLoopModel", "dropTimer", "(I)V"⟩, 67) := ⟨⟨by decide +kernel, by decide +kernel⟩, List.mem_of_getElem? (i := 744) (by decide +kernel), List.mem_of_getElem? (i := 1020) (by decide +kernel), List.mem_of_getElem? (i := 1021) (by decide +kernel)⟩
theorem lw_p41 : lw_okq (⟨"PromiseLoopModel", "fail", "(I)V"⟩, 67) := ⟨⟨by decide +kernel, by decide +kernel⟩, List.mem_of_getElem? (i := 744) (by decide +kernel), List.mem_of_getElem? (i := 1024) (by decide +kernel), List.mem_of_getElem? (i := 1025) (by decide +kernel)⟩
theorem lw_p42 : lw_okq (⟨"PromiseLoopModel", "nest", "(III)V"⟩, 67) := ⟨⟨by decide +kernel, by decide +kernel⟩, List.mem_of_getElem? (i := 744) (by decide +kernel), List.mem_of_getElem? (i := 1028) (by decide +kernel), List.mem_of_getElem? (i := 1029) (by decide +kernel)⟩
theorem lw_p43 : lw_okq (⟨"PromiseLoopModel", "answer", "(III)V"⟩, 67) := ⟨⟨by decide +kernel, by decide +kernel⟩, List.mem_of_getElem? (i := 744) (by decide +kernel), List.mem_of_getElem? (i := 1032) (by decide +kernel), List.mem_of_getElem? (i := 1033) (by decide +kernel)⟩
theorem lw_p44 : lw_okq (⟨"PromiseLoopModel", "place", "(IIII)V"⟩, 67) := ⟨⟨by decide +kernel, by decide +kernel⟩, List.mem_of_getElem? (i := 744) (by decide +kernel), List.mem_of_getElem? (i := 1036) (by decide +kernel), List.mem_of_getElem? (i := 1037) (by decide +kernel)⟩
theorem lw_p45 : lw_okq (⟨"PromiseLoopModel", "addMicro", "(III)V"⟩, 67) := ⟨⟨by decide +kernel, by decide +kernel⟩, List.mem_of_getElem? (i := 744) (by decide +kernel), List.mem_of_getElem? (i := 1040) (by decide +kernel), List.mem_of_getElem? (i := 1041) (by decide +kernel)⟩
theorem lw_p46 : lw_okq (⟨"PromiseLoopModel", "addTimer", "(IIIZ)V"⟩, 67) := ⟨⟨by decide +kernel, by decide +kernel⟩, List.mem_of_getElem? (i := 744) (by decide +kernel), List.mem_of_getElem? (i := 1044) (by decide +kernel), List.mem_of_getElem? (i := 1045) (by decide +kernel)⟩
theorem lw_p47 : lw_okq (⟨"PromiseLoopModel", "dueOf", "(I)I"⟩, 67) := ⟨⟨by decide +kernel, by decide +kernel⟩, List.mem_of_getElem? (i := 744) (by decide +kernel), List.mem_of_getElem? (i := 1048) (by decide +kernel), List.mem_of_getElem? (i := 1049) (by decide +kernel)⟩
def lw_privs_3 : List (MethodName × Nat) := [(⟨"PromiseLoopModel", "addTask", "(IIII)V"⟩, 67), (⟨"PromiseLoopModel", "checkpoint", "()Z"⟩, 67), (⟨"PromiseLoopModel", "functionOf", "(I)I"⟩, 67), (⟨"PromiseLoopModel", "runAndTell", "(II)V"⟩, 67), (⟨"PromiseLoopModel", "run", "(II)Z"⟩, 67), (⟨"PromiseLoopModel", "begin", "(IIII)V"⟩, 67), (⟨"PromiseLoopModel", "doStep", "(I)V"⟩, 67), (⟨"PromiseLoopModel", "timerAt", "(I)I"⟩, 67), (⟨"PromiseLoopModel", "dropTimer", "(I)V"⟩, 67), (⟨"PromiseLoopModel", "fail", "(I)V"⟩, 67), (⟨"PromiseLoopModel", "nest", "(III)V"⟩, 67), (⟨"PromiseLoopModel", "answer", "(III)V"⟩, 67), (⟨"PromiseLoopModel", "place", "(IIII)V"⟩, 67), (⟨"PromiseLoopModel", "addMicro", "(III)V"⟩, 67), (⟨"PromiseLoopModel", "addTimer", "(IIIZ)V"⟩, 67), (⟨"PromiseLoopModel", "dueOf", "(I)I"⟩, 67)]
theorem lw_r3 : ∀ q ∈ lw_privs_3, lw_okq q := List.forall_mem_cons.mpr ⟨lw_p32, List.forall_mem_cons.mpr ⟨lw_p33, List.forall_mem_cons.mpr ⟨lw_p34, List.forall_mem_cons.mpr ⟨lw_p35, List.forall_mem_cons.mpr ⟨lw_p36, List.forall_mem_cons.mpr ⟨lw_p37, List.forall_mem_cons.mpr ⟨lw_p38, List.forall_mem_cons.mpr ⟨lw_p39, List.forall_mem_cons.mpr ⟨lw_p40, List.forall_mem_cons.mpr ⟨lw_p41, List.forall_mem_cons.mpr ⟨lw_p42, List.forall_mem_cons.mpr ⟨lw_p43, List.forall_mem_cons.mpr ⟨lw_p44, List.forall_mem_cons.mpr ⟨lw_p45, List.forall_mem_cons.mpr ⟨lw_p46, List.forall_mem_cons.mpr ⟨lw_p47, fun _ h => absurd h List.not_mem_nil⟩⟩⟩⟩⟩⟩⟩⟩⟩⟩⟩⟩⟩⟩⟩⟩
theorem lw_p48 : lw_okq (⟨"PromiseLoopModel", "promiseStep", "(IIII)V"⟩, 67) := ⟨⟨by decide +kernel, by decide +kernel⟩, List.mem_of_getElem? (i := 744) (by decide +kernel), List.mem_of_getElem? (i := 1052) (by decide +kernel), List.mem_of_getElem? (i := 1053) (by decide +kernel)⟩
theorem lw_p49 : lw_okq (⟨"PromiseLoopModel", "makePromise", "()I"⟩, 67) := ⟨⟨by decide +kernel, by decide +kernel⟩, List.mem_of_getElem? (i := 744) (by decide +kernel), List.mem_of_getElem? (i := 1056) (by decide +kernel), List.mem_of_getElem? (i := 1057) (by decide +kernel)⟩
theorem lw_p50 : lw_okq (⟨"PromiseLoopModel", "reject", "(II)V"⟩, 67) := ⟨⟨by decide +kernel, by decide +kernel⟩, List.mem_of_getElem? (i := 744) (by decide +kernel), List.mem_of_getElem? (i := 1060) (by decide +kernel), List.mem_of_getElem? (i := 1061) (by decide +kernel)⟩
theorem lw_p51 : lw_okq (⟨"PromiseLoopModel", "settle", "(III)V"⟩, 67) := ⟨⟨by decide +kernel, by decide +kernel⟩, List.mem_of_getElem? (i := 744) (by decide +kernel), List.mem_of_getElem? (i := 1064) (by decide +kernel), List.mem_of_getElem? (i := 1065) (by decide +kernel)⟩
theorem lw_p52 : lw_okq (⟨"PromiseLoopModel", "resolve", "(IZI)V"⟩, 67) := ⟨⟨by decide +kernel, by decide +kernel⟩, List.mem_of_getElem? (i := 744) (by decide +kernel), List.mem_of_getElem? (i := 1068) (by decide +kernel), List.mem_of_getElem? (i := 1069) (by decide +kernel)⟩
theorem lw_p53 : lw_okq (⟨"PromiseLoopModel", "then", "(II)V"⟩, 67) := ⟨⟨by decide +kernel, by decide +kernel⟩, List.mem_of_getElem? (i := 744) (by decide +kernel), List.mem_of_getElem? (i := 1072) (by decide +kernel), List.mem_of_getElem? (i := 1073) (by decide +kernel)⟩
theorem lw_p54 : lw_okq (⟨"PromiseLoopModel", "react", "(IIII)V"⟩, 67) := ⟨⟨by decide +kernel, by decide +kernel⟩, List.mem_of_getElem? (i := 744) (by decide +kernel), List.mem_of_getElem? (i := 1076) (by decide +kernel), List.mem_of_getElem? (i := 1077) (by decide +kernel)⟩
theorem lw_p55 : lw_okq (⟨"PromiseLoopModel", "tell", "(II)V"⟩, 67) := ⟨⟨by decide +kernel, by decide +kernel⟩, List.mem_of_getElem? (i := 744) (by decide +kernel), List.mem_of_getElem? (i := 1080) (by decide +kernel), List.mem_of_getElem? (i := 1081) (by decide +kernel)⟩
theorem lw_p56 : lw_okq (⟨"PromiseLoopModel", "takenUp", "()Z"⟩, 67) := ⟨⟨by decide +kernel, by decide +kernel⟩, List.mem_of_getElem? (i := 744) (by decide +kernel), List.mem_of_getElem? (i := 1084) (by decide +kernel), List.mem_of_getElem? (i := 1085) (by decide +kernel)⟩
theorem lw_p57 : lw_okq (⟨"PromiseLoopModel", "doReaction", "(I)V"⟩, 67) := ⟨⟨by decide +kernel, by decide +kernel⟩, List.mem_of_getElem? (i := 744) (by decide +kernel), List.mem_of_getElem? (i := 1088) (by decide +kernel), List.mem_of_getElem? (i := 1089) (by decide +kernel)⟩
theorem lw_p58 : lw_okq (⟨"PromiseLoopModel", "doTask", "()Z"⟩, 67) := ⟨⟨by decide +kernel, by decide +kernel⟩, List.mem_of_getElem? (i := 744) (by decide +kernel), List.mem_of_getElem? (i := 1092) (by decide +kernel), List.mem_of_getElem? (i := 1093) (by decide +kernel)⟩
theorem lw_p59 : lw_okq (⟨"PromiseLoopModel", "nextTask", "()I"⟩, 67) := ⟨⟨by decide +kernel, by decide +kernel⟩, List.mem_of_getElem? (i := 744) (by decide +kernel), List.mem_of_getElem? (i := 1096) (by decide +kernel), List.mem_of_getElem? (i := 1097) (by decide +kernel)⟩
theorem lw_p60 : lw_okq (⟨"PromiseLoopModel", "dropTask", "(I)V"⟩, 67) := ⟨⟨by decide +kernel, by decide +kernel⟩, List.mem_of_getElem? (i := 744) (by decide +kernel), List.mem_of_getElem? (i := 1100) (by decide +kernel), List.mem_of_getElem? (i := 1101) (by decide +kernel)⟩
theorem lw_p61 : lw_okq (⟨"PromiseLoopModel", "doTimer", "(I)V"⟩, 67) := ⟨⟨by decide +kernel, by decide +kernel⟩, List.mem_of_getElem? (i := 744) (by decide +kernel), List.mem_of_getElem? (i := 1104) (by decide +kernel), List.mem_of_getElem? (i := 1105) (by decide +kernel)⟩
theorem lw_p62 : lw_okq (⟨"PromiseLoopModel", "doFrames", "()V"⟩, 67) := ⟨⟨by decide +kernel, by decide +kernel⟩, List.mem_of_getElem? (i := 744) (by decide +kernel), List.mem_of_getElem? (i := 1108) (by decide +kernel), List.mem_of_getElem? (i := 1109) (by decide +kernel)⟩
theorem lw_p63 : lw_okq (⟨"PromiseLoopModel", "giveBack", "(I)V"⟩, 67) := ⟨⟨by decide +kernel, by decide +kernel⟩, List.mem_of_getElem? (i := 744) (by decide +kernel), List.mem_of_getElem? (i := 1112) (by decide +kernel), List.mem_of_getElem? (i := 1113) (by decide +kernel)⟩
def lw_privs_4 : List (MethodName × Nat) := [(⟨"PromiseLoopModel", "promiseStep", "(IIII)V"⟩, 67), (⟨"PromiseLoopModel", "makePromise", "()I"⟩, 67), (⟨"PromiseLoopModel", "reject", "(II)V"⟩, 67), (⟨"PromiseLoopModel", "settle", "(III)V"⟩, 67), (⟨"PromiseLoopModel", "resolve", "(IZI)V"⟩, 67), (⟨"PromiseLoopModel", "then", "(II)V"⟩, 67), (⟨"PromiseLoopModel", "react", "(IIII)V"⟩, 67), (⟨"PromiseLoopModel", "tell", "(II)V"⟩, 67), (⟨"PromiseLoopModel", "takenUp", "()Z"⟩, 67), (⟨"PromiseLoopModel", "doReaction", "(I)V"⟩, 67), (⟨"PromiseLoopModel", "doTask", "()Z"⟩, 67), (⟨"PromiseLoopModel", "nextTask", "()I"⟩, 67), (⟨"PromiseLoopModel", "dropTask", "(I)V"⟩, 67), (⟨"PromiseLoopModel", "doTimer", "(I)V"⟩, 67), (⟨"PromiseLoopModel", "doFrames", "()V"⟩, 67), (⟨"PromiseLoopModel", "giveBack", "(I)V"⟩, 67)]
theorem lw_r4 : ∀ q ∈ lw_privs_4, lw_okq q := List.forall_mem_cons.mpr ⟨lw_p48, List.forall_mem_cons.mpr ⟨lw_p49, List.forall_mem_cons.mpr ⟨lw_p50, List.forall_mem_cons.mpr ⟨lw_p51, List.forall_mem_cons.mpr ⟨lw_p52, List.forall_mem_cons.mpr ⟨lw_p53, List.forall_mem_cons.mpr ⟨lw_p54, List.forall_mem_cons.mpr ⟨lw_p55, List.forall_mem_cons.mpr ⟨lw_p56, List.forall_mem_cons.mpr ⟨lw_p57, List.forall_mem_cons.mpr ⟨lw_p58, List.forall_mem_cons.mpr ⟨lw_p59, List.forall_mem_cons.mpr ⟨lw_p60, List.forall_mem_cons.mpr ⟨lw_p61, List.forall_mem_cons.mpr ⟨lw_p62, List.forall_mem_cons.mpr ⟨lw_p63, fun _ h => absurd h List.not_mem_nil⟩⟩⟩⟩⟩⟩⟩⟩⟩⟩⟩⟩⟩⟩⟩⟩
def lw_privs : List (MethodName × Nat) := lw_privs_1 ++ (lw_privs_2 ++ (lw_privs_3 ++ (lw_privs_4)))
def lw_tbl : List Cond := k2_sels lw_privs ++ tables_1
theorem lw_privs_ok : ∀ q ∈ lw_privs, lw_okq q := by
  show ∀ q ∈ lw_privs_1 ++ (lw_privs_2 ++ (lw_privs_3 ++ (lw_privs_4))), lw_okq q
  exact List.forall_mem_append.mpr ⟨lw_r1, List.forall_mem_append.mpr ⟨lw_r2, List.forall_mem_append.mpr ⟨lw_r3, lw_r4⟩⟩⟩
end
section
def RX0 : String := "PromiseLoop$Functions"
def TX0 : u_T := fun k => match k with
  | 0 => ("PromiseLoop$Functions", "lengths", "[I", true)
  | 1 => ("PromiseLoop$Functions", "codes", "[I", true)
  | 2 => ("PromiseLoop$Functions", "firsts", "[I", true)
  | _ => ("PromiseLoop$Functions", "seconds", "[I", true)
def tyX0 : Nat → FieldType := fun k => match k with
  | 0 => .array .int
  | 1 => .array .int
  | 2 => .array .int
  | _ => .array .int
abbrev wsX00 : List Cond := u_ws RX0 TX0 4
theorem nmX0 : ∀ a, a < 4 → ∀ b, b < 4 → a ≠ b → (TX0 a).2.1 ≠ (TX0 b).2.1 := by decide +kernel
theorem tyX0_ok : ∀ k, k < 4 → parseFieldDescriptor (TX0 k).2.2.1 = some (tyX0 k) := by decide +kernel
abbrev cX0_init : ByteArray := prog_2_method_1_code
def yX0_init : MethodName := ⟨RX0, "<init>", "()V"⟩
abbrev cX0_length : ByteArray := prog_2_method_2_code
def yX0_length : MethodName := ⟨RX0, "length", "(I)I"⟩
abbrev cX0_code : ByteArray := prog_2_method_3_code
def yX0_code : MethodName := ⟨RX0, "code", "(II)I"⟩
abbrev cX0_a : ByteArray := prog_2_method_4_code
def yX0_a : MethodName := ⟨RX0, "a", "(II)I"⟩
abbrev cX0_b : ByteArray := prog_2_method_5_code
def yX0_b : MethodName := ⟨RX0, "b", "(II)I"⟩
abbrev cX0_empty : ByteArray := prog_2_method_6_code
def yX0_empty : MethodName := ⟨RX0, "empty", "(I)V"⟩
abbrev cX0_add : ByteArray := prog_2_method_7_code
def yX0_add : MethodName := ⟨RX0, "add", "(IIII)V"⟩
def RX1 : String := "PromiseLoop$Journal"
def TX1 : u_T := fun k => match k with
  | 0 => ("PromiseLoop$Journal", "numbers", "[I", true)
  | _ => ("PromiseLoop$Journal", "size", "I", false)
def tyX1 : Nat → FieldType := fun k => match k with
  | 0 => .array .int
  | _ => .int
abbrev wsX10 : List Cond := u_ws RX1 TX1 2
theorem nmX1 : ∀ a, a < 2 → ∀ b, b < 2 → a ≠ b → (TX1 a).2.1 ≠ (TX1 b).2.1 := by decide +kernel
theorem tyX1_ok : ∀ k, k < 2 → parseFieldDescriptor (TX1 k).2.2.1 = some (tyX1 k) := by decide +kernel
abbrev cX1_init : ByteArray := prog_3_method_1_code
def yX1_init : MethodName := ⟨RX1, "<init>", "()V"⟩
abbrev cX1_size : ByteArray := prog_3_method_2_code
def yX1_size : MethodName := ⟨RX1, "size", "()I"⟩
abbrev cX1_has : ByteArray := prog_3_method_3_code
def yX1_has : MethodName := ⟨RX1, "has", "(I)Z"⟩
abbrev cX1_at : ByteArray := prog_3_method_4_code
def yX1_at : MethodName := ⟨RX1, "at", "(I)I"⟩
abbrev cX1_keep : ByteArray := prog_3_method_5_code
def yX1_keep : MethodName := ⟨RX1, "keep", "(I)V"⟩
def RX2 : String := "PromiseLoop$Line"
def TX2 : u_T := fun k => match k with
  | 0 => ("PromiseLoop$Line", "room", "I", true)
  | 1 => ("PromiseLoop$Line", "kinds", "[I", true)
  | 2 => ("PromiseLoop$Line", "subjects", "[I", true)
  | 3 => ("PromiseLoop$Line", "numbers", "[I", true)
  | 4 => ("PromiseLoop$Line", "first", "I", false)
  | _ => ("PromiseLoop$Line", "size", "I", false)
def tyX2 : Nat → FieldType := fun k => match k with
  | 0 => .int
  | 1 => .array .int
  | 2 => .array .int
  | 3 => .array .int
  | 4 => .int
  | _ => .int
abbrev wsX20 : List Cond := u_ws RX2 TX2 6
theorem nmX2 : ∀ a, a < 6 → ∀ b, b < 6 → a ≠ b → (TX2 a).2.1 ≠ (TX2 b).2.1 := by decide +kernel
theorem tyX2_ok : ∀ k, k < 6 → parseFieldDescriptor (TX2 k).2.2.1 = some (tyX2 k) := by decide +kernel
abbrev cX2_init : ByteArray := prog_4_method_1_code
def yX2_init : MethodName := ⟨RX2, "<init>", "(I)V"⟩
abbrev cX2_size : ByteArray := prog_4_method_2_code
def yX2_size : MethodName := ⟨RX2, "size", "()I"⟩
abbrev cX2_kind : ByteArray := prog_4_method_3_code
def yX2_kind : MethodName := ⟨RX2, "kind", "()I"⟩
abbrev cX2_subject : ByteArray := prog_4_method_4_code
def yX2_subject : MethodName := ⟨RX2, "subject", "()I"⟩
abbrev cX2_number : ByteArray := prog_4_method_5_code
def yX2_number : MethodName := ⟨RX2, "number", "()I"⟩
abbrev cX2_put : ByteArray := prog_4_method_6_code
def yX2_put : MethodName := ⟨RX2, "put", "(III)V"⟩
abbrev cX2_drop : ByteArray := prog_4_method_7_code
def yX2_drop : MethodName := ⟨RX2, "drop", "()V"⟩
def RX3 : String := "PromiseLoop$Promises"
def TX3 : u_T := fun k => match k with
  | 0 => ("PromiseLoop$Promises", "microtasks", "LPromiseLoop$Line;", true)
  | 1 => ("PromiseLoop$Promises", "reports", "LPromiseLoop$Journal;", true)
  | 2 => ("PromiseLoop$Promises", "states", "[I", true)
  | 3 => ("PromiseLoop$Promises", "numbers", "[I", true)
  | 4 => ("PromiseLoop$Promises", "resolved", "[Z", true)
  | 5 => ("PromiseLoop$Promises", "handled", "[Z", true)
  | 6 => ("PromiseLoop$Promises", "reported", "[Z", true)
  | 7 => ("PromiseLoop$Promises", "size", "I", false)
  | 8 => ("PromiseLoop$Promises", "unhandled", "[I", true)
  | 9 => ("PromiseLoop$Promises", "unhandledSize", "I", false)
  | 10 => ("PromiseLoop$Promises", "sources", "[I", true)
  | 11 => ("PromiseLoop$Promises", "targets", "[I", true)
  | 12 => ("PromiseLoop$Promises", "forValues", "[I", true)
  | 13 => ("PromiseLoop$Promises", "forReasons", "[I", true)
  | _ => ("PromiseLoop$Promises", "reactions", "I", false)
def tyX3 : Nat → FieldType := fun k => match k with
  | 0 => .object "PromiseLoop$Line"
  | 1 => .object "PromiseLoop$Journal"
  | 2 => .array .int
  | 3 => .array .int
  | 4 => .array .boolean
  | 5 => .array .boolean
  | 6 => .array .boolean
  | 7 => .int
  | 8 => .array .int
  | 9 => .int
  | 10 => .array .int
  | 11 => .array .int
  | 12 => .array .int
  | 13 => .array .int
  | _ => .int
abbrev wsX30 : List Cond := u_ws RX3 TX3 15
theorem nmX3 : ∀ a, a < 15 → ∀ b, b < 15 → a ≠ b → (TX3 a).2.1 ≠ (TX3 b).2.1 := by decide +kernel
theorem tyX3_ok : ∀ k, k < 15 → parseFieldDescriptor (TX3 k).2.2.1 = some (tyX3 k) := by decide +kernel
abbrev cX3_init : ByteArray := prog_5_method_1_code
def yX3_init : MethodName := ⟨RX3, "<init>", "(LPromiseLoop$Line;LPromiseLoop$Journal;)V"⟩
abbrev cX3_size : ByteArray := prog_5_method_2_code
def yX3_size : MethodName := ⟨RX3, "size", "()I"⟩
abbrev cX3_has : ByteArray := prog_5_method_3_code
def yX3_has : MethodName := ⟨RX3, "has", "(I)Z"⟩
abbrev cX3_isFull : ByteArray := prog_5_method_4_code
def yX3_isFull : MethodName := ⟨RX3, "isFull", "()Z"⟩
abbrev cX3_stateOf : ByteArray := prog_5_method_5_code
def yX3_stateOf : MethodName := ⟨RX3, "stateOf", "(I)I"⟩
abbrev cX3_numberOf : ByteArray := prog_5_method_6_code
def yX3_numberOf : MethodName := ⟨RX3, "numberOf", "(I)I"⟩
abbrev cX3_stateWithFlags : ByteArray := prog_5_method_7_code
def yX3_stateWithFlags : MethodName := ⟨RX3, "stateWithFlags", "(I)I"⟩
abbrev cX3_sourceOf : ByteArray := prog_5_method_8_code
def yX3_sourceOf : MethodName := ⟨RX3, "sourceOf", "(I)I"⟩
abbrev cX3_targetOf : ByteArray := prog_5_method_9_code
def yX3_targetOf : MethodName := ⟨RX3, "targetOf", "(I)I"⟩
abbrev cX3_functionOf : ByteArray := prog_5_method_10_code
def yX3_functionOf : MethodName := ⟨RX3, "functionOf", "(I)I"⟩
abbrev cX3_make : ByteArray := prog_5_method_11_code
def yX3_make : MethodName := ⟨RX3, "make", "()I"⟩
abbrev cX3_resolveOrReject : ByteArray := prog_5_method_12_code
def yX3_resolveOrReject : MethodName := ⟨RX3, "resolveOrReject", "(III)V"⟩
abbrev cX3_follow : ByteArray := prog_5_method_13_code
def yX3_follow : MethodName := ⟨RX3, "follow", "(II)V"⟩
abbrev cX3_settle : ByteArray := prog_5_method_14_code
def yX3_settle : MethodName := ⟨RX3, "settle", "(III)V"⟩
abbrev cX3_react : ByteArray := prog_5_method_15_code
def yX3_react : MethodName := ⟨RX3, "react", "(IIII)V"⟩
abbrev cX3_reportUnhandled : ByteArray := prog_5_method_16_code
def yX3_reportUnhandled : MethodName := ⟨RX3, "reportUnhandled", "()V"⟩
def RX4 : String := "PromiseLoop$Timers"
def TX4 : u_T := fun k => match k with
  | 0 => ("PromiseLoop$Timers", "numbers", "[I", true)
  | 1 => ("PromiseLoop$Timers", "functions", "[I", true)
  | 2 => ("PromiseLoop$Timers", "arguments", "[I", true)
  | 3 => ("PromiseLoop$Timers", "delays", "[I", true)
  | 4 => ("PromiseLoop$Timers", "levels", "[I", true)
  | 5 => ("PromiseLoop$Timers", "dues", "[I", true)
  | 6 => ("PromiseLoop$Timers", "repeats", "[Z", true)
  | 7 => ("PromiseLoop$Timers", "waits", "[Z", true)
  | 8 => ("PromiseLoop$Timers", "made", "I", false)
  | _ => ("PromiseLoop$Timers", "size", "I", false)
def tyX4 : Nat → FieldType := fun k => match k with
  | 0 => .array .int
  | 1 => .array .int
  | 2 => .array .int
  | 3 => .array .int
  | 4 => .array .int
  | 5 => .array .int
  | 6 => .array .boolean
  | 7 => .array .boolean
  | 8 => .int
  | _ => .int
abbrev wsX40 : List Cond := u_ws RX4 TX4 10
theorem nmX4 : ∀ a, a < 10 → ∀ b, b < 10 → a ≠ b → (TX4 a).2.1 ≠ (TX4 b).2.1 := by decide +kernel
theorem tyX4_ok : ∀ k, k < 10 → parseFieldDescriptor (TX4 k).2.2.1 = some (tyX4 k) := by decide +kernel
abbrev cX4_init : ByteArray := prog_6_method_1_code
def yX4_init : MethodName := ⟨RX4, "<init>", "()V"⟩
abbrev cX4_size : ByteArray := prog_6_method_2_code
def yX4_size : MethodName := ⟨RX4, "size", "()I"⟩
abbrev cX4_isFull : ByteArray := prog_6_method_3_code
def yX4_isFull : MethodName := ⟨RX4, "isFull", "()Z"⟩
abbrev cX4_find : ByteArray := prog_6_method_4_code
def yX4_find : MethodName := ⟨RX4, "find", "(I)I"⟩
abbrev cX4_functionAt : ByteArray := prog_6_method_5_code
def yX4_functionAt : MethodName := ⟨RX4, "functionAt", "(I)I"⟩
abbrev cX4_argumentAt : ByteArray := prog_6_method_6_code
def yX4_argumentAt : MethodName := ⟨RX4, "argumentAt", "(I)I"⟩
abbrev cX4_levelAt : ByteArray := prog_6_method_7_code
def yX4_levelAt : MethodName := ⟨RX4, "levelAt", "(I)I"⟩
abbrev cX4_repeatsAt : ByteArray := prog_6_method_8_code
def yX4_repeatsAt : MethodName := ⟨RX4, "repeatsAt", "(I)Z"⟩
abbrev cX4_dueOf : ByteArray := prog_6_method_9_code
def yX4_dueOf : MethodName := ⟨RX4, "dueOf", "(I)I"⟩
abbrev cX4_make : ByteArray := prog_6_method_10_code
def yX4_make : MethodName := ⟨RX4, "make", "(IIIZII)V"⟩
abbrev cX4_remove : ByteArray := prog_6_method_11_code
def yX4_remove : MethodName := ⟨RX4, "remove", "(I)V"⟩
abbrev cX4_restart : ByteArray := prog_6_method_12_code
def yX4_restart : MethodName := ⟨RX4, "restart", "(II)V"⟩
abbrev cX4_putTasks : ByteArray := prog_6_method_13_code
def yX4_putTasks : MethodName := ⟨RX4, "putTasks", "(ILPromiseLoop$Line;)V"⟩
abbrev cX4_freePlace : ByteArray := prog_6_method_14_code
def yX4_freePlace : MethodName := ⟨RX4, "freePlace", "()I"⟩
abbrev cX4_start : ByteArray := prog_6_method_15_code
def yX4_start : MethodName := ⟨RX4, "start", "(III)V"⟩
abbrev cX4_nextDue : ByteArray := prog_6_method_16_code
def yX4_nextDue : MethodName := ⟨RX4, "nextDue", "(I)I"⟩
abbrev cX4_isBefore : ByteArray := prog_6_method_17_code
def yX4_isBefore : MethodName := ⟨RX4, "isBefore", "(II)Z"⟩
def RX5 : String := "PromiseLoop"
def TX5 : u_T := fun k => match k with
  | 0 => ("PromiseLoop", "functions", "LPromiseLoop$Functions;", true)
  | 1 => ("PromiseLoop", "registers", "[I", true)
  | 2 => ("PromiseLoop", "tasks", "[LPromiseLoop$Line;", true)
  | 3 => ("PromiseLoop", "microtasks", "LPromiseLoop$Line;", true)
  | 4 => ("PromiseLoop", "frames", "LPromiseLoop$Line;", true)
  | 5 => ("PromiseLoop", "log", "LPromiseLoop$Journal;", true)
  | 6 => ("PromiseLoop", "reports", "LPromiseLoop$Journal;", true)
  | 7 => ("PromiseLoop", "promises", "LPromiseLoop$Promises;", true)
  | 8 => ("PromiseLoop", "timers", "LPromiseLoop$Timers;", true)
  | 9 => ("PromiseLoop", "preferred", "I", false)
  | 10 => ("PromiseLoop", "clock", "I", false)
  | 11 => ("PromiseLoop", "framesDue", "Z", false)
  | 12 => ("PromiseLoop", "begun", "I", false)
  | 13 => ("PromiseLoop", "called", "I", false)
  | 14 => ("PromiseLoop", "timerLevel", "I", false)
  | 15 => ("PromiseLoop", "failed", "Z", false)
  | 16 => ("PromiseLoop", "resultIsPromise", "Z", false)
  | _ => ("PromiseLoop", "result", "I", false)
def tyX5 : Nat → FieldType := fun k => match k with
  | 0 => .object "PromiseLoop$Functions"
  | 1 => .array .int
  | 2 => .array (.object "PromiseLoop$Line")
  | 3 => .object "PromiseLoop$Line"
  | 4 => .object "PromiseLoop$Line"
  | 5 => .object "PromiseLoop$Journal"
  | 6 => .object "PromiseLoop$Journal"
  | 7 => .object "PromiseLoop$Promises"
  | 8 => .object "PromiseLoop$Timers"
  | 9 => .int
  | 10 => .int
  | 11 => .boolean
  | 12 => .int
  | 13 => .int
  | 14 => .int
  | 15 => .boolean
  | 16 => .boolean
  | _ => .int
abbrev wsX50 : List Cond := u_ws RX5 TX5 18
theorem nmX5 : ∀ a, a < 18 → ∀ b, b < 18 → a ≠ b → (TX5 a).2.1 ≠ (TX5 b).2.1 := by decide +kernel
theorem tyX5_ok : ∀ k, k < 18 → parseFieldDescriptor (TX5 k).2.2.1 = some (tyX5 k) := by decide +kernel
abbrev cX5_init : ByteArray := prog_1_method_1_code
def yX5_init : MethodName := ⟨RX5, "<init>", "()V"⟩
abbrev cX5_step : ByteArray := prog_1_method_2_code
def yX5_step : MethodName := ⟨RX5, "step", "(IIII)I"⟩
abbrev cX5_clear : ByteArray := prog_1_method_3_code
def yX5_clear : MethodName := ⟨RX5, "clear", "(I)V"⟩
abbrev cX5_post : ByteArray := prog_1_method_4_code
def yX5_post : MethodName := ⟨RX5, "post", "(III)I"⟩
abbrev cX5_prefer : ByteArray := prog_1_method_5_code
def yX5_prefer : MethodName := ⟨RX5, "prefer", "(I)V"⟩
abbrev cX5_turn : ByteArray := prog_1_method_6_code
def yX5_turn : MethodName := ⟨RX5, "turn", "()I"⟩
abbrev cX5_advance : ByteArray := prog_1_method_7_code
def yX5_advance : MethodName := ⟨RX5, "advance", "(I)I"⟩
abbrev cX5_register : ByteArray := prog_1_method_8_code
def yX5_register : MethodName := ⟨RX5, "register", "(I)I"⟩
abbrev cX5_state : ByteArray := prog_1_method_9_code
def yX5_state : MethodName := ⟨RX5, "state", "(I)I"⟩
abbrev cX5_value : ByteArray := prog_1_method_10_code
def yX5_value : MethodName := ⟨RX5, "value", "(I)I"⟩
abbrev cX5_count : ByteArray := prog_1_method_11_code
def yX5_count : MethodName := ⟨RX5, "count", "(I)I"⟩
abbrev cX5_logged : ByteArray := prog_1_method_12_code
def yX5_logged : MethodName := ⟨RX5, "logged", "(I)I"⟩
abbrev cX5_reported : ByteArray := prog_1_method_13_code
def yX5_reported : MethodName := ⟨RX5, "reported", "(I)I"⟩
abbrev cX5_due : ByteArray := prog_1_method_14_code
def yX5_due : MethodName := ⟨RX5, "due", "(I)I"⟩
abbrev cX5_time : ByteArray := prog_1_method_15_code
def yX5_time : MethodName := ⟨RX5, "time", "()I"⟩
abbrev cX5_isWithin : ByteArray := prog_1_method_16_code
def yX5_isWithin : MethodName := ⟨RX5, "isWithin", "(III)Z"⟩
abbrev cX5_isFunction : ByteArray := prog_1_method_17_code
def yX5_isFunction : MethodName := ⟨RX5, "isFunction", "(I)Z"⟩
abbrev cX5_isRegister : ByteArray := prog_1_method_18_code
def yX5_isRegister : MethodName := ⟨RX5, "isRegister", "(I)Z"⟩
abbrev cX5_isSource : ByteArray := prog_1_method_19_code
def yX5_isSource : MethodName := ⟨RX5, "isSource", "(I)Z"⟩
abbrev cX5_isNumber : ByteArray := prog_1_method_20_code
def yX5_isNumber : MethodName := ⟨RX5, "isNumber", "(I)Z"⟩
abbrev cX5_isChoice : ByteArray := prog_1_method_21_code
def yX5_isChoice : MethodName := ⟨RX5, "isChoice", "(I)Z"⟩
abbrev cX5_isKnown : ByteArray := prog_1_method_22_code
def yX5_isKnown : MethodName := ⟨RX5, "isKnown", "(III)Z"⟩
abbrev cX5_waitingTasks : ByteArray := prog_1_method_23_code
def yX5_waitingTasks : MethodName := ⟨RX5, "waitingTasks", "()I"⟩
abbrev cX5_checkpoint : ByteArray := prog_1_method_24_code
def yX5_checkpoint : MethodName := ⟨RX5, "checkpoint", "()Z"⟩
abbrev cX5_microtaskBeginsRun : ByteArray := prog_1_method_25_code
def yX5_microtaskBeginsRun : MethodName := ⟨RX5, "microtaskBeginsRun", "()Z"⟩
abbrev cX5_doReaction : ByteArray := prog_1_method_26_code
def yX5_doReaction : MethodName := ⟨RX5, "doReaction", "(I)V"⟩
abbrev cX5_settleWithResult : ByteArray := prog_1_method_27_code
def yX5_settleWithResult : MethodName := ⟨RX5, "settleWithResult", "(I)V"⟩
abbrev cX5_doTask : ByteArray := prog_1_method_28_code
def yX5_doTask : MethodName := ⟨RX5, "doTask", "()Z"⟩
abbrev cX5_sourceOfNextTask : ByteArray := prog_1_method_29_code
def yX5_sourceOfNextTask : MethodName := ⟨RX5, "sourceOfNextTask", "()I"⟩
abbrev cX5_doTimer : ByteArray := prog_1_method_30_code
def yX5_doTimer : MethodName := ⟨RX5, "doTimer", "(I)V"⟩
abbrev cX5_doFrame : ByteArray := prog_1_method_31_code
def yX5_doFrame : MethodName := ⟨RX5, "doFrame", "(Z)Z"⟩
abbrev cX5_reportFailure : ByteArray := prog_1_method_32_code
def yX5_reportFailure : MethodName := ⟨RX5, "reportFailure", "()V"⟩
abbrev cX5_fail : ByteArray := prog_1_method_33_code
def yX5_fail : MethodName := ⟨RX5, "fail", "(I)V"⟩
abbrev cX5_endWith : ByteArray := prog_1_method_34_code
def yX5_endWith : MethodName := ⟨RX5, "endWith", "(IZ)V"⟩
abbrev cX5_countRun : ByteArray := prog_1_method_35_code
def yX5_countRun : MethodName := ⟨RX5, "countRun", "(I)V"⟩
abbrev cX5_run : ByteArray := prog_1_method_36_code
def yX5_run : MethodName := ⟨RX5, "run", "(III)V"⟩
abbrev cX5_doStep : ByteArray := prog_1_method_37_code
def yX5_doStep : MethodName := ⟨RX5, "doStep", "(IIIII)V"⟩
abbrev cX5_postStep : ByteArray := prog_1_method_38_code
def yX5_postStep : MethodName := ⟨RX5, "postStep", "(III)V"⟩
abbrev cX5_microStep : ByteArray := prog_1_method_39_code
def yX5_microStep : MethodName := ⟨RX5, "microStep", "(II)V"⟩
abbrev cX5_timerStep : ByteArray := prog_1_method_40_code
def yX5_timerStep : MethodName := ⟨RX5, "timerStep", "(IIIZ)V"⟩
abbrev cX5_frameStep : ByteArray := prog_1_method_41_code
def yX5_frameStep : MethodName := ⟨RX5, "frameStep", "(I)V"⟩
abbrev cX5_mayCall : ByteArray := prog_1_method_42_code
def yX5_mayCall : MethodName := ⟨RX5, "mayCall", "(I)Z"⟩
abbrev cX5_callStep : ByteArray := prog_1_method_43_code
def yX5_callStep : MethodName := ⟨RX5, "callStep", "(III)V"⟩
abbrev cX5_tryStep : ByteArray := prog_1_method_44_code
def yX5_tryStep : MethodName := ⟨RX5, "tryStep", "(IIII)V"⟩
abbrev cX5_answerStep : ByteArray := prog_1_method_45_code
def yX5_answerStep : MethodName := ⟨RX5, "answerStep", "(III)V"⟩
abbrev cX5_makeStep : ByteArray := prog_1_method_46_code
def yX5_makeStep : MethodName := ⟨RX5, "makeStep", "(I)V"⟩
abbrev cX5_thenStep : ByteArray := prog_1_method_47_code
def yX5_thenStep : MethodName := ⟨RX5, "thenStep", "(III)V"⟩
def RX6 : String := "PromiseLoopModel"
def TX6 : u_T := fun k => match k with
  | 0 => ("PromiseLoopModel", "thrown", "I", false)
  | 1 => ("PromiseLoopModel", "many", "[I", false)
  | 2 => ("PromiseLoopModel", "codes", "[I", false)
  | 3 => ("PromiseLoopModel", "firsts", "[I", false)
  | 4 => ("PromiseLoopModel", "seconds", "[I", false)
  | 5 => ("PromiseLoopModel", "registers", "[I", false)
  | 6 => ("PromiseLoopModel", "promises", "I", false)
  | 7 => ("PromiseLoopModel", "state", "[I", false)
  | 8 => ("PromiseLoopModel", "value", "[I", false)
  | 9 => ("PromiseLoopModel", "resolved", "[Z", false)
  | 10 => ("PromiseLoopModel", "handled", "[Z", false)
  | 11 => ("PromiseLoopModel", "told", "[Z", false)
  | 12 => ("PromiseLoopModel", "listed", "I", false)
  | 13 => ("PromiseLoopModel", "list", "[I", false)
  | 14 => ("PromiseLoopModel", "reactions", "I", false)
  | 15 => ("PromiseLoopModel", "on", "[I", false)
  | 16 => ("PromiseLoopModel", "forValue", "[I", false)
  | 17 => ("PromiseLoopModel", "forReason", "[I", false)
  | 18 => ("PromiseLoopModel", "other", "[I", false)
  | 19 => ("PromiseLoopModel", "waits", "[Z", false)
  | 20 => ("PromiseLoopModel", "microFirst", "I", false)
  | 21 => ("PromiseLoopModel", "micros", "I", false)
  | 22 => ("PromiseLoopModel", "microKind", "[I", false)
  | 23 => ("PromiseLoopModel", "microA", "[I", false)
  | 24 => ("PromiseLoopModel", "microB", "[I", false)
  | 25 => ("PromiseLoopModel", "tasks", "I", false)
  | 26 => ("PromiseLoopModel", "taskSource", "[I", false)
  | 27 => ("PromiseLoopModel", "taskFunction", "[I", false)
  | 28 => ("PromiseLoopModel", "taskX", "[I", false)
  | 29 => ("PromiseLoopModel", "taskTimer", "[I", false)
  | 30 => ("PromiseLoopModel", "preferred", "I", false)
  | 31 => ("PromiseLoopModel", "time", "I", false)
  | 32 => ("PromiseLoopModel", "timers", "I", false)
  | 33 => ("PromiseLoopModel", "timersMade", "I", false)
  | 34 => ("PromiseLoopModel", "timerNumber", "[I", false)
  | 35 => ("PromiseLoopModel", "timerFunction", "[I", false)
  | 36 => ("PromiseLoopModel", "timerX", "[I", false)
  | 37 => ("PromiseLoopModel", "timerDelay", "[I", false)
  | 38 => ("PromiseLoopModel", "timerLevel", "[I", false)
  | 39 => ("PromiseLoopModel", "timerDue", "[I", false)
  | 40 => ("PromiseLoopModel", "timerRepeats", "[Z", false)
  | 41 => ("PromiseLoopModel", "timerPosted", "[Z", false)
  | 42 => ("PromiseLoopModel", "framesDue", "Z", false)
  | 43 => ("PromiseLoopModel", "asked", "I", false)
  | 44 => ("PromiseLoopModel", "askedFor", "[I", false)
  | 45 => ("PromiseLoopModel", "taken", "I", false)
  | 46 => ("PromiseLoopModel", "unrun", "I", false)
  | 47 => ("PromiseLoopModel", "takenOnes", "[I", false)
  | 48 => ("PromiseLoopModel", "logs", "I", false)
  | 49 => ("PromiseLoopModel", "log", "[I", false)
  | 50 => ("PromiseLoopModel", "reports", "I", false)
  | 51 => ("PromiseLoopModel", "report", "[I", false)
  | 52 => ("PromiseLoopModel", "deep", "I", false)
  | 53 => ("PromiseLoopModel", "runFunction", "[I", false)
  | 54 => ("PromiseLoopModel", "runX", "[I", false)
  | 55 => ("PromiseLoopModel", "runNext", "[I", false)
  | 56 => ("PromiseLoopModel", "runPromise", "[Z", false)
  | 57 => ("PromiseLoopModel", "runResult", "[I", false)
  | 58 => ("PromiseLoopModel", "runKind", "[I", false)
  | 59 => ("PromiseLoopModel", "runOther", "[I", false)
  | 60 => ("PromiseLoopModel", "level", "I", false)
  | 61 => ("PromiseLoopModel", "nested", "I", false)
  | 62 => ("PromiseLoopModel", "runs", "I", false)
  | 63 => ("PromiseLoopModel", "failed", "Z", false)
  | 64 => ("PromiseLoopModel", "failure", "I", false)
  | 65 => ("PromiseLoopModel", "resultIsPromise", "Z", false)
  | _ => ("PromiseLoopModel", "result", "I", false)
def tyX6 : Nat → FieldType := fun k => match k with
  | 0 => .int
  | 1 => .array .int
  | 2 => .array .int
  | 3 => .array .int
  | 4 => .array .int
  | 5 => .array .int
  | 6 => .int
  | 7 => .array .int
  | 8 => .array .int
  | 9 => .array .boolean
  | 10 => .array .boolean
  | 11 => .array .boolean
  | 12 => .int
  | 13 => .array .int
  | 14 => .int
  | 15 => .array .int
  | 16 => .array .int
  | 17 => .array .int
  | 18 => .array .int
  | 19 => .array .boolean
  | 20 => .int
  | 21 => .int
  | 22 => .array .int
  | 23 => .array .int
  | 24 => .array .int
  | 25 => .int
  | 26 => .array .int
  | 27 => .array .int
  | 28 => .array .int
  | 29 => .array .int
  | 30 => .int
  | 31 => .int
  | 32 => .int
  | 33 => .int
  | 34 => .array .int
  | 35 => .array .int
  | 36 => .array .int
  | 37 => .array .int
  | 38 => .array .int
  | 39 => .array .int
  | 40 => .array .boolean
  | 41 => .array .boolean
  | 42 => .boolean
  | 43 => .int
  | 44 => .array .int
  | 45 => .int
  | 46 => .int
  | 47 => .array .int
  | 48 => .int
  | 49 => .array .int
  | 50 => .int
  | 51 => .array .int
  | 52 => .int
  | 53 => .array .int
  | 54 => .array .int
  | 55 => .array .int
  | 56 => .array .boolean
  | 57 => .array .int
  | 58 => .array .int
  | 59 => .array .int
  | 60 => .int
  | 61 => .int
  | 62 => .int
  | 63 => .boolean
  | 64 => .int
  | 65 => .boolean
  | _ => .int
abbrev wsX60 : List Cond := u_ws RX6 TX6 67
theorem nmX6 : ∀ a, a < 67 → ∀ b, b < 67 → a ≠ b → (TX6 a).2.1 ≠ (TX6 b).2.1 := by decide +kernel
theorem tyX6_ok : ∀ k, k < 67 → parseFieldDescriptor (TX6 k).2.2.1 = some (tyX6 k) := by decide +kernel
abbrev cX6_init : ByteArray := prog_8_method_1_code
def yX6_init : MethodName := ⟨RX6, "<init>", "()V"⟩
abbrev cX6_thrown : ByteArray := prog_8_method_2_code
def yX6_thrown : MethodName := ⟨RX6, "thrown", "()I"⟩
abbrev cX6_outside : ByteArray := prog_8_method_3_code
def yX6_outside : MethodName := ⟨RX6, "outside", "(III)Z"⟩
abbrev cX6_fits : ByteArray := prog_8_method_4_code
def yX6_fits : MethodName := ⟨RX6, "fits", "(III)Z"⟩
abbrev cX6_step : ByteArray := prog_8_method_5_code
def yX6_step : MethodName := ⟨RX6, "step", "(IIII)I"⟩
abbrev cX6_clear : ByteArray := prog_8_method_6_code
def yX6_clear : MethodName := ⟨RX6, "clear", "(I)V"⟩
abbrev cX6_addTask : ByteArray := prog_8_method_7_code
def yX6_addTask : MethodName := ⟨RX6, "addTask", "(IIII)V"⟩
abbrev cX6_addMicro : ByteArray := prog_8_method_8_code
def yX6_addMicro : MethodName := ⟨RX6, "addMicro", "(III)V"⟩
abbrev cX6_tell : ByteArray := prog_8_method_9_code
def yX6_tell : MethodName := ⟨RX6, "tell", "(II)V"⟩
abbrev cX6_post : ByteArray := prog_8_method_10_code
def yX6_post : MethodName := ⟨RX6, "post", "(III)I"⟩
abbrev cX6_prefer : ByteArray := prog_8_method_11_code
def yX6_prefer : MethodName := ⟨RX6, "prefer", "(I)V"⟩
abbrev cX6_makePromise : ByteArray := prog_8_method_12_code
def yX6_makePromise : MethodName := ⟨RX6, "makePromise", "()I"⟩
abbrev cX6_settle : ByteArray := prog_8_method_13_code
def yX6_settle : MethodName := ⟨RX6, "settle", "(III)V"⟩
abbrev cX6_reject : ByteArray := prog_8_method_14_code
def yX6_reject : MethodName := ⟨RX6, "reject", "(II)V"⟩
abbrev cX6_resolve : ByteArray := prog_8_method_15_code
def yX6_resolve : MethodName := ⟨RX6, "resolve", "(IZI)V"⟩
abbrev cX6_react : ByteArray := prog_8_method_16_code
def yX6_react : MethodName := ⟨RX6, "react", "(IIII)V"⟩
abbrev cX6_timerAt : ByteArray := prog_8_method_17_code
def yX6_timerAt : MethodName := ⟨RX6, "timerAt", "(I)I"⟩
abbrev cX6_dropTimer : ByteArray := prog_8_method_18_code
def yX6_dropTimer : MethodName := ⟨RX6, "dropTimer", "(I)V"⟩
abbrev cX6_dueOf : ByteArray := prog_8_method_19_code
def yX6_dueOf : MethodName := ⟨RX6, "dueOf", "(I)I"⟩
abbrev cX6_addTimer : ByteArray := prog_8_method_20_code
def yX6_addTimer : MethodName := ⟨RX6, "addTimer", "(IIIZ)V"⟩
abbrev cX6_advance : ByteArray := prog_8_method_21_code
def yX6_advance : MethodName := ⟨RX6, "advance", "(I)I"⟩
abbrev cX6_fail : ByteArray := prog_8_method_22_code
def yX6_fail : MethodName := ⟨RX6, "fail", "(I)V"⟩
abbrev cX6_begin : ByteArray := prog_8_method_23_code
def yX6_begin : MethodName := ⟨RX6, "begin", "(IIII)V"⟩
abbrev cX6_nest : ByteArray := prog_8_method_24_code
def yX6_nest : MethodName := ⟨RX6, "nest", "(III)V"⟩
abbrev cX6_then : ByteArray := prog_8_method_25_code
def yX6_then : MethodName := ⟨RX6, "then", "(II)V"⟩
abbrev cX6_answer : ByteArray := prog_8_method_26_code
def yX6_answer : MethodName := ⟨RX6, "answer", "(III)V"⟩
abbrev cX6_place : ByteArray := prog_8_method_27_code
def yX6_place : MethodName := ⟨RX6, "place", "(IIII)V"⟩
abbrev cX6_promiseStep : ByteArray := prog_8_method_28_code
def yX6_promiseStep : MethodName := ⟨RX6, "promiseStep", "(IIII)V"⟩
abbrev cX6_doStep : ByteArray := prog_8_method_29_code
def yX6_doStep : MethodName := ⟨RX6, "doStep", "(I)V"⟩
abbrev cX6_takenUp : ByteArray := prog_8_method_30_code
def yX6_takenUp : MethodName := ⟨RX6, "takenUp", "()Z"⟩
abbrev cX6_run : ByteArray := prog_8_method_31_code
def yX6_run : MethodName := ⟨RX6, "run", "(II)Z"⟩
abbrev cX6_runAndTell : ByteArray := prog_8_method_32_code
def yX6_runAndTell : MethodName := ⟨RX6, "runAndTell", "(II)V"⟩
abbrev cX6_functionOf : ByteArray := prog_8_method_33_code
def yX6_functionOf : MethodName := ⟨RX6, "functionOf", "(I)I"⟩
abbrev cX6_doReaction : ByteArray := prog_8_method_34_code
def yX6_doReaction : MethodName := ⟨RX6, "doReaction", "(I)V"⟩
abbrev cX6_checkpoint : ByteArray := prog_8_method_35_code
def yX6_checkpoint : MethodName := ⟨RX6, "checkpoint", "()Z"⟩
abbrev cX6_nextTask : ByteArray := prog_8_method_36_code
def yX6_nextTask : MethodName := ⟨RX6, "nextTask", "()I"⟩
abbrev cX6_dropTask : ByteArray := prog_8_method_37_code
def yX6_dropTask : MethodName := ⟨RX6, "dropTask", "(I)V"⟩
abbrev cX6_doTimer : ByteArray := prog_8_method_38_code
def yX6_doTimer : MethodName := ⟨RX6, "doTimer", "(I)V"⟩
abbrev cX6_doTask : ByteArray := prog_8_method_39_code
def yX6_doTask : MethodName := ⟨RX6, "doTask", "()Z"⟩
abbrev cX6_giveBack : ByteArray := prog_8_method_40_code
def yX6_giveBack : MethodName := ⟨RX6, "giveBack", "(I)V"⟩
abbrev cX6_doFrames : ByteArray := prog_8_method_41_code
def yX6_doFrames : MethodName := ⟨RX6, "doFrames", "()V"⟩
abbrev cX6_turn : ByteArray := prog_8_method_42_code
def yX6_turn : MethodName := ⟨RX6, "turn", "()I"⟩
abbrev cX6_register : ByteArray := prog_8_method_43_code
def yX6_register : MethodName := ⟨RX6, "register", "(I)I"⟩
abbrev cX6_state : ByteArray := prog_8_method_44_code
def yX6_state : MethodName := ⟨RX6, "state", "(I)I"⟩
abbrev cX6_value : ByteArray := prog_8_method_45_code
def yX6_value : MethodName := ⟨RX6, "value", "(I)I"⟩
abbrev cX6_count : ByteArray := prog_8_method_46_code
def yX6_count : MethodName := ⟨RX6, "count", "(I)I"⟩
abbrev cX6_logged : ByteArray := prog_8_method_47_code
def yX6_logged : MethodName := ⟨RX6, "logged", "(I)I"⟩
abbrev cX6_reported : ByteArray := prog_8_method_48_code
def yX6_reported : MethodName := ⟨RX6, "reported", "(I)I"⟩
abbrev cX6_due : ByteArray := prog_8_method_49_code
def yX6_due : MethodName := ⟨RX6, "due", "(I)I"⟩
abbrev cX6_time : ByteArray := prog_8_method_50_code
def yX6_time : MethodName := ⟨RX6, "time", "()I"⟩
def RJ0 : String := "java/lang/String"
def TJ0 : u_T := fun k => match k with
  | _ => ("", "", "", false)
def tyJ0 : Nat → FieldType := fun k => match k with
  | _ => .int
abbrev wsJ00 : List Cond := u_ws RJ0 TJ0 0
theorem nmJ0 : ∀ a, a < 0 → ∀ b, b < 0 → a ≠ b → (TJ0 a).2.1 ≠ (TJ0 b).2.1 := by decide +kernel
theorem tyJ0_ok : ∀ k, k < 0 → parseFieldDescriptor (TJ0 k).2.2.1 = some (tyJ0 k) := by decide +kernel
def RL : String := "PromiseLoopLaw"
abbrev cL_step : ByteArray := method_3_code
def yL_step : MethodName := ⟨RL, "step", "(LPromiseLoop;IIII[J)I"⟩
abbrev cL_clear : ByteArray := method_4_code
def yL_clear : MethodName := ⟨RL, "clear", "(LPromiseLoop;I)I"⟩
abbrev cL_post : ByteArray := method_5_code
def yL_post : MethodName := ⟨RL, "post", "(LPromiseLoop;III[J)I"⟩
abbrev cL_prefer : ByteArray := method_6_code
def yL_prefer : MethodName := ⟨RL, "prefer", "(LPromiseLoop;I)I"⟩
abbrev cL_advance : ByteArray := method_7_code
def yL_advance : MethodName := ⟨RL, "advance", "(LPromiseLoop;I[J)I"⟩
abbrev cL_register : ByteArray := method_8_code
def yL_register : MethodName := ⟨RL, "register", "(LPromiseLoop;I[J)I"⟩
abbrev cL_state : ByteArray := method_9_code
def yL_state : MethodName := ⟨RL, "state", "(LPromiseLoop;I[J)I"⟩
abbrev cL_value : ByteArray := method_10_code
def yL_value : MethodName := ⟨RL, "value", "(LPromiseLoop;I[J)I"⟩
abbrev cL_count : ByteArray := method_11_code
def yL_count : MethodName := ⟨RL, "count", "(LPromiseLoop;I[J)I"⟩
abbrev cL_logged : ByteArray := method_12_code
def yL_logged : MethodName := ⟨RL, "logged", "(LPromiseLoop;I[J)I"⟩
abbrev cL_reported : ByteArray := method_13_code
def yL_reported : MethodName := ⟨RL, "reported", "(LPromiseLoop;I[J)I"⟩
abbrev cL_law : ByteArray := code
def yL_law : MethodName := ⟨RL, "law", "([I)Z"⟩
abbrev vwCl : List vw_C := [(RX0, TX0, 4), (RX1, TX1, 2), (RX2, TX2, 6), (RX3, TX3, 15), (RX4, TX4, 10), (RX5, TX5, 18), (RX6, TX6, 67)]
end
section
theorem dX0_init_0 : decode cX0_init 0 = .ok (.aload_n 0, 1) := by decide +kernel
theorem dX0_init_1 : decode cX0_init 1 = .ok (.invokespecial 3, 3) := by decide +kernel
theorem dX0_init_4 : decode cX0_init 4 = .ok (.aload_n 0, 1) := by decide +kernel
theorem dX0_init_5 : decode cX0_init 5 = .ok (.bipush 10, 2) := by decide +kernel
theorem dX0_init_7 : decode cX0_init 7 = .ok (.newarray .int, 2) := by decide +kernel
theorem dX0_init_9 : decode cX0_init 9 = .ok (.putfield 9, 3) := by decide +kernel
theorem dX0_init_12 : decode cX0_init 12 = .ok (.aload_n 0, 1) := by decide +kernel
theorem dX0_init_13 : decode cX0_init 13 = .ok (.bipush 60, 2) := by decide +kernel
theorem dX0_init_15 : decode cX0_init 15 = .ok (.newarray .int, 2) := by decide +kernel
theorem dX0_init_17 : decode cX0_init 17 = .ok (.putfield 15, 3) := by decide +kernel
theorem dX0_init_20 : decode cX0_init 20 = .ok (.aload_n 0, 1) := by decide +kernel
theorem dX0_init_21 : decode cX0_init 21 = .ok (.bipush 60, 2) := by decide +kernel
theorem dX0_init_23 : decode cX0_init 23 = .ok (.newarray .int, 2) := by decide +kernel
theorem dX0_init_25 : decode cX0_init 25 = .ok (.putfield 18, 3) := by decide +kernel
theorem dX0_init_28 : decode cX0_init 28 = .ok (.aload_n 0, 1) := by decide +kernel
theorem dX0_init_29 : decode cX0_init 29 = .ok (.bipush 60, 2) := by decide +kernel
theorem dX0_init_31 : decode cX0_init 31 = .ok (.newarray .int, 2) := by decide +kernel
theorem dX0_init_33 : decode cX0_init 33 = .ok (.putfield 21, 3) := by decide +kernel
theorem dX0_init_36 : decode cX0_init 36 = .ok (.return_, 1) := by decide +kernel
theorem dX0_length_0 : decode cX0_length 0 = .ok (.aload_n 0, 1) := by decide +kernel
theorem dX0_length_1 : decode cX0_length 1 = .ok (.getfield 9, 3) := by decide +kernel
theorem dX0_length_4 : decode cX0_length 4 = .ok (.iload_n 1, 1) := by decide +kernel
theorem dX0_length_5 : decode cX0_length 5 = .ok (.iaload, 1) := by decide +kernel
theorem dX0_length_6 : decode cX0_length 6 = .ok (.ireturn, 1) := by decide +kernel
theorem dX0_code_0 : decode cX0_code 0 = .ok (.aload_n 0, 1) := by decide +kernel
theorem dX0_code_1 : decode cX0_code 1 = .ok (.getfield 15, 3) := by decide +kernel
theorem dX0_code_4 : decode cX0_code 4 = .ok (.iload_n 1, 1) := by decide +kernel
theorem dX0_code_5 : decode cX0_code 5 = .ok (.bipush 6, 2) := by decide +kernel
theorem dX0_code_7 : decode cX0_code 7 = .ok (.imul, 1) := by decide +kernel
theorem dX0_code_8 : decode cX0_code 8 = .ok (.iload_n 2, 1) := by decide +kernel
theorem dX0_code_9 : decode cX0_code 9 = .ok (.iadd, 1) := by decide +kernel
theorem dX0_code_10 : decode cX0_code 10 = .ok (.iaload, 1) := by decide +kernel
theorem dX0_code_11 : decode cX0_code 11 = .ok (.ireturn, 1) := by decide +kernel
theorem dX0_a_0 : decode cX0_a 0 = .ok (.aload_n 0, 1) := by decide +kernel
theorem dX0_a_1 : decode cX0_a 1 = .ok (.getfield 18, 3) := by decide +kernel
theorem dX0_a_4 : decode cX0_a 4 = .ok (.iload_n 1, 1) := by decide +kernel
theorem dX0_a_5 : decode cX0_a 5 = .ok (.bipush 6, 2) := by decide +kernel
theorem dX0_a_7 : decode cX0_a 7 = .ok (.imul, 1) := by decide +kernel
theorem dX0_a_8 : decode cX0_a 8 = .ok (.iload_n 2, 1) := by decide +kernel
theorem dX0_a_9 : decode cX0_a 9 = .ok (.iadd, 1) := by decide +kernel
theorem dX0_a_10 : decode cX0_a 10 = .ok (.iaload, 1) := by decide +kernel
theorem dX0_a_11 : decode cX0_a 11 = .ok (.ireturn, 1) := by decide +kernel
theorem dX0_b_0 : decode cX0_b 0 = .ok (.aload_n 0, 1) := by decide +kernel
theorem dX0_b_1 : decode cX0_b 1 = .ok (.getfield 21, 3) := by decide +kernel
theorem dX0_b_4 : decode cX0_b 4 = .ok (.iload_n 1, 1) := by decide +kernel
theorem dX0_b_5 : decode cX0_b 5 = .ok (.bipush 6, 2) := by decide +kernel
theorem dX0_b_7 : decode cX0_b 7 = .ok (.imul, 1) := by decide +kernel
theorem dX0_b_8 : decode cX0_b 8 = .ok (.iload_n 2, 1) := by decide +kernel
theorem dX0_b_9 : decode cX0_b 9 = .ok (.iadd, 1) := by decide +kernel
theorem dX0_b_10 : decode cX0_b 10 = .ok (.iaload, 1) := by decide +kernel
theorem dX0_b_11 : decode cX0_b 11 = .ok (.ireturn, 1) := by decide +kernel
theorem dX0_empty_0 : decode cX0_empty 0 = .ok (.aload_n 0, 1) := by decide +kernel
theorem dX0_empty_1 : decode cX0_empty 1 = .ok (.getfield 9, 3) := by decide +kernel
theorem dX0_empty_4 : decode cX0_empty 4 = .ok (.iload_n 1, 1) := by decide +kernel
theorem dX0_empty_5 : decode cX0_empty 5 = .ok (.iconst 0, 1) := by decide +kernel
theorem dX0_empty_6 : decode cX0_empty 6 = .ok (.iastore, 1) := by decide +kernel
theorem dX0_empty_7 : decode cX0_empty 7 = .ok (.return_, 1) := by decide +kernel
theorem dX0_add_0 : decode cX0_add 0 = .ok (.aload_n 0, 1) := by decide +kernel
theorem dX0_add_1 : decode cX0_add 1 = .ok (.getfield 9, 3) := by decide +kernel
theorem dX0_add_4 : decode cX0_add 4 = .ok (.iload_n 1, 1) := by decide +kernel
theorem dX0_add_5 : decode cX0_add 5 = .ok (.iaload, 1) := by decide +kernel
theorem dX0_add_6 : decode cX0_add 6 = .ok (.bipush 6, 2) := by decide +kernel
theorem dX0_add_8 : decode cX0_add 8 = .ok (.if_icmp .lt 4, 3) := by decide +kernel
theorem dX0_add_11 : decode cX0_add 11 = .ok (.return_, 1) := by decide +kernel
theorem dX0_add_12 : decode cX0_add 12 = .ok (.iload_n 1, 1) := by decide +kernel
theorem dX0_add_13 : decode cX0_add 13 = .ok (.bipush 6, 2) := by decide +kernel
theorem dX0_add_15 : decode cX0_add 15 = .ok (.imul, 1) := by decide +kernel
theorem dX0_add_16 : decode cX0_add 16 = .ok (.aload_n 0, 1) := by decide +kernel
theorem dX0_add_17 : decode cX0_add 17 = .ok (.getfield 9, 3) := by decide +kernel
theorem dX0_add_20 : decode cX0_add 20 = .ok (.iload_n 1, 1) := by decide +kernel
theorem dX0_add_21 : decode cX0_add 21 = .ok (.iaload, 1) := by decide +kernel
theorem dX0_add_22 : decode cX0_add 22 = .ok (.iadd, 1) := by decide +kernel
theorem dX0_add_23 : decode cX0_add 23 = .ok (.istore 5, 2) := by decide +kernel
theorem dX0_add_25 : decode cX0_add 25 = .ok (.aload_n 0, 1) := by decide +kernel
theorem dX0_add_26 : decode cX0_add 26 = .ok (.getfield 15, 3) := by decide +kernel
theorem dX0_add_29 : decode cX0_add 29 = .ok (.iload 5, 2) := by decide +kernel
theorem dX0_add_31 : decode cX0_add 31 = .ok (.iload_n 2, 1) := by decide +kernel
theorem dX0_add_32 : decode cX0_add 32 = .ok (.iastore, 1) := by decide +kernel
theorem dX0_add_33 : decode cX0_add 33 = .ok (.aload_n 0, 1) := by decide +kernel
theorem dX0_add_34 : decode cX0_add 34 = .ok (.getfield 18, 3) := by decide +kernel
theorem dX0_add_37 : decode cX0_add 37 = .ok (.iload 5, 2) := by decide +kernel
theorem dX0_add_39 : decode cX0_add 39 = .ok (.iload_n 3, 1) := by decide +kernel
theorem dX0_add_40 : decode cX0_add 40 = .ok (.iastore, 1) := by decide +kernel
theorem dX0_add_41 : decode cX0_add 41 = .ok (.aload_n 0, 1) := by decide +kernel
theorem dX0_add_42 : decode cX0_add 42 = .ok (.getfield 21, 3) := by decide +kernel
theorem dX0_add_45 : decode cX0_add 45 = .ok (.iload 5, 2) := by decide +kernel
theorem dX0_add_47 : decode cX0_add 47 = .ok (.iload 4, 2) := by decide +kernel
theorem dX0_add_49 : decode cX0_add 49 = .ok (.iastore, 1) := by decide +kernel
theorem dX0_add_50 : decode cX0_add 50 = .ok (.aload_n 0, 1) := by decide +kernel
theorem dX0_add_51 : decode cX0_add 51 = .ok (.getfield 9, 3) := by decide +kernel
theorem dX0_add_54 : decode cX0_add 54 = .ok (.iload_n 1, 1) := by decide +kernel
theorem dX0_add_55 : decode cX0_add 55 = .ok (.dup2, 1) := by decide +kernel
theorem dX0_add_56 : decode cX0_add 56 = .ok (.iaload, 1) := by decide +kernel
theorem dX0_add_57 : decode cX0_add 57 = .ok (.iconst 1, 1) := by decide +kernel
theorem dX0_add_58 : decode cX0_add 58 = .ok (.iadd, 1) := by decide +kernel
theorem dX0_add_59 : decode cX0_add 59 = .ok (.iastore, 1) := by decide +kernel
theorem dX0_add_60 : decode cX0_add 60 = .ok (.return_, 1) := by decide +kernel
theorem dX1_init_0 : decode cX1_init 0 = .ok (.aload_n 0, 1) := by decide +kernel
theorem dX1_init_1 : decode cX1_init 1 = .ok (.invokespecial 3, 3) := by decide +kernel
theorem dX1_init_4 : decode cX1_init 4 = .ok (.aload_n 0, 1) := by decide +kernel
theorem dX1_init_5 : decode cX1_init 5 = .ok (.sipush 200, 3) := by decide +kernel
theorem dX1_init_8 : decode cX1_init 8 = .ok (.newarray .int, 2) := by decide +kernel
theorem dX1_init_10 : decode cX1_init 10 = .ok (.putfield 9, 3) := by decide +kernel
theorem dX1_init_13 : decode cX1_init 13 = .ok (.aload_n 0, 1) := by decide +kernel
theorem dX1_init_14 : decode cX1_init 14 = .ok (.iconst 0, 1) := by decide +kernel
theorem dX1_init_15 : decode cX1_init 15 = .ok (.putfield 15, 3) := by decide +kernel
theorem dX1_init_18 : decode cX1_init 18 = .ok (.return_, 1) := by decide +kernel
theorem dX1_size_0 : decode cX1_size 0 = .ok (.aload_n 0, 1) := by decide +kernel
theorem dX1_size_1 : decode cX1_size 1 = .ok (.getfield 15, 3) := by decide +kernel
theorem dX1_size_4 : decode cX1_size 4 = .ok (.ireturn, 1) := by decide +kernel
theorem dX1_has_0 : decode cX1_has 0 = .ok (.iload_n 1, 1) := by decide +kernel
theorem dX1_has_1 : decode cX1_has 1 = .ok (.ifCond .lt 15, 3) := by decide +kernel
theorem dX1_has_4 : decode cX1_has 4 = .ok (.iload_n 1, 1) := by decide +kernel
theorem dX1_has_5 : decode cX1_has 5 = .ok (.aload_n 0, 1) := by decide +kernel
theorem dX1_has_6 : decode cX1_has 6 = .ok (.getfield 15, 3) := by decide +kernel
theorem dX1_has_9 : decode cX1_has 9 = .ok (.if_icmp .ge 7, 3) := by decide +kernel
theorem dX1_has_12 : decode cX1_has 12 = .ok (.iconst 1, 1) := by decide +kernel
theorem dX1_has_13 : decode cX1_has 13 = .ok (.goto 4, 3) := by decide +kernel
theorem dX1_has_16 : decode cX1_has 16 = .ok (.iconst 0, 1) := by decide +kernel
theorem dX1_has_17 : decode cX1_has 17 = .ok (.ireturn, 1) := by decide +kernel
theorem dX1_at_0 : decode cX1_at 0 = .ok (.aload_n 0, 1) := by decide +kernel
theorem dX1_at_1 : decode cX1_at 1 = .ok (.getfield 9, 3) := by decide +kernel
theorem dX1_at_4 : decode cX1_at 4 = .ok (.iload_n 1, 1) := by decide +kernel
theorem dX1_at_5 : decode cX1_at 5 = .ok (.iaload, 1) := by decide +kernel
theorem dX1_at_6 : decode cX1_at 6 = .ok (.ireturn, 1) := by decide +kernel
theorem dX1_keep_0 : decode cX1_keep 0 = .ok (.aload_n 0, 1) := by decide +kernel
theorem dX1_keep_1 : decode cX1_keep 1 = .ok (.getfield 15, 3) := by decide +kernel
theorem dX1_keep_4 : decode cX1_keep 4 = .ok (.sipush 200, 3) := by decide +kernel
theorem dX1_keep_7 : decode cX1_keep 7 = .ok (.if_icmp .ge 23, 3) := by decide +kernel
theorem dX1_keep_10 : decode cX1_keep 10 = .ok (.aload_n 0, 1) := by decide +kernel
theorem dX1_keep_11 : decode cX1_keep 11 = .ok (.getfield 9, 3) := by decide +kernel
theorem dX1_keep_14 : decode cX1_keep 14 = .ok (.aload_n 0, 1) := by decide +kernel
theorem dX1_keep_15 : decode cX1_keep 15 = .ok (.getfield 15, 3) := by decide +kernel
theorem dX1_keep_18 : decode cX1_keep 18 = .ok (.iload_n 1, 1) := by decide +kernel
theorem dX1_keep_19 : decode cX1_keep 19 = .ok (.iastore, 1) := by decide +kernel
theorem dX1_keep_20 : decode cX1_keep 20 = .ok (.aload_n 0, 1) := by decide +kernel
theorem dX1_keep_21 : decode cX1_keep 21 = .ok (.dup, 1) := by decide +kernel
theorem dX1_keep_22 : decode cX1_keep 22 = .ok (.getfield 15, 3) := by decide +kernel
theorem dX1_keep_25 : decode cX1_keep 25 = .ok (.iconst 1, 1) := by decide +kernel
theorem dX1_keep_26 : decode cX1_keep 26 = .ok (.iadd, 1) := by decide +kernel
theorem dX1_keep_27 : decode cX1_keep 27 = .ok (.putfield 15, 3) := by decide +kernel
theorem dX1_keep_30 : decode cX1_keep 30 = .ok (.return_, 1) := by decide +kernel
theorem dX2_init_0 : decode cX2_init 0 = .ok (.aload_n 0, 1) := by decide +kernel
theorem dX2_init_1 : decode cX2_init 1 = .ok (.invokespecial 1, 3) := by decide +kernel
theorem dX2_init_4 : decode cX2_init 4 = .ok (.aload_n 0, 1) := by decide +kernel
theorem dX2_init_5 : decode cX2_init 5 = .ok (.iconst 0, 1) := by decide +kernel
theorem dX2_init_6 : decode cX2_init 6 = .ok (.putfield 7, 3) := by decide +kernel
theorem dX2_init_9 : decode cX2_init 9 = .ok (.aload_n 0, 1) := by decide +kernel
theorem dX2_init_10 : decode cX2_init 10 = .ok (.iconst 0, 1) := by decide +kernel
theorem dX2_init_11 : decode cX2_init 11 = .ok (.putfield 13, 3) := by decide +kernel
theorem dX2_init_14 : decode cX2_init 14 = .ok (.aload_n 0, 1) := by decide +kernel
theorem dX2_init_15 : decode cX2_init 15 = .ok (.iload_n 1, 1) := by decide +kernel
theorem dX2_init_16 : decode cX2_init 16 = .ok (.putfield 16, 3) := by decide +kernel
theorem dX2_init_19 : decode cX2_init 19 = .ok (.aload_n 0, 1) := by decide +kernel
theorem dX2_init_20 : decode cX2_init 20 = .ok (.iload_n 1, 1) := by decide +kernel
theorem dX2_init_21 : decode cX2_init 21 = .ok (.newarray .int, 2) := by decide +kernel
theorem dX2_init_23 : decode cX2_init 23 = .ok (.putfield 19, 3) := by decide +kernel
theorem dX2_init_26 : decode cX2_init 26 = .ok (.aload_n 0, 1) := by decide +kernel
theorem dX2_init_27 : decode cX2_init 27 = .ok (.iload_n 1, 1) := by decide +kernel
theorem dX2_init_28 : decode cX2_init 28 = .ok (.newarray .int, 2) := by decide +kernel
theorem dX2_init_30 : decode cX2_init 30 = .ok (.putfield 23, 3) := by decide +kernel
theorem dX2_init_33 : decode cX2_init 33 = .ok (.aload_n 0, 1) := by decide +kernel
theorem dX2_init_34 : decode cX2_init 34 = .ok (.iload_n 1, 1) := by decide +kernel
theorem dX2_init_35 : decode cX2_init 35 = .ok (.newarray .int, 2) := by decide +kernel
theorem dX2_init_37 : decode cX2_init 37 = .ok (.putfield 26, 3) := by decide +kernel
theorem dX2_init_40 : decode cX2_init 40 = .ok (.return_, 1) := by decide +kernel
theorem dX2_size_0 : decode cX2_size 0 = .ok (.aload_n 0, 1) := by decide +kernel
theorem dX2_size_1 : decode cX2_size 1 = .ok (.getfield 13, 3) := by decide +kernel
theorem dX2_size_4 : decode cX2_size 4 = .ok (.ireturn, 1) := by decide +kernel
theorem dX2_kind_0 : decode cX2_kind 0 = .ok (.aload_n 0, 1) := by decide +kernel
theorem dX2_kind_1 : decode cX2_kind 1 = .ok (.getfield 19, 3) := by decide +kernel
theorem dX2_kind_4 : decode cX2_kind 4 = .ok (.aload_n 0, 1) := by decide +kernel
theorem dX2_kind_5 : decode cX2_kind 5 = .ok (.getfield 7, 3) := by decide +kernel
theorem dX2_kind_8 : decode cX2_kind 8 = .ok (.iaload, 1) := by decide +kernel
theorem dX2_kind_9 : decode cX2_kind 9 = .ok (.ireturn, 1) := by decide +kernel
theorem dX2_subject_0 : decode cX2_subject 0 = .ok (.aload_n 0, 1) := by decide +kernel
theorem dX2_subject_1 : decode cX2_subject 1 = .ok (.getfield 23, 3) := by decide +kernel
theorem dX2_subject_4 : decode cX2_subject 4 = .ok (.aload_n 0, 1) := by decide +kernel
theorem dX2_subject_5 : decode cX2_subject 5 = .ok (.getfield 7, 3) := by decide +kernel
theorem dX2_subject_8 : decode cX2_subject 8 = .ok (.iaload, 1) := by decide +kernel
theorem dX2_subject_9 : decode cX2_subject 9 = .ok (.ireturn, 1) := by decide +kernel
theorem dX2_number_0 : decode cX2_number 0 = .ok (.aload_n 0, 1) := by decide +kernel
theorem dX2_number_1 : decode cX2_number 1 = .ok (.getfield 26, 3) := by decide +kernel
theorem dX2_number_4 : decode cX2_number 4 = .ok (.aload_n 0, 1) := by decide +kernel
theorem dX2_number_5 : decode cX2_number 5 = .ok (.getfield 7, 3) := by decide +kernel
theorem dX2_number_8 : decode cX2_number 8 = .ok (.iaload, 1) := by decide +kernel
theorem dX2_number_9 : decode cX2_number 9 = .ok (.ireturn, 1) := by decide +kernel
theorem dX2_put_0 : decode cX2_put 0 = .ok (.aload_n 0, 1) := by decide +kernel
theorem dX2_put_1 : decode cX2_put 1 = .ok (.getfield 13, 3) := by decide +kernel
theorem dX2_put_4 : decode cX2_put 4 = .ok (.aload_n 0, 1) := by decide +kernel
theorem dX2_put_5 : decode cX2_put 5 = .ok (.getfield 16, 3) := by decide +kernel
theorem dX2_put_8 : decode cX2_put 8 = .ok (.if_icmp .lt 4, 3) := by decide +kernel
theorem dX2_put_11 : decode cX2_put 11 = .ok (.return_, 1) := by decide +kernel
theorem dX2_put_12 : decode cX2_put 12 = .ok (.aload_n 0, 1) := by decide +kernel
theorem dX2_put_13 : decode cX2_put 13 = .ok (.getfield 7, 3) := by decide +kernel
theorem dX2_put_16 : decode cX2_put 16 = .ok (.aload_n 0, 1) := by decide +kernel
theorem dX2_put_17 : decode cX2_put 17 = .ok (.getfield 13, 3) := by decide +kernel
theorem dX2_put_20 : decode cX2_put 20 = .ok (.iadd, 1) := by decide +kernel
theorem dX2_put_21 : decode cX2_put 21 = .ok (.aload_n 0, 1) := by decide +kernel
theorem dX2_put_22 : decode cX2_put 22 = .ok (.getfield 16, 3) := by decide +kernel
theorem dX2_put_25 : decode cX2_put 25 = .ok (.if_icmp .ge 15, 3) := by decide +kernel
theorem dX2_put_28 : decode cX2_put 28 = .ok (.aload_n 0, 1) := by decide +kernel
theorem dX2_put_29 : decode cX2_put 29 = .ok (.getfield 7, 3) := by decide +kernel
theorem dX2_put_32 : decode cX2_put 32 = .ok (.aload_n 0, 1) := by decide +kernel
theorem dX2_put_33 : decode cX2_put 33 = .ok (.getfield 13, 3) := by decide +kernel
theorem dX2_put_36 : decode cX2_put 36 = .ok (.iadd, 1) := by decide +kernel
theorem dX2_put_37 : decode cX2_put 37 = .ok (.goto 17, 3) := by decide +kernel
theorem dX2_put_40 : decode cX2_put 40 = .ok (.aload_n 0, 1) := by decide +kernel
theorem dX2_put_41 : decode cX2_put 41 = .ok (.getfield 7, 3) := by decide +kernel
theorem dX2_put_44 : decode cX2_put 44 = .ok (.aload_n 0, 1) := by decide +kernel
theorem dX2_put_45 : decode cX2_put 45 = .ok (.getfield 13, 3) := by decide +kernel
theorem dX2_put_48 : decode cX2_put 48 = .ok (.iadd, 1) := by decide +kernel
theorem dX2_put_49 : decode cX2_put 49 = .ok (.aload_n 0, 1) := by decide +kernel
theorem dX2_put_50 : decode cX2_put 50 = .ok (.getfield 16, 3) := by decide +kernel
theorem dX2_put_53 : decode cX2_put 53 = .ok (.isub, 1) := by decide +kernel
theorem dX2_put_54 : decode cX2_put 54 = .ok (.istore 4, 2) := by decide +kernel
theorem dX2_put_56 : decode cX2_put 56 = .ok (.aload_n 0, 1) := by decide +kernel
theorem dX2_put_57 : decode cX2_put 57 = .ok (.getfield 19, 3) := by decide +kernel
theorem dX2_put_60 : decode cX2_put 60 = .ok (.iload 4, 2) := by decide +kernel
theorem dX2_put_62 : decode cX2_put 62 = .ok (.iload_n 1, 1) := by decide +kernel
theorem dX2_put_63 : decode cX2_put 63 = .ok (.iastore, 1) := by decide +kernel
theorem dX2_put_64 : decode cX2_put 64 = .ok (.aload_n 0, 1) := by decide +kernel
theorem dX2_put_65 : decode cX2_put 65 = .ok (.getfield 23, 3) := by decide +kernel
theorem dX2_put_68 : decode cX2_put 68 = .ok (.iload 4, 2) := by decide +kernel
theorem dX2_put_70 : decode cX2_put 70 = .ok (.iload_n 2, 1) := by decide +kernel
theorem dX2_put_71 : decode cX2_put 71 = .ok (.iastore, 1) := by decide +kernel
theorem dX2_put_72 : decode cX2_put 72 = .ok (.aload_n 0, 1) := by decide +kernel
theorem dX2_put_73 : decode cX2_put 73 = .ok (.getfield 26, 3) := by decide +kernel
theorem dX2_put_76 : decode cX2_put 76 = .ok (.iload 4, 2) := by decide +kernel
theorem dX2_put_78 : decode cX2_put 78 = .ok (.iload_n 3, 1) := by decide +kernel
theorem dX2_put_79 : decode cX2_put 79 = .ok (.iastore, 1) := by decide +kernel
theorem dX2_put_80 : decode cX2_put 80 = .ok (.aload_n 0, 1) := by decide +kernel
theorem dX2_put_81 : decode cX2_put 81 = .ok (.dup, 1) := by decide +kernel
theorem dX2_put_82 : decode cX2_put 82 = .ok (.getfield 13, 3) := by decide +kernel
theorem dX2_put_85 : decode cX2_put 85 = .ok (.iconst 1, 1) := by decide +kernel
theorem dX2_put_86 : decode cX2_put 86 = .ok (.iadd, 1) := by decide +kernel
theorem dX2_put_87 : decode cX2_put 87 = .ok (.putfield 13, 3) := by decide +kernel
theorem dX2_put_90 : decode cX2_put 90 = .ok (.return_, 1) := by decide +kernel
theorem dX2_drop_0 : decode cX2_drop 0 = .ok (.aload_n 0, 1) := by decide +kernel
theorem dX2_drop_1 : decode cX2_drop 1 = .ok (.getfield 13, 3) := by decide +kernel
theorem dX2_drop_4 : decode cX2_drop 4 = .ok (.ifCond .le 40, 3) := by decide +kernel
theorem dX2_drop_7 : decode cX2_drop 7 = .ok (.aload_n 0, 1) := by decide +kernel
theorem dX2_drop_8 : decode cX2_drop 8 = .ok (.aload_n 0, 1) := by decide +kernel
theorem dX2_drop_9 : decode cX2_drop 9 = .ok (.getfield 7, 3) := by decide +kernel
theorem dX2_drop_12 : decode cX2_drop 12 = .ok (.iconst 1, 1) := by decide +kernel
theorem dX2_drop_13 : decode cX2_drop 13 = .ok (.iadd, 1) := by decide +kernel
theorem dX2_drop_14 : decode cX2_drop 14 = .ok (.aload_n 0, 1) := by decide +kernel
theorem dX2_drop_15 : decode cX2_drop 15 = .ok (.getfield 16, 3) := by decide +kernel
theorem dX2_drop_18 : decode cX2_drop 18 = .ok (.if_icmp .ge 12, 3) := by decide +kernel
theorem dX2_drop_21 : decode cX2_drop 21 = .ok (.aload_n 0, 1) := by decide +kernel
theorem dX2_drop_22 : decode cX2_drop 22 = .ok (.getfield 7, 3) := by decide +kernel
theorem dX2_drop_25 : decode cX2_drop 25 = .ok (.iconst 1, 1) := by decide +kernel
theorem dX2_drop_26 : decode cX2_drop 26 = .ok (.iadd, 1) := by decide +kernel
theorem dX2_drop_27 : decode cX2_drop 27 = .ok (.goto 4, 3) := by decide +kernel
theorem dX2_drop_30 : decode cX2_drop 30 = .ok (.iconst 0, 1) := by decide +kernel
theorem dX2_drop_31 : decode cX2_drop 31 = .ok (.putfield 7, 3) := by decide +kernel
theorem dX2_drop_34 : decode cX2_drop 34 = .ok (.aload_n 0, 1) := by decide +kernel
theorem dX2_drop_35 : decode cX2_drop 35 = .ok (.dup, 1) := by decide +kernel
theorem dX2_drop_36 : decode cX2_drop 36 = .ok (.getfield 13, 3) := by decide +kernel
theorem dX2_drop_39 : decode cX2_drop 39 = .ok (.iconst 1, 1) := by decide +kernel
theorem dX2_drop_40 : decode cX2_drop 40 = .ok (.isub, 1) := by decide +kernel
theorem dX2_drop_41 : decode cX2_drop 41 = .ok (.putfield 13, 3) := by decide +kernel
theorem dX2_drop_44 : decode cX2_drop 44 = .ok (.return_, 1) := by decide +kernel
theorem dX3_init_0 : decode cX3_init 0 = .ok (.aload_n 0, 1) := by decide +kernel
theorem dX3_init_1 : decode cX3_init 1 = .ok (.invokespecial 3, 3) := by decide +kernel
theorem dX3_init_4 : decode cX3_init 4 = .ok (.aload_n 0, 1) := by decide +kernel
theorem dX3_init_5 : decode cX3_init 5 = .ok (.bipush 40, 2) := by decide +kernel
theorem dX3_init_7 : decode cX3_init 7 = .ok (.newarray .int, 2) := by decide +kernel
theorem dX3_init_9 : decode cX3_init 9 = .ok (.putfield 9, 3) := by decide +kernel
theorem dX3_init_12 : decode cX3_init 12 = .ok (.aload_n 0, 1) := by decide +kernel
theorem dX3_init_13 : decode cX3_init 13 = .ok (.bipush 40, 2) := by decide +kernel
theorem dX3_init_15 : decode cX3_init 15 = .ok (.newarray .int, 2) := by decide +kernel
theorem dX3_init_17 : decode cX3_init 17 = .ok (.putfield 15, 3) := by decide +kernel
theorem dX3_init_20 : decode cX3_init 20 = .ok (.aload_n 0, 1) := by decide +kernel
theorem dX3_init_21 : decode cX3_init 21 = .ok (.bipush 40, 2) := by decide +kernel
theorem dX3_init_23 : decode cX3_init 23 = .ok (.newarray .boolean, 2) := by decide +kernel
theorem dX3_init_25 : decode cX3_init 25 = .ok (.putfield 18, 3) := by decide +kernel
theorem dX3_init_28 : decode cX3_init 28 = .ok (.aload_n 0, 1) := by decide +kernel
theorem dX3_init_29 : decode cX3_init 29 = .ok (.bipush 40, 2) := by decide +kernel
theorem dX3_init_31 : decode cX3_init 31 = .ok (.newarray .boolean, 2) := by decide +kernel
theorem dX3_init_33 : decode cX3_init 33 = .ok (.putfield 22, 3) := by decide +kernel
theorem dX3_init_36 : decode cX3_init 36 = .ok (.aload_n 0, 1) := by decide +kernel
theorem dX3_init_37 : decode cX3_init 37 = .ok (.bipush 40, 2) := by decide +kernel
theorem dX3_init_39 : decode cX3_init 39 = .ok (.newarray .boolean, 2) := by decide +kernel
theorem dX3_init_41 : decode cX3_init 41 = .ok (.putfield 25, 3) := by decide +kernel
theorem dX3_init_44 : decode cX3_init 44 = .ok (.aload_n 0, 1) := by decide +kernel
theorem dX3_init_45 : decode cX3_init 45 = .ok (.iconst 0, 1) := by decide +kernel
theorem dX3_init_46 : decode cX3_init 46 = .ok (.putfield 28, 3) := by decide +kernel
theorem dX3_init_49 : decode cX3_init 49 = .ok (.aload_n 0, 1) := by decide +kernel
theorem dX3_init_50 : decode cX3_init 50 = .ok (.bipush 40, 2) := by decide +kernel
theorem dX3_init_52 : decode cX3_init 52 = .ok (.newarray .int, 2) := by decide +kernel
theorem dX3_init_54 : decode cX3_init 54 = .ok (.putfield 32, 3) := by decide +kernel
theorem dX3_init_57 : decode cX3_init 57 = .ok (.aload_n 0, 1) := by decide +kernel
theorem dX3_init_58 : decode cX3_init 58 = .ok (.iconst 0, 1) := by decide +kernel
theorem dX3_init_59 : decode cX3_init 59 = .ok (.putfield 35, 3) := by decide +kernel
theorem dX3_init_62 : decode cX3_init 62 = .ok (.aload_n 0, 1) := by decide +kernel
theorem dX3_init_63 : decode cX3_init 63 = .ok (.bipush 80, 2) := by decide +kernel
theorem dX3_init_65 : decode cX3_init 65 = .ok (.newarray .int, 2) := by decide +kernel
theorem dX3_init_67 : decode cX3_init 67 = .ok (.putfield 38, 3) := by decide +kernel
theorem dX3_init_70 : decode cX3_init 70 = .ok (.aload_n 0, 1) := by decide +kernel
theorem dX3_init_71 : decode cX3_init 71 = .ok (.bipush 80, 2) := by decide +kernel
theorem dX3_init_73 : decode cX3_init 73 = .ok (.newarray .int, 2) := by decide +kernel
theorem dX3_init_75 : decode cX3_init 75 = .ok (.putfield 41, 3) := by decide +kernel
theorem dX3_init_78 : decode cX3_init 78 = .ok (.aload_n 0, 1) := by decide +kernel
theorem dX3_init_79 : decode cX3_init 79 = .ok (.bipush 80, 2) := by decide +kernel
theorem dX3_init_81 : decode cX3_init 81 = .ok (.newarray .int, 2) := by decide +kernel
theorem dX3_init_83 : decode cX3_init 83 = .ok (.putfield 44, 3) := by decide +kernel
theorem dX3_init_86 : decode cX3_init 86 = .ok (.aload_n 0, 1) := by decide +kernel
theorem dX3_init_87 : decode cX3_init 87 = .ok (.bipush 80, 2) := by decide +kernel
theorem dX3_init_89 : decode cX3_init 89 = .ok (.newarray .int, 2) := by decide +kernel
theorem dX3_init_91 : decode cX3_init 91 = .ok (.putfield 47, 3) := by decide +kernel
theorem dX3_init_94 : decode cX3_init 94 = .ok (.aload_n 0, 1) := by decide +kernel
theorem dX3_init_95 : decode cX3_init 95 = .ok (.iconst 0, 1) := by decide +kernel
theorem dX3_init_96 : decode cX3_init 96 = .ok (.putfield 50, 3) := by decide +kernel
theorem dX3_init_99 : decode cX3_init 99 = .ok (.aload_n 0, 1) := by decide +kernel
theorem dX3_init_100 : decode cX3_init 100 = .ok (.aload_n 1, 1) := by decide +kernel
theorem dX3_init_101 : decode cX3_init 101 = .ok (.putfield 53, 3) := by decide +kernel
theorem dX3_init_104 : decode cX3_init 104 = .ok (.aload_n 0, 1) := by decide +kernel
theorem dX3_init_105 : decode cX3_init 105 = .ok (.aload_n 2, 1) := by decide +kernel
theorem dX3_init_106 : decode cX3_init 106 = .ok (.putfield 57, 3) := by decide +kernel
theorem dX3_init_109 : decode cX3_init 109 = .ok (.return_, 1) := by decide +kernel
theorem dX3_size_0 : decode cX3_size 0 = .ok (.aload_n 0, 1) := by decide +kernel
theorem dX3_size_1 : decode cX3_size 1 = .ok (.getfield 28, 3) := by decide +kernel
theorem dX3_size_4 : decode cX3_size 4 = .ok (.ireturn, 1) := by decide +kernel
theorem dX3_has_0 : decode cX3_has 0 = .ok (.iload_n 1, 1) := by decide +kernel
theorem dX3_has_1 : decode cX3_has 1 = .ok (.ifCond .lt 15, 3) := by decide +kernel
theorem dX3_has_4 : decode cX3_has 4 = .ok (.iload_n 1, 1) := by decide +kernel
theorem dX3_has_5 : decode cX3_has 5 = .ok (.aload_n 0, 1) := by decide +kernel
theorem dX3_has_6 : decode cX3_has 6 = .ok (.getfield 28, 3) := by decide +kernel
theorem dX3_has_9 : decode cX3_has 9 = .ok (.if_icmp .ge 7, 3) := by decide +kernel
theorem dX3_has_12 : decode cX3_has 12 = .ok (.iconst 1, 1) := by decide +kernel
theorem dX3_has_13 : decode cX3_has 13 = .ok (.goto 4, 3) := by decide +kernel
theorem dX3_has_16 : decode cX3_has 16 = .ok (.iconst 0, 1) := by decide +kernel
theorem dX3_has_17 : decode cX3_has 17 = .ok (.ireturn, 1) := by decide +kernel
theorem dX3_isFull_0 : decode cX3_isFull 0 = .ok (.aload_n 0, 1) := by decide +kernel
theorem dX3_isFull_1 : decode cX3_isFull 1 = .ok (.getfield 28, 3) := by decide +kernel
theorem dX3_isFull_4 : decode cX3_isFull 4 = .ok (.bipush 40, 2) := by decide +kernel
theorem dX3_isFull_6 : decode cX3_isFull 6 = .ok (.if_icmp .lt 7, 3) := by decide +kernel
theorem dX3_isFull_9 : decode cX3_isFull 9 = .ok (.iconst 1, 1) := by decide +kernel
theorem dX3_isFull_10 : decode cX3_isFull 10 = .ok (.goto 4, 3) := by decide +kernel
theorem dX3_isFull_13 : decode cX3_isFull 13 = .ok (.iconst 0, 1) := by decide +kernel
theorem dX3_isFull_14 : decode cX3_isFull 14 = .ok (.ireturn, 1) := by decide +kernel
theorem dX3_stateOf_0 : decode cX3_stateOf 0 = .ok (.aload_n 0, 1) := by decide +kernel
theorem dX3_stateOf_1 : decode cX3_stateOf 1 = .ok (.getfield 9, 3) := by decide +kernel
theorem dX3_stateOf_4 : decode cX3_stateOf 4 = .ok (.iload_n 1, 1) := by decide +kernel
theorem dX3_stateOf_5 : decode cX3_stateOf 5 = .ok (.iaload, 1) := by decide +kernel
theorem dX3_stateOf_6 : decode cX3_stateOf 6 = .ok (.ireturn, 1) := by decide +kernel
theorem dX3_numberOf_0 : decode cX3_numberOf 0 = .ok (.aload_n 0, 1) := by decide +kernel
theorem dX3_numberOf_1 : decode cX3_numberOf 1 = .ok (.getfield 15, 3) := by decide +kernel
theorem dX3_numberOf_4 : decode cX3_numberOf 4 = .ok (.iload_n 1, 1) := by decide +kernel
theorem dX3_numberOf_5 : decode cX3_numberOf 5 = .ok (.iaload, 1) := by decide +kernel
theorem dX3_numberOf_6 : decode cX3_numberOf 6 = .ok (.ireturn, 1) := by decide +kernel
theorem dX3_stateWithFlags_0 : decode cX3_stateWithFlags 0 = .ok (.aload_n 0, 1) := by decide +kernel
theorem dX3_stateWithFlags_1 : decode cX3_stateWithFlags 1 = .ok (.getfield 9, 3) := by decide +kernel
theorem dX3_stateWithFlags_4 : decode cX3_stateWithFlags 4 = .ok (.iload_n 1, 1) := by decide +kernel
theorem dX3_stateWithFlags_5 : decode cX3_stateWithFlags 5 = .ok (.iaload, 1) := by decide +kernel
theorem dX3_stateWithFlags_6 : decode cX3_stateWithFlags 6 = .ok (.aload_n 0, 1) := by decide +kernel
theorem dX3_stateWithFlags_7 : decode cX3_stateWithFlags 7 = .ok (.getfield 18, 3) := by decide +kernel
theorem dX3_stateWithFlags_10 : decode cX3_stateWithFlags 10 = .ok (.iload_n 1, 1) := by decide +kernel
theorem dX3_stateWithFlags_11 : decode cX3_stateWithFlags 11 = .ok (.baload, 1) := by decide +kernel
theorem dX3_stateWithFlags_12 : decode cX3_stateWithFlags 12 = .ok (.ifCond .eq 7, 3) := by decide +kernel
theorem dX3_stateWithFlags_15 : decode cX3_stateWithFlags 15 = .ok (.iconst 4, 1) := by decide +kernel
theorem dX3_stateWithFlags_16 : decode cX3_stateWithFlags 16 = .ok (.goto 4, 3) := by decide +kernel
theorem dX3_stateWithFlags_19 : decode cX3_stateWithFlags 19 = .ok (.iconst 0, 1) := by decide +kernel
theorem dX3_stateWithFlags_20 : decode cX3_stateWithFlags 20 = .ok (.iadd, 1) := by decide +kernel
theorem dX3_stateWithFlags_21 : decode cX3_stateWithFlags 21 = .ok (.aload_n 0, 1) := by decide +kernel
theorem dX3_stateWithFlags_22 : decode cX3_stateWithFlags 22 = .ok (.getfield 22, 3) := by decide +kernel
theorem dX3_stateWithFlags_25 : decode cX3_stateWithFlags 25 = .ok (.iload_n 1, 1) := by decide +kernel
theorem dX3_stateWithFlags_26 : decode cX3_stateWithFlags 26 = .ok (.baload, 1) := by decide +kernel
theorem dX3_stateWithFlags_27 : decode cX3_stateWithFlags 27 = .ok (.ifCond .eq 8, 3) := by decide +kernel
theorem dX3_stateWithFlags_30 : decode cX3_stateWithFlags 30 = .ok (.bipush 8, 2) := by decide +kernel
theorem dX3_stateWithFlags_32 : decode cX3_stateWithFlags 32 = .ok (.goto 4, 3) := by decide +kernel
theorem dX3_stateWithFlags_35 : decode cX3_stateWithFlags 35 = .ok (.iconst 0, 1) := by decide +kernel
theorem dX3_stateWithFlags_36 : decode cX3_stateWithFlags 36 = .ok (.iadd, 1) := by decide +kernel
theorem dX3_stateWithFlags_37 : decode cX3_stateWithFlags 37 = .ok (.ireturn, 1) := by decide +kernel
theorem dX3_sourceOf_0 : decode cX3_sourceOf 0 = .ok (.aload_n 0, 1) := by decide +kernel
theorem dX3_sourceOf_1 : decode cX3_sourceOf 1 = .ok (.getfield 38, 3) := by decide +kernel
theorem dX3_sourceOf_4 : decode cX3_sourceOf 4 = .ok (.iload_n 1, 1) := by decide +kernel
theorem dX3_sourceOf_5 : decode cX3_sourceOf 5 = .ok (.iaload, 1) := by decide +kernel
theorem dX3_sourceOf_6 : decode cX3_sourceOf 6 = .ok (.ireturn, 1) := by decide +kernel
theorem dX3_targetOf_0 : decode cX3_targetOf 0 = .ok (.aload_n 0, 1) := by decide +kernel
theorem dX3_targetOf_1 : decode cX3_targetOf 1 = .ok (.getfield 41, 3) := by decide +kernel
theorem dX3_targetOf_4 : decode cX3_targetOf 4 = .ok (.iload_n 1, 1) := by decide +kernel
theorem dX3_targetOf_5 : decode cX3_targetOf 5 = .ok (.iaload, 1) := by decide +kernel
theorem dX3_targetOf_6 : decode cX3_targetOf 6 = .ok (.ireturn, 1) := by decide +kernel
theorem dX3_functionOf_0 : decode cX3_functionOf 0 = .ok (.aload_n 0, 1) := by decide +kernel
theorem dX3_functionOf_1 : decode cX3_functionOf 1 = .ok (.getfield 9, 3) := by decide +kernel
theorem dX3_functionOf_4 : decode cX3_functionOf 4 = .ok (.aload_n 0, 1) := by decide +kernel
theorem dX3_functionOf_5 : decode cX3_functionOf 5 = .ok (.getfield 38, 3) := by decide +kernel
theorem dX3_functionOf_8 : decode cX3_functionOf 8 = .ok (.iload_n 1, 1) := by decide +kernel
theorem dX3_functionOf_9 : decode cX3_functionOf 9 = .ok (.iaload, 1) := by decide +kernel
theorem dX3_functionOf_10 : decode cX3_functionOf 10 = .ok (.iaload, 1) := by decide +kernel
theorem dX3_functionOf_11 : decode cX3_functionOf 11 = .ok (.iconst 1, 1) := by decide +kernel
theorem dX3_functionOf_12 : decode cX3_functionOf 12 = .ok (.if_icmp .ne 7, 3) := by decide +kernel
theorem dX3_functionOf_15 : decode cX3_functionOf 15 = .ok (.iconst 1, 1) := by decide +kernel
theorem dX3_functionOf_16 : decode cX3_functionOf 16 = .ok (.goto 4, 3) := by decide +kernel
theorem dX3_functionOf_19 : decode cX3_functionOf 19 = .ok (.iconst 0, 1) := by decide +kernel
theorem dX3_functionOf_20 : decode cX3_functionOf 20 = .ok (.istore_n 2, 1) := by decide +kernel
theorem dX3_functionOf_21 : decode cX3_functionOf 21 = .ok (.iload_n 2, 1) := by decide +kernel
theorem dX3_functionOf_22 : decode cX3_functionOf 22 = .ok (.ifCond .eq 12, 3) := by decide +kernel
theorem dX3_functionOf_25 : decode cX3_functionOf 25 = .ok (.aload_n 0, 1) := by decide +kernel
theorem dX3_functionOf_26 : decode cX3_functionOf 26 = .ok (.getfield 44, 3) := by decide +kernel
theorem dX3_functionOf_29 : decode cX3_functionOf 29 = .ok (.iload_n 1, 1) := by decide +kernel
theorem dX3_functionOf_30 : decode cX3_functionOf 30 = .ok (.iaload, 1) := by decide +kernel
theorem dX3_functionOf_31 : decode cX3_functionOf 31 = .ok (.goto 9, 3) := by decide +kernel
theorem dX3_functionOf_34 : decode cX3_functionOf 34 = .ok (.aload_n 0, 1) := by decide +kernel
theorem dX3_functionOf_35 : decode cX3_functionOf 35 = .ok (.getfield 47, 3) := by decide +kernel
theorem dX3_functionOf_38 : decode cX3_functionOf 38 = .ok (.iload_n 1, 1) := by decide +kernel
theorem dX3_functionOf_39 : decode cX3_functionOf 39 = .ok (.iaload, 1) := by decide +kernel
theorem dX3_functionOf_40 : decode cX3_functionOf 40 = .ok (.ireturn, 1) := by decide +kernel
theorem dX3_make_0 : decode cX3_make 0 = .ok (.aload_n 0, 1) := by decide +kernel
theorem dX3_make_1 : decode cX3_make 1 = .ok (.getfield 28, 3) := by decide +kernel
theorem dX3_make_4 : decode cX3_make 4 = .ok (.bipush 40, 2) := by decide +kernel
theorem dX3_make_6 : decode cX3_make 6 = .ok (.if_icmp .lt 5, 3) := by decide +kernel
theorem dX3_make_9 : decode cX3_make 9 = .ok (.iconst (-1), 1) := by decide +kernel
theorem dX3_make_10 : decode cX3_make 10 = .ok (.ireturn, 1) := by decide +kernel
theorem dX3_make_11 : decode cX3_make 11 = .ok (.aload_n 0, 1) := by decide +kernel
theorem dX3_make_12 : decode cX3_make 12 = .ok (.dup, 1) := by decide +kernel
theorem dX3_make_13 : decode cX3_make 13 = .ok (.getfield 28, 3) := by decide +kernel
theorem dX3_make_16 : decode cX3_make 16 = .ok (.iconst 1, 1) := by decide +kernel
theorem dX3_make_17 : decode cX3_make 17 = .ok (.iadd, 1) := by decide +kernel
theorem dX3_make_18 : decode cX3_make 18 = .ok (.putfield 28, 3) := by decide +kernel
theorem dX3_make_21 : decode cX3_make 21 = .ok (.aload_n 0, 1) := by decide +kernel
theorem dX3_make_22 : decode cX3_make 22 = .ok (.getfield 28, 3) := by decide +kernel
theorem dX3_make_25 : decode cX3_make 25 = .ok (.iconst 1, 1) := by decide +kernel
theorem dX3_make_26 : decode cX3_make 26 = .ok (.isub, 1) := by decide +kernel
theorem dX3_make_27 : decode cX3_make 27 = .ok (.ireturn, 1) := by decide +kernel
theorem dX3_resolveOrReject_0 : decode cX3_resolveOrReject 0 = .ok (.aload_n 0, 1) := by decide +kernel
theorem dX3_resolveOrReject_1 : decode cX3_resolveOrReject 1 = .ok (.iload_n 1, 1) := by decide +kernel
theorem dX3_resolveOrReject_2 : decode cX3_resolveOrReject 2 = .ok (.invokevirtual 61, 3) := by decide +kernel
theorem dX3_resolveOrReject_5 : decode cX3_resolveOrReject 5 = .ok (.ifCond .eq 26, 3) := by decide +kernel
theorem dX3_resolveOrReject_8 : decode cX3_resolveOrReject 8 = .ok (.aload_n 0, 1) := by decide +kernel
theorem dX3_resolveOrReject_9 : decode cX3_resolveOrReject 9 = .ok (.getfield 18, 3) := by decide +kernel
theorem dX3_resolveOrReject_12 : decode cX3_resolveOrReject 12 = .ok (.iload_n 1, 1) := by decide +kernel
theorem dX3_resolveOrReject_13 : decode cX3_resolveOrReject 13 = .ok (.baload, 1) := by decide +kernel
theorem dX3_resolveOrReject_14 : decode cX3_resolveOrReject 14 = .ok (.ifCond .ne 17, 3) := by decide +kernel
theorem dX3_resolveOrReject_17 : decode cX3_resolveOrReject 17 = .ok (.aload_n 0, 1) := by decide +kernel
theorem dX3_resolveOrReject_18 : decode cX3_resolveOrReject 18 = .ok (.getfield 18, 3) := by decide +kernel
theorem dX3_resolveOrReject_21 : decode cX3_resolveOrReject 21 = .ok (.iload_n 1, 1) := by decide +kernel
theorem dX3_resolveOrReject_22 : decode cX3_resolveOrReject 22 = .ok (.iconst 1, 1) := by decide +kernel
theorem dX3_resolveOrReject_23 : decode cX3_resolveOrReject 23 = .ok (.bastore, 1) := by decide +kernel
theorem dX3_resolveOrReject_24 : decode cX3_resolveOrReject 24 = .ok (.aload_n 0, 1) := by decide +kernel
theorem dX3_resolveOrReject_25 : decode cX3_resolveOrReject 25 = .ok (.iload_n 1, 1) := by decide +kernel
theorem dX3_resolveOrReject_26 : decode cX3_resolveOrReject 26 = .ok (.iload_n 2, 1) := by decide +kernel
theorem dX3_resolveOrReject_27 : decode cX3_resolveOrReject 27 = .ok (.iload_n 3, 1) := by decide +kernel
theorem dX3_resolveOrReject_28 : decode cX3_resolveOrReject 28 = .ok (.invokevirtual 65, 3) := by decide +kernel
theorem dX3_resolveOrReject_31 : decode cX3_resolveOrReject 31 = .ok (.return_, 1) := by decide +kernel
theorem dX3_follow_0 : decode cX3_follow 0 = .ok (.aload_n 0, 1) := by decide +kernel
theorem dX3_follow_1 : decode cX3_follow 1 = .ok (.iload_n 1, 1) := by decide +kernel
theorem dX3_follow_2 : decode cX3_follow 2 = .ok (.invokevirtual 61, 3) := by decide +kernel
theorem dX3_follow_5 : decode cX3_follow 5 = .ok (.ifCond .eq 20, 3) := by decide +kernel
theorem dX3_follow_8 : decode cX3_follow 8 = .ok (.aload_n 0, 1) := by decide +kernel
theorem dX3_follow_9 : decode cX3_follow 9 = .ok (.iload_n 2, 1) := by decide +kernel
theorem dX3_follow_10 : decode cX3_follow 10 = .ok (.invokevirtual 61, 3) := by decide +kernel
theorem dX3_follow_13 : decode cX3_follow 13 = .ok (.ifCond .eq 12, 3) := by decide +kernel
theorem dX3_follow_16 : decode cX3_follow 16 = .ok (.aload_n 0, 1) := by decide +kernel
theorem dX3_follow_17 : decode cX3_follow 17 = .ok (.getfield 18, 3) := by decide +kernel
theorem dX3_follow_20 : decode cX3_follow 20 = .ok (.iload_n 1, 1) := by decide +kernel
theorem dX3_follow_21 : decode cX3_follow 21 = .ok (.baload, 1) := by decide +kernel
theorem dX3_follow_22 : decode cX3_follow 22 = .ok (.ifCond .eq 4, 3) := by decide +kernel
theorem dX3_follow_25 : decode cX3_follow 25 = .ok (.return_, 1) := by decide +kernel
theorem dX3_follow_26 : decode cX3_follow 26 = .ok (.aload_n 0, 1) := by decide +kernel
theorem dX3_follow_27 : decode cX3_follow 27 = .ok (.getfield 18, 3) := by decide +kernel
theorem dX3_follow_30 : decode cX3_follow 30 = .ok (.iload_n 1, 1) := by decide +kernel
theorem dX3_follow_31 : decode cX3_follow 31 = .ok (.iconst 1, 1) := by decide +kernel
theorem dX3_follow_32 : decode cX3_follow 32 = .ok (.bastore, 1) := by decide +kernel
theorem dX3_follow_33 : decode cX3_follow 33 = .ok (.iload_n 1, 1) := by decide +kernel
theorem dX3_follow_34 : decode cX3_follow 34 = .ok (.iload_n 2, 1) := by decide +kernel
theorem dX3_follow_35 : decode cX3_follow 35 = .ok (.if_icmp .ne 14, 3) := by decide +kernel
theorem dX3_follow_38 : decode cX3_follow 38 = .ok (.aload_n 0, 1) := by decide +kernel
theorem dX3_follow_39 : decode cX3_follow 39 = .ok (.iload_n 1, 1) := by decide +kernel
theorem dX3_follow_40 : decode cX3_follow 40 = .ok (.iconst 2, 1) := by decide +kernel
theorem dX3_follow_41 : decode cX3_follow 41 = .ok (.bipush (-3), 2) := by decide +kernel
theorem dX3_follow_43 : decode cX3_follow 43 = .ok (.invokevirtual 65, 3) := by decide +kernel
theorem dX3_follow_46 : decode cX3_follow 46 = .ok (.goto 13, 3) := by decide +kernel
theorem dX3_follow_49 : decode cX3_follow 49 = .ok (.aload_n 0, 1) := by decide +kernel
theorem dX3_follow_50 : decode cX3_follow 50 = .ok (.getfield 53, 3) := by decide +kernel
theorem dX3_follow_53 : decode cX3_follow 53 = .ok (.iconst 3, 1) := by decide +kernel
theorem dX3_follow_54 : decode cX3_follow 54 = .ok (.iload_n 1, 1) := by decide +kernel
theorem dX3_follow_55 : decode cX3_follow 55 = .ok (.iload_n 2, 1) := by decide +kernel
theorem dX3_follow_56 : decode cX3_follow 56 = .ok (.invokevirtual 69, 3) := by decide +kernel
theorem dX3_follow_59 : decode cX3_follow 59 = .ok (.return_, 1) := by decide +kernel
theorem dX3_settle_0 : decode cX3_settle 0 = .ok (.aload_n 0, 1) := by decide +kernel
theorem dX3_settle_1 : decode cX3_settle 1 = .ok (.getfield 9, 3) := by decide +kernel
theorem dX3_settle_4 : decode cX3_settle 4 = .ok (.iload_n 1, 1) := by decide +kernel
theorem dX3_settle_5 : decode cX3_settle 5 = .ok (.iload_n 2, 1) := by decide +kernel
theorem dX3_settle_6 : decode cX3_settle 6 = .ok (.iastore, 1) := by decide +kernel
theorem dX3_settle_7 : decode cX3_settle 7 = .ok (.aload_n 0, 1) := by decide +kernel
theorem dX3_settle_8 : decode cX3_settle 8 = .ok (.getfield 15, 3) := by decide +kernel
theorem dX3_settle_11 : decode cX3_settle 11 = .ok (.iload_n 1, 1) := by decide +kernel
theorem dX3_settle_12 : decode cX3_settle 12 = .ok (.iload_n 3, 1) := by decide +kernel
theorem dX3_settle_13 : decode cX3_settle 13 = .ok (.iastore, 1) := by decide +kernel
theorem dX3_settle_14 : decode cX3_settle 14 = .ok (.iconst 0, 1) := by decide +kernel
theorem dX3_settle_15 : decode cX3_settle 15 = .ok (.istore 4, 2) := by decide +kernel
theorem dX3_settle_17 : decode cX3_settle 17 = .ok (.iload 4, 2) := by decide +kernel
theorem dX3_settle_19 : decode cX3_settle 19 = .ok (.aload_n 0, 1) := by decide +kernel
theorem dX3_settle_20 : decode cX3_settle 20 = .ok (.getfield 50, 3) := by decide +kernel
theorem dX3_settle_23 : decode cX3_settle 23 = .ok (.if_icmp .ge 31, 3) := by decide +kernel
theorem dX3_settle_26 : decode cX3_settle 26 = .ok (.aload_n 0, 1) := by decide +kernel
theorem dX3_settle_27 : decode cX3_settle 27 = .ok (.getfield 38, 3) := by decide +kernel
theorem dX3_settle_30 : decode cX3_settle 30 = .ok (.iload 4, 2) := by decide +kernel
theorem dX3_settle_32 : decode cX3_settle 32 = .ok (.iaload, 1) := by decide +kernel
theorem dX3_settle_33 : decode cX3_settle 33 = .ok (.iload_n 1, 1) := by decide +kernel
theorem dX3_settle_34 : decode cX3_settle 34 = .ok (.if_icmp .ne 14, 3) := by decide +kernel
theorem dX3_settle_37 : decode cX3_settle 37 = .ok (.aload_n 0, 1) := by decide +kernel
theorem dX3_settle_38 : decode cX3_settle 38 = .ok (.getfield 53, 3) := by decide +kernel
theorem dX3_settle_41 : decode cX3_settle 41 = .ok (.iconst 2, 1) := by decide +kernel
theorem dX3_settle_42 : decode cX3_settle 42 = .ok (.iload 4, 2) := by decide +kernel
theorem dX3_settle_44 : decode cX3_settle 44 = .ok (.iconst 0, 1) := by decide +kernel
theorem dX3_settle_45 : decode cX3_settle 45 = .ok (.invokevirtual 69, 3) := by decide +kernel
theorem dX3_settle_48 : decode cX3_settle 48 = .ok (.iinc 4 1, 3) := by decide +kernel
theorem dX3_settle_51 : decode cX3_settle 51 = .ok (.goto (-34), 3) := by decide +kernel
theorem dX3_settle_54 : decode cX3_settle 54 = .ok (.iload_n 2, 1) := by decide +kernel
theorem dX3_settle_55 : decode cX3_settle 55 = .ok (.iconst 2, 1) := by decide +kernel
theorem dX3_settle_56 : decode cX3_settle 56 = .ok (.if_icmp .ne 41, 3) := by decide +kernel
theorem dX3_settle_59 : decode cX3_settle 59 = .ok (.aload_n 0, 1) := by decide +kernel
theorem dX3_settle_60 : decode cX3_settle 60 = .ok (.getfield 22, 3) := by decide +kernel
theorem dX3_settle_63 : decode cX3_settle 63 = .ok (.iload_n 1, 1) := by decide +kernel
theorem dX3_settle_64 : decode cX3_settle 64 = .ok (.baload, 1) := by decide +kernel
theorem dX3_settle_65 : decode cX3_settle 65 = .ok (.ifCond .ne 32, 3) := by decide +kernel
theorem dX3_settle_68 : decode cX3_settle 68 = .ok (.aload_n 0, 1) := by decide +kernel
theorem dX3_settle_69 : decode cX3_settle 69 = .ok (.getfield 35, 3) := by decide +kernel
theorem dX3_settle_72 : decode cX3_settle 72 = .ok (.bipush 40, 2) := by decide +kernel
theorem dX3_settle_74 : decode cX3_settle 74 = .ok (.if_icmp .ge 23, 3) := by decide +kernel
theorem dX3_settle_77 : decode cX3_settle 77 = .ok (.aload_n 0, 1) := by decide +kernel
theorem dX3_settle_78 : decode cX3_settle 78 = .ok (.getfield 32, 3) := by decide +kernel
theorem dX3_settle_81 : decode cX3_settle 81 = .ok (.aload_n 0, 1) := by decide +kernel
theorem dX3_settle_82 : decode cX3_settle 82 = .ok (.getfield 35, 3) := by decide +kernel
theorem dX3_settle_85 : decode cX3_settle 85 = .ok (.iload_n 1, 1) := by decide +kernel
theorem dX3_settle_86 : decode cX3_settle 86 = .ok (.iastore, 1) := by decide +kernel
theorem dX3_settle_87 : decode cX3_settle 87 = .ok (.aload_n 0, 1) := by decide +kernel
theorem dX3_settle_88 : decode cX3_settle 88 = .ok (.dup, 1) := by decide +kernel
theorem dX3_settle_89 : decode cX3_settle 89 = .ok (.getfield 35, 3) := by decide +kernel
theorem dX3_settle_92 : decode cX3_settle 92 = .ok (.iconst 1, 1) := by decide +kernel
theorem dX3_settle_93 : decode cX3_settle 93 = .ok (.iadd, 1) := by decide +kernel
theorem dX3_settle_94 : decode cX3_settle 94 = .ok (.putfield 35, 3) := by decide +kernel
theorem dX3_settle_97 : decode cX3_settle 97 = .ok (.return_, 1) := by decide +kernel
theorem dX3_react_0 : decode cX3_react 0 = .ok (.aload_n 0, 1) := by decide +kernel
theorem dX3_react_1 : decode cX3_react 1 = .ok (.iload_n 1, 1) := by decide +kernel
theorem dX3_react_2 : decode cX3_react 2 = .ok (.invokevirtual 61, 3) := by decide +kernel
theorem dX3_react_5 : decode cX3_react 5 = .ok (.ifCond .eq 12, 3) := by decide +kernel
theorem dX3_react_8 : decode cX3_react 8 = .ok (.aload_n 0, 1) := by decide +kernel
theorem dX3_react_9 : decode cX3_react 9 = .ok (.getfield 50, 3) := by decide +kernel
theorem dX3_react_12 : decode cX3_react 12 = .ok (.bipush 80, 2) := by decide +kernel
theorem dX3_react_14 : decode cX3_react 14 = .ok (.if_icmp .lt 4, 3) := by decide +kernel
theorem dX3_react_17 : decode cX3_react 17 = .ok (.return_, 1) := by decide +kernel
theorem dX3_react_18 : decode cX3_react 18 = .ok (.aload_n 0, 1) := by decide +kernel
theorem dX3_react_19 : decode cX3_react 19 = .ok (.getfield 25, 3) := by decide +kernel
theorem dX3_react_22 : decode cX3_react 22 = .ok (.iload_n 1, 1) := by decide +kernel
theorem dX3_react_23 : decode cX3_react 23 = .ok (.baload, 1) := by decide +kernel
theorem dX3_react_24 : decode cX3_react 24 = .ok (.ifCond .eq 24, 3) := by decide +kernel
theorem dX3_react_27 : decode cX3_react 27 = .ok (.aload_n 0, 1) := by decide +kernel
theorem dX3_react_28 : decode cX3_react 28 = .ok (.getfield 22, 3) := by decide +kernel
theorem dX3_react_31 : decode cX3_react 31 = .ok (.iload_n 1, 1) := by decide +kernel
theorem dX3_react_32 : decode cX3_react 32 = .ok (.baload, 1) := by decide +kernel
theorem dX3_react_33 : decode cX3_react 33 = .ok (.ifCond .ne 15, 3) := by decide +kernel
theorem dX3_react_36 : decode cX3_react 36 = .ok (.aload_n 0, 1) := by decide +kernel
theorem dX3_react_37 : decode cX3_react 37 = .ok (.getfield 57, 3) := by decide +kernel
theorem dX3_react_40 : decode cX3_react 40 = .ok (.sipush 30000, 3) := by decide +kernel
theorem dX3_react_43 : decode cX3_react 43 = .ok (.iload_n 1, 1) := by decide +kernel
theorem dX3_react_44 : decode cX3_react 44 = .ok (.iadd, 1) := by decide +kernel
theorem dX3_react_45 : decode cX3_react 45 = .ok (.invokevirtual 74, 3) := by decide +kernel
theorem dX3_react_48 : decode cX3_react 48 = .ok (.aload_n 0, 1) := by decide +kernel
theorem dX3_react_49 : decode cX3_react 49 = .ok (.getfield 22, 3) := by decide +kernel
theorem dX3_react_52 : decode cX3_react 52 = .ok (.iload_n 1, 1) := by decide +kernel
theorem dX3_react_53 : decode cX3_react 53 = .ok (.iconst 1, 1) := by decide +kernel
theorem dX3_react_54 : decode cX3_react 54 = .ok (.bastore, 1) := by decide +kernel
theorem dX3_react_55 : decode cX3_react 55 = .ok (.aload_n 0, 1) := by decide +kernel
theorem dX3_react_56 : decode cX3_react 56 = .ok (.getfield 38, 3) := by decide +kernel
theorem dX3_react_59 : decode cX3_react 59 = .ok (.aload_n 0, 1) := by decide +kernel
theorem dX3_react_60 : decode cX3_react 60 = .ok (.getfield 50, 3) := by decide +kernel
theorem dX3_react_63 : decode cX3_react 63 = .ok (.iload_n 1, 1) := by decide +kernel
theorem dX3_react_64 : decode cX3_react 64 = .ok (.iastore, 1) := by decide +kernel
theorem dX3_react_65 : decode cX3_react 65 = .ok (.aload_n 0, 1) := by decide +kernel
theorem dX3_react_66 : decode cX3_react 66 = .ok (.getfield 41, 3) := by decide +kernel
theorem dX3_react_69 : decode cX3_react 69 = .ok (.aload_n 0, 1) := by decide +kernel
theorem dX3_react_70 : decode cX3_react 70 = .ok (.getfield 50, 3) := by decide +kernel
theorem dX3_react_73 : decode cX3_react 73 = .ok (.iload 4, 2) := by decide +kernel
theorem dX3_react_75 : decode cX3_react 75 = .ok (.iastore, 1) := by decide +kernel
theorem dX3_react_76 : decode cX3_react 76 = .ok (.aload_n 0, 1) := by decide +kernel
theorem dX3_react_77 : decode cX3_react 77 = .ok (.getfield 44, 3) := by decide +kernel
theorem dX3_react_80 : decode cX3_react 80 = .ok (.aload_n 0, 1) := by decide +kernel
theorem dX3_react_81 : decode cX3_react 81 = .ok (.getfield 50, 3) := by decide +kernel
theorem dX3_react_84 : decode cX3_react 84 = .ok (.iload_n 2, 1) := by decide +kernel
theorem dX3_react_85 : decode cX3_react 85 = .ok (.iastore, 1) := by decide +kernel
theorem dX3_react_86 : decode cX3_react 86 = .ok (.aload_n 0, 1) := by decide +kernel
theorem dX3_react_87 : decode cX3_react 87 = .ok (.getfield 47, 3) := by decide +kernel
theorem dX3_react_90 : decode cX3_react 90 = .ok (.aload_n 0, 1) := by decide +kernel
theorem dX3_react_91 : decode cX3_react 91 = .ok (.getfield 50, 3) := by decide +kernel
theorem dX3_react_94 : decode cX3_react 94 = .ok (.iload_n 3, 1) := by decide +kernel
theorem dX3_react_95 : decode cX3_react 95 = .ok (.iastore, 1) := by decide +kernel
theorem dX3_react_96 : decode cX3_react 96 = .ok (.aload_n 0, 1) := by decide +kernel
theorem dX3_react_97 : decode cX3_react 97 = .ok (.getfield 9, 3) := by decide +kernel
theorem dX3_react_100 : decode cX3_react 100 = .ok (.iload_n 1, 1) := by decide +kernel
theorem dX3_react_101 : decode cX3_react 101 = .ok (.iaload, 1) := by decide +kernel
theorem dX3_react_102 : decode cX3_react 102 = .ok (.ifCond .eq 16, 3) := by decide +kernel
theorem dX3_react_105 : decode cX3_react 105 = .ok (.aload_n 0, 1) := by decide +kernel
theorem dX3_react_106 : decode cX3_react 106 = .ok (.getfield 53, 3) := by decide +kernel
theorem dX3_react_109 : decode cX3_react 109 = .ok (.iconst 2, 1) := by decide +kernel
theorem dX3_react_110 : decode cX3_react 110 = .ok (.aload_n 0, 1) := by decide +kernel
theorem dX3_react_111 : decode cX3_react 111 = .ok (.getfield 50, 3) := by decide +kernel
theorem dX3_react_114 : decode cX3_react 114 = .ok (.iconst 0, 1) := by decide +kernel
theorem dX3_react_115 : decode cX3_react 115 = .ok (.invokevirtual 69, 3) := by decide +kernel
theorem dX3_react_118 : decode cX3_react 118 = .ok (.aload_n 0, 1) := by decide +kernel
theorem dX3_react_119 : decode cX3_react 119 = .ok (.dup, 1) := by decide +kernel
theorem dX3_react_120 : decode cX3_react 120 = .ok (.getfield 50, 3) := by decide +kernel
theorem dX3_react_123 : decode cX3_react 123 = .ok (.iconst 1, 1) := by decide +kernel
theorem dX3_react_124 : decode cX3_react 124 = .ok (.iadd, 1) := by decide +kernel
theorem dX3_react_125 : decode cX3_react 125 = .ok (.putfield 50, 3) := by decide +kernel
theorem dX3_react_128 : decode cX3_react 128 = .ok (.return_, 1) := by decide +kernel
theorem dX3_reportUnhandled_0 : decode cX3_reportUnhandled 0 = .ok (.iconst 0, 1) := by decide +kernel
theorem dX3_reportUnhandled_1 : decode cX3_reportUnhandled 1 = .ok (.istore_n 1, 1) := by decide +kernel
theorem dX3_reportUnhandled_2 : decode cX3_reportUnhandled 2 = .ok (.iload_n 1, 1) := by decide +kernel
theorem dX3_reportUnhandled_3 : decode cX3_reportUnhandled 3 = .ok (.aload_n 0, 1) := by decide +kernel
theorem dX3_reportUnhandled_4 : decode cX3_reportUnhandled 4 = .ok (.getfield 35, 3) := by decide +kernel
theorem dX3_reportUnhandled_7 : decode cX3_reportUnhandled 7 = .ok (.if_icmp .ge 44, 3) := by decide +kernel
theorem dX3_reportUnhandled_10 : decode cX3_reportUnhandled 10 = .ok (.aload_n 0, 1) := by decide +kernel
theorem dX3_reportUnhandled_11 : decode cX3_reportUnhandled 11 = .ok (.getfield 32, 3) := by decide +kernel
theorem dX3_reportUnhandled_14 : decode cX3_reportUnhandled 14 = .ok (.iload_n 1, 1) := by decide +kernel
theorem dX3_reportUnhandled_15 : decode cX3_reportUnhandled 15 = .ok (.iaload, 1) := by decide +kernel
theorem dX3_reportUnhandled_16 : decode cX3_reportUnhandled 16 = .ok (.istore_n 2, 1) := by decide +kernel
theorem dX3_reportUnhandled_17 : decode cX3_reportUnhandled 17 = .ok (.aload_n 0, 1) := by decide +kernel
theorem dX3_reportUnhandled_18 : decode cX3_reportUnhandled 18 = .ok (.getfield 22, 3) := by decide +kernel
theorem dX3_reportUnhandled_21 : decode cX3_reportUnhandled 21 = .ok (.iload_n 2, 1) := by decide +kernel
theorem dX3_reportUnhandled_22 : decode cX3_reportUnhandled 22 = .ok (.baload, 1) := by decide +kernel
theorem dX3_reportUnhandled_23 : decode cX3_reportUnhandled 23 = .ok (.ifCond .ne 22, 3) := by decide +kernel
theorem dX3_reportUnhandled_26 : decode cX3_reportUnhandled 26 = .ok (.aload_n 0, 1) := by decide +kernel
theorem dX3_reportUnhandled_27 : decode cX3_reportUnhandled 27 = .ok (.getfield 25, 3) := by decide +kernel
theorem dX3_reportUnhandled_30 : decode cX3_reportUnhandled 30 = .ok (.iload_n 2, 1) := by decide +kernel
theorem dX3_reportUnhandled_31 : decode cX3_reportUnhandled 31 = .ok (.iconst 1, 1) := by decide +kernel
theorem dX3_reportUnhandled_32 : decode cX3_reportUnhandled 32 = .ok (.bastore, 1) := by decide +kernel
theorem dX3_reportUnhandled_33 : decode cX3_reportUnhandled 33 = .ok (.aload_n 0, 1) := by decide +kernel
theorem dX3_reportUnhandled_34 : decode cX3_reportUnhandled 34 = .ok (.getfield 57, 3) := by decide +kernel
theorem dX3_reportUnhandled_37 : decode cX3_reportUnhandled 37 = .ok (.sipush 20000, 3) := by decide +kernel
theorem dX3_reportUnhandled_40 : decode cX3_reportUnhandled 40 = .ok (.iload_n 2, 1) := by decide +kernel
theorem dX3_reportUnhandled_41 : decode cX3_reportUnhandled 41 = .ok (.iadd, 1) := by decide +kernel
theorem dX3_reportUnhandled_42 : decode cX3_reportUnhandled 42 = .ok (.invokevirtual 74, 3) := by decide +kernel
theorem dX3_reportUnhandled_45 : decode cX3_reportUnhandled 45 = .ok (.iinc 1 1, 3) := by decide +kernel
theorem dX3_reportUnhandled_48 : decode cX3_reportUnhandled 48 = .ok (.goto (-46), 3) := by decide +kernel
theorem dX3_reportUnhandled_51 : decode cX3_reportUnhandled 51 = .ok (.aload_n 0, 1) := by decide +kernel
theorem dX3_reportUnhandled_52 : decode cX3_reportUnhandled 52 = .ok (.iconst 0, 1) := by decide +kernel
theorem dX3_reportUnhandled_53 : decode cX3_reportUnhandled 53 = .ok (.putfield 35, 3) := by decide +kernel
theorem dX3_reportUnhandled_56 : decode cX3_reportUnhandled 56 = .ok (.return_, 1) := by decide +kernel
theorem dX4_init_0 : decode cX4_init 0 = .ok (.aload_n 0, 1) := by decide +kernel
theorem dX4_init_1 : decode cX4_init 1 = .ok (.invokespecial 3, 3) := by decide +kernel
theorem dX4_init_4 : decode cX4_init 4 = .ok (.aload_n 0, 1) := by decide +kernel
theorem dX4_init_5 : decode cX4_init 5 = .ok (.bipush 12, 2) := by decide +kernel
theorem dX4_init_7 : decode cX4_init 7 = .ok (.newarray .int, 2) := by decide +kernel
theorem dX4_init_9 : decode cX4_init 9 = .ok (.putfield 9, 3) := by decide +kernel
theorem dX4_init_12 : decode cX4_init 12 = .ok (.aload_n 0, 1) := by decide +kernel
theorem dX4_init_13 : decode cX4_init 13 = .ok (.bipush 12, 2) := by decide +kernel
theorem dX4_init_15 : decode cX4_init 15 = .ok (.newarray .int, 2) := by decide +kernel
theorem dX4_init_17 : decode cX4_init 17 = .ok (.putfield 15, 3) := by decide +kernel
theorem dX4_init_20 : decode cX4_init 20 = .ok (.aload_n 0, 1) := by decide +kernel
theorem dX4_init_21 : decode cX4_init 21 = .ok (.bipush 12, 2) := by decide +kernel
theorem dX4_init_23 : decode cX4_init 23 = .ok (.newarray .int, 2) := by decide +kernel
theorem dX4_init_25 : decode cX4_init 25 = .ok (.putfield 18, 3) := by decide +kernel
theorem dX4_init_28 : decode cX4_init 28 = .ok (.aload_n 0, 1) := by decide +kernel
theorem dX4_init_29 : decode cX4_init 29 = .ok (.bipush 12, 2) := by decide +kernel
theorem dX4_init_31 : decode cX4_init 31 = .ok (.newarray .int, 2) := by decide +kernel
theorem dX4_init_33 : decode cX4_init 33 = .ok (.putfield 21, 3) := by decide +kernel
theorem dX4_init_36 : decode cX4_init 36 = .ok (.aload_n 0, 1) := by decide +kernel
theorem dX4_init_37 : decode cX4_init 37 = .ok (.bipush 12, 2) := by decide +kernel
theorem dX4_init_39 : decode cX4_init 39 = .ok (.newarray .int, 2) := by decide +kernel
theorem dX4_init_41 : decode cX4_init 41 = .ok (.putfield 24, 3) := by decide +kernel
theorem dX4_init_44 : decode cX4_init 44 = .ok (.aload_n 0, 1) := by decide +kernel
theorem dX4_init_45 : decode cX4_init 45 = .ok (.bipush 12, 2) := by decide +kernel
theorem dX4_init_47 : decode cX4_init 47 = .ok (.newarray .int, 2) := by decide +kernel
theorem dX4_init_49 : decode cX4_init 49 = .ok (.putfield 27, 3) := by decide +kernel
theorem dX4_init_52 : decode cX4_init 52 = .ok (.aload_n 0, 1) := by decide +kernel
theorem dX4_init_53 : decode cX4_init 53 = .ok (.bipush 12, 2) := by decide +kernel
theorem dX4_init_55 : decode cX4_init 55 = .ok (.newarray .boolean, 2) := by decide +kernel
theorem dX4_init_57 : decode cX4_init 57 = .ok (.putfield 30, 3) := by decide +kernel
theorem dX4_init_60 : decode cX4_init 60 = .ok (.aload_n 0, 1) := by decide +kernel
theorem dX4_init_61 : decode cX4_init 61 = .ok (.bipush 12, 2) := by decide +kernel
theorem dX4_init_63 : decode cX4_init 63 = .ok (.newarray .boolean, 2) := by decide +kernel
theorem dX4_init_65 : decode cX4_init 65 = .ok (.putfield 34, 3) := by decide +kernel
theorem dX4_init_68 : decode cX4_init 68 = .ok (.aload_n 0, 1) := by decide +kernel
theorem dX4_init_69 : decode cX4_init 69 = .ok (.iconst 0, 1) := by decide +kernel
theorem dX4_init_70 : decode cX4_init 70 = .ok (.putfield 37, 3) := by decide +kernel
theorem dX4_init_73 : decode cX4_init 73 = .ok (.aload_n 0, 1) := by decide +kernel
theorem dX4_init_74 : decode cX4_init 74 = .ok (.iconst 0, 1) := by decide +kernel
theorem dX4_init_75 : decode cX4_init 75 = .ok (.putfield 41, 3) := by decide +kernel
theorem dX4_init_78 : decode cX4_init 78 = .ok (.return_, 1) := by decide +kernel
theorem dX4_size_0 : decode cX4_size 0 = .ok (.aload_n 0, 1) := by decide +kernel
theorem dX4_size_1 : decode cX4_size 1 = .ok (.getfield 41, 3) := by decide +kernel
theorem dX4_size_4 : decode cX4_size 4 = .ok (.ireturn, 1) := by decide +kernel
theorem dX4_isFull_0 : decode cX4_isFull 0 = .ok (.aload_n 0, 1) := by decide +kernel
theorem dX4_isFull_1 : decode cX4_isFull 1 = .ok (.getfield 41, 3) := by decide +kernel
theorem dX4_isFull_4 : decode cX4_isFull 4 = .ok (.bipush 12, 2) := by decide +kernel
theorem dX4_isFull_6 : decode cX4_isFull 6 = .ok (.if_icmp .lt 7, 3) := by decide +kernel
theorem dX4_isFull_9 : decode cX4_isFull 9 = .ok (.iconst 1, 1) := by decide +kernel
theorem dX4_isFull_10 : decode cX4_isFull 10 = .ok (.goto 4, 3) := by decide +kernel
theorem dX4_isFull_13 : decode cX4_isFull 13 = .ok (.iconst 0, 1) := by decide +kernel
theorem dX4_isFull_14 : decode cX4_isFull 14 = .ok (.ireturn, 1) := by decide +kernel
theorem dX4_find_0 : decode cX4_find 0 = .ok (.iload_n 1, 1) := by decide +kernel
theorem dX4_find_1 : decode cX4_find 1 = .ok (.ifCond .ne 5, 3) := by decide +kernel
theorem dX4_find_4 : decode cX4_find 4 = .ok (.iconst (-1), 1) := by decide +kernel
theorem dX4_find_5 : decode cX4_find 5 = .ok (.ireturn, 1) := by decide +kernel
theorem dX4_find_6 : decode cX4_find 6 = .ok (.iconst 0, 1) := by decide +kernel
theorem dX4_find_7 : decode cX4_find 7 = .ok (.istore_n 2, 1) := by decide +kernel
theorem dX4_find_8 : decode cX4_find 8 = .ok (.iload_n 2, 1) := by decide +kernel
theorem dX4_find_9 : decode cX4_find 9 = .ok (.bipush 12, 2) := by decide +kernel
theorem dX4_find_11 : decode cX4_find 11 = .ok (.if_icmp .ge 21, 3) := by decide +kernel
theorem dX4_find_14 : decode cX4_find 14 = .ok (.aload_n 0, 1) := by decide +kernel
theorem dX4_find_15 : decode cX4_find 15 = .ok (.getfield 9, 3) := by decide +kernel
theorem dX4_find_18 : decode cX4_find 18 = .ok (.iload_n 2, 1) := by decide +kernel
theorem dX4_find_19 : decode cX4_find 19 = .ok (.iaload, 1) := by decide +kernel
theorem dX4_find_20 : decode cX4_find 20 = .ok (.iload_n 1, 1) := by decide +kernel
theorem dX4_find_21 : decode cX4_find 21 = .ok (.if_icmp .ne 5, 3) := by decide +kernel
theorem dX4_find_24 : decode cX4_find 24 = .ok (.iload_n 2, 1) := by decide +kernel
theorem dX4_find_25 : decode cX4_find 25 = .ok (.ireturn, 1) := by decide +kernel
theorem dX4_find_26 : decode cX4_find 26 = .ok (.iinc 2 1, 3) := by decide +kernel
theorem dX4_find_29 : decode cX4_find 29 = .ok (.goto (-21), 3) := by decide +kernel
theorem dX4_find_32 : decode cX4_find 32 = .ok (.iconst (-1), 1) := by decide +kernel
theorem dX4_find_33 : decode cX4_find 33 = .ok (.ireturn, 1) := by decide +kernel
theorem dX4_functionAt_0 : decode cX4_functionAt 0 = .ok (.aload_n 0, 1) := by decide +kernel
theorem dX4_functionAt_1 : decode cX4_functionAt 1 = .ok (.getfield 15, 3) := by decide +kernel
theorem dX4_functionAt_4 : decode cX4_functionAt 4 = .ok (.iload_n 1, 1) := by decide +kernel
theorem dX4_functionAt_5 : decode cX4_functionAt 5 = .ok (.iaload, 1) := by decide +kernel
theorem dX4_functionAt_6 : decode cX4_functionAt 6 = .ok (.ireturn, 1) := by decide +kernel
theorem dX4_argumentAt_0 : decode cX4_argumentAt 0 = .ok (.aload_n 0, 1) := by decide +kernel
theorem dX4_argumentAt_1 : decode cX4_argumentAt 1 = .ok (.getfield 18, 3) := by decide +kernel
theorem dX4_argumentAt_4 : decode cX4_argumentAt 4 = .ok (.iload_n 1, 1) := by decide +kernel
theorem dX4_argumentAt_5 : decode cX4_argumentAt 5 = .ok (.iaload, 1) := by decide +kernel
theorem dX4_argumentAt_6 : decode cX4_argumentAt 6 = .ok (.ireturn, 1) := by decide +kernel
theorem dX4_levelAt_0 : decode cX4_levelAt 0 = .ok (.aload_n 0, 1) := by decide +kernel
theorem dX4_levelAt_1 : decode cX4_levelAt 1 = .ok (.getfield 24, 3) := by decide +kernel
theorem dX4_levelAt_4 : decode cX4_levelAt 4 = .ok (.iload_n 1, 1) := by decide +kernel
theorem dX4_levelAt_5 : decode cX4_levelAt 5 = .ok (.iaload, 1) := by decide +kernel
theorem dX4_levelAt_6 : decode cX4_levelAt 6 = .ok (.ireturn, 1) := by decide +kernel
theorem dX4_repeatsAt_0 : decode cX4_repeatsAt 0 = .ok (.aload_n 0, 1) := by decide +kernel
theorem dX4_repeatsAt_1 : decode cX4_repeatsAt 1 = .ok (.getfield 30, 3) := by decide +kernel
theorem dX4_repeatsAt_4 : decode cX4_repeatsAt 4 = .ok (.iload_n 1, 1) := by decide +kernel
theorem dX4_repeatsAt_5 : decode cX4_repeatsAt 5 = .ok (.baload, 1) := by decide +kernel
theorem dX4_repeatsAt_6 : decode cX4_repeatsAt 6 = .ok (.ireturn, 1) := by decide +kernel
theorem dX4_dueOf_0 : decode cX4_dueOf 0 = .ok (.aload_n 0, 1) := by decide +kernel
theorem dX4_dueOf_1 : decode cX4_dueOf 1 = .ok (.iload_n 1, 1) := by decide +kernel
theorem dX4_dueOf_2 : decode cX4_dueOf 2 = .ok (.invokevirtual 44, 3) := by decide +kernel
theorem dX4_dueOf_5 : decode cX4_dueOf 5 = .ok (.istore_n 2, 1) := by decide +kernel
theorem dX4_dueOf_6 : decode cX4_dueOf 6 = .ok (.iload_n 2, 1) := by decide +kernel
theorem dX4_dueOf_7 : decode cX4_dueOf 7 = .ok (.iconst (-1), 1) := by decide +kernel
theorem dX4_dueOf_8 : decode cX4_dueOf 8 = .ok (.if_icmp .ne 5, 3) := by decide +kernel
theorem dX4_dueOf_11 : decode cX4_dueOf 11 = .ok (.iconst (-1), 1) := by decide +kernel
theorem dX4_dueOf_12 : decode cX4_dueOf 12 = .ok (.ireturn, 1) := by decide +kernel
theorem dX4_dueOf_13 : decode cX4_dueOf 13 = .ok (.aload_n 0, 1) := by decide +kernel
theorem dX4_dueOf_14 : decode cX4_dueOf 14 = .ok (.getfield 34, 3) := by decide +kernel
theorem dX4_dueOf_17 : decode cX4_dueOf 17 = .ok (.iload_n 2, 1) := by decide +kernel
theorem dX4_dueOf_18 : decode cX4_dueOf 18 = .ok (.baload, 1) := by decide +kernel
theorem dX4_dueOf_19 : decode cX4_dueOf 19 = .ok (.ifCond .eq 8, 3) := by decide +kernel
theorem dX4_dueOf_22 : decode cX4_dueOf 22 = .ok (.bipush (-2), 2) := by decide +kernel
theorem dX4_dueOf_24 : decode cX4_dueOf 24 = .ok (.goto 9, 3) := by decide +kernel
theorem dX4_dueOf_27 : decode cX4_dueOf 27 = .ok (.aload_n 0, 1) := by decide +kernel
theorem dX4_dueOf_28 : decode cX4_dueOf 28 = .ok (.getfield 27, 3) := by decide +kernel
theorem dX4_dueOf_31 : decode cX4_dueOf 31 = .ok (.iload_n 2, 1) := by decide +kernel
theorem dX4_dueOf_32 : decode cX4_dueOf 32 = .ok (.iaload, 1) := by decide +kernel
theorem dX4_dueOf_33 : decode cX4_dueOf 33 = .ok (.ireturn, 1) := by decide +kernel
theorem dX4_make_0 : decode cX4_make 0 = .ok (.aload_n 0, 1) := by decide +kernel
theorem dX4_make_1 : decode cX4_make 1 = .ok (.invokevirtual 48, 3) := by decide +kernel
theorem dX4_make_4 : decode cX4_make 4 = .ok (.istore 7, 2) := by decide +kernel
theorem dX4_make_6 : decode cX4_make 6 = .ok (.iload 7, 2) := by decide +kernel
theorem dX4_make_8 : decode cX4_make 8 = .ok (.iconst (-1), 1) := by decide +kernel
theorem dX4_make_9 : decode cX4_make 9 = .ok (.if_icmp .ne 4, 3) := by decide +kernel
theorem dX4_make_12 : decode cX4_make 12 = .ok (.return_, 1) := by decide +kernel
theorem dX4_make_13 : decode cX4_make 13 = .ok (.aload_n 0, 1) := by decide +kernel
theorem dX4_make_14 : decode cX4_make 14 = .ok (.dup, 1) := by decide +kernel
theorem dX4_make_15 : decode cX4_make 15 = .ok (.getfield 37, 3) := by decide +kernel
theorem dX4_make_18 : decode cX4_make 18 = .ok (.iconst 1, 1) := by decide +kernel
theorem dX4_make_19 : decode cX4_make 19 = .ok (.iadd, 1) := by decide +kernel
theorem dX4_make_20 : decode cX4_make 20 = .ok (.putfield 37, 3) := by decide +kernel
theorem dX4_make_23 : decode cX4_make 23 = .ok (.aload_n 0, 1) := by decide +kernel
theorem dX4_make_24 : decode cX4_make 24 = .ok (.dup, 1) := by decide +kernel
theorem dX4_make_25 : decode cX4_make 25 = .ok (.getfield 41, 3) := by decide +kernel
theorem dX4_make_28 : decode cX4_make 28 = .ok (.iconst 1, 1) := by decide +kernel
theorem dX4_make_29 : decode cX4_make 29 = .ok (.iadd, 1) := by decide +kernel
theorem dX4_make_30 : decode cX4_make 30 = .ok (.putfield 41, 3) := by decide +kernel
theorem dX4_make_33 : decode cX4_make 33 = .ok (.aload_n 0, 1) := by decide +kernel
theorem dX4_make_34 : decode cX4_make 34 = .ok (.getfield 9, 3) := by decide +kernel
theorem dX4_make_37 : decode cX4_make 37 = .ok (.iload 7, 2) := by decide +kernel
theorem dX4_make_39 : decode cX4_make 39 = .ok (.aload_n 0, 1) := by decide +kernel
theorem dX4_make_40 : decode cX4_make 40 = .ok (.getfield 37, 3) := by decide +kernel
theorem dX4_make_43 : decode cX4_make 43 = .ok (.iastore, 1) := by decide +kernel
theorem dX4_make_44 : decode cX4_make 44 = .ok (.aload_n 0, 1) := by decide +kernel
theorem dX4_make_45 : decode cX4_make 45 = .ok (.getfield 15, 3) := by decide +kernel
theorem dX4_make_48 : decode cX4_make 48 = .ok (.iload 7, 2) := by decide +kernel
theorem dX4_make_50 : decode cX4_make 50 = .ok (.iload_n 1, 1) := by decide +kernel
theorem dX4_make_51 : decode cX4_make 51 = .ok (.iastore, 1) := by decide +kernel
theorem dX4_make_52 : decode cX4_make 52 = .ok (.aload_n 0, 1) := by decide +kernel
theorem dX4_make_53 : decode cX4_make 53 = .ok (.getfield 18, 3) := by decide +kernel
theorem dX4_make_56 : decode cX4_make 56 = .ok (.iload 7, 2) := by decide +kernel
theorem dX4_make_58 : decode cX4_make 58 = .ok (.iload_n 2, 1) := by decide +kernel
theorem dX4_make_59 : decode cX4_make 59 = .ok (.iastore, 1) := by decide +kernel
theorem dX4_make_60 : decode cX4_make 60 = .ok (.aload_n 0, 1) := by decide +kernel
theorem dX4_make_61 : decode cX4_make 61 = .ok (.getfield 21, 3) := by decide +kernel
theorem dX4_make_64 : decode cX4_make 64 = .ok (.iload 7, 2) := by decide +kernel
theorem dX4_make_66 : decode cX4_make 66 = .ok (.iload_n 3, 1) := by decide +kernel
theorem dX4_make_67 : decode cX4_make 67 = .ok (.iastore, 1) := by decide +kernel
theorem dX4_make_68 : decode cX4_make 68 = .ok (.aload_n 0, 1) := by decide +kernel
theorem dX4_make_69 : decode cX4_make 69 = .ok (.getfield 30, 3) := by decide +kernel
theorem dX4_make_72 : decode cX4_make 72 = .ok (.iload 7, 2) := by decide +kernel
theorem dX4_make_74 : decode cX4_make 74 = .ok (.iload 4, 2) := by decide +kernel
theorem dX4_make_76 : decode cX4_make 76 = .ok (.bastore, 1) := by decide +kernel
theorem dX4_make_77 : decode cX4_make 77 = .ok (.aload_n 0, 1) := by decide +kernel
theorem dX4_make_78 : decode cX4_make 78 = .ok (.iload 7, 2) := by decide +kernel
theorem dX4_make_80 : decode cX4_make 80 = .ok (.iload 5, 2) := by decide +kernel
theorem dX4_make_82 : decode cX4_make 82 = .ok (.iload 6, 2) := by decide +kernel
theorem dX4_make_84 : decode cX4_make 84 = .ok (.invokevirtual 52, 3) := by decide +kernel
theorem dX4_make_87 : decode cX4_make 87 = .ok (.return_, 1) := by decide +kernel
theorem dX4_remove_0 : decode cX4_remove 0 = .ok (.aload_n 0, 1) := by decide +kernel
theorem dX4_remove_1 : decode cX4_remove 1 = .ok (.iload_n 1, 1) := by decide +kernel
theorem dX4_remove_2 : decode cX4_remove 2 = .ok (.invokevirtual 44, 3) := by decide +kernel
theorem dX4_remove_5 : decode cX4_remove 5 = .ok (.istore_n 2, 1) := by decide +kernel
theorem dX4_remove_6 : decode cX4_remove 6 = .ok (.iload_n 2, 1) := by decide +kernel
theorem dX4_remove_7 : decode cX4_remove 7 = .ok (.iconst (-1), 1) := by decide +kernel
theorem dX4_remove_8 : decode cX4_remove 8 = .ok (.if_icmp .eq 20, 3) := by decide +kernel
theorem dX4_remove_11 : decode cX4_remove 11 = .ok (.aload_n 0, 1) := by decide +kernel
theorem dX4_remove_12 : decode cX4_remove 12 = .ok (.getfield 9, 3) := by decide +kernel
theorem dX4_remove_15 : decode cX4_remove 15 = .ok (.iload_n 2, 1) := by decide +kernel
theorem dX4_remove_16 : decode cX4_remove 16 = .ok (.iconst 0, 1) := by decide +kernel
theorem dX4_remove_17 : decode cX4_remove 17 = .ok (.iastore, 1) := by decide +kernel
theorem dX4_remove_18 : decode cX4_remove 18 = .ok (.aload_n 0, 1) := by decide +kernel
theorem dX4_remove_19 : decode cX4_remove 19 = .ok (.dup, 1) := by decide +kernel
theorem dX4_remove_20 : decode cX4_remove 20 = .ok (.getfield 41, 3) := by decide +kernel
theorem dX4_remove_23 : decode cX4_remove 23 = .ok (.iconst 1, 1) := by decide +kernel
theorem dX4_remove_24 : decode cX4_remove 24 = .ok (.isub, 1) := by decide +kernel
theorem dX4_remove_25 : decode cX4_remove 25 = .ok (.putfield 41, 3) := by decide +kernel
theorem dX4_remove_28 : decode cX4_remove 28 = .ok (.return_, 1) := by decide +kernel
theorem dX4_restart_0 : decode cX4_restart 0 = .ok (.aload_n 0, 1) := by decide +kernel
theorem dX4_restart_1 : decode cX4_restart 1 = .ok (.iload_n 1, 1) := by decide +kernel
theorem dX4_restart_2 : decode cX4_restart 2 = .ok (.invokevirtual 44, 3) := by decide +kernel
theorem dX4_restart_5 : decode cX4_restart 5 = .ok (.istore_n 3, 1) := by decide +kernel
theorem dX4_restart_6 : decode cX4_restart 6 = .ok (.iload_n 3, 1) := by decide +kernel
theorem dX4_restart_7 : decode cX4_restart 7 = .ok (.iconst (-1), 1) := by decide +kernel
theorem dX4_restart_8 : decode cX4_restart 8 = .ok (.if_icmp .eq 17, 3) := by decide +kernel
theorem dX4_restart_11 : decode cX4_restart 11 = .ok (.aload_n 0, 1) := by decide +kernel
theorem dX4_restart_12 : decode cX4_restart 12 = .ok (.iload_n 3, 1) := by decide +kernel
theorem dX4_restart_13 : decode cX4_restart 13 = .ok (.aload_n 0, 1) := by decide +kernel
theorem dX4_restart_14 : decode cX4_restart 14 = .ok (.getfield 24, 3) := by decide +kernel
theorem dX4_restart_17 : decode cX4_restart 17 = .ok (.iload_n 3, 1) := by decide +kernel
theorem dX4_restart_18 : decode cX4_restart 18 = .ok (.iaload, 1) := by decide +kernel
theorem dX4_restart_19 : decode cX4_restart 19 = .ok (.iconst 1, 1) := by decide +kernel
theorem dX4_restart_20 : decode cX4_restart 20 = .ok (.iadd, 1) := by decide +kernel
theorem dX4_restart_21 : decode cX4_restart 21 = .ok (.iload_n 2, 1) := by decide +kernel
theorem dX4_restart_22 : decode cX4_restart 22 = .ok (.invokevirtual 52, 3) := by decide +kernel
theorem dX4_restart_25 : decode cX4_restart 25 = .ok (.return_, 1) := by decide +kernel
theorem dX4_putTasks_0 : decode cX4_putTasks 0 = .ok (.iconst 0, 1) := by decide +kernel
theorem dX4_putTasks_1 : decode cX4_putTasks 1 = .ok (.istore_n 3, 1) := by decide +kernel
theorem dX4_putTasks_2 : decode cX4_putTasks 2 = .ok (.iload_n 3, 1) := by decide +kernel
theorem dX4_putTasks_3 : decode cX4_putTasks 3 = .ok (.bipush 12, 2) := by decide +kernel
theorem dX4_putTasks_5 : decode cX4_putTasks 5 = .ok (.if_icmp .ge 44, 3) := by decide +kernel
theorem dX4_putTasks_8 : decode cX4_putTasks 8 = .ok (.aload_n 0, 1) := by decide +kernel
theorem dX4_putTasks_9 : decode cX4_putTasks 9 = .ok (.iload_n 1, 1) := by decide +kernel
theorem dX4_putTasks_10 : decode cX4_putTasks 10 = .ok (.invokevirtual 56, 3) := by decide +kernel
theorem dX4_putTasks_13 : decode cX4_putTasks 13 = .ok (.istore 4, 2) := by decide +kernel
theorem dX4_putTasks_15 : decode cX4_putTasks 15 = .ok (.iload 4, 2) := by decide +kernel
theorem dX4_putTasks_17 : decode cX4_putTasks 17 = .ok (.iconst (-1), 1) := by decide +kernel
theorem dX4_putTasks_18 : decode cX4_putTasks 18 = .ok (.if_icmp .ne 4, 3) := by decide +kernel
theorem dX4_putTasks_21 : decode cX4_putTasks 21 = .ok (.return_, 1) := by decide +kernel
theorem dX4_putTasks_22 : decode cX4_putTasks 22 = .ok (.aload_n 0, 1) := by decide +kernel
theorem dX4_putTasks_23 : decode cX4_putTasks 23 = .ok (.getfield 34, 3) := by decide +kernel
theorem dX4_putTasks_26 : decode cX4_putTasks 26 = .ok (.iload 4, 2) := by decide +kernel
theorem dX4_putTasks_28 : decode cX4_putTasks 28 = .ok (.iconst 1, 1) := by decide +kernel
theorem dX4_putTasks_29 : decode cX4_putTasks 29 = .ok (.bastore, 1) := by decide +kernel
theorem dX4_putTasks_30 : decode cX4_putTasks 30 = .ok (.aload_n 2, 1) := by decide +kernel
theorem dX4_putTasks_31 : decode cX4_putTasks 31 = .ok (.iconst 1, 1) := by decide +kernel
theorem dX4_putTasks_32 : decode cX4_putTasks 32 = .ok (.aload_n 0, 1) := by decide +kernel
theorem dX4_putTasks_33 : decode cX4_putTasks 33 = .ok (.getfield 9, 3) := by decide +kernel
theorem dX4_putTasks_36 : decode cX4_putTasks 36 = .ok (.iload 4, 2) := by decide +kernel
theorem dX4_putTasks_38 : decode cX4_putTasks 38 = .ok (.iaload, 1) := by decide +kernel
theorem dX4_putTasks_39 : decode cX4_putTasks 39 = .ok (.iconst 0, 1) := by decide +kernel
theorem dX4_putTasks_40 : decode cX4_putTasks 40 = .ok (.invokevirtual 59, 3) := by decide +kernel
theorem dX4_putTasks_43 : decode cX4_putTasks 43 = .ok (.iinc 3 1, 3) := by decide +kernel
theorem dX4_putTasks_46 : decode cX4_putTasks 46 = .ok (.goto (-44), 3) := by decide +kernel
theorem dX4_putTasks_49 : decode cX4_putTasks 49 = .ok (.return_, 1) := by decide +kernel
theorem dX4_freePlace_0 : decode cX4_freePlace 0 = .ok (.iconst 0, 1) := by decide +kernel
theorem dX4_freePlace_1 : decode cX4_freePlace 1 = .ok (.istore_n 1, 1) := by decide +kernel
theorem dX4_freePlace_2 : decode cX4_freePlace 2 = .ok (.iload_n 1, 1) := by decide +kernel
theorem dX4_freePlace_3 : decode cX4_freePlace 3 = .ok (.bipush 12, 2) := by decide +kernel
theorem dX4_freePlace_5 : decode cX4_freePlace 5 = .ok (.if_icmp .ge 20, 3) := by decide +kernel
theorem dX4_freePlace_8 : decode cX4_freePlace 8 = .ok (.aload_n 0, 1) := by decide +kernel
theorem dX4_freePlace_9 : decode cX4_freePlace 9 = .ok (.getfield 9, 3) := by decide +kernel
theorem dX4_freePlace_12 : decode cX4_freePlace 12 = .ok (.iload_n 1, 1) := by decide +kernel
theorem dX4_freePlace_13 : decode cX4_freePlace 13 = .ok (.iaload, 1) := by decide +kernel
theorem dX4_freePlace_14 : decode cX4_freePlace 14 = .ok (.ifCond .ne 5, 3) := by decide +kernel
theorem dX4_freePlace_17 : decode cX4_freePlace 17 = .ok (.iload_n 1, 1) := by decide +kernel
theorem dX4_freePlace_18 : decode cX4_freePlace 18 = .ok (.ireturn, 1) := by decide +kernel
theorem dX4_freePlace_19 : decode cX4_freePlace 19 = .ok (.iinc 1 1, 3) := by decide +kernel
theorem dX4_freePlace_22 : decode cX4_freePlace 22 = .ok (.goto (-20), 3) := by decide +kernel
theorem dX4_freePlace_25 : decode cX4_freePlace 25 = .ok (.iconst (-1), 1) := by decide +kernel
theorem dX4_freePlace_26 : decode cX4_freePlace 26 = .ok (.ireturn, 1) := by decide +kernel
theorem dX4_start_0 : decode cX4_start 0 = .ok (.iload_n 2, 1) := by decide +kernel
theorem dX4_start_1 : decode cX4_start 1 = .ok (.iconst 5, 1) := by decide +kernel
theorem dX4_start_2 : decode cX4_start 2 = .ok (.if_icmp .le 7, 3) := by decide +kernel
theorem dX4_start_5 : decode cX4_start 5 = .ok (.iconst 4, 1) := by decide +kernel
theorem dX4_start_6 : decode cX4_start 6 = .ok (.goto 4, 3) := by decide +kernel
theorem dX4_start_9 : decode cX4_start 9 = .ok (.iconst 1, 1) := by decide +kernel
theorem dX4_start_10 : decode cX4_start 10 = .ok (.istore 4, 2) := by decide +kernel
theorem dX4_start_12 : decode cX4_start 12 = .ok (.aload_n 0, 1) := by decide +kernel
theorem dX4_start_13 : decode cX4_start 13 = .ok (.getfield 24, 3) := by decide +kernel
theorem dX4_start_16 : decode cX4_start 16 = .ok (.iload_n 1, 1) := by decide +kernel
theorem dX4_start_17 : decode cX4_start 17 = .ok (.iload_n 2, 1) := by decide +kernel
theorem dX4_start_18 : decode cX4_start 18 = .ok (.iastore, 1) := by decide +kernel
theorem dX4_start_19 : decode cX4_start 19 = .ok (.aload_n 0, 1) := by decide +kernel
theorem dX4_start_20 : decode cX4_start 20 = .ok (.getfield 34, 3) := by decide +kernel
theorem dX4_start_23 : decode cX4_start 23 = .ok (.iload_n 1, 1) := by decide +kernel
theorem dX4_start_24 : decode cX4_start 24 = .ok (.iconst 0, 1) := by decide +kernel
theorem dX4_start_25 : decode cX4_start 25 = .ok (.bastore, 1) := by decide +kernel
theorem dX4_start_26 : decode cX4_start 26 = .ok (.aload_n 0, 1) := by decide +kernel
theorem dX4_start_27 : decode cX4_start 27 = .ok (.getfield 27, 3) := by decide +kernel
theorem dX4_start_30 : decode cX4_start 30 = .ok (.iload_n 1, 1) := by decide +kernel
theorem dX4_start_31 : decode cX4_start 31 = .ok (.iload_n 3, 1) := by decide +kernel
theorem dX4_start_32 : decode cX4_start 32 = .ok (.aload_n 0, 1) := by decide +kernel
theorem dX4_start_33 : decode cX4_start 33 = .ok (.getfield 21, 3) := by decide +kernel
theorem dX4_start_36 : decode cX4_start 36 = .ok (.iload_n 1, 1) := by decide +kernel
theorem dX4_start_37 : decode cX4_start 37 = .ok (.iaload, 1) := by decide +kernel
theorem dX4_start_38 : decode cX4_start 38 = .ok (.iload 4, 2) := by decide +kernel
theorem dX4_start_40 : decode cX4_start 40 = .ok (.if_icmp .ge 8, 3) := by decide +kernel
theorem dX4_start_43 : decode cX4_start 43 = .ok (.iload 4, 2) := by decide +kernel
theorem dX4_start_45 : decode cX4_start 45 = .ok (.goto 9, 3) := by decide +kernel
theorem dX4_start_48 : decode cX4_start 48 = .ok (.aload_n 0, 1) := by decide +kernel
theorem dX4_start_49 : decode cX4_start 49 = .ok (.getfield 21, 3) := by decide +kernel
theorem dX4_start_52 : decode cX4_start 52 = .ok (.iload_n 1, 1) := by decide +kernel
theorem dX4_start_53 : decode cX4_start 53 = .ok (.iaload, 1) := by decide +kernel
theorem dX4_start_54 : decode cX4_start 54 = .ok (.iadd, 1) := by decide +kernel
theorem dX4_start_55 : decode cX4_start 55 = .ok (.iastore, 1) := by decide +kernel
theorem dX4_start_56 : decode cX4_start 56 = .ok (.return_, 1) := by decide +kernel
theorem dX4_nextDue_0 : decode cX4_nextDue 0 = .ok (.iconst (-1), 1) := by decide +kernel
theorem dX4_nextDue_1 : decode cX4_nextDue 1 = .ok (.istore_n 2, 1) := by decide +kernel
theorem dX4_nextDue_2 : decode cX4_nextDue 2 = .ok (.iconst 0, 1) := by decide +kernel
theorem dX4_nextDue_3 : decode cX4_nextDue 3 = .ok (.istore_n 3, 1) := by decide +kernel
theorem dX4_nextDue_4 : decode cX4_nextDue 4 = .ok (.iload_n 3, 1) := by decide +kernel
theorem dX4_nextDue_5 : decode cX4_nextDue 5 = .ok (.bipush 12, 2) := by decide +kernel
theorem dX4_nextDue_7 : decode cX4_nextDue 7 = .ok (.if_icmp .ge 65, 3) := by decide +kernel
theorem dX4_nextDue_10 : decode cX4_nextDue 10 = .ok (.aload_n 0, 1) := by decide +kernel
theorem dX4_nextDue_11 : decode cX4_nextDue 11 = .ok (.getfield 9, 3) := by decide +kernel
theorem dX4_nextDue_14 : decode cX4_nextDue 14 = .ok (.iload_n 3, 1) := by decide +kernel
theorem dX4_nextDue_15 : decode cX4_nextDue 15 = .ok (.iaload, 1) := by decide +kernel
theorem dX4_nextDue_16 : decode cX4_nextDue 16 = .ok (.ifCond .eq 26, 3) := by decide +kernel
theorem dX4_nextDue_19 : decode cX4_nextDue 19 = .ok (.aload_n 0, 1) := by decide +kernel
theorem dX4_nextDue_20 : decode cX4_nextDue 20 = .ok (.getfield 34, 3) := by decide +kernel
theorem dX4_nextDue_23 : decode cX4_nextDue 23 = .ok (.iload_n 3, 1) := by decide +kernel
theorem dX4_nextDue_24 : decode cX4_nextDue 24 = .ok (.baload, 1) := by decide +kernel
theorem dX4_nextDue_25 : decode cX4_nextDue 25 = .ok (.ifCond .ne 17, 3) := by decide +kernel
theorem dX4_nextDue_28 : decode cX4_nextDue 28 = .ok (.aload_n 0, 1) := by decide +kernel
theorem dX4_nextDue_29 : decode cX4_nextDue 29 = .ok (.getfield 27, 3) := by decide +kernel
theorem dX4_nextDue_32 : decode cX4_nextDue 32 = .ok (.iload_n 3, 1) := by decide +kernel
theorem dX4_nextDue_33 : decode cX4_nextDue 33 = .ok (.iaload, 1) := by decide +kernel
theorem dX4_nextDue_34 : decode cX4_nextDue 34 = .ok (.iload_n 1, 1) := by decide +kernel
theorem dX4_nextDue_35 : decode cX4_nextDue 35 = .ok (.if_icmp .gt 7, 3) := by decide +kernel
theorem dX4_nextDue_38 : decode cX4_nextDue 38 = .ok (.iconst 1, 1) := by decide +kernel
theorem dX4_nextDue_39 : decode cX4_nextDue 39 = .ok (.goto 4, 3) := by decide +kernel
theorem dX4_nextDue_42 : decode cX4_nextDue 42 = .ok (.iconst 0, 1) := by decide +kernel
theorem dX4_nextDue_43 : decode cX4_nextDue 43 = .ok (.istore 4, 2) := by decide +kernel
theorem dX4_nextDue_45 : decode cX4_nextDue 45 = .ok (.iload 4, 2) := by decide +kernel
theorem dX4_nextDue_47 : decode cX4_nextDue 47 = .ok (.ifCond .eq 19, 3) := by decide +kernel
theorem dX4_nextDue_50 : decode cX4_nextDue 50 = .ok (.iload_n 2, 1) := by decide +kernel
theorem dX4_nextDue_51 : decode cX4_nextDue 51 = .ok (.iconst (-1), 1) := by decide +kernel
theorem dX4_nextDue_52 : decode cX4_nextDue 52 = .ok (.if_icmp .eq 12, 3) := by decide +kernel
theorem dX4_nextDue_55 : decode cX4_nextDue 55 = .ok (.aload_n 0, 1) := by decide +kernel
theorem dX4_nextDue_56 : decode cX4_nextDue 56 = .ok (.iload_n 3, 1) := by decide +kernel
theorem dX4_nextDue_57 : decode cX4_nextDue 57 = .ok (.iload_n 2, 1) := by decide +kernel
theorem dX4_nextDue_58 : decode cX4_nextDue 58 = .ok (.invokevirtual 64, 3) := by decide +kernel
theorem dX4_nextDue_61 : decode cX4_nextDue 61 = .ok (.ifCond .eq 5, 3) := by decide +kernel
theorem dX4_nextDue_64 : decode cX4_nextDue 64 = .ok (.iload_n 3, 1) := by decide +kernel
theorem dX4_nextDue_65 : decode cX4_nextDue 65 = .ok (.istore_n 2, 1) := by decide +kernel
theorem dX4_nextDue_66 : decode cX4_nextDue 66 = .ok (.iinc 3 1, 3) := by decide +kernel
theorem dX4_nextDue_69 : decode cX4_nextDue 69 = .ok (.goto (-65), 3) := by decide +kernel
theorem dX4_nextDue_72 : decode cX4_nextDue 72 = .ok (.iload_n 2, 1) := by decide +kernel
theorem dX4_nextDue_73 : decode cX4_nextDue 73 = .ok (.ireturn, 1) := by decide +kernel
theorem dX4_isBefore_0 : decode cX4_isBefore 0 = .ok (.aload_n 0, 1) := by decide +kernel
theorem dX4_isBefore_1 : decode cX4_isBefore 1 = .ok (.getfield 27, 3) := by decide +kernel
theorem dX4_isBefore_4 : decode cX4_isBefore 4 = .ok (.iload_n 1, 1) := by decide +kernel
theorem dX4_isBefore_5 : decode cX4_isBefore 5 = .ok (.iaload, 1) := by decide +kernel
theorem dX4_isBefore_6 : decode cX4_isBefore 6 = .ok (.aload_n 0, 1) := by decide +kernel
theorem dX4_isBefore_7 : decode cX4_isBefore 7 = .ok (.getfield 27, 3) := by decide +kernel
theorem dX4_isBefore_10 : decode cX4_isBefore 10 = .ok (.iload_n 2, 1) := by decide +kernel
theorem dX4_isBefore_11 : decode cX4_isBefore 11 = .ok (.iaload, 1) := by decide +kernel
theorem dX4_isBefore_12 : decode cX4_isBefore 12 = .ok (.if_icmp .eq 24, 3) := by decide +kernel
theorem dX4_isBefore_15 : decode cX4_isBefore 15 = .ok (.aload_n 0, 1) := by decide +kernel
theorem dX4_isBefore_16 : decode cX4_isBefore 16 = .ok (.getfield 27, 3) := by decide +kernel
theorem dX4_isBefore_19 : decode cX4_isBefore 19 = .ok (.iload_n 1, 1) := by decide +kernel
theorem dX4_isBefore_20 : decode cX4_isBefore 20 = .ok (.iaload, 1) := by decide +kernel
theorem dX4_isBefore_21 : decode cX4_isBefore 21 = .ok (.aload_n 0, 1) := by decide +kernel
theorem dX4_isBefore_22 : decode cX4_isBefore 22 = .ok (.getfield 27, 3) := by decide +kernel
theorem dX4_isBefore_25 : decode cX4_isBefore 25 = .ok (.iload_n 2, 1) := by decide +kernel
theorem dX4_isBefore_26 : decode cX4_isBefore 26 = .ok (.iaload, 1) := by decide +kernel
theorem dX4_isBefore_27 : decode cX4_isBefore 27 = .ok (.if_icmp .ge 7, 3) := by decide +kernel
theorem dX4_isBefore_30 : decode cX4_isBefore 30 = .ok (.iconst 1, 1) := by decide +kernel
theorem dX4_isBefore_31 : decode cX4_isBefore 31 = .ok (.goto 4, 3) := by decide +kernel
theorem dX4_isBefore_34 : decode cX4_isBefore 34 = .ok (.iconst 0, 1) := by decide +kernel
theorem dX4_isBefore_35 : decode cX4_isBefore 35 = .ok (.ireturn, 1) := by decide +kernel
theorem dX4_isBefore_36 : decode cX4_isBefore 36 = .ok (.aload_n 0, 1) := by decide +kernel
theorem dX4_isBefore_37 : decode cX4_isBefore 37 = .ok (.getfield 9, 3) := by decide +kernel
theorem dX4_isBefore_40 : decode cX4_isBefore 40 = .ok (.iload_n 1, 1) := by decide +kernel
theorem dX4_isBefore_41 : decode cX4_isBefore 41 = .ok (.iaload, 1) := by decide +kernel
theorem dX4_isBefore_42 : decode cX4_isBefore 42 = .ok (.aload_n 0, 1) := by decide +kernel
theorem dX4_isBefore_43 : decode cX4_isBefore 43 = .ok (.getfield 9, 3) := by decide +kernel
theorem dX4_isBefore_46 : decode cX4_isBefore 46 = .ok (.iload_n 2, 1) := by decide +kernel
theorem dX4_isBefore_47 : decode cX4_isBefore 47 = .ok (.iaload, 1) := by decide +kernel
theorem dX4_isBefore_48 : decode cX4_isBefore 48 = .ok (.if_icmp .ge 7, 3) := by decide +kernel
theorem dX4_isBefore_51 : decode cX4_isBefore 51 = .ok (.iconst 1, 1) := by decide +kernel
theorem dX4_isBefore_52 : decode cX4_isBefore 52 = .ok (.goto 4, 3) := by decide +kernel
theorem dX4_isBefore_55 : decode cX4_isBefore 55 = .ok (.iconst 0, 1) := by decide +kernel
theorem dX4_isBefore_56 : decode cX4_isBefore 56 = .ok (.ireturn, 1) := by decide +kernel
end
section
/-! The base of the walks: a memory (cell, slot) ↦ int, pure functions with Option, contracts that tie a method to such a function. -/
abbrev px_M : Type := Nat → Nat → Int32
def px_up (M : px_M) (i k : Nat) (x : Int32) : px_M := fun a => if a = i then upd (M i) k x else M a
def px_bn {α β : Type} (a : α) (k : α → β) : β := k a
theorem px_bn_e {α β : Type} {a : α} {k : α → β} {z : β} (h : px_bn a k = z) : ∃ x, x = a ∧ k x = z := ⟨a, rfl, h⟩
def px_bq {α γ : Type} (o : Option α) (k : α → Option γ) : Option γ := match o with
  | none => none
  | some a => k a
theorem px_bq_e {α γ : Type} {o : Option α} {k : α → Option γ} {z : γ} (h : px_bq o k = some z) : ∃ a, o = some a ∧ k a = some z := by
  cases o with
  | none => cases h
  | some a => exact ⟨a, rfl, h⟩
def px_bo {α β γ : Type} (o : Option (α × β)) (k : α → β → Option γ) : Option γ := match o with
  | none => none
  | some a => k a.1 a.2
theorem px_bo_e {α β γ : Type} {o : Option (α × β)} {k : α → β → Option γ} {z : γ} (h : px_bo o k = some z) : ∃ a b, o = some (a, b) ∧ k a b = some z := by
  cases o with
  | none => cases h
  | some a => exact ⟨a.1, a.2, rfl, h⟩
def px_ck {γ : Type} (i : Int32) (n : Nat) (k : Option γ) : Option γ := if i < 0 ∨ n ≤ i.toNatClampNeg then none else k
theorem px_ck_e {γ : Type} {i : Int32} {n : Nat} {k : Option γ} {z : γ} (h : px_ck i n k = some z) : vp_in i n ∧ k = some z := by
  unfold px_ck at h
  by_cases c : i < 0 ∨ n ≤ i.toNatClampNeg
  · rw [if_pos c] at h; cases h
  · rw [if_neg c] at h; exact ⟨c, h⟩
def px_cb {γ : Type} (v : Int32) (k : Option γ) : Option γ := if v = 0 ∨ v = 1 then k else none
theorem px_cb_e {γ : Type} {v : Int32} {k : Option γ} {z : γ} (h : px_cb v k = some z) : narrow .boolean (.int v) = .int v ∧ k = some z := by
  unfold px_cb at h
  by_cases c : v = 0 ∨ v = 1
  · rw [if_pos c] at h
    refine ⟨?_, h⟩
    rcases c with rfl | rfl <;> rfl
  · rw [if_neg c] at h; cases h
theorem px_ip {c : Prop} [Decidable c] {α : Type} {a b z : α} (h : c) (e : (if c then a else b) = z) : a = z := by rw [if_pos h] at e; exact e
theorem px_in {c : Prop} [Decidable c] {α : Type} {a b z : α} (h : ¬ c) (e : (if c then a else b) = z) : b = z := by rw [if_neg h] at e; exact e
theorem px_nn {c : Prop} [Decidable c] {α : Type} {a b z : α} (h : ¬ ¬ c) (e : (if c then a else b) = z) : a = z := by rw [if_pos (Decidable.not_not.mp h)] at e; exact e
/-- the words that every method carries: the tables' good ones -/
def px_TB : List Cond := lw_tbl.filter goodWord
theorem px_tb {w : Cond} (h : w ∈ lw_tbl) (g : goodWord w = true) : w ∈ px_TB := List.mem_filter.mpr ⟨h, g⟩
theorem px_good {w : Cond} (h : w ∈ px_TB) : goodWord w = true := (List.mem_filter.mp h).2
def px_rm (k : Nat) : Room := { frames := k, cells := 0, slots := 0, locals := 60 * k }
/-- what stands all through a method's walk -/
def px_X (D : va_G) (tys : List (ClassId × FieldType)) (p : Program) (s : State) (m : MethodId) (args : Array Value) (c : Code) (cc : ByteArray) (own : String) : Prop :=
  p.tables.exec = Jvm.exec ∧ c.code = cc ∧ (∀ w ∈ px_TB, w.before args s = true) ∧ s.vm.findClass own = some m.cls ∧ va_K D vwCl tys s
/-- the world, now -/
def px_H (D : va_G) (wf : px_M → va_W) (A : Nat → Prop) (H0 : Heap) (M : px_M) (H : Heap) (locs : List Loc) : Prop :=
  va_P D vwCl (wf M) H ∧ va_D A (wf M) ∧ va_S A H0 H locs ∧ ∀ q : Nat, H0.size ≤ q → A q
def px_Pre (D : va_G) (tys : List (ClassId × FieldType)) (wf : px_M → va_W) (sz : Nat) (M : px_M) (U : State) : Prop :=
  U.heap.size = sz ∧ va_P D vwCl (wf M) U.heap ∧ va_K D vwCl tys U ∧ va_D (fun _ => True) (wf M)
def px_B (D : va_G) (tys : List (ClassId × FieldType)) (wf : px_M → va_W) (A : Nat → Prop) (M : px_M) (t : State) : Prop :=
  va_P D vwCl (wf M) t.heap ∧ va_K D vwCl tys t ∧ va_D A (wf M)
def px_mI (l : Launch) (D : va_G) (tys : List (ClassId × FieldType)) (wf : px_M → va_W) (y : MethodName) (bytes : ByteArray) (n : Nat) (ret : Option FieldType) (k : Nat) (as : List Value) (M : px_M) (r : Int32) (M' : px_M) : Prop :=
  ∀ sz : Nat, Met l y (.code y bytes n ret :: px_TB) (px_rm k) (va_Pc as (px_Pre D tys wf sz M)) (va_Qi (fun r' M2 => r' = r ∧ M2 = M') (px_B D tys wf (va_A (wf M) sz)) (va_A (wf M) sz)) 0 0 (va_A (wf M) sz)
def px_mV (l : Launch) (D : va_G) (tys : List (ClassId × FieldType)) (wf : px_M → va_W) (y : MethodName) (bytes : ByteArray) (n : Nat) (k : Nat) (as : List Value) (M M' : px_M) : Prop :=
  ∀ sz : Nat, Met l y (.code y bytes n none :: px_TB) (px_rm k) (va_Pc as (px_Pre D tys wf sz M)) (va_Qv (fun M2 => M2 = M') (px_B D tys wf (va_A (wf M) sz)) (va_A (wf M) sz)) 0 0 (va_A (wf M) sz)
def px_QI (D : va_G) (tys : List (ClassId × FieldType)) (wf : px_M → va_W) (below : List Frame) (args : Array Value) (s : State) (A : Nat → Prop) (r : Int32) (M' : px_M) : State → Prop :=
  MQ below (va_Qi (fun r' M2 => r' = r ∧ M2 = M') (px_B D tys wf A) A) args s 0 0 A
def px_QV (D : va_G) (tys : List (ClassId × FieldType)) (wf : px_M → va_W) (below : List Frame) (args : Array Value) (s : State) (A : Nat → Prop) (M' : px_M) : State → Prop :=
  MQ below (va_Qv (fun M2 => M2 = M') (px_B D tys wf A) A) args s 0 0 A
/-- the words of a call -/
def px_Lk (own : String) (idx : Nat) (y : MethodName) (bytes : ByteArray) (n : Nat) (ret : Option FieldType) (na : Nat) : Prop :=
  Cond.code y bytes n ret ∈ px_TB ∧ Cond.methodLink own idx y ∈ px_TB ∧ Cond.initialized y.cls ∈ px_TB ∧ Cond.instanceMethod y ∈ px_TB ∧ Cond.selects y.cls y y ∈ px_TB ∧
  (y.cls ≠ "java/lang/invoke/MethodHandle" ∧ y.cls ≠ "java/lang/invoke/VarHandle" ∧ (parseMethodDescriptor y.desc).map (fun d => d.parameters.length) = some na) ∧ n ≤ 40
def px_Ls (own : String) (idx : Nat) (y : MethodName) (bytes : ByteArray) (n : Nat) (ret : Option FieldType) (na : Nat) : Prop :=
  Cond.code y bytes n ret ∈ px_TB ∧ Cond.methodLink own idx y ∈ px_TB ∧ Cond.initialized y.cls ∈ px_TB ∧ Cond.static y ∈ px_TB ∧
  (y.cls ≠ "java/lang/invoke/MethodHandle" ∧ y.cls ≠ "java/lang/invoke/VarHandle" ∧ (parseMethodDescriptor y.desc).map (fun d => d.parameters.length) = some na) ∧ n ≤ 40
theorem px_gi {y : MethodName} {bytes : ByteArray} {n : Nat} {ret : Option FieldType} (h : Cond.code y bytes n ret ∈ px_TB) : GoodIn px_TB (.code y bytes n ret :: px_TB) := by
  intro w hw
  have hm : w ∈ px_TB := (List.mem_cons.mp hw).elim (fun e => by rw [e]; exact h) id
  exact ⟨hm, good_of_word (px_good hm)⟩
section PXW
variable {l : Launch} {D : va_G} {tys : List (ClassId × FieldType)} {wf : px_M → va_W} {y : MethodName} {bytes : ByteArray} {n k k' nL : Nat} {ret : Option FieldType} {as As : List Value} {M M' : px_M} {r : Int32}
theorem px_ofI (hy : plainName y.cls = true) (hle : (lg_sl as).length ≤ n)
    (body : ∀ (p : Program) (e : Env) (s : State) (m : MethodId) (below : List Frame) (meth : Method) (c : Code) (A : Nat → Prop) (ls : Array Slot), px_X D tys p s m as.toArray c bytes y.cls → meth.sig.returnType = ret → meth.locks = false → c.maxLocals = n →
      px_H D wf A s.heap M s.heap [] → lv_has ls n (lv_args 0 as) → W p l e (px_rm k) s m as.toArray below meth c s.heap [] 0 0 (px_QI D tys wf below as.toArray s A r M') (F0 m 0 ls [])) : px_mI l D tys wf y bytes n ret k as M r M' := by
  intro sz
  refine Met.ofW (cc := bytes) (maxL := n) (ret := ret) hy rfl ?_
  intro p e s m args below meth c s₁ B hml hv
  obtain ⟨rfl, hsz, hP, hK, hD0⟩ := hv
  have hts : ∀ w ∈ px_TB, w.before as.toArray s = true := fun w h => atoms_spec (ws := .code y bytes n ret :: px_TB) B.pre w (List.mem_cons_of_mem _ h)
  have hown := findClass_of_methodNamed B.named
  subst hsz
  have hD := hD0.self (sz := s.heap.size)
  have hl := lv_entry as (n := n) hle
  rw [lg_entry_eq]
  exact body p e s m below meth c _ _ ⟨B.exec, B.bytes, hts, hown, hK⟩ B.returns B.notSynchronized hml ⟨hP, hD, va_S.rf, fun q h => Or.inr h⟩ hl
theorem px_ofV (hy : plainName y.cls = true) (hle : (lg_sl as).length ≤ n)
    (body : ∀ (p : Program) (e : Env) (s : State) (m : MethodId) (below : List Frame) (meth : Method) (c : Code) (A : Nat → Prop) (ls : Array Slot), px_X D tys p s m as.toArray c bytes y.cls → meth.sig.returnType = none → meth.locks = false → c.maxLocals = n →
      px_H D wf A s.heap M s.heap [] → lv_has ls n (lv_args 0 as) → W p l e (px_rm k) s m as.toArray below meth c s.heap [] 0 0 (px_QV D tys wf below as.toArray s A M') (F0 m 0 ls [])) : px_mV l D tys wf y bytes n k as M M' := by
  intro sz
  refine Met.ofW (cc := bytes) (maxL := n) (ret := none) hy rfl ?_
  intro p e s m args below meth c s₁ B hml hv
  obtain ⟨rfl, hsz, hP, hK, hD0⟩ := hv
  have hts : ∀ w ∈ px_TB, w.before as.toArray s = true := fun w h => atoms_spec (ws := .code y bytes n none :: px_TB) B.pre w (List.mem_cons_of_mem _ h)
  have hown := findClass_of_methodNamed B.named
  subst hsz
  have hD := hD0.self (sz := s.heap.size)
  have hl := lv_entry as (n := n) hle
  rw [lg_entry_eq]
  exact body p e s m below meth c _ _ ⟨B.exec, B.bytes, hts, hown, hK⟩ B.returns B.notSynchronized hml ⟨hP, hD, va_S.rf, fun q h => Or.inr h⟩ hl
variable {p : Program} {e : Env} {R : Room} {s : State} {m : MethodId} {args : Array Value} {below : List Frame} {meth : Method} {c : Code} {H : Heap} {locs : List Loc} {Q : State → Prop} {cc : ByteArray} {pc : Nat} {ls : Array Slot} {rest st : List Value} {A : Nat → Prop} {own : String} {b idx : Nat} {lv : List (Nat × Value)} {v : Int32}
theorem px_retI (X : px_X D tys p s m args c cc own) (hr : meth.sig.returnType = some .int) (hlk : meth.locks = false) (w : px_H D wf A s.heap M H locs) (hd : decode cc pc = .ok (.ireturn, 1)) : W p l e R s m args below meth c H locs 0 0 (px_QI D tys wf below args s A v M) (F0 m pc ls [.int v]) :=
  W.iret (v := v) X.1 X.2.1 hr (fun t ht hW => ⟨⟨v, M, rfl, ⟨rfl, rfl⟩, by rw [ht]; exact w.1, va_K.moved hW.alike X.2.2.2.2, w.2.1⟩, w.2.2.1.F ht⟩) w.2.2.1.2.2 hd hlk
theorem px_retZ (X : px_X D tys p s m args c cc own) (hr : meth.sig.returnType = some .boolean) (hlk : meth.locks = false) (hn : narrow .boolean (.int v) = .int v) (w : px_H D wf A s.heap M H locs) (hd : decode cc pc = .ok (.ireturn, 1)) : W p l e R s m args below meth c H locs 0 0 (px_QI D tys wf below args s A v M) (F0 m pc ls [.int v]) :=
  W.zret (v := v) X.1 X.2.1 hr hn (fun t ht hW => ⟨⟨v, M, rfl, ⟨rfl, rfl⟩, by rw [ht]; exact w.1, va_K.moved hW.alike X.2.2.2.2, w.2.1⟩, w.2.2.1.F ht⟩) w.2.2.1.2.2 hd hlk
theorem px_retV (X : px_X D tys p s m args c cc own) (hr : meth.sig.returnType = none) (hlk : meth.locks = false) (w : px_H D wf A s.heap M H locs) (hd : decode cc pc = .ok (.return_, 1)) : W p l e R s m args below meth c H locs 0 0 (px_QV D tys wf below args s A M) (F0 m pc ls []) :=
  W.vret X.1 X.2.1 hr (fun t ht hW => ⟨⟨M, rfl, rfl, by rw [ht]; exact w.1, va_K.moved hW.alike X.2.2.2.2, w.2.1⟩, w.2.2.1.F ht⟩) w.2.2.1.2.2 hd hlk
theorem px_fr (w : px_H D wf A s.heap M H locs) : ∀ q, va_A (wf M) H.size q → A q := by
  intro q h
  rcases h with ⟨j, x, h⟩ | h
  · exact w.2.1.2 j (q, x) h
  · exact w.2.2.2 q (Nat.le_trans w.2.2.1.1 h)
theorem px_blind (sz : Nat) : FrameBlind (va_Pc as (px_Pre D tys wf sz M)) := fun a U g mk q => by
  obtain ⟨q0, q1, qP, qK, qD⟩ := q
  exact ⟨q0, q1, qP, va_K.moved (u := U) (U := U.calling g mk a) (Vm.Alike.refl U.vm) qK, qD⟩
theorem px_pre (X : px_X D tys p s m args c cc own) (w : px_H D wf A s.heap M H locs) : ∀ U : State, U.heap = H → s.WarmedH U.vm → va_Pc as (px_Pre D tys wf H.size M) as.toArray U := fun U hU hW =>
  ⟨rfl, by rw [hU], by rw [hU]; exact w.1, va_K.moved hW.alike X.2.2.2.2, w.2.1.weaken (fun _ _ _ _ => trivial)⟩
theorem px_cb_of (X : px_X D tys p s m args c cc own) {na : Nat} (hc : Cond.code y bytes n ret ∈ px_TB) (hl : Cond.methodLink own idx y ∈ px_TB) (hi : Cond.initialized y.cls ∈ px_TB) (hd : y.cls ≠ "java/lang/invoke/MethodHandle" ∧ y.cls ≠ "java/lang/invoke/VarHandle" ∧ (parseMethodDescriptor y.desc).map (fun d => d.parameters.length) = some na) (hn : n ≤ 40) (hk : k' + 1 ≤ k) :
    CallB (px_rm k) s args own idx y bytes n ret (.code y bytes n ret :: px_TB) (px_rm k') 0 0 na :=
  callB_of na X.2.2.1 (px_gi hc) rfl rfl rfl (X.2.2.1 _ hi) (X.2.2.1 _ hl) hd ⟨hk, by show 8 + (n + 11) + 60 * k' ≤ 60 * k; omega⟩
theorem px_cI (X : px_X D tys p s m args c cc own) (hml : c.maxLocals = nL) (hl : lv_has ls nL lv) (w : px_H D wf A s.heap M H locs) (hM : px_mI l D tys wf y bytes n ret k' (.ref b :: As) M r M') (L : px_Lk own idx y bytes n ret As.length) (hk : k' + 1 ≤ k)
    (rc : ∃ cell : Cell, H[b]? = some cell ∧ cell.vm.isStatics = false ∧ s.vm.findClass y.cls = some cell.cls) (hst : st = As.reverse ++ .ref b :: rest) (hW : (rest.map fun v => v.category).sum ≤ 8) (hd : decode cc pc = .ok (.invokevirtual idx, 3))
    (kk : ∀ (H : Heap) (locs : List Loc), px_H D wf A s.heap M' H locs → W p l e (px_rm k) s m args below meth c H locs 0 0 Q (F0 m (pc + 3) ls (.int r :: rest))) : W p l e (px_rm k) s m args below meth c H locs 0 0 Q (F0 m pc ls st) := by
  obtain ⟨h1, h2, h3, h4, h5, h6, h7⟩ := L
  refine va_calli (va_runV (As := As) (rest := rest) ⟨X.1, X.2.1, hml, X.2.2.2.1, X.2.2.1⟩ (hM H.size) ⟨px_cb_of X h1 h2 h3 h6 h7 hk, X.2.2.1 _ h4, X.2.2.1 _ h5⟩ ⟨px_blind _, rc, px_pre X w⟩ rfl rfl hl.1 hst (lv_room hW) hd ⟨Nat.le_refl 0, Nat.le_refl 0⟩) w.2.2.1 (fun q _ h => px_fr w q h) (px_fr w) (fun r' M2 t H1 locs1 ht hvm hw hB hz1 hk1 hS1 => ?_)
  obtain ⟨rfl, rfl⟩ := hw
  exact kk H1 locs1 ⟨by rw [← ht]; exact hB.1, hB.2.2.weaken (fun _ q _ h => px_fr w q.1 h), hS1, w.2.2.2⟩
theorem px_cV (X : px_X D tys p s m args c cc own) (hml : c.maxLocals = nL) (hl : lv_has ls nL lv) (w : px_H D wf A s.heap M H locs) (hM : px_mV l D tys wf y bytes n k' (.ref b :: As) M M') (L : px_Lk own idx y bytes n none As.length) (hk : k' + 1 ≤ k)
    (rc : ∃ cell : Cell, H[b]? = some cell ∧ cell.vm.isStatics = false ∧ s.vm.findClass y.cls = some cell.cls) (hst : st = As.reverse ++ .ref b :: rest) (hW : (rest.map fun v => v.category).sum ≤ 8) (hd : decode cc pc = .ok (.invokevirtual idx, 3))
    (kk : ∀ (H : Heap) (locs : List Loc), px_H D wf A s.heap M' H locs → W p l e (px_rm k) s m args below meth c H locs 0 0 Q (F0 m (pc + 3) ls rest)) : W p l e (px_rm k) s m args below meth c H locs 0 0 Q (F0 m pc ls st) := by
  obtain ⟨h1, h2, h3, h4, h5, h6, h7⟩ := L
  refine va_callv (va_runV (As := As) (rest := rest) ⟨X.1, X.2.1, hml, X.2.2.2.1, X.2.2.1⟩ (hM H.size) ⟨px_cb_of X h1 h2 h3 h6 h7 hk, X.2.2.1 _ h4, X.2.2.1 _ h5⟩ ⟨px_blind _, rc, px_pre X w⟩ rfl rfl hl.1 hst (lv_room hW) hd ⟨Nat.le_refl 0, Nat.le_refl 0⟩) w.2.2.1 (fun q _ h => px_fr w q h) (px_fr w) (fun M2 t H1 locs1 ht hvm hw hB hz1 hk1 hS1 => ?_)
  subst hw
  exact kk H1 locs1 ⟨by rw [← ht]; exact hB.1, hB.2.2.weaken (fun _ q _ h => px_fr w q.1 h), hS1, w.2.2.2⟩
theorem px_cS (X : px_X D tys p s m args c cc own) (hml : c.maxLocals = nL) (hl : lv_has ls nL lv) (w : px_H D wf A s.heap M H locs) (hM : px_mI l D tys wf y bytes n ret k' As M r M') (L : px_Ls own idx y bytes n ret As.length) (hk : k' + 1 ≤ k)
    (hst : st = As.reverse ++ rest) (hW : (rest.map fun v => v.category).sum ≤ 8) (hd : decode cc pc = .ok (.invokestatic idx, 3))
    (kk : ∀ (H : Heap) (locs : List Loc), px_H D wf A s.heap M' H locs → W p l e (px_rm k) s m args below meth c H locs 0 0 Q (F0 m (pc + 3) ls (.int r :: rest))) : W p l e (px_rm k) s m args below meth c H locs 0 0 Q (F0 m pc ls st) := by
  obtain ⟨h1, h2, h3, h4, h6, h7⟩ := L
  refine va_calli (va_runS (As := As) (rest := rest) ⟨X.1, X.2.1, hml, X.2.2.2.1, X.2.2.1⟩ (hM H.size) ⟨px_cb_of X h1 h2 h3 h6 h7 hk, X.2.2.1 _ h4⟩ ⟨px_blind _, px_pre X w⟩ rfl rfl hl.1 hst (lv_room hW) hd ⟨Nat.le_refl 0, Nat.le_refl 0⟩) w.2.2.1 (fun q _ h => px_fr w q h) (px_fr w) (fun r' M2 t H1 locs1 ht hvm hw hB hz1 hk1 hS1 => ?_)
  obtain ⟨rfl, rfl⟩ := hw
  exact kk H1 locs1 ⟨by rw [← ht]; exact hB.1, hB.2.2.weaken (fun _ q _ h => px_fr w q.1 h), hS1, w.2.2.2⟩
end PXW
def px_fx0 {γ : Type} (F : (px_M → Option γ) → px_M → Option γ) : Nat → px_M → Option γ
  | 0 => fun _ => none
  | j + 1 => F (px_fx0 F j)
theorem px_fx0_i {γ : Type} {F : (px_M → Option γ) → px_M → Option γ} {P : px_M → γ → Prop} (h : ∀ rc : px_M → Option γ, (∀ (M : px_M) (z : γ), rc M  = some z → P M  z) → ∀ (M : px_M) (z : γ), F rc M  = some z → P M  z) : ∀ (j : Nat) (M : px_M) (z : γ), px_fx0 F j M  = some z → P M  z := by
  intro j
  induction j with
  | zero => intro M  z hz; cases hz
  | succ j ih => intro M  z hz; exact h _ ih M  z hz
def px_fx1 {γ : Type} (F : (px_M → Int32 → Option γ) → px_M → Int32 → Option γ) : Nat → px_M → Int32 → Option γ
  | 0 => fun _ _ => none
  | j + 1 => F (px_fx1 F j)
theorem px_fx1_i {γ : Type} {F : (px_M → Int32 → Option γ) → px_M → Int32 → Option γ} {P : px_M → Int32 → γ → Prop} (h : ∀ rc : px_M → Int32 → Option γ, (∀ (M : px_M) (x0 : Int32) (z : γ), rc M x0 = some z → P M x0 z) → ∀ (M : px_M) (x0 : Int32) (z : γ), F rc M x0 = some z → P M x0 z) : ∀ (j : Nat) (M : px_M) (x0 : Int32) (z : γ), px_fx1 F j M x0 = some z → P M x0 z := by
  intro j
  induction j with
  | zero => intro M x0 z hz; cases hz
  | succ j ih => intro M x0 z hz; exact h _ ih M x0 z hz
def px_fx2 {γ : Type} (F : (px_M → Int32 → Int32 → Option γ) → px_M → Int32 → Int32 → Option γ) : Nat → px_M → Int32 → Int32 → Option γ
  | 0 => fun _ _ _ => none
  | j + 1 => F (px_fx2 F j)
theorem px_fx2_i {γ : Type} {F : (px_M → Int32 → Int32 → Option γ) → px_M → Int32 → Int32 → Option γ} {P : px_M → Int32 → Int32 → γ → Prop} (h : ∀ rc : px_M → Int32 → Int32 → Option γ, (∀ (M : px_M) (x0 x1 : Int32) (z : γ), rc M x0 x1 = some z → P M x0 x1 z) → ∀ (M : px_M) (x0 x1 : Int32) (z : γ), F rc M x0 x1 = some z → P M x0 x1 z) : ∀ (j : Nat) (M : px_M) (x0 x1 : Int32) (z : γ), px_fx2 F j M x0 x1 = some z → P M x0 x1 z := by
  intro j
  induction j with
  | zero => intro M x0 x1 z hz; cases hz
  | succ j ih => intro M x0 x1 z hz; exact h _ ih M x0 x1 z hz
def px_fx3 {γ : Type} (F : (px_M → Int32 → Int32 → Int32 → Option γ) → px_M → Int32 → Int32 → Int32 → Option γ) : Nat → px_M → Int32 → Int32 → Int32 → Option γ
  | 0 => fun _ _ _ _ => none
  | j + 1 => F (px_fx3 F j)
theorem px_fx3_i {γ : Type} {F : (px_M → Int32 → Int32 → Int32 → Option γ) → px_M → Int32 → Int32 → Int32 → Option γ} {P : px_M → Int32 → Int32 → Int32 → γ → Prop} (h : ∀ rc : px_M → Int32 → Int32 → Int32 → Option γ, (∀ (M : px_M) (x0 x1 x2 : Int32) (z : γ), rc M x0 x1 x2 = some z → P M x0 x1 x2 z) → ∀ (M : px_M) (x0 x1 x2 : Int32) (z : γ), F rc M x0 x1 x2 = some z → P M x0 x1 x2 z) : ∀ (j : Nat) (M : px_M) (x0 x1 x2 : Int32) (z : γ), px_fx3 F j M x0 x1 x2 = some z → P M x0 x1 x2 z := by
  intro j
  induction j with
  | zero => intro M x0 x1 x2 z hz; cases hz
  | succ j ih => intro M x0 x1 x2 z hz; exact h _ ih M x0 x1 x2 z hz
def px_fx4 {γ : Type} (F : (px_M → Int32 → Int32 → Int32 → Int32 → Option γ) → px_M → Int32 → Int32 → Int32 → Int32 → Option γ) : Nat → px_M → Int32 → Int32 → Int32 → Int32 → Option γ
  | 0 => fun _ _ _ _ _ => none
  | j + 1 => F (px_fx4 F j)
theorem px_fx4_i {γ : Type} {F : (px_M → Int32 → Int32 → Int32 → Int32 → Option γ) → px_M → Int32 → Int32 → Int32 → Int32 → Option γ} {P : px_M → Int32 → Int32 → Int32 → Int32 → γ → Prop} (h : ∀ rc : px_M → Int32 → Int32 → Int32 → Int32 → Option γ, (∀ (M : px_M) (x0 x1 x2 x3 : Int32) (z : γ), rc M x0 x1 x2 x3 = some z → P M x0 x1 x2 x3 z) → ∀ (M : px_M) (x0 x1 x2 x3 : Int32) (z : γ), F rc M x0 x1 x2 x3 = some z → P M x0 x1 x2 x3 z) : ∀ (j : Nat) (M : px_M) (x0 x1 x2 x3 : Int32) (z : γ), px_fx4 F j M x0 x1 x2 x3 = some z → P M x0 x1 x2 x3 z := by
  intro j
  induction j with
  | zero => intro M x0 x1 x2 x3 z hz; cases hz
  | succ j ih => intro M x0 x1 x2 x3 z hz; exact h _ ih M x0 x1 x2 x3 z hz
def px_fx5 {γ : Type} (F : (px_M → Int32 → Int32 → Int32 → Int32 → Int32 → Option γ) → px_M → Int32 → Int32 → Int32 → Int32 → Int32 → Option γ) : Nat → px_M → Int32 → Int32 → Int32 → Int32 → Int32 → Option γ
  | 0 => fun _ _ _ _ _ _ => none
  | j + 1 => F (px_fx5 F j)
theorem px_fx5_i {γ : Type} {F : (px_M → Int32 → Int32 → Int32 → Int32 → Int32 → Option γ) → px_M → Int32 → Int32 → Int32 → Int32 → Int32 → Option γ} {P : px_M → Int32 → Int32 → Int32 → Int32 → Int32 → γ → Prop} (h : ∀ rc : px_M → Int32 → Int32 → Int32 → Int32 → Int32 → Option γ, (∀ (M : px_M) (x0 x1 x2 x3 x4 : Int32) (z : γ), rc M x0 x1 x2 x3 x4 = some z → P M x0 x1 x2 x3 x4 z) → ∀ (M : px_M) (x0 x1 x2 x3 x4 : Int32) (z : γ), F rc M x0 x1 x2 x3 x4 = some z → P M x0 x1 x2 x3 x4 z) : ∀ (j : Nat) (M : px_M) (x0 x1 x2 x3 x4 : Int32) (z : γ), px_fx5 F j M x0 x1 x2 x3 x4 = some z → P M x0 x1 x2 x3 x4 z := by
  intro j
  induction j with
  | zero => intro M x0 x1 x2 x3 x4 z hz; cases hz
  | succ j ih => intro M x0 x1 x2 x3 x4 z hz; exact h _ ih M x0 x1 x2 x3 x4 z hz
def px_fx6 {γ : Type} (F : (px_M → Int32 → Int32 → Int32 → Int32 → Int32 → Int32 → Option γ) → px_M → Int32 → Int32 → Int32 → Int32 → Int32 → Int32 → Option γ) : Nat → px_M → Int32 → Int32 → Int32 → Int32 → Int32 → Int32 → Option γ
  | 0 => fun _ _ _ _ _ _ _ => none
  | j + 1 => F (px_fx6 F j)
theorem px_fx6_i {γ : Type} {F : (px_M → Int32 → Int32 → Int32 → Int32 → Int32 → Int32 → Option γ) → px_M → Int32 → Int32 → Int32 → Int32 → Int32 → Int32 → Option γ} {P : px_M → Int32 → Int32 → Int32 → Int32 → Int32 → Int32 → γ → Prop} (h : ∀ rc : px_M → Int32 → Int32 → Int32 → Int32 → Int32 → Int32 → Option γ, (∀ (M : px_M) (x0 x1 x2 x3 x4 x5 : Int32) (z : γ), rc M x0 x1 x2 x3 x4 x5 = some z → P M x0 x1 x2 x3 x4 x5 z) → ∀ (M : px_M) (x0 x1 x2 x3 x4 x5 : Int32) (z : γ), F rc M x0 x1 x2 x3 x4 x5 = some z → P M x0 x1 x2 x3 x4 x5 z) : ∀ (j : Nat) (M : px_M) (x0 x1 x2 x3 x4 x5 : Int32) (z : γ), px_fx6 F j M x0 x1 x2 x3 x4 x5 = some z → P M x0 x1 x2 x3 x4 x5 z := by
  intro j
  induction j with
  | zero => intro M x0 x1 x2 x3 x4 x5 z hz; cases hz
  | succ j ih => intro M x0 x1 x2 x3 x4 x5 z hz; exact h _ ih M x0 x1 x2 x3 x4 x5 z hz
def px_fx7 {γ : Type} (F : (px_M → Int32 → Int32 → Int32 → Int32 → Int32 → Int32 → Int32 → Option γ) → px_M → Int32 → Int32 → Int32 → Int32 → Int32 → Int32 → Int32 → Option γ) : Nat → px_M → Int32 → Int32 → Int32 → Int32 → Int32 → Int32 → Int32 → Option γ
  | 0 => fun _ _ _ _ _ _ _ _ => none
  | j + 1 => F (px_fx7 F j)
theorem px_fx7_i {γ : Type} {F : (px_M → Int32 → Int32 → Int32 → Int32 → Int32 → Int32 → Int32 → Option γ) → px_M → Int32 → Int32 → Int32 → Int32 → Int32 → Int32 → Int32 → Option γ} {P : px_M → Int32 → Int32 → Int32 → Int32 → Int32 → Int32 → Int32 → γ → Prop} (h : ∀ rc : px_M → Int32 → Int32 → Int32 → Int32 → Int32 → Int32 → Int32 → Option γ, (∀ (M : px_M) (x0 x1 x2 x3 x4 x5 x6 : Int32) (z : γ), rc M x0 x1 x2 x3 x4 x5 x6 = some z → P M x0 x1 x2 x3 x4 x5 x6 z) → ∀ (M : px_M) (x0 x1 x2 x3 x4 x5 x6 : Int32) (z : γ), F rc M x0 x1 x2 x3 x4 x5 x6 = some z → P M x0 x1 x2 x3 x4 x5 x6 z) : ∀ (j : Nat) (M : px_M) (x0 x1 x2 x3 x4 x5 x6 : Int32) (z : γ), px_fx7 F j M x0 x1 x2 x3 x4 x5 x6 = some z → P M x0 x1 x2 x3 x4 x5 x6 z := by
  intro j
  induction j with
  | zero => intro M x0 x1 x2 x3 x4 x5 x6 z hz; cases hz
  | succ j ih => intro M x0 x1 x2 x3 x4 x5 x6 z hz; exact h _ ih M x0 x1 x2 x3 x4 x5 x6 z hz
end
section
theorem px_fb {x : Int32} (h : narrow .boolean (.int x) = .int x) : fits .boolean (.int x) = true := by
  rw [← h]; unfold narrow fits; simp
  have e := pk_and x (m := 1) 1 (by decide)
  rcases Nat.mod_two_eq_zero_or_one x.toBitVec.toNat with h1 | h1
  · left; rw [e, show (2 : Nat) ^ 1 = 2 from rfl, h1]; rfl
  · right; rw [e, show (2 : Nat) ^ 1 = 2 from rfl, h1]; rfl
def wC (cs : Nat → ClassId) (ad : Nat → Nat) (M : px_M) : va_W := [(ad 0, .inr (5, [.ref (ad 1), .ref (ad 6), .ref (ad 7), .ref (ad 20), .ref (ad 24), .ref (ad 28), .ref (ad 30), .ref (ad 32), .ref (ad 43), .int (M 0 9), .int (M 0 10), .int (M 0 11), .int (M 0 12), .int (M 0 13), .int (M 0 14), .int (M 0 15), .int (M 0 16), .int (M 0 17)])), (ad 1, .inr (0, [.ref (ad 2), .ref (ad 3), .ref (ad 4), .ref (ad 5)])), (ad 2, .inl (cs 0, 10, .inl (M 2))), (ad 3, .inl (cs 0, 60, .inl (M 3))), (ad 4, .inl (cs 0, 60, .inl (M 4))), (ad 5, .inl (cs 0, 60, .inl (M 5))), (ad 6, .inl (cs 0, 8, .inl (M 6))), (ad 7, .inl (cs 2, 3, .inr (.inr (.inr (.inr (fun j => if j = 0 then some (ad 8) else if j = 1 then some (ad 12) else some (ad 16))))))), (ad 8, .inr (2, [.int (M 8 0), .ref (ad 9), .ref (ad 10), .ref (ad 11), .int (M 8 4), .int (M 8 5)])), (ad 9, .inl (cs 0, 40, .inl (M 9))), (ad 10, .inl (cs 0, 40, .inl (M 10))), (ad 11, .inl (cs 0, 40, .inl (M 11))), (ad 12, .inr (2, [.int (M 12 0), .ref (ad 13), .ref (ad 14), .ref (ad 15), .int (M 12 4), .int (M 12 5)])), (ad 13, .inl (cs 0, 1051, .inl (M 13))), (ad 14, .inl (cs 0, 1051, .inl (M 14))), (ad 15, .inl (cs 0, 1051, .inl (M 15))), (ad 16, .inr (2, [.int (M 16 0), .ref (ad 17), .ref (ad 18), .ref (ad 19), .int (M 16 4), .int (M 16 5)])), (ad 17, .inl (cs 0, 40, .inl (M 17))), (ad 18, .inl (cs 0, 40, .inl (M 18))), (ad 19, .inl (cs 0, 40, .inl (M 19))), (ad 20, .inr (2, [.int (M 20 0), .ref (ad 21), .ref (ad 22), .ref (ad 23), .int (M 20 4), .int (M 20 5)])), (ad 21, .inl (cs 0, 180, .inl (M 21))), (ad 22, .inl (cs 0, 180, .inl (M 22))), (ad 23, .inl (cs 0, 180, .inl (M 23))), (ad 24, .inr (2, [.int (M 24 0), .ref (ad 25), .ref (ad 26), .ref (ad 27), .int (M 24 4), .int (M 24 5)])), (ad 25, .inl (cs 0, 8, .inl (M 25))), (ad 26, .inl (cs 0, 8, .inl (M 26))), (ad 27, .inl (cs 0, 8, .inl (M 27))), (ad 28, .inr (1, [.ref (ad 29), .int (M 28 1)])), (ad 29, .inl (cs 0, 200, .inl (M 29))), (ad 30, .inr (1, [.ref (ad 31), .int (M 30 1)])), (ad 31, .inl (cs 0, 200, .inl (M 31))), (ad 32, .inr (3, [.ref (ad 20), .ref (ad 30), .ref (ad 33), .ref (ad 34), .ref (ad 35), .ref (ad 36), .ref (ad 37), .int (M 32 7), .ref (ad 38), .int (M 32 9), .ref (ad 39), .ref (ad 40), .ref (ad 41), .ref (ad 42), .int (M 32 14)])), (ad 33, .inl (cs 0, 40, .inl (M 33))), (ad 34, .inl (cs 0, 40, .inl (M 34))), (ad 35, .inl (cs 1, 40, .inl (M 35))), (ad 36, .inl (cs 1, 40, .inl (M 36))), (ad 37, .inl (cs 1, 40, .inl (M 37))), (ad 38, .inl (cs 0, 40, .inl (M 38))), (ad 39, .inl (cs 0, 80, .inl (M 39))), (ad 40, .inl (cs 0, 80, .inl (M 40))), (ad 41, .inl (cs 0, 80, .inl (M 41))), (ad 42, .inl (cs 0, 80, .inl (M 42))), (ad 43, .inr (4, [.ref (ad 44), .ref (ad 45), .ref (ad 46), .ref (ad 47), .ref (ad 48), .ref (ad 49), .ref (ad 50), .ref (ad 51), .int (M 43 8), .int (M 43 9)])), (ad 44, .inl (cs 0, 12, .inl (M 44))), (ad 45, .inl (cs 0, 12, .inl (M 45))), (ad 46, .inl (cs 0, 12, .inl (M 46))), (ad 47, .inl (cs 0, 12, .inl (M 47))), (ad 48, .inl (cs 0, 12, .inl (M 48))), (ad 49, .inl (cs 0, 12, .inl (M 49))), (ad 50, .inl (cs 1, 12, .inl (M 50))), (ad 51, .inl (cs 1, 12, .inl (M 51)))]
abbrev tyC (cs : Nat → ClassId) : List (ClassId × FieldType) := [(cs 0, .int), (cs 1, .boolean), (cs 2, .object "PromiseLoop$Line")]
theorem wu_X0 : ∀ w ∈ u_ws RX0 TX0 4, w ∈ px_TB := fun w h => px_tb ((by decide +kernel : ∀ w ∈ u_ws RX0 TX0 4, w ∈ lw_tbl) w h) ((by decide +kernel : ∀ w ∈ u_ws RX0 TX0 4, goodWord w = true) w h)
theorem wf_X0_0 : Cond.fieldLink RX0 9 (TX0 0).1 (TX0 0).2.1 (TX0 0).2.2.1 ∈ px_TB := px_tb (by decide +kernel) (by decide +kernel)
theorem wf_X0_1 : Cond.fieldLink RX0 15 (TX0 1).1 (TX0 1).2.1 (TX0 1).2.2.1 ∈ px_TB := px_tb (by decide +kernel) (by decide +kernel)
theorem wf_X0_2 : Cond.fieldLink RX0 18 (TX0 2).1 (TX0 2).2.1 (TX0 2).2.2.1 ∈ px_TB := px_tb (by decide +kernel) (by decide +kernel)
theorem wf_X0_3 : Cond.fieldLink RX0 21 (TX0 3).1 (TX0 3).2.1 (TX0 3).2.2.1 ∈ px_TB := px_tb (by decide +kernel) (by decide +kernel)
theorem wu_X1 : ∀ w ∈ u_ws RX1 TX1 2, w ∈ px_TB := fun w h => px_tb ((by decide +kernel : ∀ w ∈ u_ws RX1 TX1 2, w ∈ lw_tbl) w h) ((by decide +kernel : ∀ w ∈ u_ws RX1 TX1 2, goodWord w = true) w h)
theorem wf_X1_0 : Cond.fieldLink RX1 9 (TX1 0).1 (TX1 0).2.1 (TX1 0).2.2.1 ∈ px_TB := px_tb (by decide +kernel) (by decide +kernel)
theorem wf_X1_1 : Cond.fieldLink RX1 15 (TX1 1).1 (TX1 1).2.1 (TX1 1).2.2.1 ∈ px_TB := px_tb (by decide +kernel) (by decide +kernel)
theorem wu_X2 : ∀ w ∈ u_ws RX2 TX2 6, w ∈ px_TB := fun w h => px_tb ((by decide +kernel : ∀ w ∈ u_ws RX2 TX2 6, w ∈ lw_tbl) w h) ((by decide +kernel : ∀ w ∈ u_ws RX2 TX2 6, goodWord w = true) w h)
theorem wf_X2_0 : Cond.fieldLink RX2 16 (TX2 0).1 (TX2 0).2.1 (TX2 0).2.2.1 ∈ px_TB := px_tb (by decide +kernel) (by decide +kernel)
theorem wf_X2_1 : Cond.fieldLink RX2 19 (TX2 1).1 (TX2 1).2.1 (TX2 1).2.2.1 ∈ px_TB := px_tb (by decide +kernel) (by decide +kernel)
theorem wf_X2_2 : Cond.fieldLink RX2 23 (TX2 2).1 (TX2 2).2.1 (TX2 2).2.2.1 ∈ px_TB := px_tb (by decide +kernel) (by decide +kernel)
theorem wf_X2_3 : Cond.fieldLink RX2 26 (TX2 3).1 (TX2 3).2.1 (TX2 3).2.2.1 ∈ px_TB := px_tb (by decide +kernel) (by decide +kernel)
theorem wf_X2_4 : Cond.fieldLink RX2 7 (TX2 4).1 (TX2 4).2.1 (TX2 4).2.2.1 ∈ px_TB := px_tb (by decide +kernel) (by decide +kernel)
theorem wf_X2_5 : Cond.fieldLink RX2 13 (TX2 5).1 (TX2 5).2.1 (TX2 5).2.2.1 ∈ px_TB := px_tb (by decide +kernel) (by decide +kernel)
theorem wu_X3 : ∀ w ∈ u_ws RX3 TX3 15, w ∈ px_TB := fun w h => px_tb ((by decide +kernel : ∀ w ∈ u_ws RX3 TX3 15, w ∈ lw_tbl) w h) ((by decide +kernel : ∀ w ∈ u_ws RX3 TX3 15, goodWord w = true) w h)
theorem wf_X3_0 : Cond.fieldLink RX3 53 (TX3 0).1 (TX3 0).2.1 (TX3 0).2.2.1 ∈ px_TB := px_tb (by decide +kernel) (by decide +kernel)
theorem wf_X3_1 : Cond.fieldLink RX3 57 (TX3 1).1 (TX3 1).2.1 (TX3 1).2.2.1 ∈ px_TB := px_tb (by decide +kernel) (by decide +kernel)
theorem wf_X3_2 : Cond.fieldLink RX3 9 (TX3 2).1 (TX3 2).2.1 (TX3 2).2.2.1 ∈ px_TB := px_tb (by decide +kernel) (by decide +kernel)
theorem wf_X3_3 : Cond.fieldLink RX3 15 (TX3 3).1 (TX3 3).2.1 (TX3 3).2.2.1 ∈ px_TB := px_tb (by decide +kernel) (by decide +kernel)
theorem wf_X3_4 : Cond.fieldLink RX3 18 (TX3 4).1 (TX3 4).2.1 (TX3 4).2.2.1 ∈ px_TB := px_tb (by decide +kernel) (by decide +kernel)
theorem wf_X3_5 : Cond.fieldLink RX3 22 (TX3 5).1 (TX3 5).2.1 (TX3 5).2.2.1 ∈ px_TB := px_tb (by decide +kernel) (by decide +kernel)
theorem wf_X3_6 : Cond.fieldLink RX3 25 (TX3 6).1 (TX3 6).2.1 (TX3 6).2.2.1 ∈ px_TB := px_tb (by decide +kernel) (by decide +kernel)
theorem wf_X3_7 : Cond.fieldLink RX3 28 (TX3 7).1 (TX3 7).2.1 (TX3 7).2.2.1 ∈ px_TB := px_tb (by decide +kernel) (by decide +kernel)
theorem wf_X3_8 : Cond.fieldLink RX3 32 (TX3 8).1 (TX3 8).2.1 (TX3 8).2.2.1 ∈ px_TB := px_tb (by decide +kernel) (by decide +kernel)
theorem wf_X3_9 : Cond.fieldLink RX3 35 (TX3 9).1 (TX3 9).2.1 (TX3 9).2.2.1 ∈ px_TB := px_tb (by decide +kernel) (by decide +kernel)
theorem wf_X3_10 : Cond.fieldLink RX3 38 (TX3 10).1 (TX3 10).2.1 (TX3 10).2.2.1 ∈ px_TB := px_tb (by decide +kernel) (by decide +kernel)
theorem wf_X3_11 : Cond.fieldLink RX3 41 (TX3 11).1 (TX3 11).2.1 (TX3 11).2.2.1 ∈ px_TB := px_tb (by decide +kernel) (by decide +kernel)
theorem wf_X3_12 : Cond.fieldLink RX3 44 (TX3 12).1 (TX3 12).2.1 (TX3 12).2.2.1 ∈ px_TB := px_tb (by decide +kernel) (by decide +kernel)
theorem wf_X3_13 : Cond.fieldLink RX3 47 (TX3 13).1 (TX3 13).2.1 (TX3 13).2.2.1 ∈ px_TB := px_tb (by decide +kernel) (by decide +kernel)
theorem wf_X3_14 : Cond.fieldLink RX3 50 (TX3 14).1 (TX3 14).2.1 (TX3 14).2.2.1 ∈ px_TB := px_tb (by decide +kernel) (by decide +kernel)
theorem wu_X4 : ∀ w ∈ u_ws RX4 TX4 10, w ∈ px_TB := fun w h => px_tb ((by decide +kernel : ∀ w ∈ u_ws RX4 TX4 10, w ∈ lw_tbl) w h) ((by decide +kernel : ∀ w ∈ u_ws RX4 TX4 10, goodWord w = true) w h)
theorem wf_X4_0 : Cond.fieldLink RX4 9 (TX4 0).1 (TX4 0).2.1 (TX4 0).2.2.1 ∈ px_TB := px_tb (by decide +kernel) (by decide +kernel)
theorem wf_X4_1 : Cond.fieldLink RX4 15 (TX4 1).1 (TX4 1).2.1 (TX4 1).2.2.1 ∈ px_TB := px_tb (by decide +kernel) (by decide +kernel)
theorem wf_X4_2 : Cond.fieldLink RX4 18 (TX4 2).1 (TX4 2).2.1 (TX4 2).2.2.1 ∈ px_TB := px_tb (by decide +kernel) (by decide +kernel)
theorem wf_X4_3 : Cond.fieldLink RX4 21 (TX4 3).1 (TX4 3).2.1 (TX4 3).2.2.1 ∈ px_TB := px_tb (by decide +kernel) (by decide +kernel)
theorem wf_X4_4 : Cond.fieldLink RX4 24 (TX4 4).1 (TX4 4).2.1 (TX4 4).2.2.1 ∈ px_TB := px_tb (by decide +kernel) (by decide +kernel)
theorem wf_X4_5 : Cond.fieldLink RX4 27 (TX4 5).1 (TX4 5).2.1 (TX4 5).2.2.1 ∈ px_TB := px_tb (by decide +kernel) (by decide +kernel)
theorem wf_X4_6 : Cond.fieldLink RX4 30 (TX4 6).1 (TX4 6).2.1 (TX4 6).2.2.1 ∈ px_TB := px_tb (by decide +kernel) (by decide +kernel)
theorem wf_X4_7 : Cond.fieldLink RX4 34 (TX4 7).1 (TX4 7).2.1 (TX4 7).2.2.1 ∈ px_TB := px_tb (by decide +kernel) (by decide +kernel)
theorem wf_X4_8 : Cond.fieldLink RX4 37 (TX4 8).1 (TX4 8).2.1 (TX4 8).2.2.1 ∈ px_TB := px_tb (by decide +kernel) (by decide +kernel)
theorem wf_X4_9 : Cond.fieldLink RX4 41 (TX4 9).1 (TX4 9).2.1 (TX4 9).2.2.1 ∈ px_TB := px_tb (by decide +kernel) (by decide +kernel)
theorem wu_X5 : ∀ w ∈ u_ws RX5 TX5 18, w ∈ px_TB := fun w h => px_tb ((by decide +kernel : ∀ w ∈ u_ws RX5 TX5 18, w ∈ lw_tbl) w h) ((by decide +kernel : ∀ w ∈ u_ws RX5 TX5 18, goodWord w = true) w h)
theorem wf_X5_0 : Cond.fieldLink RX5 12 (TX5 0).1 (TX5 0).2.1 (TX5 0).2.2.1 ∈ px_TB := px_tb (by decide +kernel) (by decide +kernel)
theorem wf_X5_1 : Cond.fieldLink RX5 16 (TX5 1).1 (TX5 1).2.1 (TX5 1).2.2.1 ∈ px_TB := px_tb (by decide +kernel) (by decide +kernel)
theorem wf_X5_2 : Cond.fieldLink RX5 25 (TX5 2).1 (TX5 2).2.1 (TX5 2).2.2.1 ∈ px_TB := px_tb (by decide +kernel) (by decide +kernel)
theorem wf_X5_3 : Cond.fieldLink RX5 29 (TX5 3).1 (TX5 3).2.1 (TX5 3).2.2.1 ∈ px_TB := px_tb (by decide +kernel) (by decide +kernel)
theorem wf_X5_4 : Cond.fieldLink RX5 33 (TX5 4).1 (TX5 4).2.1 (TX5 4).2.2.1 ∈ px_TB := px_tb (by decide +kernel) (by decide +kernel)
theorem wf_X5_5 : Cond.fieldLink RX5 39 (TX5 5).1 (TX5 5).2.1 (TX5 5).2.2.1 ∈ px_TB := px_tb (by decide +kernel) (by decide +kernel)
theorem wf_X5_6 : Cond.fieldLink RX5 43 (TX5 6).1 (TX5 6).2.1 (TX5 6).2.2.1 ∈ px_TB := px_tb (by decide +kernel) (by decide +kernel)
theorem wf_X5_7 : Cond.fieldLink RX5 51 (TX5 7).1 (TX5 7).2.1 (TX5 7).2.2.1 ∈ px_TB := px_tb (by decide +kernel) (by decide +kernel)
theorem wf_X5_8 : Cond.fieldLink RX5 58 (TX5 8).1 (TX5 8).2.1 (TX5 8).2.2.1 ∈ px_TB := px_tb (by decide +kernel) (by decide +kernel)
theorem wf_X5_9 : Cond.fieldLink RX5 62 (TX5 9).1 (TX5 9).2.1 (TX5 9).2.2.1 ∈ px_TB := px_tb (by decide +kernel) (by decide +kernel)
theorem wf_X5_10 : Cond.fieldLink RX5 66 (TX5 10).1 (TX5 10).2.1 (TX5 10).2.2.1 ∈ px_TB := px_tb (by decide +kernel) (by decide +kernel)
theorem wf_X5_11 : Cond.fieldLink RX5 69 (TX5 11).1 (TX5 11).2.1 (TX5 11).2.2.1 ∈ px_TB := px_tb (by decide +kernel) (by decide +kernel)
theorem wf_X5_12 : Cond.fieldLink RX5 73 (TX5 12).1 (TX5 12).2.1 (TX5 12).2.2.1 ∈ px_TB := px_tb (by decide +kernel) (by decide +kernel)
theorem wf_X5_13 : Cond.fieldLink RX5 76 (TX5 13).1 (TX5 13).2.1 (TX5 13).2.2.1 ∈ px_TB := px_tb (by decide +kernel) (by decide +kernel)
theorem wf_X5_14 : Cond.fieldLink RX5 79 (TX5 14).1 (TX5 14).2.1 (TX5 14).2.2.1 ∈ px_TB := px_tb (by decide +kernel) (by decide +kernel)
theorem wf_X5_15 : Cond.fieldLink RX5 82 (TX5 15).1 (TX5 15).2.1 (TX5 15).2.2.1 ∈ px_TB := px_tb (by decide +kernel) (by decide +kernel)
theorem wf_X5_16 : Cond.fieldLink RX5 85 (TX5 16).1 (TX5 16).2.1 (TX5 16).2.2.1 ∈ px_TB := px_tb (by decide +kernel) (by decide +kernel)
theorem wf_X5_17 : Cond.fieldLink RX5 88 (TX5 17).1 (TX5 17).2.1 (TX5 17).2.2.1 ∈ px_TB := px_tb (by decide +kernel) (by decide +kernel)
section PXCC
variable {p : Program} {l : Launch} {e : Env} {R : Room} {s : State} {m : MethodId} {args : Array Value} {below : List Frame} {meth : Method} {c : Code} {H H0 : Heap} {locs : List Loc} {cells slots : Nat} {Q : State → Prop} {cc : ByteArray} {pc : Nat} {ls : Array Slot} {rest : List Value} {D : va_G} {cs : Nat → ClassId} {ad : Nat → Nat} {A : Nat → Prop} {M : px_M} {x i : Int32}
theorem rcC_0 (hK : va_K D vwCl (tyC cs) s) (w : px_H D (wC cs ad) A H0 M H locs) : ∃ cell : Cell, H[ad 0]? = some cell ∧ cell.vm.isStatics = false ∧ s.vm.findClass RX5 = some cell.cls := va_recv hK w.1 (ci := 5) (q0 := 0) rfl rfl
theorem gtC_0_0 (X : px_X D (tyC cs) p s m args c cc RX5) (w : px_H D (wC cs ad) A H0 M H locs) (hd : decode cc pc = .ok (.getfield 12, 3)) (kk : W p l e R s m args below meth c H locs cells slots Q (F0 m (pc + 3) ls (.ref (ad 1) :: rest))) : W p l e R s m args below meth c H locs cells slots Q (F0 m pc ls (.ref (ad 0) :: rest)) := va_get (D := D) (ci := 5) (C := RX5) (T := TX5) (N := 18) X.1 X.2.1 X.2.2.1 wu_X5 X.2.2.2.1 X.2.2.2.2 w.1 0 rfl rfl 0 (by decide) (X.2.2.1 _ wf_X5_0) (fun _ h => h) rfl hd kk
theorem gtC_0_1 (X : px_X D (tyC cs) p s m args c cc RX5) (w : px_H D (wC cs ad) A H0 M H locs) (hd : decode cc pc = .ok (.getfield 16, 3)) (kk : W p l e R s m args below meth c H locs cells slots Q (F0 m (pc + 3) ls (.ref (ad 6) :: rest))) : W p l e R s m args below meth c H locs cells slots Q (F0 m pc ls (.ref (ad 0) :: rest)) := va_get (D := D) (ci := 5) (C := RX5) (T := TX5) (N := 18) X.1 X.2.1 X.2.2.1 wu_X5 X.2.2.2.1 X.2.2.2.2 w.1 0 rfl rfl 1 (by decide) (X.2.2.1 _ wf_X5_1) (fun _ h => h) rfl hd kk
theorem gtC_0_2 (X : px_X D (tyC cs) p s m args c cc RX5) (w : px_H D (wC cs ad) A H0 M H locs) (hd : decode cc pc = .ok (.getfield 25, 3)) (kk : W p l e R s m args below meth c H locs cells slots Q (F0 m (pc + 3) ls (.ref (ad 7) :: rest))) : W p l e R s m args below meth c H locs cells slots Q (F0 m pc ls (.ref (ad 0) :: rest)) := va_get (D := D) (ci := 5) (C := RX5) (T := TX5) (N := 18) X.1 X.2.1 X.2.2.1 wu_X5 X.2.2.2.1 X.2.2.2.2 w.1 0 rfl rfl 2 (by decide) (X.2.2.1 _ wf_X5_2) (fun _ h => h) rfl hd kk
theorem gtC_0_3 (X : px_X D (tyC cs) p s m args c cc RX5) (w : px_H D (wC cs ad) A H0 M H locs) (hd : decode cc pc = .ok (.getfield 29, 3)) (kk : W p l e R s m args below meth c H locs cells slots Q (F0 m (pc + 3) ls (.ref (ad 20) :: rest))) : W p l e R s m args below meth c H locs cells slots Q (F0 m pc ls (.ref (ad 0) :: rest)) := va_get (D := D) (ci := 5) (C := RX5) (T := TX5) (N := 18) X.1 X.2.1 X.2.2.1 wu_X5 X.2.2.2.1 X.2.2.2.2 w.1 0 rfl rfl 3 (by decide) (X.2.2.1 _ wf_X5_3) (fun _ h => h) rfl hd kk
theorem gtC_0_4 (X : px_X D (tyC cs) p s m args c cc RX5) (w : px_H D (wC cs ad) A H0 M H locs) (hd : decode cc pc = .ok (.getfield 33, 3)) (kk : W p l e R s m args below meth c H locs cells slots Q (F0 m (pc + 3) ls (.ref (ad 24) :: rest))) : W p l e R s m args below meth c H locs cells slots Q (F0 m pc ls (.ref (ad 0) :: rest)) := va_get (D := D) (ci := 5) (C := RX5) (T := TX5) (N := 18) X.1 X.2.1 X.2.2.1 wu_X5 X.2.2.2.1 X.2.2.2.2 w.1 0 rfl rfl 4 (by decide) (X.2.2.1 _ wf_X5_4) (fun _ h => h) rfl hd kk
theorem gtC_0_5 (X : px_X D (tyC cs) p s m args c cc RX5) (w : px_H D (wC cs ad) A H0 M H locs) (hd : decode cc pc = .ok (.getfield 39, 3)) (kk : W p l e R s m args below meth c H locs cells slots Q (F0 m (pc + 3) ls (.ref (ad 28) :: rest))) : W p l e R s m args below meth c H locs cells slots Q (F0 m pc ls (.ref (ad 0) :: rest)) := va_get (D := D) (ci := 5) (C := RX5) (T := TX5) (N := 18) X.1 X.2.1 X.2.2.1 wu_X5 X.2.2.2.1 X.2.2.2.2 w.1 0 rfl rfl 5 (by decide) (X.2.2.1 _ wf_X5_5) (fun _ h => h) rfl hd kk
theorem gtC_0_6 (X : px_X D (tyC cs) p s m args c cc RX5) (w : px_H D (wC cs ad) A H0 M H locs) (hd : decode cc pc = .ok (.getfield 43, 3)) (kk : W p l e R s m args below meth c H locs cells slots Q (F0 m (pc + 3) ls (.ref (ad 30) :: rest))) : W p l e R s m args below meth c H locs cells slots Q (F0 m pc ls (.ref (ad 0) :: rest)) := va_get (D := D) (ci := 5) (C := RX5) (T := TX5) (N := 18) X.1 X.2.1 X.2.2.1 wu_X5 X.2.2.2.1 X.2.2.2.2 w.1 0 rfl rfl 6 (by decide) (X.2.2.1 _ wf_X5_6) (fun _ h => h) rfl hd kk
theorem gtC_0_7 (X : px_X D (tyC cs) p s m args c cc RX5) (w : px_H D (wC cs ad) A H0 M H locs) (hd : decode cc pc = .ok (.getfield 51, 3)) (kk : W p l e R s m args below meth c H locs cells slots Q (F0 m (pc + 3) ls (.ref (ad 32) :: rest))) : W p l e R s m args below meth c H locs cells slots Q (F0 m pc ls (.ref (ad 0) :: rest)) := va_get (D := D) (ci := 5) (C := RX5) (T := TX5) (N := 18) X.1 X.2.1 X.2.2.1 wu_X5 X.2.2.2.1 X.2.2.2.2 w.1 0 rfl rfl 7 (by decide) (X.2.2.1 _ wf_X5_7) (fun _ h => h) rfl hd kk
theorem gtC_0_8 (X : px_X D (tyC cs) p s m args c cc RX5) (w : px_H D (wC cs ad) A H0 M H locs) (hd : decode cc pc = .ok (.getfield 58, 3)) (kk : W p l e R s m args below meth c H locs cells slots Q (F0 m (pc + 3) ls (.ref (ad 43) :: rest))) : W p l e R s m args below meth c H locs cells slots Q (F0 m pc ls (.ref (ad 0) :: rest)) := va_get (D := D) (ci := 5) (C := RX5) (T := TX5) (N := 18) X.1 X.2.1 X.2.2.1 wu_X5 X.2.2.2.1 X.2.2.2.2 w.1 0 rfl rfl 8 (by decide) (X.2.2.1 _ wf_X5_8) (fun _ h => h) rfl hd kk
theorem gtC_0_9 (X : px_X D (tyC cs) p s m args c cc RX5) (w : px_H D (wC cs ad) A H0 M H locs) (hd : decode cc pc = .ok (.getfield 62, 3)) (kk : W p l e R s m args below meth c H locs cells slots Q (F0 m (pc + 3) ls (.int (M 0 9) :: rest))) : W p l e R s m args below meth c H locs cells slots Q (F0 m pc ls (.ref (ad 0) :: rest)) := va_get (D := D) (ci := 5) (C := RX5) (T := TX5) (N := 18) X.1 X.2.1 X.2.2.1 wu_X5 X.2.2.2.1 X.2.2.2.2 w.1 0 rfl rfl 9 (by decide) (X.2.2.1 _ wf_X5_9) (fun _ h => h) rfl hd kk
theorem ptC_0_9 (X : px_X D (tyC cs) p s m args c cc RX5) (w : px_H D (wC cs ad) A H0 M H locs) (hd : decode cc pc = .ok (.putfield 62, 3)) (kk : ∀ (H : Heap) (locs : List Loc), px_H D (wC cs ad) A H0 (px_up M 0 9 x) H locs → W p l e R s m args below meth c H locs cells slots Q (F0 m (pc + 3) ls rest)) : W p l e R s m args below meth c H locs cells slots Q (F0 m pc ls (.int x :: .ref (ad 0) :: rest)) := va_put (D := D) (ci := 5) (v := .int x) (ty := .int) (C := RX5) (T := TX5) (N := 18) X.1 X.2.1 X.2.2.1 wu_X5 tyX5 tyX5_ok nmX5 X.2.2.2.1 X.2.2.2.2 w.1 w.2.1 w.2.2.1 0 rfl rfl 9 (by decide) (X.2.2.1 _ wf_X5_9) (fun _ h => h) rfl (by decide +kernel) rfl rfl (Nat.le_of_ble_eq_true rfl) hd (fun H1 locs1 hP hD hS => kk H1 locs1 ⟨hP, hD, hS, w.2.2.2⟩)
theorem gtC_0_10 (X : px_X D (tyC cs) p s m args c cc RX5) (w : px_H D (wC cs ad) A H0 M H locs) (hd : decode cc pc = .ok (.getfield 66, 3)) (kk : W p l e R s m args below meth c H locs cells slots Q (F0 m (pc + 3) ls (.int (M 0 10) :: rest))) : W p l e R s m args below meth c H locs cells slots Q (F0 m pc ls (.ref (ad 0) :: rest)) := va_get (D := D) (ci := 5) (C := RX5) (T := TX5) (N := 18) X.1 X.2.1 X.2.2.1 wu_X5 X.2.2.2.1 X.2.2.2.2 w.1 0 rfl rfl 10 (by decide) (X.2.2.1 _ wf_X5_10) (fun _ h => h) rfl hd kk
theorem ptC_0_10 (X : px_X D (tyC cs) p s m args c cc RX5) (w : px_H D (wC cs ad) A H0 M H locs) (hd : decode cc pc = .ok (.putfield 66, 3)) (kk : ∀ (H : Heap) (locs : List Loc), px_H D (wC cs ad) A H0 (px_up M 0 10 x) H locs → W p l e R s m args below meth c H locs cells slots Q (F0 m (pc + 3) ls rest)) : W p l e R s m args below meth c H locs cells slots Q (F0 m pc ls (.int x :: .ref (ad 0) :: rest)) := va_put (D := D) (ci := 5) (v := .int x) (ty := .int) (C := RX5) (T := TX5) (N := 18) X.1 X.2.1 X.2.2.1 wu_X5 tyX5 tyX5_ok nmX5 X.2.2.2.1 X.2.2.2.2 w.1 w.2.1 w.2.2.1 0 rfl rfl 10 (by decide) (X.2.2.1 _ wf_X5_10) (fun _ h => h) rfl (by decide +kernel) rfl rfl (Nat.le_of_ble_eq_true rfl) hd (fun H1 locs1 hP hD hS => kk H1 locs1 ⟨hP, hD, hS, w.2.2.2⟩)
theorem gtC_0_11 (X : px_X D (tyC cs) p s m args c cc RX5) (w : px_H D (wC cs ad) A H0 M H locs) (hd : decode cc pc = .ok (.getfield 69, 3)) (kk : W p l e R s m args below meth c H locs cells slots Q (F0 m (pc + 3) ls (.int (M 0 11) :: rest))) : W p l e R s m args below meth c H locs cells slots Q (F0 m pc ls (.ref (ad 0) :: rest)) := va_get (D := D) (ci := 5) (C := RX5) (T := TX5) (N := 18) X.1 X.2.1 X.2.2.1 wu_X5 X.2.2.2.1 X.2.2.2.2 w.1 0 rfl rfl 11 (by decide) (X.2.2.1 _ wf_X5_11) (fun _ h => h) rfl hd kk
theorem ptC_0_11 (X : px_X D (tyC cs) p s m args c cc RX5) (w : px_H D (wC cs ad) A H0 M H locs) (hz : narrow .boolean (.int x) = .int x) (hd : decode cc pc = .ok (.putfield 69, 3)) (kk : ∀ (H : Heap) (locs : List Loc), px_H D (wC cs ad) A H0 (px_up M 0 11 x) H locs → W p l e R s m args below meth c H locs cells slots Q (F0 m (pc + 3) ls rest)) : W p l e R s m args below meth c H locs cells slots Q (F0 m pc ls (.int x :: .ref (ad 0) :: rest)) := va_put (D := D) (ci := 5) (v := .int x) (ty := .boolean) (C := RX5) (T := TX5) (N := 18) X.1 X.2.1 X.2.2.1 wu_X5 tyX5 tyX5_ok nmX5 X.2.2.2.1 X.2.2.2.2 w.1 w.2.1 w.2.2.1 0 rfl rfl 11 (by decide) (X.2.2.1 _ wf_X5_11) (fun _ h => h) rfl (by decide +kernel) hz (px_fb hz) (Nat.le_of_ble_eq_true rfl) hd (fun H1 locs1 hP hD hS => kk H1 locs1 ⟨hP, hD, hS, w.2.2.2⟩)
theorem gtC_0_12 (X : px_X D (tyC cs) p s m args c cc RX5) (w : px_H D (wC cs ad) A H0 M H locs) (hd : decode cc pc = .ok (.getfield 73, 3)) (kk : W p l e R s m args below meth c H locs cells slots Q (F0 m (pc + 3) ls (.int (M 0 12) :: rest))) : W p l e R s m args below meth c H locs cells slots Q (F0 m pc ls (.ref (ad 0) :: rest)) := va_get (D := D) (ci := 5) (C := RX5) (T := TX5) (N := 18) X.1 X.2.1 X.2.2.1 wu_X5 X.2.2.2.1 X.2.2.2.2 w.1 0 rfl rfl 12 (by decide) (X.2.2.1 _ wf_X5_12) (fun _ h => h) rfl hd kk
theorem ptC_0_12 (X : px_X D (tyC cs) p s m args c cc RX5) (w : px_H D (wC cs ad) A H0 M H locs) (hd : decode cc pc = .ok (.putfield 73, 3)) (kk : ∀ (H : Heap) (locs : List Loc), px_H D (wC cs ad) A H0 (px_up M 0 12 x) H locs → W p l e R s m args below meth c H locs cells slots Q (F0 m (pc + 3) ls rest)) : W p l e R s m args below meth c H locs cells slots Q (F0 m pc ls (.int x :: .ref (ad 0) :: rest)) := va_put (D := D) (ci := 5) (v := .int x) (ty := .int) (C := RX5) (T := TX5) (N := 18) X.1 X.2.1 X.2.2.1 wu_X5 tyX5 tyX5_ok nmX5 X.2.2.2.1 X.2.2.2.2 w.1 w.2.1 w.2.2.1 0 rfl rfl 12 (by decide) (X.2.2.1 _ wf_X5_12) (fun _ h => h) rfl (by decide +kernel) rfl rfl (Nat.le_of_ble_eq_true rfl) hd (fun H1 locs1 hP hD hS => kk H1 locs1 ⟨hP, hD, hS, w.2.2.2⟩)
theorem gtC_0_13 (X : px_X D (tyC cs) p s m args c cc RX5) (w : px_H D (wC cs ad) A H0 M H locs) (hd : decode cc pc = .ok (.getfield 76, 3)) (kk : W p l e R s m args below meth c H locs cells slots Q (F0 m (pc + 3) ls (.int (M 0 13) :: rest))) : W p l e R s m args below meth c H locs cells slots Q (F0 m pc ls (.ref (ad 0) :: rest)) := va_get (D := D) (ci := 5) (C := RX5) (T := TX5) (N := 18) X.1 X.2.1 X.2.2.1 wu_X5 X.2.2.2.1 X.2.2.2.2 w.1 0 rfl rfl 13 (by decide) (X.2.2.1 _ wf_X5_13) (fun _ h => h) rfl hd kk
theorem ptC_0_13 (X : px_X D (tyC cs) p s m args c cc RX5) (w : px_H D (wC cs ad) A H0 M H locs) (hd : decode cc pc = .ok (.putfield 76, 3)) (kk : ∀ (H : Heap) (locs : List Loc), px_H D (wC cs ad) A H0 (px_up M 0 13 x) H locs → W p l e R s m args below meth c H locs cells slots Q (F0 m (pc + 3) ls rest)) : W p l e R s m args below meth c H locs cells slots Q (F0 m pc ls (.int x :: .ref (ad 0) :: rest)) := va_put (D := D) (ci := 5) (v := .int x) (ty := .int) (C := RX5) (T := TX5) (N := 18) X.1 X.2.1 X.2.2.1 wu_X5 tyX5 tyX5_ok nmX5 X.2.2.2.1 X.2.2.2.2 w.1 w.2.1 w.2.2.1 0 rfl rfl 13 (by decide) (X.2.2.1 _ wf_X5_13) (fun _ h => h) rfl (by decide +kernel) rfl rfl (Nat.le_of_ble_eq_true rfl) hd (fun H1 locs1 hP hD hS => kk H1 locs1 ⟨hP, hD, hS, w.2.2.2⟩)
theorem gtC_0_14 (X : px_X D (tyC cs) p s m args c cc RX5) (w : px_H D (wC cs ad) A H0 M H locs) (hd : decode cc pc = .ok (.getfield 79, 3)) (kk : W p l e R s m args below meth c H locs cells slots Q (F0 m (pc + 3) ls (.int (M 0 14) :: rest))) : W p l e R s m args below meth c H locs cells slots Q (F0 m pc ls (.ref (ad 0) :: rest)) := va_get (D := D) (ci := 5) (C := RX5) (T := TX5) (N := 18) X.1 X.2.1 X.2.2.1 wu_X5 X.2.2.2.1 X.2.2.2.2 w.1 0 rfl rfl 14 (by decide) (X.2.2.1 _ wf_X5_14) (fun _ h => h) rfl hd kk
theorem ptC_0_14 (X : px_X D (tyC cs) p s m args c cc RX5) (w : px_H D (wC cs ad) A H0 M H locs) (hd : decode cc pc = .ok (.putfield 79, 3)) (kk : ∀ (H : Heap) (locs : List Loc), px_H D (wC cs ad) A H0 (px_up M 0 14 x) H locs → W p l e R s m args below meth c H locs cells slots Q (F0 m (pc + 3) ls rest)) : W p l e R s m args below meth c H locs cells slots Q (F0 m pc ls (.int x :: .ref (ad 0) :: rest)) := va_put (D := D) (ci := 5) (v := .int x) (ty := .int) (C := RX5) (T := TX5) (N := 18) X.1 X.2.1 X.2.2.1 wu_X5 tyX5 tyX5_ok nmX5 X.2.2.2.1 X.2.2.2.2 w.1 w.2.1 w.2.2.1 0 rfl rfl 14 (by decide) (X.2.2.1 _ wf_X5_14) (fun _ h => h) rfl (by decide +kernel) rfl rfl (Nat.le_of_ble_eq_true rfl) hd (fun H1 locs1 hP hD hS => kk H1 locs1 ⟨hP, hD, hS, w.2.2.2⟩)
theorem gtC_0_15 (X : px_X D (tyC cs) p s m args c cc RX5) (w : px_H D (wC cs ad) A H0 M H locs) (hd : decode cc pc = .ok (.getfield 82, 3)) (kk : W p l e R s m args below meth c H locs cells slots Q (F0 m (pc + 3) ls (.int (M 0 15) :: rest))) : W p l e R s m args below meth c H locs cells slots Q (F0 m pc ls (.ref (ad 0) :: rest)) := va_get (D := D) (ci := 5) (C := RX5) (T := TX5) (N := 18) X.1 X.2.1 X.2.2.1 wu_X5 X.2.2.2.1 X.2.2.2.2 w.1 0 rfl rfl 15 (by decide) (X.2.2.1 _ wf_X5_15) (fun _ h => h) rfl hd kk
theorem ptC_0_15 (X : px_X D (tyC cs) p s m args c cc RX5) (w : px_H D (wC cs ad) A H0 M H locs) (hz : narrow .boolean (.int x) = .int x) (hd : decode cc pc = .ok (.putfield 82, 3)) (kk : ∀ (H : Heap) (locs : List Loc), px_H D (wC cs ad) A H0 (px_up M 0 15 x) H locs → W p l e R s m args below meth c H locs cells slots Q (F0 m (pc + 3) ls rest)) : W p l e R s m args below meth c H locs cells slots Q (F0 m pc ls (.int x :: .ref (ad 0) :: rest)) := va_put (D := D) (ci := 5) (v := .int x) (ty := .boolean) (C := RX5) (T := TX5) (N := 18) X.1 X.2.1 X.2.2.1 wu_X5 tyX5 tyX5_ok nmX5 X.2.2.2.1 X.2.2.2.2 w.1 w.2.1 w.2.2.1 0 rfl rfl 15 (by decide) (X.2.2.1 _ wf_X5_15) (fun _ h => h) rfl (by decide +kernel) hz (px_fb hz) (Nat.le_of_ble_eq_true rfl) hd (fun H1 locs1 hP hD hS => kk H1 locs1 ⟨hP, hD, hS, w.2.2.2⟩)
theorem gtC_0_16 (X : px_X D (tyC cs) p s m args c cc RX5) (w : px_H D (wC cs ad) A H0 M H locs) (hd : decode cc pc = .ok (.getfield 85, 3)) (kk : W p l e R s m args below meth c H locs cells slots Q (F0 m (pc + 3) ls (.int (M 0 16) :: rest))) : W p l e R s m args below meth c H locs cells slots Q (F0 m pc ls (.ref (ad 0) :: rest)) := va_get (D := D) (ci := 5) (C := RX5) (T := TX5) (N := 18) X.1 X.2.1 X.2.2.1 wu_X5 X.2.2.2.1 X.2.2.2.2 w.1 0 rfl rfl 16 (by decide) (X.2.2.1 _ wf_X5_16) (fun _ h => h) rfl hd kk
theorem ptC_0_16 (X : px_X D (tyC cs) p s m args c cc RX5) (w : px_H D (wC cs ad) A H0 M H locs) (hz : narrow .boolean (.int x) = .int x) (hd : decode cc pc = .ok (.putfield 85, 3)) (kk : ∀ (H : Heap) (locs : List Loc), px_H D (wC cs ad) A H0 (px_up M 0 16 x) H locs → W p l e R s m args below meth c H locs cells slots Q (F0 m (pc + 3) ls rest)) : W p l e R s m args below meth c H locs cells slots Q (F0 m pc ls (.int x :: .ref (ad 0) :: rest)) := va_put (D := D) (ci := 5) (v := .int x) (ty := .boolean) (C := RX5) (T := TX5) (N := 18) X.1 X.2.1 X.2.2.1 wu_X5 tyX5 tyX5_ok nmX5 X.2.2.2.1 X.2.2.2.2 w.1 w.2.1 w.2.2.1 0 rfl rfl 16 (by decide) (X.2.2.1 _ wf_X5_16) (fun _ h => h) rfl (by decide +kernel) hz (px_fb hz) (Nat.le_of_ble_eq_true rfl) hd (fun H1 locs1 hP hD hS => kk H1 locs1 ⟨hP, hD, hS, w.2.2.2⟩)
theorem gtC_0_17 (X : px_X D (tyC cs) p s m args c cc RX5) (w : px_H D (wC cs ad) A H0 M H locs) (hd : decode cc pc = .ok (.getfield 88, 3)) (kk : W p l e R s m args below meth c H locs cells slots Q (F0 m (pc + 3) ls (.int (M 0 17) :: rest))) : W p l e R s m args below meth c H locs cells slots Q (F0 m pc ls (.ref (ad 0) :: rest)) := va_get (D := D) (ci := 5) (C := RX5) (T := TX5) (N := 18) X.1 X.2.1 X.2.2.1 wu_X5 X.2.2.2.1 X.2.2.2.2 w.1 0 rfl rfl 17 (by decide) (X.2.2.1 _ wf_X5_17) (fun _ h => h) rfl hd kk
theorem ptC_0_17 (X : px_X D (tyC cs) p s m args c cc RX5) (w : px_H D (wC cs ad) A H0 M H locs) (hd : decode cc pc = .ok (.putfield 88, 3)) (kk : ∀ (H : Heap) (locs : List Loc), px_H D (wC cs ad) A H0 (px_up M 0 17 x) H locs → W p l e R s m args below meth c H locs cells slots Q (F0 m (pc + 3) ls rest)) : W p l e R s m args below meth c H locs cells slots Q (F0 m pc ls (.int x :: .ref (ad 0) :: rest)) := va_put (D := D) (ci := 5) (v := .int x) (ty := .int) (C := RX5) (T := TX5) (N := 18) X.1 X.2.1 X.2.2.1 wu_X5 tyX5 tyX5_ok nmX5 X.2.2.2.1 X.2.2.2.2 w.1 w.2.1 w.2.2.1 0 rfl rfl 17 (by decide) (X.2.2.1 _ wf_X5_17) (fun _ h => h) rfl (by decide +kernel) rfl rfl (Nat.le_of_ble_eq_true rfl) hd (fun H1 locs1 hP hD hS => kk H1 locs1 ⟨hP, hD, hS, w.2.2.2⟩)
theorem rcC_1 (hK : va_K D vwCl (tyC cs) s) (w : px_H D (wC cs ad) A H0 M H locs) : ∃ cell : Cell, H[ad 1]? = some cell ∧ cell.vm.isStatics = false ∧ s.vm.findClass RX0 = some cell.cls := va_recv hK w.1 (ci := 0) (q0 := 1) rfl rfl
theorem gtC_1_0 (X : px_X D (tyC cs) p s m args c cc RX0) (w : px_H D (wC cs ad) A H0 M H locs) (hd : decode cc pc = .ok (.getfield 9, 3)) (kk : W p l e R s m args below meth c H locs cells slots Q (F0 m (pc + 3) ls (.ref (ad 2) :: rest))) : W p l e R s m args below meth c H locs cells slots Q (F0 m pc ls (.ref (ad 1) :: rest)) := va_get (D := D) (ci := 0) (C := RX0) (T := TX0) (N := 4) X.1 X.2.1 X.2.2.1 wu_X0 X.2.2.2.1 X.2.2.2.2 w.1 1 rfl rfl 0 (by decide) (X.2.2.1 _ wf_X0_0) (fun _ h => h) rfl hd kk
theorem gtC_1_1 (X : px_X D (tyC cs) p s m args c cc RX0) (w : px_H D (wC cs ad) A H0 M H locs) (hd : decode cc pc = .ok (.getfield 15, 3)) (kk : W p l e R s m args below meth c H locs cells slots Q (F0 m (pc + 3) ls (.ref (ad 3) :: rest))) : W p l e R s m args below meth c H locs cells slots Q (F0 m pc ls (.ref (ad 1) :: rest)) := va_get (D := D) (ci := 0) (C := RX0) (T := TX0) (N := 4) X.1 X.2.1 X.2.2.1 wu_X0 X.2.2.2.1 X.2.2.2.2 w.1 1 rfl rfl 1 (by decide) (X.2.2.1 _ wf_X0_1) (fun _ h => h) rfl hd kk
theorem gtC_1_2 (X : px_X D (tyC cs) p s m args c cc RX0) (w : px_H D (wC cs ad) A H0 M H locs) (hd : decode cc pc = .ok (.getfield 18, 3)) (kk : W p l e R s m args below meth c H locs cells slots Q (F0 m (pc + 3) ls (.ref (ad 4) :: rest))) : W p l e R s m args below meth c H locs cells slots Q (F0 m pc ls (.ref (ad 1) :: rest)) := va_get (D := D) (ci := 0) (C := RX0) (T := TX0) (N := 4) X.1 X.2.1 X.2.2.1 wu_X0 X.2.2.2.1 X.2.2.2.2 w.1 1 rfl rfl 2 (by decide) (X.2.2.1 _ wf_X0_2) (fun _ h => h) rfl hd kk
theorem gtC_1_3 (X : px_X D (tyC cs) p s m args c cc RX0) (w : px_H D (wC cs ad) A H0 M H locs) (hd : decode cc pc = .ok (.getfield 21, 3)) (kk : W p l e R s m args below meth c H locs cells slots Q (F0 m (pc + 3) ls (.ref (ad 5) :: rest))) : W p l e R s m args below meth c H locs cells slots Q (F0 m pc ls (.ref (ad 1) :: rest)) := va_get (D := D) (ci := 0) (C := RX0) (T := TX0) (N := 4) X.1 X.2.1 X.2.2.1 wu_X0 X.2.2.2.1 X.2.2.2.2 w.1 1 rfl rfl 3 (by decide) (X.2.2.1 _ wf_X0_3) (fun _ h => h) rfl hd kk
theorem ilC_2 {own : String} (X : px_X D (tyC cs) p s m args c cc own) (w : px_H D (wC cs ad) A H0 M H locs) (hi : vp_in i 10) (hd : decode cc pc = .ok (.iaload, 1)) (kk : W p l e R s m args below meth c H locs cells slots Q (F0 m (pc + 1) ls (.int (M 2 i.toNatClampNeg) :: rest))) : W p l e R s m args below meth c H locs cells slots Q (F0 m pc ls (.int i :: .ref (ad 2) :: rest)) := va_iald X.1 X.2.1 X.2.2.2.2 w.1 2 0 rfl rfl hi hd kk
theorem isC_2 {own : String} (X : px_X D (tyC cs) p s m args c cc own) (w : px_H D (wC cs ad) A H0 M H locs) (hi : vp_in i 10) (hd : decode cc pc = .ok (.iastore, 1)) (kk : ∀ (H : Heap) (locs : List Loc), px_H D (wC cs ad) A H0 (px_up M 2 i.toNatClampNeg x) H locs → W p l e R s m args below meth c H locs cells slots Q (F0 m (pc + 1) ls rest)) : W p l e R s m args below meth c H locs cells slots Q (F0 m pc ls (.int x :: .int i :: .ref (ad 2) :: rest)) := va_iast X.1 X.2.1 X.2.2.2.2 w.1 w.2.1 w.2.2.1 2 0 rfl rfl hi hd (fun H1 locs1 hP hD hS => kk H1 locs1 ⟨hP, hD, hS, w.2.2.2⟩)
theorem ilC_3 {own : String} (X : px_X D (tyC cs) p s m args c cc own) (w : px_H D (wC cs ad) A H0 M H locs) (hi : vp_in i 60) (hd : decode cc pc = .ok (.iaload, 1)) (kk : W p l e R s m args below meth c H locs cells slots Q (F0 m (pc + 1) ls (.int (M 3 i.toNatClampNeg) :: rest))) : W p l e R s m args below meth c H locs cells slots Q (F0 m pc ls (.int i :: .ref (ad 3) :: rest)) := va_iald X.1 X.2.1 X.2.2.2.2 w.1 3 0 rfl rfl hi hd kk
theorem isC_3 {own : String} (X : px_X D (tyC cs) p s m args c cc own) (w : px_H D (wC cs ad) A H0 M H locs) (hi : vp_in i 60) (hd : decode cc pc = .ok (.iastore, 1)) (kk : ∀ (H : Heap) (locs : List Loc), px_H D (wC cs ad) A H0 (px_up M 3 i.toNatClampNeg x) H locs → W p l e R s m args below meth c H locs cells slots Q (F0 m (pc + 1) ls rest)) : W p l e R s m args below meth c H locs cells slots Q (F0 m pc ls (.int x :: .int i :: .ref (ad 3) :: rest)) := va_iast X.1 X.2.1 X.2.2.2.2 w.1 w.2.1 w.2.2.1 3 0 rfl rfl hi hd (fun H1 locs1 hP hD hS => kk H1 locs1 ⟨hP, hD, hS, w.2.2.2⟩)
theorem ilC_4 {own : String} (X : px_X D (tyC cs) p s m args c cc own) (w : px_H D (wC cs ad) A H0 M H locs) (hi : vp_in i 60) (hd : decode cc pc = .ok (.iaload, 1)) (kk : W p l e R s m args below meth c H locs cells slots Q (F0 m (pc + 1) ls (.int (M 4 i.toNatClampNeg) :: rest))) : W p l e R s m args below meth c H locs cells slots Q (F0 m pc ls (.int i :: .ref (ad 4) :: rest)) := va_iald X.1 X.2.1 X.2.2.2.2 w.1 4 0 rfl rfl hi hd kk
theorem isC_4 {own : String} (X : px_X D (tyC cs) p s m args c cc own) (w : px_H D (wC cs ad) A H0 M H locs) (hi : vp_in i 60) (hd : decode cc pc = .ok (.iastore, 1)) (kk : ∀ (H : Heap) (locs : List Loc), px_H D (wC cs ad) A H0 (px_up M 4 i.toNatClampNeg x) H locs → W p l e R s m args below meth c H locs cells slots Q (F0 m (pc + 1) ls rest)) : W p l e R s m args below meth c H locs cells slots Q (F0 m pc ls (.int x :: .int i :: .ref (ad 4) :: rest)) := va_iast X.1 X.2.1 X.2.2.2.2 w.1 w.2.1 w.2.2.1 4 0 rfl rfl hi hd (fun H1 locs1 hP hD hS => kk H1 locs1 ⟨hP, hD, hS, w.2.2.2⟩)
theorem ilC_5 {own : String} (X : px_X D (tyC cs) p s m args c cc own) (w : px_H D (wC cs ad) A H0 M H locs) (hi : vp_in i 60) (hd : decode cc pc = .ok (.iaload, 1)) (kk : W p l e R s m args below meth c H locs cells slots Q (F0 m (pc + 1) ls (.int (M 5 i.toNatClampNeg) :: rest))) : W p l e R s m args below meth c H locs cells slots Q (F0 m pc ls (.int i :: .ref (ad 5) :: rest)) := va_iald X.1 X.2.1 X.2.2.2.2 w.1 5 0 rfl rfl hi hd kk
theorem isC_5 {own : String} (X : px_X D (tyC cs) p s m args c cc own) (w : px_H D (wC cs ad) A H0 M H locs) (hi : vp_in i 60) (hd : decode cc pc = .ok (.iastore, 1)) (kk : ∀ (H : Heap) (locs : List Loc), px_H D (wC cs ad) A H0 (px_up M 5 i.toNatClampNeg x) H locs → W p l e R s m args below meth c H locs cells slots Q (F0 m (pc + 1) ls rest)) : W p l e R s m args below meth c H locs cells slots Q (F0 m pc ls (.int x :: .int i :: .ref (ad 5) :: rest)) := va_iast X.1 X.2.1 X.2.2.2.2 w.1 w.2.1 w.2.2.1 5 0 rfl rfl hi hd (fun H1 locs1 hP hD hS => kk H1 locs1 ⟨hP, hD, hS, w.2.2.2⟩)
theorem ilC_6 {own : String} (X : px_X D (tyC cs) p s m args c cc own) (w : px_H D (wC cs ad) A H0 M H locs) (hi : vp_in i 8) (hd : decode cc pc = .ok (.iaload, 1)) (kk : W p l e R s m args below meth c H locs cells slots Q (F0 m (pc + 1) ls (.int (M 6 i.toNatClampNeg) :: rest))) : W p l e R s m args below meth c H locs cells slots Q (F0 m pc ls (.int i :: .ref (ad 6) :: rest)) := va_iald X.1 X.2.1 X.2.2.2.2 w.1 6 0 rfl rfl hi hd kk
theorem isC_6 {own : String} (X : px_X D (tyC cs) p s m args c cc own) (w : px_H D (wC cs ad) A H0 M H locs) (hi : vp_in i 8) (hd : decode cc pc = .ok (.iastore, 1)) (kk : ∀ (H : Heap) (locs : List Loc), px_H D (wC cs ad) A H0 (px_up M 6 i.toNatClampNeg x) H locs → W p l e R s m args below meth c H locs cells slots Q (F0 m (pc + 1) ls rest)) : W p l e R s m args below meth c H locs cells slots Q (F0 m pc ls (.int x :: .int i :: .ref (ad 6) :: rest)) := va_iast X.1 X.2.1 X.2.2.2.2 w.1 w.2.1 w.2.2.1 6 0 rfl rfl hi hd (fun H1 locs1 hP hD hS => kk H1 locs1 ⟨hP, hD, hS, w.2.2.2⟩)
theorem alC_7_0 {own : String} (X : px_X D (tyC cs) p s m args c cc own) (w : px_H D (wC cs ad) A H0 M H locs) (hi : i = 0) (hd : decode cc pc = .ok (.aaload, 1)) (kk : W p l e R s m args below meth c H locs cells slots Q (F0 m (pc + 1) ls (.ref (ad 8) :: rest))) : W p l e R s m args below meth c H locs cells slots Q (F0 m pc ls (.int i :: .ref (ad 7) :: rest)) := by
  subst hi
  refine va_aldq X.1 X.2.1 X.2.2.2.2 w.1 7 2 rfl rfl (by unfold vp_in; decide) hd ?_
  rw [show ((0 : Int32)).toNatClampNeg = 0 by decide]
  exact kk
theorem alC_7_1 {own : String} (X : px_X D (tyC cs) p s m args c cc own) (w : px_H D (wC cs ad) A H0 M H locs) (hi : i = 1) (hd : decode cc pc = .ok (.aaload, 1)) (kk : W p l e R s m args below meth c H locs cells slots Q (F0 m (pc + 1) ls (.ref (ad 12) :: rest))) : W p l e R s m args below meth c H locs cells slots Q (F0 m pc ls (.int i :: .ref (ad 7) :: rest)) := by
  subst hi
  refine va_aldq X.1 X.2.1 X.2.2.2.2 w.1 7 2 rfl rfl (by unfold vp_in; decide) hd ?_
  rw [show ((1 : Int32)).toNatClampNeg = 1 by decide]
  exact kk
theorem alC_7_2 {own : String} (X : px_X D (tyC cs) p s m args c cc own) (w : px_H D (wC cs ad) A H0 M H locs) (hi : i = 2) (hd : decode cc pc = .ok (.aaload, 1)) (kk : W p l e R s m args below meth c H locs cells slots Q (F0 m (pc + 1) ls (.ref (ad 16) :: rest))) : W p l e R s m args below meth c H locs cells slots Q (F0 m pc ls (.int i :: .ref (ad 7) :: rest)) := by
  subst hi
  refine va_aldq X.1 X.2.1 X.2.2.2.2 w.1 7 2 rfl rfl (by unfold vp_in; decide) hd ?_
  rw [show ((2 : Int32)).toNatClampNeg = 2 by decide]
  exact kk
theorem rcC_8 (hK : va_K D vwCl (tyC cs) s) (w : px_H D (wC cs ad) A H0 M H locs) : ∃ cell : Cell, H[ad 8]? = some cell ∧ cell.vm.isStatics = false ∧ s.vm.findClass RX2 = some cell.cls := va_recv hK w.1 (ci := 2) (q0 := 8) rfl rfl
theorem gtC_8_0 (X : px_X D (tyC cs) p s m args c cc RX2) (w : px_H D (wC cs ad) A H0 M H locs) (hd : decode cc pc = .ok (.getfield 16, 3)) (kk : W p l e R s m args below meth c H locs cells slots Q (F0 m (pc + 3) ls (.int (M 8 0) :: rest))) : W p l e R s m args below meth c H locs cells slots Q (F0 m pc ls (.ref (ad 8) :: rest)) := va_get (D := D) (ci := 2) (C := RX2) (T := TX2) (N := 6) X.1 X.2.1 X.2.2.1 wu_X2 X.2.2.2.1 X.2.2.2.2 w.1 8 rfl rfl 0 (by decide) (X.2.2.1 _ wf_X2_0) (fun _ h => h) rfl hd kk
theorem gtC_8_1 (X : px_X D (tyC cs) p s m args c cc RX2) (w : px_H D (wC cs ad) A H0 M H locs) (hd : decode cc pc = .ok (.getfield 19, 3)) (kk : W p l e R s m args below meth c H locs cells slots Q (F0 m (pc + 3) ls (.ref (ad 9) :: rest))) : W p l e R s m args below meth c H locs cells slots Q (F0 m pc ls (.ref (ad 8) :: rest)) := va_get (D := D) (ci := 2) (C := RX2) (T := TX2) (N := 6) X.1 X.2.1 X.2.2.1 wu_X2 X.2.2.2.1 X.2.2.2.2 w.1 8 rfl rfl 1 (by decide) (X.2.2.1 _ wf_X2_1) (fun _ h => h) rfl hd kk
theorem gtC_8_2 (X : px_X D (tyC cs) p s m args c cc RX2) (w : px_H D (wC cs ad) A H0 M H locs) (hd : decode cc pc = .ok (.getfield 23, 3)) (kk : W p l e R s m args below meth c H locs cells slots Q (F0 m (pc + 3) ls (.ref (ad 10) :: rest))) : W p l e R s m args below meth c H locs cells slots Q (F0 m pc ls (.ref (ad 8) :: rest)) := va_get (D := D) (ci := 2) (C := RX2) (T := TX2) (N := 6) X.1 X.2.1 X.2.2.1 wu_X2 X.2.2.2.1 X.2.2.2.2 w.1 8 rfl rfl 2 (by decide) (X.2.2.1 _ wf_X2_2) (fun _ h => h) rfl hd kk
theorem gtC_8_3 (X : px_X D (tyC cs) p s m args c cc RX2) (w : px_H D (wC cs ad) A H0 M H locs) (hd : decode cc pc = .ok (.getfield 26, 3)) (kk : W p l e R s m args below meth c H locs cells slots Q (F0 m (pc + 3) ls (.ref (ad 11) :: rest))) : W p l e R s m args below meth c H locs cells slots Q (F0 m pc ls (.ref (ad 8) :: rest)) := va_get (D := D) (ci := 2) (C := RX2) (T := TX2) (N := 6) X.1 X.2.1 X.2.2.1 wu_X2 X.2.2.2.1 X.2.2.2.2 w.1 8 rfl rfl 3 (by decide) (X.2.2.1 _ wf_X2_3) (fun _ h => h) rfl hd kk
theorem gtC_8_4 (X : px_X D (tyC cs) p s m args c cc RX2) (w : px_H D (wC cs ad) A H0 M H locs) (hd : decode cc pc = .ok (.getfield 7, 3)) (kk : W p l e R s m args below meth c H locs cells slots Q (F0 m (pc + 3) ls (.int (M 8 4) :: rest))) : W p l e R s m args below meth c H locs cells slots Q (F0 m pc ls (.ref (ad 8) :: rest)) := va_get (D := D) (ci := 2) (C := RX2) (T := TX2) (N := 6) X.1 X.2.1 X.2.2.1 wu_X2 X.2.2.2.1 X.2.2.2.2 w.1 8 rfl rfl 4 (by decide) (X.2.2.1 _ wf_X2_4) (fun _ h => h) rfl hd kk
theorem ptC_8_4 (X : px_X D (tyC cs) p s m args c cc RX2) (w : px_H D (wC cs ad) A H0 M H locs) (hd : decode cc pc = .ok (.putfield 7, 3)) (kk : ∀ (H : Heap) (locs : List Loc), px_H D (wC cs ad) A H0 (px_up M 8 4 x) H locs → W p l e R s m args below meth c H locs cells slots Q (F0 m (pc + 3) ls rest)) : W p l e R s m args below meth c H locs cells slots Q (F0 m pc ls (.int x :: .ref (ad 8) :: rest)) := va_put (D := D) (ci := 2) (v := .int x) (ty := .int) (C := RX2) (T := TX2) (N := 6) X.1 X.2.1 X.2.2.1 wu_X2 tyX2 tyX2_ok nmX2 X.2.2.2.1 X.2.2.2.2 w.1 w.2.1 w.2.2.1 8 rfl rfl 4 (by decide) (X.2.2.1 _ wf_X2_4) (fun _ h => h) rfl (by decide +kernel) rfl rfl (Nat.le_of_ble_eq_true rfl) hd (fun H1 locs1 hP hD hS => kk H1 locs1 ⟨hP, hD, hS, w.2.2.2⟩)
theorem gtC_8_5 (X : px_X D (tyC cs) p s m args c cc RX2) (w : px_H D (wC cs ad) A H0 M H locs) (hd : decode cc pc = .ok (.getfield 13, 3)) (kk : W p l e R s m args below meth c H locs cells slots Q (F0 m (pc + 3) ls (.int (M 8 5) :: rest))) : W p l e R s m args below meth c H locs cells slots Q (F0 m pc ls (.ref (ad 8) :: rest)) := va_get (D := D) (ci := 2) (C := RX2) (T := TX2) (N := 6) X.1 X.2.1 X.2.2.1 wu_X2 X.2.2.2.1 X.2.2.2.2 w.1 8 rfl rfl 5 (by decide) (X.2.2.1 _ wf_X2_5) (fun _ h => h) rfl hd kk
theorem ptC_8_5 (X : px_X D (tyC cs) p s m args c cc RX2) (w : px_H D (wC cs ad) A H0 M H locs) (hd : decode cc pc = .ok (.putfield 13, 3)) (kk : ∀ (H : Heap) (locs : List Loc), px_H D (wC cs ad) A H0 (px_up M 8 5 x) H locs → W p l e R s m args below meth c H locs cells slots Q (F0 m (pc + 3) ls rest)) : W p l e R s m args below meth c H locs cells slots Q (F0 m pc ls (.int x :: .ref (ad 8) :: rest)) := va_put (D := D) (ci := 2) (v := .int x) (ty := .int) (C := RX2) (T := TX2) (N := 6) X.1 X.2.1 X.2.2.1 wu_X2 tyX2 tyX2_ok nmX2 X.2.2.2.1 X.2.2.2.2 w.1 w.2.1 w.2.2.1 8 rfl rfl 5 (by decide) (X.2.2.1 _ wf_X2_5) (fun _ h => h) rfl (by decide +kernel) rfl rfl (Nat.le_of_ble_eq_true rfl) hd (fun H1 locs1 hP hD hS => kk H1 locs1 ⟨hP, hD, hS, w.2.2.2⟩)
theorem ilC_9 {own : String} (X : px_X D (tyC cs) p s m args c cc own) (w : px_H D (wC cs ad) A H0 M H locs) (hi : vp_in i 40) (hd : decode cc pc = .ok (.iaload, 1)) (kk : W p l e R s m args below meth c H locs cells slots Q (F0 m (pc + 1) ls (.int (M 9 i.toNatClampNeg) :: rest))) : W p l e R s m args below meth c H locs cells slots Q (F0 m pc ls (.int i :: .ref (ad 9) :: rest)) := va_iald X.1 X.2.1 X.2.2.2.2 w.1 9 0 rfl rfl hi hd kk
theorem isC_9 {own : String} (X : px_X D (tyC cs) p s m args c cc own) (w : px_H D (wC cs ad) A H0 M H locs) (hi : vp_in i 40) (hd : decode cc pc = .ok (.iastore, 1)) (kk : ∀ (H : Heap) (locs : List Loc), px_H D (wC cs ad) A H0 (px_up M 9 i.toNatClampNeg x) H locs → W p l e R s m args below meth c H locs cells slots Q (F0 m (pc + 1) ls rest)) : W p l e R s m args below meth c H locs cells slots Q (F0 m pc ls (.int x :: .int i :: .ref (ad 9) :: rest)) := va_iast X.1 X.2.1 X.2.2.2.2 w.1 w.2.1 w.2.2.1 9 0 rfl rfl hi hd (fun H1 locs1 hP hD hS => kk H1 locs1 ⟨hP, hD, hS, w.2.2.2⟩)
theorem ilC_10 {own : String} (X : px_X D (tyC cs) p s m args c cc own) (w : px_H D (wC cs ad) A H0 M H locs) (hi : vp_in i 40) (hd : decode cc pc = .ok (.iaload, 1)) (kk : W p l e R s m args below meth c H locs cells slots Q (F0 m (pc + 1) ls (.int (M 10 i.toNatClampNeg) :: rest))) : W p l e R s m args below meth c H locs cells slots Q (F0 m pc ls (.int i :: .ref (ad 10) :: rest)) := va_iald X.1 X.2.1 X.2.2.2.2 w.1 10 0 rfl rfl hi hd kk
theorem isC_10 {own : String} (X : px_X D (tyC cs) p s m args c cc own) (w : px_H D (wC cs ad) A H0 M H locs) (hi : vp_in i 40) (hd : decode cc pc = .ok (.iastore, 1)) (kk : ∀ (H : Heap) (locs : List Loc), px_H D (wC cs ad) A H0 (px_up M 10 i.toNatClampNeg x) H locs → W p l e R s m args below meth c H locs cells slots Q (F0 m (pc + 1) ls rest)) : W p l e R s m args below meth c H locs cells slots Q (F0 m pc ls (.int x :: .int i :: .ref (ad 10) :: rest)) := va_iast X.1 X.2.1 X.2.2.2.2 w.1 w.2.1 w.2.2.1 10 0 rfl rfl hi hd (fun H1 locs1 hP hD hS => kk H1 locs1 ⟨hP, hD, hS, w.2.2.2⟩)
theorem ilC_11 {own : String} (X : px_X D (tyC cs) p s m args c cc own) (w : px_H D (wC cs ad) A H0 M H locs) (hi : vp_in i 40) (hd : decode cc pc = .ok (.iaload, 1)) (kk : W p l e R s m args below meth c H locs cells slots Q (F0 m (pc + 1) ls (.int (M 11 i.toNatClampNeg) :: rest))) : W p l e R s m args below meth c H locs cells slots Q (F0 m pc ls (.int i :: .ref (ad 11) :: rest)) := va_iald X.1 X.2.1 X.2.2.2.2 w.1 11 0 rfl rfl hi hd kk
theorem isC_11 {own : String} (X : px_X D (tyC cs) p s m args c cc own) (w : px_H D (wC cs ad) A H0 M H locs) (hi : vp_in i 40) (hd : decode cc pc = .ok (.iastore, 1)) (kk : ∀ (H : Heap) (locs : List Loc), px_H D (wC cs ad) A H0 (px_up M 11 i.toNatClampNeg x) H locs → W p l e R s m args below meth c H locs cells slots Q (F0 m (pc + 1) ls rest)) : W p l e R s m args below meth c H locs cells slots Q (F0 m pc ls (.int x :: .int i :: .ref (ad 11) :: rest)) := va_iast X.1 X.2.1 X.2.2.2.2 w.1 w.2.1 w.2.2.1 11 0 rfl rfl hi hd (fun H1 locs1 hP hD hS => kk H1 locs1 ⟨hP, hD, hS, w.2.2.2⟩)
theorem rcC_12 (hK : va_K D vwCl (tyC cs) s) (w : px_H D (wC cs ad) A H0 M H locs) : ∃ cell : Cell, H[ad 12]? = some cell ∧ cell.vm.isStatics = false ∧ s.vm.findClass RX2 = some cell.cls := va_recv hK w.1 (ci := 2) (q0 := 12) rfl rfl
theorem gtC_12_0 (X : px_X D (tyC cs) p s m args c cc RX2) (w : px_H D (wC cs ad) A H0 M H locs) (hd : decode cc pc = .ok (.getfield 16, 3)) (kk : W p l e R s m args below meth c H locs cells slots Q (F0 m (pc + 3) ls (.int (M 12 0) :: rest))) : W p l e R s m args below meth c H locs cells slots Q (F0 m pc ls (.ref (ad 12) :: rest)) := va_get (D := D) (ci := 2) (C := RX2) (T := TX2) (N := 6) X.1 X.2.1 X.2.2.1 wu_X2 X.2.2.2.1 X.2.2.2.2 w.1 12 rfl rfl 0 (by decide) (X.2.2.1 _ wf_X2_0) (fun _ h => h) rfl hd kk
theorem gtC_12_1 (X : px_X D (tyC cs) p s m args c cc RX2) (w : px_H D (wC cs ad) A H0 M H locs) (hd : decode cc pc = .ok (.getfield 19, 3)) (kk : W p l e R s m args below meth c H locs cells slots Q (F0 m (pc + 3) ls (.ref (ad 13) :: rest))) : W p l e R s m args below meth c H locs cells slots Q (F0 m pc ls (.ref (ad 12) :: rest)) := va_get (D := D) (ci := 2) (C := RX2) (T := TX2) (N := 6) X.1 X.2.1 X.2.2.1 wu_X2 X.2.2.2.1 X.2.2.2.2 w.1 12 rfl rfl 1 (by decide) (X.2.2.1 _ wf_X2_1) (fun _ h => h) rfl hd kk
theorem gtC_12_2 (X : px_X D (tyC cs) p s m args c cc RX2) (w : px_H D (wC cs ad) A H0 M H locs) (hd : decode cc pc = .ok (.getfield 23, 3)) (kk : W p l e R s m args below meth c H locs cells slots Q (F0 m (pc + 3) ls (.ref (ad 14) :: rest))) : W p l e R s m args below meth c H locs cells slots Q (F0 m pc ls (.ref (ad 12) :: rest)) := va_get (D := D) (ci := 2) (C := RX2) (T := TX2) (N := 6) X.1 X.2.1 X.2.2.1 wu_X2 X.2.2.2.1 X.2.2.2.2 w.1 12 rfl rfl 2 (by decide) (X.2.2.1 _ wf_X2_2) (fun _ h => h) rfl hd kk
theorem gtC_12_3 (X : px_X D (tyC cs) p s m args c cc RX2) (w : px_H D (wC cs ad) A H0 M H locs) (hd : decode cc pc = .ok (.getfield 26, 3)) (kk : W p l e R s m args below meth c H locs cells slots Q (F0 m (pc + 3) ls (.ref (ad 15) :: rest))) : W p l e R s m args below meth c H locs cells slots Q (F0 m pc ls (.ref (ad 12) :: rest)) := va_get (D := D) (ci := 2) (C := RX2) (T := TX2) (N := 6) X.1 X.2.1 X.2.2.1 wu_X2 X.2.2.2.1 X.2.2.2.2 w.1 12 rfl rfl 3 (by decide) (X.2.2.1 _ wf_X2_3) (fun _ h => h) rfl hd kk
theorem gtC_12_4 (X : px_X D (tyC cs) p s m args c cc RX2) (w : px_H D (wC cs ad) A H0 M H locs) (hd : decode cc pc = .ok (.getfield 7, 3)) (kk : W p l e R s m args below meth c H locs cells slots Q (F0 m (pc + 3) ls (.int (M 12 4) :: rest))) : W p l e R s m args below meth c H locs cells slots Q (F0 m pc ls (.ref (ad 12) :: rest)) := va_get (D := D) (ci := 2) (C := RX2) (T := TX2) (N := 6) X.1 X.2.1 X.2.2.1 wu_X2 X.2.2.2.1 X.2.2.2.2 w.1 12 rfl rfl 4 (by decide) (X.2.2.1 _ wf_X2_4) (fun _ h => h) rfl hd kk
theorem ptC_12_4 (X : px_X D (tyC cs) p s m args c cc RX2) (w : px_H D (wC cs ad) A H0 M H locs) (hd : decode cc pc = .ok (.putfield 7, 3)) (kk : ∀ (H : Heap) (locs : List Loc), px_H D (wC cs ad) A H0 (px_up M 12 4 x) H locs → W p l e R s m args below meth c H locs cells slots Q (F0 m (pc + 3) ls rest)) : W p l e R s m args below meth c H locs cells slots Q (F0 m pc ls (.int x :: .ref (ad 12) :: rest)) := va_put (D := D) (ci := 2) (v := .int x) (ty := .int) (C := RX2) (T := TX2) (N := 6) X.1 X.2.1 X.2.2.1 wu_X2 tyX2 tyX2_ok nmX2 X.2.2.2.1 X.2.2.2.2 w.1 w.2.1 w.2.2.1 12 rfl rfl 4 (by decide) (X.2.2.1 _ wf_X2_4) (fun _ h => h) rfl (by decide +kernel) rfl rfl (Nat.le_of_ble_eq_true rfl) hd (fun H1 locs1 hP hD hS => kk H1 locs1 ⟨hP, hD, hS, w.2.2.2⟩)
theorem gtC_12_5 (X : px_X D (tyC cs) p s m args c cc RX2) (w : px_H D (wC cs ad) A H0 M H locs) (hd : decode cc pc = .ok (.getfield 13, 3)) (kk : W p l e R s m args below meth c H locs cells slots Q (F0 m (pc + 3) ls (.int (M 12 5) :: rest))) : W p l e R s m args below meth c H locs cells slots Q (F0 m pc ls (.ref (ad 12) :: rest)) := va_get (D := D) (ci := 2) (C := RX2) (T := TX2) (N := 6) X.1 X.2.1 X.2.2.1 wu_X2 X.2.2.2.1 X.2.2.2.2 w.1 12 rfl rfl 5 (by decide) (X.2.2.1 _ wf_X2_5) (fun _ h => h) rfl hd kk
theorem ptC_12_5 (X : px_X D (tyC cs) p s m args c cc RX2) (w : px_H D (wC cs ad) A H0 M H locs) (hd : decode cc pc = .ok (.putfield 13, 3)) (kk : ∀ (H : Heap) (locs : List Loc), px_H D (wC cs ad) A H0 (px_up M 12 5 x) H locs → W p l e R s m args below meth c H locs cells slots Q (F0 m (pc + 3) ls rest)) : W p l e R s m args below meth c H locs cells slots Q (F0 m pc ls (.int x :: .ref (ad 12) :: rest)) := va_put (D := D) (ci := 2) (v := .int x) (ty := .int) (C := RX2) (T := TX2) (N := 6) X.1 X.2.1 X.2.2.1 wu_X2 tyX2 tyX2_ok nmX2 X.2.2.2.1 X.2.2.2.2 w.1 w.2.1 w.2.2.1 12 rfl rfl 5 (by decide) (X.2.2.1 _ wf_X2_5) (fun _ h => h) rfl (by decide +kernel) rfl rfl (Nat.le_of_ble_eq_true rfl) hd (fun H1 locs1 hP hD hS => kk H1 locs1 ⟨hP, hD, hS, w.2.2.2⟩)
theorem ilC_13 {own : String} (X : px_X D (tyC cs) p s m args c cc own) (w : px_H D (wC cs ad) A H0 M H locs) (hi : vp_in i 1051) (hd : decode cc pc = .ok (.iaload, 1)) (kk : W p l e R s m args below meth c H locs cells slots Q (F0 m (pc + 1) ls (.int (M 13 i.toNatClampNeg) :: rest))) : W p l e R s m args below meth c H locs cells slots Q (F0 m pc ls (.int i :: .ref (ad 13) :: rest)) := va_iald X.1 X.2.1 X.2.2.2.2 w.1 13 0 rfl rfl hi hd kk
theorem isC_13 {own : String} (X : px_X D (tyC cs) p s m args c cc own) (w : px_H D (wC cs ad) A H0 M H locs) (hi : vp_in i 1051) (hd : decode cc pc = .ok (.iastore, 1)) (kk : ∀ (H : Heap) (locs : List Loc), px_H D (wC cs ad) A H0 (px_up M 13 i.toNatClampNeg x) H locs → W p l e R s m args below meth c H locs cells slots Q (F0 m (pc + 1) ls rest)) : W p l e R s m args below meth c H locs cells slots Q (F0 m pc ls (.int x :: .int i :: .ref (ad 13) :: rest)) := va_iast X.1 X.2.1 X.2.2.2.2 w.1 w.2.1 w.2.2.1 13 0 rfl rfl hi hd (fun H1 locs1 hP hD hS => kk H1 locs1 ⟨hP, hD, hS, w.2.2.2⟩)
theorem ilC_14 {own : String} (X : px_X D (tyC cs) p s m args c cc own) (w : px_H D (wC cs ad) A H0 M H locs) (hi : vp_in i 1051) (hd : decode cc pc = .ok (.iaload, 1)) (kk : W p l e R s m args below meth c H locs cells slots Q (F0 m (pc + 1) ls (.int (M 14 i.toNatClampNeg) :: rest))) : W p l e R s m args below meth c H locs cells slots Q (F0 m pc ls (.int i :: .ref (ad 14) :: rest)) := va_iald X.1 X.2.1 X.2.2.2.2 w.1 14 0 rfl rfl hi hd kk
theorem isC_14 {own : String} (X : px_X D (tyC cs) p s m args c cc own) (w : px_H D (wC cs ad) A H0 M H locs) (hi : vp_in i 1051) (hd : decode cc pc = .ok (.iastore, 1)) (kk : ∀ (H : Heap) (locs : List Loc), px_H D (wC cs ad) A H0 (px_up M 14 i.toNatClampNeg x) H locs → W p l e R s m args below meth c H locs cells slots Q (F0 m (pc + 1) ls rest)) : W p l e R s m args below meth c H locs cells slots Q (F0 m pc ls (.int x :: .int i :: .ref (ad 14) :: rest)) := va_iast X.1 X.2.1 X.2.2.2.2 w.1 w.2.1 w.2.2.1 14 0 rfl rfl hi hd (fun H1 locs1 hP hD hS => kk H1 locs1 ⟨hP, hD, hS, w.2.2.2⟩)
theorem ilC_15 {own : String} (X : px_X D (tyC cs) p s m args c cc own) (w : px_H D (wC cs ad) A H0 M H locs) (hi : vp_in i 1051) (hd : decode cc pc = .ok (.iaload, 1)) (kk : W p l e R s m args below meth c H locs cells slots Q (F0 m (pc + 1) ls (.int (M 15 i.toNatClampNeg) :: rest))) : W p l e R s m args below meth c H locs cells slots Q (F0 m pc ls (.int i :: .ref (ad 15) :: rest)) := va_iald X.1 X.2.1 X.2.2.2.2 w.1 15 0 rfl rfl hi hd kk
theorem isC_15 {own : String} (X : px_X D (tyC cs) p s m args c cc own) (w : px_H D (wC cs ad) A H0 M H locs) (hi : vp_in i 1051) (hd : decode cc pc = .ok (.iastore, 1)) (kk : ∀ (H : Heap) (locs : List Loc), px_H D (wC cs ad) A H0 (px_up M 15 i.toNatClampNeg x) H locs → W p l e R s m args below meth c H locs cells slots Q (F0 m (pc + 1) ls rest)) : W p l e R s m args below meth c H locs cells slots Q (F0 m pc ls (.int x :: .int i :: .ref (ad 15) :: rest)) := va_iast X.1 X.2.1 X.2.2.2.2 w.1 w.2.1 w.2.2.1 15 0 rfl rfl hi hd (fun H1 locs1 hP hD hS => kk H1 locs1 ⟨hP, hD, hS, w.2.2.2⟩)
theorem rcC_16 (hK : va_K D vwCl (tyC cs) s) (w : px_H D (wC cs ad) A H0 M H locs) : ∃ cell : Cell, H[ad 16]? = some cell ∧ cell.vm.isStatics = false ∧ s.vm.findClass RX2 = some cell.cls := va_recv hK w.1 (ci := 2) (q0 := 16) rfl rfl
theorem gtC_16_0 (X : px_X D (tyC cs) p s m args c cc RX2) (w : px_H D (wC cs ad) A H0 M H locs) (hd : decode cc pc = .ok (.getfield 16, 3)) (kk : W p l e R s m args below meth c H locs cells slots Q (F0 m (pc + 3) ls (.int (M 16 0) :: rest))) : W p l e R s m args below meth c H locs cells slots Q (F0 m pc ls (.ref (ad 16) :: rest)) := va_get (D := D) (ci := 2) (C := RX2) (T := TX2) (N := 6) X.1 X.2.1 X.2.2.1 wu_X2 X.2.2.2.1 X.2.2.2.2 w.1 16 rfl rfl 0 (by decide) (X.2.2.1 _ wf_X2_0) (fun _ h => h) rfl hd kk
theorem gtC_16_1 (X : px_X D (tyC cs) p s m args c cc RX2) (w : px_H D (wC cs ad) A H0 M H locs) (hd : decode cc pc = .ok (.getfield 19, 3)) (kk : W p l e R s m args below meth c H locs cells slots Q (F0 m (pc + 3) ls (.ref (ad 17) :: rest))) : W p l e R s m args below meth c H locs cells slots Q (F0 m pc ls (.ref (ad 16) :: rest)) := va_get (D := D) (ci := 2) (C := RX2) (T := TX2) (N := 6) X.1 X.2.1 X.2.2.1 wu_X2 X.2.2.2.1 X.2.2.2.2 w.1 16 rfl rfl 1 (by decide) (X.2.2.1 _ wf_X2_1) (fun _ h => h) rfl hd kk
theorem gtC_16_2 (X : px_X D (tyC cs) p s m args c cc RX2) (w : px_H D (wC cs ad) A H0 M H locs) (hd : decode cc pc = .ok (.getfield 23, 3)) (kk : W p l e R s m args below meth c H locs cells slots Q (F0 m (pc + 3) ls (.ref (ad 18) :: rest))) : W p l e R s m args below meth c H locs cells slots Q (F0 m pc ls (.ref (ad 16) :: rest)) := va_get (D := D) (ci := 2) (C := RX2) (T := TX2) (N := 6) X.1 X.2.1 X.2.2.1 wu_X2 X.2.2.2.1 X.2.2.2.2 w.1 16 rfl rfl 2 (by decide) (X.2.2.1 _ wf_X2_2) (fun _ h => h) rfl hd kk
theorem gtC_16_3 (X : px_X D (tyC cs) p s m args c cc RX2) (w : px_H D (wC cs ad) A H0 M H locs) (hd : decode cc pc = .ok (.getfield 26, 3)) (kk : W p l e R s m args below meth c H locs cells slots Q (F0 m (pc + 3) ls (.ref (ad 19) :: rest))) : W p l e R s m args below meth c H locs cells slots Q (F0 m pc ls (.ref (ad 16) :: rest)) := va_get (D := D) (ci := 2) (C := RX2) (T := TX2) (N := 6) X.1 X.2.1 X.2.2.1 wu_X2 X.2.2.2.1 X.2.2.2.2 w.1 16 rfl rfl 3 (by decide) (X.2.2.1 _ wf_X2_3) (fun _ h => h) rfl hd kk
theorem gtC_16_4 (X : px_X D (tyC cs) p s m args c cc RX2) (w : px_H D (wC cs ad) A H0 M H locs) (hd : decode cc pc = .ok (.getfield 7, 3)) (kk : W p l e R s m args below meth c H locs cells slots Q (F0 m (pc + 3) ls (.int (M 16 4) :: rest))) : W p l e R s m args below meth c H locs cells slots Q (F0 m pc ls (.ref (ad 16) :: rest)) := va_get (D := D) (ci := 2) (C := RX2) (T := TX2) (N := 6) X.1 X.2.1 X.2.2.1 wu_X2 X.2.2.2.1 X.2.2.2.2 w.1 16 rfl rfl 4 (by decide) (X.2.2.1 _ wf_X2_4) (fun _ h => h) rfl hd kk
theorem ptC_16_4 (X : px_X D (tyC cs) p s m args c cc RX2) (w : px_H D (wC cs ad) A H0 M H locs) (hd : decode cc pc = .ok (.putfield 7, 3)) (kk : ∀ (H : Heap) (locs : List Loc), px_H D (wC cs ad) A H0 (px_up M 16 4 x) H locs → W p l e R s m args below meth c H locs cells slots Q (F0 m (pc + 3) ls rest)) : W p l e R s m args below meth c H locs cells slots Q (F0 m pc ls (.int x :: .ref (ad 16) :: rest)) := va_put (D := D) (ci := 2) (v := .int x) (ty := .int) (C := RX2) (T := TX2) (N := 6) X.1 X.2.1 X.2.2.1 wu_X2 tyX2 tyX2_ok nmX2 X.2.2.2.1 X.2.2.2.2 w.1 w.2.1 w.2.2.1 16 rfl rfl 4 (by decide) (X.2.2.1 _ wf_X2_4) (fun _ h => h) rfl (by decide +kernel) rfl rfl (Nat.le_of_ble_eq_true rfl) hd (fun H1 locs1 hP hD hS => kk H1 locs1 ⟨hP, hD, hS, w.2.2.2⟩)
theorem gtC_16_5 (X : px_X D (tyC cs) p s m args c cc RX2) (w : px_H D (wC cs ad) A H0 M H locs) (hd : decode cc pc = .ok (.getfield 13, 3)) (kk : W p l e R s m args below meth c H locs cells slots Q (F0 m (pc + 3) ls (.int (M 16 5) :: rest))) : W p l e R s m args below meth c H locs cells slots Q (F0 m pc ls (.ref (ad 16) :: rest)) := va_get (D := D) (ci := 2) (C := RX2) (T := TX2) (N := 6) X.1 X.2.1 X.2.2.1 wu_X2 X.2.2.2.1 X.2.2.2.2 w.1 16 rfl rfl 5 (by decide) (X.2.2.1 _ wf_X2_5) (fun _ h => h) rfl hd kk
theorem ptC_16_5 (X : px_X D (tyC cs) p s m args c cc RX2) (w : px_H D (wC cs ad) A H0 M H locs) (hd : decode cc pc = .ok (.putfield 13, 3)) (kk : ∀ (H : Heap) (locs : List Loc), px_H D (wC cs ad) A H0 (px_up M 16 5 x) H locs → W p l e R s m args below meth c H locs cells slots Q (F0 m (pc + 3) ls rest)) : W p l e R s m args below meth c H locs cells slots Q (F0 m pc ls (.int x :: .ref (ad 16) :: rest)) := va_put (D := D) (ci := 2) (v := .int x) (ty := .int) (C := RX2) (T := TX2) (N := 6) X.1 X.2.1 X.2.2.1 wu_X2 tyX2 tyX2_ok nmX2 X.2.2.2.1 X.2.2.2.2 w.1 w.2.1 w.2.2.1 16 rfl rfl 5 (by decide) (X.2.2.1 _ wf_X2_5) (fun _ h => h) rfl (by decide +kernel) rfl rfl (Nat.le_of_ble_eq_true rfl) hd (fun H1 locs1 hP hD hS => kk H1 locs1 ⟨hP, hD, hS, w.2.2.2⟩)
theorem ilC_17 {own : String} (X : px_X D (tyC cs) p s m args c cc own) (w : px_H D (wC cs ad) A H0 M H locs) (hi : vp_in i 40) (hd : decode cc pc = .ok (.iaload, 1)) (kk : W p l e R s m args below meth c H locs cells slots Q (F0 m (pc + 1) ls (.int (M 17 i.toNatClampNeg) :: rest))) : W p l e R s m args below meth c H locs cells slots Q (F0 m pc ls (.int i :: .ref (ad 17) :: rest)) := va_iald X.1 X.2.1 X.2.2.2.2 w.1 17 0 rfl rfl hi hd kk
theorem isC_17 {own : String} (X : px_X D (tyC cs) p s m args c cc own) (w : px_H D (wC cs ad) A H0 M H locs) (hi : vp_in i 40) (hd : decode cc pc = .ok (.iastore, 1)) (kk : ∀ (H : Heap) (locs : List Loc), px_H D (wC cs ad) A H0 (px_up M 17 i.toNatClampNeg x) H locs → W p l e R s m args below meth c H locs cells slots Q (F0 m (pc + 1) ls rest)) : W p l e R s m args below meth c H locs cells slots Q (F0 m pc ls (.int x :: .int i :: .ref (ad 17) :: rest)) := va_iast X.1 X.2.1 X.2.2.2.2 w.1 w.2.1 w.2.2.1 17 0 rfl rfl hi hd (fun H1 locs1 hP hD hS => kk H1 locs1 ⟨hP, hD, hS, w.2.2.2⟩)
theorem ilC_18 {own : String} (X : px_X D (tyC cs) p s m args c cc own) (w : px_H D (wC cs ad) A H0 M H locs) (hi : vp_in i 40) (hd : decode cc pc = .ok (.iaload, 1)) (kk : W p l e R s m args below meth c H locs cells slots Q (F0 m (pc + 1) ls (.int (M 18 i.toNatClampNeg) :: rest))) : W p l e R s m args below meth c H locs cells slots Q (F0 m pc ls (.int i :: .ref (ad 18) :: rest)) := va_iald X.1 X.2.1 X.2.2.2.2 w.1 18 0 rfl rfl hi hd kk
theorem isC_18 {own : String} (X : px_X D (tyC cs) p s m args c cc own) (w : px_H D (wC cs ad) A H0 M H locs) (hi : vp_in i 40) (hd : decode cc pc = .ok (.iastore, 1)) (kk : ∀ (H : Heap) (locs : List Loc), px_H D (wC cs ad) A H0 (px_up M 18 i.toNatClampNeg x) H locs → W p l e R s m args below meth c H locs cells slots Q (F0 m (pc + 1) ls rest)) : W p l e R s m args below meth c H locs cells slots Q (F0 m pc ls (.int x :: .int i :: .ref (ad 18) :: rest)) := va_iast X.1 X.2.1 X.2.2.2.2 w.1 w.2.1 w.2.2.1 18 0 rfl rfl hi hd (fun H1 locs1 hP hD hS => kk H1 locs1 ⟨hP, hD, hS, w.2.2.2⟩)
theorem ilC_19 {own : String} (X : px_X D (tyC cs) p s m args c cc own) (w : px_H D (wC cs ad) A H0 M H locs) (hi : vp_in i 40) (hd : decode cc pc = .ok (.iaload, 1)) (kk : W p l e R s m args below meth c H locs cells slots Q (F0 m (pc + 1) ls (.int (M 19 i.toNatClampNeg) :: rest))) : W p l e R s m args below meth c H locs cells slots Q (F0 m pc ls (.int i :: .ref (ad 19) :: rest)) := va_iald X.1 X.2.1 X.2.2.2.2 w.1 19 0 rfl rfl hi hd kk
theorem isC_19 {own : String} (X : px_X D (tyC cs) p s m args c cc own) (w : px_H D (wC cs ad) A H0 M H locs) (hi : vp_in i 40) (hd : decode cc pc = .ok (.iastore, 1)) (kk : ∀ (H : Heap) (locs : List Loc), px_H D (wC cs ad) A H0 (px_up M 19 i.toNatClampNeg x) H locs → W p l e R s m args below meth c H locs cells slots Q (F0 m (pc + 1) ls rest)) : W p l e R s m args below meth c H locs cells slots Q (F0 m pc ls (.int x :: .int i :: .ref (ad 19) :: rest)) := va_iast X.1 X.2.1 X.2.2.2.2 w.1 w.2.1 w.2.2.1 19 0 rfl rfl hi hd (fun H1 locs1 hP hD hS => kk H1 locs1 ⟨hP, hD, hS, w.2.2.2⟩)
theorem rcC_20 (hK : va_K D vwCl (tyC cs) s) (w : px_H D (wC cs ad) A H0 M H locs) : ∃ cell : Cell, H[ad 20]? = some cell ∧ cell.vm.isStatics = false ∧ s.vm.findClass RX2 = some cell.cls := va_recv hK w.1 (ci := 2) (q0 := 20) rfl rfl
theorem gtC_20_0 (X : px_X D (tyC cs) p s m args c cc RX2) (w : px_H D (wC cs ad) A H0 M H locs) (hd : decode cc pc = .ok (.getfield 16, 3)) (kk : W p l e R s m args below meth c H locs cells slots Q (F0 m (pc + 3) ls (.int (M 20 0) :: rest))) : W p l e R s m args below meth c H locs cells slots Q (F0 m pc ls (.ref (ad 20) :: rest)) := va_get (D := D) (ci := 2) (C := RX2) (T := TX2) (N := 6) X.1 X.2.1 X.2.2.1 wu_X2 X.2.2.2.1 X.2.2.2.2 w.1 20 rfl rfl 0 (by decide) (X.2.2.1 _ wf_X2_0) (fun _ h => h) rfl hd kk
theorem gtC_20_1 (X : px_X D (tyC cs) p s m args c cc RX2) (w : px_H D (wC cs ad) A H0 M H locs) (hd : decode cc pc = .ok (.getfield 19, 3)) (kk : W p l e R s m args below meth c H locs cells slots Q (F0 m (pc + 3) ls (.ref (ad 21) :: rest))) : W p l e R s m args below meth c H locs cells slots Q (F0 m pc ls (.ref (ad 20) :: rest)) := va_get (D := D) (ci := 2) (C := RX2) (T := TX2) (N := 6) X.1 X.2.1 X.2.2.1 wu_X2 X.2.2.2.1 X.2.2.2.2 w.1 20 rfl rfl 1 (by decide) (X.2.2.1 _ wf_X2_1) (fun _ h => h) rfl hd kk
theorem gtC_20_2 (X : px_X D (tyC cs) p s m args c cc RX2) (w : px_H D (wC cs ad) A H0 M H locs) (hd : decode cc pc = .ok (.getfield 23, 3)) (kk : W p l e R s m args below meth c H locs cells slots Q (F0 m (pc + 3) ls (.ref (ad 22) :: rest))) : W p l e R s m args below meth c H locs cells slots Q (F0 m pc ls (.ref (ad 20) :: rest)) := va_get (D := D) (ci := 2) (C := RX2) (T := TX2) (N := 6) X.1 X.2.1 X.2.2.1 wu_X2 X.2.2.2.1 X.2.2.2.2 w.1 20 rfl rfl 2 (by decide) (X.2.2.1 _ wf_X2_2) (fun _ h => h) rfl hd kk
theorem gtC_20_3 (X : px_X D (tyC cs) p s m args c cc RX2) (w : px_H D (wC cs ad) A H0 M H locs) (hd : decode cc pc = .ok (.getfield 26, 3)) (kk : W p l e R s m args below meth c H locs cells slots Q (F0 m (pc + 3) ls (.ref (ad 23) :: rest))) : W p l e R s m args below meth c H locs cells slots Q (F0 m pc ls (.ref (ad 20) :: rest)) := va_get (D := D) (ci := 2) (C := RX2) (T := TX2) (N := 6) X.1 X.2.1 X.2.2.1 wu_X2 X.2.2.2.1 X.2.2.2.2 w.1 20 rfl rfl 3 (by decide) (X.2.2.1 _ wf_X2_3) (fun _ h => h) rfl hd kk
theorem gtC_20_4 (X : px_X D (tyC cs) p s m args c cc RX2) (w : px_H D (wC cs ad) A H0 M H locs) (hd : decode cc pc = .ok (.getfield 7, 3)) (kk : W p l e R s m args below meth c H locs cells slots Q (F0 m (pc + 3) ls (.int (M 20 4) :: rest))) : W p l e R s m args below meth c H locs cells slots Q (F0 m pc ls (.ref (ad 20) :: rest)) := va_get (D := D) (ci := 2) (C := RX2) (T := TX2) (N := 6) X.1 X.2.1 X.2.2.1 wu_X2 X.2.2.2.1 X.2.2.2.2 w.1 20 rfl rfl 4 (by decide) (X.2.2.1 _ wf_X2_4) (fun _ h => h) rfl hd kk
theorem ptC_20_4 (X : px_X D (tyC cs) p s m args c cc RX2) (w : px_H D (wC cs ad) A H0 M H locs) (hd : decode cc pc = .ok (.putfield 7, 3)) (kk : ∀ (H : Heap) (locs : List Loc), px_H D (wC cs ad) A H0 (px_up M 20 4 x) H locs → W p l e R s m args below meth c H locs cells slots Q (F0 m (pc + 3) ls rest)) : W p l e R s m args below meth c H locs cells slots Q (F0 m pc ls (.int x :: .ref (ad 20) :: rest)) := va_put (D := D) (ci := 2) (v := .int x) (ty := .int) (C := RX2) (T := TX2) (N := 6) X.1 X.2.1 X.2.2.1 wu_X2 tyX2 tyX2_ok nmX2 X.2.2.2.1 X.2.2.2.2 w.1 w.2.1 w.2.2.1 20 rfl rfl 4 (by decide) (X.2.2.1 _ wf_X2_4) (fun _ h => h) rfl (by decide +kernel) rfl rfl (Nat.le_of_ble_eq_true rfl) hd (fun H1 locs1 hP hD hS => kk H1 locs1 ⟨hP, hD, hS, w.2.2.2⟩)
theorem gtC_20_5 (X : px_X D (tyC cs) p s m args c cc RX2) (w : px_H D (wC cs ad) A H0 M H locs) (hd : decode cc pc = .ok (.getfield 13, 3)) (kk : W p l e R s m args below meth c H locs cells slots Q (F0 m (pc + 3) ls (.int (M 20 5) :: rest))) : W p l e R s m args below meth c H locs cells slots Q (F0 m pc ls (.ref (ad 20) :: rest)) := va_get (D := D) (ci := 2) (C := RX2) (T := TX2) (N := 6) X.1 X.2.1 X.2.2.1 wu_X2 X.2.2.2.1 X.2.2.2.2 w.1 20 rfl rfl 5 (by decide) (X.2.2.1 _ wf_X2_5) (fun _ h => h) rfl hd kk
theorem ptC_20_5 (X : px_X D (tyC cs) p s m args c cc RX2) (w : px_H D (wC cs ad) A H0 M H locs) (hd : decode cc pc = .ok (.putfield 13, 3)) (kk : ∀ (H : Heap) (locs : List Loc), px_H D (wC cs ad) A H0 (px_up M 20 5 x) H locs → W p l e R s m args below meth c H locs cells slots Q (F0 m (pc + 3) ls rest)) : W p l e R s m args below meth c H locs cells slots Q (F0 m pc ls (.int x :: .ref (ad 20) :: rest)) := va_put (D := D) (ci := 2) (v := .int x) (ty := .int) (C := RX2) (T := TX2) (N := 6) X.1 X.2.1 X.2.2.1 wu_X2 tyX2 tyX2_ok nmX2 X.2.2.2.1 X.2.2.2.2 w.1 w.2.1 w.2.2.1 20 rfl rfl 5 (by decide) (X.2.2.1 _ wf_X2_5) (fun _ h => h) rfl (by decide +kernel) rfl rfl (Nat.le_of_ble_eq_true rfl) hd (fun H1 locs1 hP hD hS => kk H1 locs1 ⟨hP, hD, hS, w.2.2.2⟩)
theorem ilC_21 {own : String} (X : px_X D (tyC cs) p s m args c cc own) (w : px_H D (wC cs ad) A H0 M H locs) (hi : vp_in i 180) (hd : decode cc pc = .ok (.iaload, 1)) (kk : W p l e R s m args below meth c H locs cells slots Q (F0 m (pc + 1) ls (.int (M 21 i.toNatClampNeg) :: rest))) : W p l e R s m args below meth c H locs cells slots Q (F0 m pc ls (.int i :: .ref (ad 21) :: rest)) := va_iald X.1 X.2.1 X.2.2.2.2 w.1 21 0 rfl rfl hi hd kk
theorem isC_21 {own : String} (X : px_X D (tyC cs) p s m args c cc own) (w : px_H D (wC cs ad) A H0 M H locs) (hi : vp_in i 180) (hd : decode cc pc = .ok (.iastore, 1)) (kk : ∀ (H : Heap) (locs : List Loc), px_H D (wC cs ad) A H0 (px_up M 21 i.toNatClampNeg x) H locs → W p l e R s m args below meth c H locs cells slots Q (F0 m (pc + 1) ls rest)) : W p l e R s m args below meth c H locs cells slots Q (F0 m pc ls (.int x :: .int i :: .ref (ad 21) :: rest)) := va_iast X.1 X.2.1 X.2.2.2.2 w.1 w.2.1 w.2.2.1 21 0 rfl rfl hi hd (fun H1 locs1 hP hD hS => kk H1 locs1 ⟨hP, hD, hS, w.2.2.2⟩)
theorem ilC_22 {own : String} (X : px_X D (tyC cs) p s m args c cc own) (w : px_H D (wC cs ad) A H0 M H locs) (hi : vp_in i 180) (hd : decode cc pc = .ok (.iaload, 1)) (kk : W p l e R s m args below meth c H locs cells slots Q (F0 m (pc + 1) ls (.int (M 22 i.toNatClampNeg) :: rest))) : W p l e R s m args below meth c H locs cells slots Q (F0 m pc ls (.int i :: .ref (ad 22) :: rest)) := va_iald X.1 X.2.1 X.2.2.2.2 w.1 22 0 rfl rfl hi hd kk
theorem isC_22 {own : String} (X : px_X D (tyC cs) p s m args c cc own) (w : px_H D (wC cs ad) A H0 M H locs) (hi : vp_in i 180) (hd : decode cc pc = .ok (.iastore, 1)) (kk : ∀ (H : Heap) (locs : List Loc), px_H D (wC cs ad) A H0 (px_up M 22 i.toNatClampNeg x) H locs → W p l e R s m args below meth c H locs cells slots Q (F0 m (pc + 1) ls rest)) : W p l e R s m args below meth c H locs cells slots Q (F0 m pc ls (.int x :: .int i :: .ref (ad 22) :: rest)) := va_iast X.1 X.2.1 X.2.2.2.2 w.1 w.2.1 w.2.2.1 22 0 rfl rfl hi hd (fun H1 locs1 hP hD hS => kk H1 locs1 ⟨hP, hD, hS, w.2.2.2⟩)
theorem ilC_23 {own : String} (X : px_X D (tyC cs) p s m args c cc own) (w : px_H D (wC cs ad) A H0 M H locs) (hi : vp_in i 180) (hd : decode cc pc = .ok (.iaload, 1)) (kk : W p l e R s m args below meth c H locs cells slots Q (F0 m (pc + 1) ls (.int (M 23 i.toNatClampNeg) :: rest))) : W p l e R s m args below meth c H locs cells slots Q (F0 m pc ls (.int i :: .ref (ad 23) :: rest)) := va_iald X.1 X.2.1 X.2.2.2.2 w.1 23 0 rfl rfl hi hd kk
theorem isC_23 {own : String} (X : px_X D (tyC cs) p s m args c cc own) (w : px_H D (wC cs ad) A H0 M H locs) (hi : vp_in i 180) (hd : decode cc pc = .ok (.iastore, 1)) (kk : ∀ (H : Heap) (locs : List Loc), px_H D (wC cs ad) A H0 (px_up M 23 i.toNatClampNeg x) H locs → W p l e R s m args below meth c H locs cells slots Q (F0 m (pc + 1) ls rest)) : W p l e R s m args below meth c H locs cells slots Q (F0 m pc ls (.int x :: .int i :: .ref (ad 23) :: rest)) := va_iast X.1 X.2.1 X.2.2.2.2 w.1 w.2.1 w.2.2.1 23 0 rfl rfl hi hd (fun H1 locs1 hP hD hS => kk H1 locs1 ⟨hP, hD, hS, w.2.2.2⟩)
theorem rcC_24 (hK : va_K D vwCl (tyC cs) s) (w : px_H D (wC cs ad) A H0 M H locs) : ∃ cell : Cell, H[ad 24]? = some cell ∧ cell.vm.isStatics = false ∧ s.vm.findClass RX2 = some cell.cls := va_recv hK w.1 (ci := 2) (q0 := 24) rfl rfl
theorem gtC_24_0 (X : px_X D (tyC cs) p s m args c cc RX2) (w : px_H D (wC cs ad) A H0 M H locs) (hd : decode cc pc = .ok (.getfield 16, 3)) (kk : W p l e R s m args below meth c H locs cells slots Q (F0 m (pc + 3) ls (.int (M 24 0) :: rest))) : W p l e R s m args below meth c H locs cells slots Q (F0 m pc ls (.ref (ad 24) :: rest)) := va_get (D := D) (ci := 2) (C := RX2) (T := TX2) (N := 6) X.1 X.2.1 X.2.2.1 wu_X2 X.2.2.2.1 X.2.2.2.2 w.1 24 rfl rfl 0 (by decide) (X.2.2.1 _ wf_X2_0) (fun _ h => h) rfl hd kk
theorem gtC_24_1 (X : px_X D (tyC cs) p s m args c cc RX2) (w : px_H D (wC cs ad) A H0 M H locs) (hd : decode cc pc = .ok (.getfield 19, 3)) (kk : W p l e R s m args below meth c H locs cells slots Q (F0 m (pc + 3) ls (.ref (ad 25) :: rest))) : W p l e R s m args below meth c H locs cells slots Q (F0 m pc ls (.ref (ad 24) :: rest)) := va_get (D := D) (ci := 2) (C := RX2) (T := TX2) (N := 6) X.1 X.2.1 X.2.2.1 wu_X2 X.2.2.2.1 X.2.2.2.2 w.1 24 rfl rfl 1 (by decide) (X.2.2.1 _ wf_X2_1) (fun _ h => h) rfl hd kk
theorem gtC_24_2 (X : px_X D (tyC cs) p s m args c cc RX2) (w : px_H D (wC cs ad) A H0 M H locs) (hd : decode cc pc = .ok (.getfield 23, 3)) (kk : W p l e R s m args below meth c H locs cells slots Q (F0 m (pc + 3) ls (.ref (ad 26) :: rest))) : W p l e R s m args below meth c H locs cells slots Q (F0 m pc ls (.ref (ad 24) :: rest)) := va_get (D := D) (ci := 2) (C := RX2) (T := TX2) (N := 6) X.1 X.2.1 X.2.2.1 wu_X2 X.2.2.2.1 X.2.2.2.2 w.1 24 rfl rfl 2 (by decide) (X.2.2.1 _ wf_X2_2) (fun _ h => h) rfl hd kk
theorem gtC_24_3 (X : px_X D (tyC cs) p s m args c cc RX2) (w : px_H D (wC cs ad) A H0 M H locs) (hd : decode cc pc = .ok (.getfield 26, 3)) (kk : W p l e R s m args below meth c H locs cells slots Q (F0 m (pc + 3) ls (.ref (ad 27) :: rest))) : W p l e R s m args below meth c H locs cells slots Q (F0 m pc ls (.ref (ad 24) :: rest)) := va_get (D := D) (ci := 2) (C := RX2) (T := TX2) (N := 6) X.1 X.2.1 X.2.2.1 wu_X2 X.2.2.2.1 X.2.2.2.2 w.1 24 rfl rfl 3 (by decide) (X.2.2.1 _ wf_X2_3) (fun _ h => h) rfl hd kk
theorem gtC_24_4 (X : px_X D (tyC cs) p s m args c cc RX2) (w : px_H D (wC cs ad) A H0 M H locs) (hd : decode cc pc = .ok (.getfield 7, 3)) (kk : W p l e R s m args below meth c H locs cells slots Q (F0 m (pc + 3) ls (.int (M 24 4) :: rest))) : W p l e R s m args below meth c H locs cells slots Q (F0 m pc ls (.ref (ad 24) :: rest)) := va_get (D := D) (ci := 2) (C := RX2) (T := TX2) (N := 6) X.1 X.2.1 X.2.2.1 wu_X2 X.2.2.2.1 X.2.2.2.2 w.1 24 rfl rfl 4 (by decide) (X.2.2.1 _ wf_X2_4) (fun _ h => h) rfl hd kk
theorem ptC_24_4 (X : px_X D (tyC cs) p s m args c cc RX2) (w : px_H D (wC cs ad) A H0 M H locs) (hd : decode cc pc = .ok (.putfield 7, 3)) (kk : ∀ (H : Heap) (locs : List Loc), px_H D (wC cs ad) A H0 (px_up M 24 4 x) H locs → W p l e R s m args below meth c H locs cells slots Q (F0 m (pc + 3) ls rest)) : W p l e R s m args below meth c H locs cells slots Q (F0 m pc ls (.int x :: .ref (ad 24) :: rest)) := va_put (D := D) (ci := 2) (v := .int x) (ty := .int) (C := RX2) (T := TX2) (N := 6) X.1 X.2.1 X.2.2.1 wu_X2 tyX2 tyX2_ok nmX2 X.2.2.2.1 X.2.2.2.2 w.1 w.2.1 w.2.2.1 24 rfl rfl 4 (by decide) (X.2.2.1 _ wf_X2_4) (fun _ h => h) rfl (by decide +kernel) rfl rfl (Nat.le_of_ble_eq_true rfl) hd (fun H1 locs1 hP hD hS => kk H1 locs1 ⟨hP, hD, hS, w.2.2.2⟩)
theorem gtC_24_5 (X : px_X D (tyC cs) p s m args c cc RX2) (w : px_H D (wC cs ad) A H0 M H locs) (hd : decode cc pc = .ok (.getfield 13, 3)) (kk : W p l e R s m args below meth c H locs cells slots Q (F0 m (pc + 3) ls (.int (M 24 5) :: rest))) : W p l e R s m args below meth c H locs cells slots Q (F0 m pc ls (.ref (ad 24) :: rest)) := va_get (D := D) (ci := 2) (C := RX2) (T := TX2) (N := 6) X.1 X.2.1 X.2.2.1 wu_X2 X.2.2.2.1 X.2.2.2.2 w.1 24 rfl rfl 5 (by decide) (X.2.2.1 _ wf_X2_5) (fun _ h => h) rfl hd kk
theorem ptC_24_5 (X : px_X D (tyC cs) p s m args c cc RX2) (w : px_H D (wC cs ad) A H0 M H locs) (hd : decode cc pc = .ok (.putfield 13, 3)) (kk : ∀ (H : Heap) (locs : List Loc), px_H D (wC cs ad) A H0 (px_up M 24 5 x) H locs → W p l e R s m args below meth c H locs cells slots Q (F0 m (pc + 3) ls rest)) : W p l e R s m args below meth c H locs cells slots Q (F0 m pc ls (.int x :: .ref (ad 24) :: rest)) := va_put (D := D) (ci := 2) (v := .int x) (ty := .int) (C := RX2) (T := TX2) (N := 6) X.1 X.2.1 X.2.2.1 wu_X2 tyX2 tyX2_ok nmX2 X.2.2.2.1 X.2.2.2.2 w.1 w.2.1 w.2.2.1 24 rfl rfl 5 (by decide) (X.2.2.1 _ wf_X2_5) (fun _ h => h) rfl (by decide +kernel) rfl rfl (Nat.le_of_ble_eq_true rfl) hd (fun H1 locs1 hP hD hS => kk H1 locs1 ⟨hP, hD, hS, w.2.2.2⟩)
theorem ilC_25 {own : String} (X : px_X D (tyC cs) p s m args c cc own) (w : px_H D (wC cs ad) A H0 M H locs) (hi : vp_in i 8) (hd : decode cc pc = .ok (.iaload, 1)) (kk : W p l e R s m args below meth c H locs cells slots Q (F0 m (pc + 1) ls (.int (M 25 i.toNatClampNeg) :: rest))) : W p l e R s m args below meth c H locs cells slots Q (F0 m pc ls (.int i :: .ref (ad 25) :: rest)) := va_iald X.1 X.2.1 X.2.2.2.2 w.1 25 0 rfl rfl hi hd kk
theorem isC_25 {own : String} (X : px_X D (tyC cs) p s m args c cc own) (w : px_H D (wC cs ad) A H0 M H locs) (hi : vp_in i 8) (hd : decode cc pc = .ok (.iastore, 1)) (kk : ∀ (H : Heap) (locs : List Loc), px_H D (wC cs ad) A H0 (px_up M 25 i.toNatClampNeg x) H locs → W p l e R s m args below meth c H locs cells slots Q (F0 m (pc + 1) ls rest)) : W p l e R s m args below meth c H locs cells slots Q (F0 m pc ls (.int x :: .int i :: .ref (ad 25) :: rest)) := va_iast X.1 X.2.1 X.2.2.2.2 w.1 w.2.1 w.2.2.1 25 0 rfl rfl hi hd (fun H1 locs1 hP hD hS => kk H1 locs1 ⟨hP, hD, hS, w.2.2.2⟩)
theorem ilC_26 {own : String} (X : px_X D (tyC cs) p s m args c cc own) (w : px_H D (wC cs ad) A H0 M H locs) (hi : vp_in i 8) (hd : decode cc pc = .ok (.iaload, 1)) (kk : W p l e R s m args below meth c H locs cells slots Q (F0 m (pc + 1) ls (.int (M 26 i.toNatClampNeg) :: rest))) : W p l e R s m args below meth c H locs cells slots Q (F0 m pc ls (.int i :: .ref (ad 26) :: rest)) := va_iald X.1 X.2.1 X.2.2.2.2 w.1 26 0 rfl rfl hi hd kk
theorem isC_26 {own : String} (X : px_X D (tyC cs) p s m args c cc own) (w : px_H D (wC cs ad) A H0 M H locs) (hi : vp_in i 8) (hd : decode cc pc = .ok (.iastore, 1)) (kk : ∀ (H : Heap) (locs : List Loc), px_H D (wC cs ad) A H0 (px_up M 26 i.toNatClampNeg x) H locs → W p l e R s m args below meth c H locs cells slots Q (F0 m (pc + 1) ls rest)) : W p l e R s m args below meth c H locs cells slots Q (F0 m pc ls (.int x :: .int i :: .ref (ad 26) :: rest)) := va_iast X.1 X.2.1 X.2.2.2.2 w.1 w.2.1 w.2.2.1 26 0 rfl rfl hi hd (fun H1 locs1 hP hD hS => kk H1 locs1 ⟨hP, hD, hS, w.2.2.2⟩)
theorem ilC_27 {own : String} (X : px_X D (tyC cs) p s m args c cc own) (w : px_H D (wC cs ad) A H0 M H locs) (hi : vp_in i 8) (hd : decode cc pc = .ok (.iaload, 1)) (kk : W p l e R s m args below meth c H locs cells slots Q (F0 m (pc + 1) ls (.int (M 27 i.toNatClampNeg) :: rest))) : W p l e R s m args below meth c H locs cells slots Q (F0 m pc ls (.int i :: .ref (ad 27) :: rest)) := va_iald X.1 X.2.1 X.2.2.2.2 w.1 27 0 rfl rfl hi hd kk
theorem isC_27 {own : String} (X : px_X D (tyC cs) p s m args c cc own) (w : px_H D (wC cs ad) A H0 M H locs) (hi : vp_in i 8) (hd : decode cc pc = .ok (.iastore, 1)) (kk : ∀ (H : Heap) (locs : List Loc), px_H D (wC cs ad) A H0 (px_up M 27 i.toNatClampNeg x) H locs → W p l e R s m args below meth c H locs cells slots Q (F0 m (pc + 1) ls rest)) : W p l e R s m args below meth c H locs cells slots Q (F0 m pc ls (.int x :: .int i :: .ref (ad 27) :: rest)) := va_iast X.1 X.2.1 X.2.2.2.2 w.1 w.2.1 w.2.2.1 27 0 rfl rfl hi hd (fun H1 locs1 hP hD hS => kk H1 locs1 ⟨hP, hD, hS, w.2.2.2⟩)
theorem rcC_28 (hK : va_K D vwCl (tyC cs) s) (w : px_H D (wC cs ad) A H0 M H locs) : ∃ cell : Cell, H[ad 28]? = some cell ∧ cell.vm.isStatics = false ∧ s.vm.findClass RX1 = some cell.cls := va_recv hK w.1 (ci := 1) (q0 := 28) rfl rfl
theorem gtC_28_0 (X : px_X D (tyC cs) p s m args c cc RX1) (w : px_H D (wC cs ad) A H0 M H locs) (hd : decode cc pc = .ok (.getfield 9, 3)) (kk : W p l e R s m args below meth c H locs cells slots Q (F0 m (pc + 3) ls (.ref (ad 29) :: rest))) : W p l e R s m args below meth c H locs cells slots Q (F0 m pc ls (.ref (ad 28) :: rest)) := va_get (D := D) (ci := 1) (C := RX1) (T := TX1) (N := 2) X.1 X.2.1 X.2.2.1 wu_X1 X.2.2.2.1 X.2.2.2.2 w.1 28 rfl rfl 0 (by decide) (X.2.2.1 _ wf_X1_0) (fun _ h => h) rfl hd kk
theorem gtC_28_1 (X : px_X D (tyC cs) p s m args c cc RX1) (w : px_H D (wC cs ad) A H0 M H locs) (hd : decode cc pc = .ok (.getfield 15, 3)) (kk : W p l e R s m args below meth c H locs cells slots Q (F0 m (pc + 3) ls (.int (M 28 1) :: rest))) : W p l e R s m args below meth c H locs cells slots Q (F0 m pc ls (.ref (ad 28) :: rest)) := va_get (D := D) (ci := 1) (C := RX1) (T := TX1) (N := 2) X.1 X.2.1 X.2.2.1 wu_X1 X.2.2.2.1 X.2.2.2.2 w.1 28 rfl rfl 1 (by decide) (X.2.2.1 _ wf_X1_1) (fun _ h => h) rfl hd kk
theorem ptC_28_1 (X : px_X D (tyC cs) p s m args c cc RX1) (w : px_H D (wC cs ad) A H0 M H locs) (hd : decode cc pc = .ok (.putfield 15, 3)) (kk : ∀ (H : Heap) (locs : List Loc), px_H D (wC cs ad) A H0 (px_up M 28 1 x) H locs → W p l e R s m args below meth c H locs cells slots Q (F0 m (pc + 3) ls rest)) : W p l e R s m args below meth c H locs cells slots Q (F0 m pc ls (.int x :: .ref (ad 28) :: rest)) := va_put (D := D) (ci := 1) (v := .int x) (ty := .int) (C := RX1) (T := TX1) (N := 2) X.1 X.2.1 X.2.2.1 wu_X1 tyX1 tyX1_ok nmX1 X.2.2.2.1 X.2.2.2.2 w.1 w.2.1 w.2.2.1 28 rfl rfl 1 (by decide) (X.2.2.1 _ wf_X1_1) (fun _ h => h) rfl (by decide +kernel) rfl rfl (Nat.le_of_ble_eq_true rfl) hd (fun H1 locs1 hP hD hS => kk H1 locs1 ⟨hP, hD, hS, w.2.2.2⟩)
theorem ilC_29 {own : String} (X : px_X D (tyC cs) p s m args c cc own) (w : px_H D (wC cs ad) A H0 M H locs) (hi : vp_in i 200) (hd : decode cc pc = .ok (.iaload, 1)) (kk : W p l e R s m args below meth c H locs cells slots Q (F0 m (pc + 1) ls (.int (M 29 i.toNatClampNeg) :: rest))) : W p l e R s m args below meth c H locs cells slots Q (F0 m pc ls (.int i :: .ref (ad 29) :: rest)) := va_iald X.1 X.2.1 X.2.2.2.2 w.1 29 0 rfl rfl hi hd kk
theorem isC_29 {own : String} (X : px_X D (tyC cs) p s m args c cc own) (w : px_H D (wC cs ad) A H0 M H locs) (hi : vp_in i 200) (hd : decode cc pc = .ok (.iastore, 1)) (kk : ∀ (H : Heap) (locs : List Loc), px_H D (wC cs ad) A H0 (px_up M 29 i.toNatClampNeg x) H locs → W p l e R s m args below meth c H locs cells slots Q (F0 m (pc + 1) ls rest)) : W p l e R s m args below meth c H locs cells slots Q (F0 m pc ls (.int x :: .int i :: .ref (ad 29) :: rest)) := va_iast X.1 X.2.1 X.2.2.2.2 w.1 w.2.1 w.2.2.1 29 0 rfl rfl hi hd (fun H1 locs1 hP hD hS => kk H1 locs1 ⟨hP, hD, hS, w.2.2.2⟩)
theorem rcC_30 (hK : va_K D vwCl (tyC cs) s) (w : px_H D (wC cs ad) A H0 M H locs) : ∃ cell : Cell, H[ad 30]? = some cell ∧ cell.vm.isStatics = false ∧ s.vm.findClass RX1 = some cell.cls := va_recv hK w.1 (ci := 1) (q0 := 30) rfl rfl
theorem gtC_30_0 (X : px_X D (tyC cs) p s m args c cc RX1) (w : px_H D (wC cs ad) A H0 M H locs) (hd : decode cc pc = .ok (.getfield 9, 3)) (kk : W p l e R s m args below meth c H locs cells slots Q (F0 m (pc + 3) ls (.ref (ad 31) :: rest))) : W p l e R s m args below meth c H locs cells slots Q (F0 m pc ls (.ref (ad 30) :: rest)) := va_get (D := D) (ci := 1) (C := RX1) (T := TX1) (N := 2) X.1 X.2.1 X.2.2.1 wu_X1 X.2.2.2.1 X.2.2.2.2 w.1 30 rfl rfl 0 (by decide) (X.2.2.1 _ wf_X1_0) (fun _ h => h) rfl hd kk
theorem gtC_30_1 (X : px_X D (tyC cs) p s m args c cc RX1) (w : px_H D (wC cs ad) A H0 M H locs) (hd : decode cc pc = .ok (.getfield 15, 3)) (kk : W p l e R s m args below meth c H locs cells slots Q (F0 m (pc + 3) ls (.int (M 30 1) :: rest))) : W p l e R s m args below meth c H locs cells slots Q (F0 m pc ls (.ref (ad 30) :: rest)) := va_get (D := D) (ci := 1) (C := RX1) (T := TX1) (N := 2) X.1 X.2.1 X.2.2.1 wu_X1 X.2.2.2.1 X.2.2.2.2 w.1 30 rfl rfl 1 (by decide) (X.2.2.1 _ wf_X1_1) (fun _ h => h) rfl hd kk
theorem ptC_30_1 (X : px_X D (tyC cs) p s m args c cc RX1) (w : px_H D (wC cs ad) A H0 M H locs) (hd : decode cc pc = .ok (.putfield 15, 3)) (kk : ∀ (H : Heap) (locs : List Loc), px_H D (wC cs ad) A H0 (px_up M 30 1 x) H locs → W p l e R s m args below meth c H locs cells slots Q (F0 m (pc + 3) ls rest)) : W p l e R s m args below meth c H locs cells slots Q (F0 m pc ls (.int x :: .ref (ad 30) :: rest)) := va_put (D := D) (ci := 1) (v := .int x) (ty := .int) (C := RX1) (T := TX1) (N := 2) X.1 X.2.1 X.2.2.1 wu_X1 tyX1 tyX1_ok nmX1 X.2.2.2.1 X.2.2.2.2 w.1 w.2.1 w.2.2.1 30 rfl rfl 1 (by decide) (X.2.2.1 _ wf_X1_1) (fun _ h => h) rfl (by decide +kernel) rfl rfl (Nat.le_of_ble_eq_true rfl) hd (fun H1 locs1 hP hD hS => kk H1 locs1 ⟨hP, hD, hS, w.2.2.2⟩)
theorem ilC_31 {own : String} (X : px_X D (tyC cs) p s m args c cc own) (w : px_H D (wC cs ad) A H0 M H locs) (hi : vp_in i 200) (hd : decode cc pc = .ok (.iaload, 1)) (kk : W p l e R s m args below meth c H locs cells slots Q (F0 m (pc + 1) ls (.int (M 31 i.toNatClampNeg) :: rest))) : W p l e R s m args below meth c H locs cells slots Q (F0 m pc ls (.int i :: .ref (ad 31) :: rest)) := va_iald X.1 X.2.1 X.2.2.2.2 w.1 31 0 rfl rfl hi hd kk
theorem isC_31 {own : String} (X : px_X D (tyC cs) p s m args c cc own) (w : px_H D (wC cs ad) A H0 M H locs) (hi : vp_in i 200) (hd : decode cc pc = .ok (.iastore, 1)) (kk : ∀ (H : Heap) (locs : List Loc), px_H D (wC cs ad) A H0 (px_up M 31 i.toNatClampNeg x) H locs → W p l e R s m args below meth c H locs cells slots Q (F0 m (pc + 1) ls rest)) : W p l e R s m args below meth c H locs cells slots Q (F0 m pc ls (.int x :: .int i :: .ref (ad 31) :: rest)) := va_iast X.1 X.2.1 X.2.2.2.2 w.1 w.2.1 w.2.2.1 31 0 rfl rfl hi hd (fun H1 locs1 hP hD hS => kk H1 locs1 ⟨hP, hD, hS, w.2.2.2⟩)
theorem rcC_32 (hK : va_K D vwCl (tyC cs) s) (w : px_H D (wC cs ad) A H0 M H locs) : ∃ cell : Cell, H[ad 32]? = some cell ∧ cell.vm.isStatics = false ∧ s.vm.findClass RX3 = some cell.cls := va_recv hK w.1 (ci := 3) (q0 := 32) rfl rfl
theorem gtC_32_0 (X : px_X D (tyC cs) p s m args c cc RX3) (w : px_H D (wC cs ad) A H0 M H locs) (hd : decode cc pc = .ok (.getfield 53, 3)) (kk : W p l e R s m args below meth c H locs cells slots Q (F0 m (pc + 3) ls (.ref (ad 20) :: rest))) : W p l e R s m args below meth c H locs cells slots Q (F0 m pc ls (.ref (ad 32) :: rest)) := va_get (D := D) (ci := 3) (C := RX3) (T := TX3) (N := 15) X.1 X.2.1 X.2.2.1 wu_X3 X.2.2.2.1 X.2.2.2.2 w.1 32 rfl rfl 0 (by decide) (X.2.2.1 _ wf_X3_0) (fun _ h => h) rfl hd kk
theorem gtC_32_1 (X : px_X D (tyC cs) p s m args c cc RX3) (w : px_H D (wC cs ad) A H0 M H locs) (hd : decode cc pc = .ok (.getfield 57, 3)) (kk : W p l e R s m args below meth c H locs cells slots Q (F0 m (pc + 3) ls (.ref (ad 30) :: rest))) : W p l e R s m args below meth c H locs cells slots Q (F0 m pc ls (.ref (ad 32) :: rest)) := va_get (D := D) (ci := 3) (C := RX3) (T := TX3) (N := 15) X.1 X.2.1 X.2.2.1 wu_X3 X.2.2.2.1 X.2.2.2.2 w.1 32 rfl rfl 1 (by decide) (X.2.2.1 _ wf_X3_1) (fun _ h => h) rfl hd kk
theorem gtC_32_2 (X : px_X D (tyC cs) p s m args c cc RX3) (w : px_H D (wC cs ad) A H0 M H locs) (hd : decode cc pc = .ok (.getfield 9, 3)) (kk : W p l e R s m args below meth c H locs cells slots Q (F0 m (pc + 3) ls (.ref (ad 33) :: rest))) : W p l e R s m args below meth c H locs cells slots Q (F0 m pc ls (.ref (ad 32) :: rest)) := va_get (D := D) (ci := 3) (C := RX3) (T := TX3) (N := 15) X.1 X.2.1 X.2.2.1 wu_X3 X.2.2.2.1 X.2.2.2.2 w.1 32 rfl rfl 2 (by decide) (X.2.2.1 _ wf_X3_2) (fun _ h => h) rfl hd kk
theorem gtC_32_3 (X : px_X D (tyC cs) p s m args c cc RX3) (w : px_H D (wC cs ad) A H0 M H locs) (hd : decode cc pc = .ok (.getfield 15, 3)) (kk : W p l e R s m args below meth c H locs cells slots Q (F0 m (pc + 3) ls (.ref (ad 34) :: rest))) : W p l e R s m args below meth c H locs cells slots Q (F0 m pc ls (.ref (ad 32) :: rest)) := va_get (D := D) (ci := 3) (C := RX3) (T := TX3) (N := 15) X.1 X.2.1 X.2.2.1 wu_X3 X.2.2.2.1 X.2.2.2.2 w.1 32 rfl rfl 3 (by decide) (X.2.2.1 _ wf_X3_3) (fun _ h => h) rfl hd kk
theorem gtC_32_4 (X : px_X D (tyC cs) p s m args c cc RX3) (w : px_H D (wC cs ad) A H0 M H locs) (hd : decode cc pc = .ok (.getfield 18, 3)) (kk : W p l e R s m args below meth c H locs cells slots Q (F0 m (pc + 3) ls (.ref (ad 35) :: rest))) : W p l e R s m args below meth c H locs cells slots Q (F0 m pc ls (.ref (ad 32) :: rest)) := va_get (D := D) (ci := 3) (C := RX3) (T := TX3) (N := 15) X.1 X.2.1 X.2.2.1 wu_X3 X.2.2.2.1 X.2.2.2.2 w.1 32 rfl rfl 4 (by decide) (X.2.2.1 _ wf_X3_4) (fun _ h => h) rfl hd kk
theorem gtC_32_5 (X : px_X D (tyC cs) p s m args c cc RX3) (w : px_H D (wC cs ad) A H0 M H locs) (hd : decode cc pc = .ok (.getfield 22, 3)) (kk : W p l e R s m args below meth c H locs cells slots Q (F0 m (pc + 3) ls (.ref (ad 36) :: rest))) : W p l e R s m args below meth c H locs cells slots Q (F0 m pc ls (.ref (ad 32) :: rest)) := va_get (D := D) (ci := 3) (C := RX3) (T := TX3) (N := 15) X.1 X.2.1 X.2.2.1 wu_X3 X.2.2.2.1 X.2.2.2.2 w.1 32 rfl rfl 5 (by decide) (X.2.2.1 _ wf_X3_5) (fun _ h => h) rfl hd kk
theorem gtC_32_6 (X : px_X D (tyC cs) p s m args c cc RX3) (w : px_H D (wC cs ad) A H0 M H locs) (hd : decode cc pc = .ok (.getfield 25, 3)) (kk : W p l e R s m args below meth c H locs cells slots Q (F0 m (pc + 3) ls (.ref (ad 37) :: rest))) : W p l e R s m args below meth c H locs cells slots Q (F0 m pc ls (.ref (ad 32) :: rest)) := va_get (D := D) (ci := 3) (C := RX3) (T := TX3) (N := 15) X.1 X.2.1 X.2.2.1 wu_X3 X.2.2.2.1 X.2.2.2.2 w.1 32 rfl rfl 6 (by decide) (X.2.2.1 _ wf_X3_6) (fun _ h => h) rfl hd kk
theorem gtC_32_7 (X : px_X D (tyC cs) p s m args c cc RX3) (w : px_H D (wC cs ad) A H0 M H locs) (hd : decode cc pc = .ok (.getfield 28, 3)) (kk : W p l e R s m args below meth c H locs cells slots Q (F0 m (pc + 3) ls (.int (M 32 7) :: rest))) : W p l e R s m args below meth c H locs cells slots Q (F0 m pc ls (.ref (ad 32) :: rest)) := va_get (D := D) (ci := 3) (C := RX3) (T := TX3) (N := 15) X.1 X.2.1 X.2.2.1 wu_X3 X.2.2.2.1 X.2.2.2.2 w.1 32 rfl rfl 7 (by decide) (X.2.2.1 _ wf_X3_7) (fun _ h => h) rfl hd kk
theorem ptC_32_7 (X : px_X D (tyC cs) p s m args c cc RX3) (w : px_H D (wC cs ad) A H0 M H locs) (hd : decode cc pc = .ok (.putfield 28, 3)) (kk : ∀ (H : Heap) (locs : List Loc), px_H D (wC cs ad) A H0 (px_up M 32 7 x) H locs → W p l e R s m args below meth c H locs cells slots Q (F0 m (pc + 3) ls rest)) : W p l e R s m args below meth c H locs cells slots Q (F0 m pc ls (.int x :: .ref (ad 32) :: rest)) := va_put (D := D) (ci := 3) (v := .int x) (ty := .int) (C := RX3) (T := TX3) (N := 15) X.1 X.2.1 X.2.2.1 wu_X3 tyX3 tyX3_ok nmX3 X.2.2.2.1 X.2.2.2.2 w.1 w.2.1 w.2.2.1 32 rfl rfl 7 (by decide) (X.2.2.1 _ wf_X3_7) (fun _ h => h) rfl (by decide +kernel) rfl rfl (Nat.le_of_ble_eq_true rfl) hd (fun H1 locs1 hP hD hS => kk H1 locs1 ⟨hP, hD, hS, w.2.2.2⟩)
theorem gtC_32_8 (X : px_X D (tyC cs) p s m args c cc RX3) (w : px_H D (wC cs ad) A H0 M H locs) (hd : decode cc pc = .ok (.getfield 32, 3)) (kk : W p l e R s m args below meth c H locs cells slots Q (F0 m (pc + 3) ls (.ref (ad 38) :: rest))) : W p l e R s m args below meth c H locs cells slots Q (F0 m pc ls (.ref (ad 32) :: rest)) := va_get (D := D) (ci := 3) (C := RX3) (T := TX3) (N := 15) X.1 X.2.1 X.2.2.1 wu_X3 X.2.2.2.1 X.2.2.2.2 w.1 32 rfl rfl 8 (by decide) (X.2.2.1 _ wf_X3_8) (fun _ h => h) rfl hd kk
theorem gtC_32_9 (X : px_X D (tyC cs) p s m args c cc RX3) (w : px_H D (wC cs ad) A H0 M H locs) (hd : decode cc pc = .ok (.getfield 35, 3)) (kk : W p l e R s m args below meth c H locs cells slots Q (F0 m (pc + 3) ls (.int (M 32 9) :: rest))) : W p l e R s m args below meth c H locs cells slots Q (F0 m pc ls (.ref (ad 32) :: rest)) := va_get (D := D) (ci := 3) (C := RX3) (T := TX3) (N := 15) X.1 X.2.1 X.2.2.1 wu_X3 X.2.2.2.1 X.2.2.2.2 w.1 32 rfl rfl 9 (by decide) (X.2.2.1 _ wf_X3_9) (fun _ h => h) rfl hd kk
theorem ptC_32_9 (X : px_X D (tyC cs) p s m args c cc RX3) (w : px_H D (wC cs ad) A H0 M H locs) (hd : decode cc pc = .ok (.putfield 35, 3)) (kk : ∀ (H : Heap) (locs : List Loc), px_H D (wC cs ad) A H0 (px_up M 32 9 x) H locs → W p l e R s m args below meth c H locs cells slots Q (F0 m (pc + 3) ls rest)) : W p l e R s m args below meth c H locs cells slots Q (F0 m pc ls (.int x :: .ref (ad 32) :: rest)) := va_put (D := D) (ci := 3) (v := .int x) (ty := .int) (C := RX3) (T := TX3) (N := 15) X.1 X.2.1 X.2.2.1 wu_X3 tyX3 tyX3_ok nmX3 X.2.2.2.1 X.2.2.2.2 w.1 w.2.1 w.2.2.1 32 rfl rfl 9 (by decide) (X.2.2.1 _ wf_X3_9) (fun _ h => h) rfl (by decide +kernel) rfl rfl (Nat.le_of_ble_eq_true rfl) hd (fun H1 locs1 hP hD hS => kk H1 locs1 ⟨hP, hD, hS, w.2.2.2⟩)
theorem gtC_32_10 (X : px_X D (tyC cs) p s m args c cc RX3) (w : px_H D (wC cs ad) A H0 M H locs) (hd : decode cc pc = .ok (.getfield 38, 3)) (kk : W p l e R s m args below meth c H locs cells slots Q (F0 m (pc + 3) ls (.ref (ad 39) :: rest))) : W p l e R s m args below meth c H locs cells slots Q (F0 m pc ls (.ref (ad 32) :: rest)) := va_get (D := D) (ci := 3) (C := RX3) (T := TX3) (N := 15) X.1 X.2.1 X.2.2.1 wu_X3 X.2.2.2.1 X.2.2.2.2 w.1 32 rfl rfl 10 (by decide) (X.2.2.1 _ wf_X3_10) (fun _ h => h) rfl hd kk
theorem gtC_32_11 (X : px_X D (tyC cs) p s m args c cc RX3) (w : px_H D (wC cs ad) A H0 M H locs) (hd : decode cc pc = .ok (.getfield 41, 3)) (kk : W p l e R s m args below meth c H locs cells slots Q (F0 m (pc + 3) ls (.ref (ad 40) :: rest))) : W p l e R s m args below meth c H locs cells slots Q (F0 m pc ls (.ref (ad 32) :: rest)) := va_get (D := D) (ci := 3) (C := RX3) (T := TX3) (N := 15) X.1 X.2.1 X.2.2.1 wu_X3 X.2.2.2.1 X.2.2.2.2 w.1 32 rfl rfl 11 (by decide) (X.2.2.1 _ wf_X3_11) (fun _ h => h) rfl hd kk
theorem gtC_32_12 (X : px_X D (tyC cs) p s m args c cc RX3) (w : px_H D (wC cs ad) A H0 M H locs) (hd : decode cc pc = .ok (.getfield 44, 3)) (kk : W p l e R s m args below meth c H locs cells slots Q (F0 m (pc + 3) ls (.ref (ad 41) :: rest))) : W p l e R s m args below meth c H locs cells slots Q (F0 m pc ls (.ref (ad 32) :: rest)) := va_get (D := D) (ci := 3) (C := RX3) (T := TX3) (N := 15) X.1 X.2.1 X.2.2.1 wu_X3 X.2.2.2.1 X.2.2.2.2 w.1 32 rfl rfl 12 (by decide) (X.2.2.1 _ wf_X3_12) (fun _ h => h) rfl hd kk
theorem gtC_32_13 (X : px_X D (tyC cs) p s m args c cc RX3) (w : px_H D (wC cs ad) A H0 M H locs) (hd : decode cc pc = .ok (.getfield 47, 3)) (kk : W p l e R s m args below meth c H locs cells slots Q (F0 m (pc + 3) ls (.ref (ad 42) :: rest))) : W p l e R s m args below meth c H locs cells slots Q (F0 m pc ls (.ref (ad 32) :: rest)) := va_get (D := D) (ci := 3) (C := RX3) (T := TX3) (N := 15) X.1 X.2.1 X.2.2.1 wu_X3 X.2.2.2.1 X.2.2.2.2 w.1 32 rfl rfl 13 (by decide) (X.2.2.1 _ wf_X3_13) (fun _ h => h) rfl hd kk
theorem gtC_32_14 (X : px_X D (tyC cs) p s m args c cc RX3) (w : px_H D (wC cs ad) A H0 M H locs) (hd : decode cc pc = .ok (.getfield 50, 3)) (kk : W p l e R s m args below meth c H locs cells slots Q (F0 m (pc + 3) ls (.int (M 32 14) :: rest))) : W p l e R s m args below meth c H locs cells slots Q (F0 m pc ls (.ref (ad 32) :: rest)) := va_get (D := D) (ci := 3) (C := RX3) (T := TX3) (N := 15) X.1 X.2.1 X.2.2.1 wu_X3 X.2.2.2.1 X.2.2.2.2 w.1 32 rfl rfl 14 (by decide) (X.2.2.1 _ wf_X3_14) (fun _ h => h) rfl hd kk
theorem ptC_32_14 (X : px_X D (tyC cs) p s m args c cc RX3) (w : px_H D (wC cs ad) A H0 M H locs) (hd : decode cc pc = .ok (.putfield 50, 3)) (kk : ∀ (H : Heap) (locs : List Loc), px_H D (wC cs ad) A H0 (px_up M 32 14 x) H locs → W p l e R s m args below meth c H locs cells slots Q (F0 m (pc + 3) ls rest)) : W p l e R s m args below meth c H locs cells slots Q (F0 m pc ls (.int x :: .ref (ad 32) :: rest)) := va_put (D := D) (ci := 3) (v := .int x) (ty := .int) (C := RX3) (T := TX3) (N := 15) X.1 X.2.1 X.2.2.1 wu_X3 tyX3 tyX3_ok nmX3 X.2.2.2.1 X.2.2.2.2 w.1 w.2.1 w.2.2.1 32 rfl rfl 14 (by decide) (X.2.2.1 _ wf_X3_14) (fun _ h => h) rfl (by decide +kernel) rfl rfl (Nat.le_of_ble_eq_true rfl) hd (fun H1 locs1 hP hD hS => kk H1 locs1 ⟨hP, hD, hS, w.2.2.2⟩)
theorem ilC_33 {own : String} (X : px_X D (tyC cs) p s m args c cc own) (w : px_H D (wC cs ad) A H0 M H locs) (hi : vp_in i 40) (hd : decode cc pc = .ok (.iaload, 1)) (kk : W p l e R s m args below meth c H locs cells slots Q (F0 m (pc + 1) ls (.int (M 33 i.toNatClampNeg) :: rest))) : W p l e R s m args below meth c H locs cells slots Q (F0 m pc ls (.int i :: .ref (ad 33) :: rest)) := va_iald X.1 X.2.1 X.2.2.2.2 w.1 33 0 rfl rfl hi hd kk
theorem isC_33 {own : String} (X : px_X D (tyC cs) p s m args c cc own) (w : px_H D (wC cs ad) A H0 M H locs) (hi : vp_in i 40) (hd : decode cc pc = .ok (.iastore, 1)) (kk : ∀ (H : Heap) (locs : List Loc), px_H D (wC cs ad) A H0 (px_up M 33 i.toNatClampNeg x) H locs → W p l e R s m args below meth c H locs cells slots Q (F0 m (pc + 1) ls rest)) : W p l e R s m args below meth c H locs cells slots Q (F0 m pc ls (.int x :: .int i :: .ref (ad 33) :: rest)) := va_iast X.1 X.2.1 X.2.2.2.2 w.1 w.2.1 w.2.2.1 33 0 rfl rfl hi hd (fun H1 locs1 hP hD hS => kk H1 locs1 ⟨hP, hD, hS, w.2.2.2⟩)
theorem ilC_34 {own : String} (X : px_X D (tyC cs) p s m args c cc own) (w : px_H D (wC cs ad) A H0 M H locs) (hi : vp_in i 40) (hd : decode cc pc = .ok (.iaload, 1)) (kk : W p l e R s m args below meth c H locs cells slots Q (F0 m (pc + 1) ls (.int (M 34 i.toNatClampNeg) :: rest))) : W p l e R s m args below meth c H locs cells slots Q (F0 m pc ls (.int i :: .ref (ad 34) :: rest)) := va_iald X.1 X.2.1 X.2.2.2.2 w.1 34 0 rfl rfl hi hd kk
theorem isC_34 {own : String} (X : px_X D (tyC cs) p s m args c cc own) (w : px_H D (wC cs ad) A H0 M H locs) (hi : vp_in i 40) (hd : decode cc pc = .ok (.iastore, 1)) (kk : ∀ (H : Heap) (locs : List Loc), px_H D (wC cs ad) A H0 (px_up M 34 i.toNatClampNeg x) H locs → W p l e R s m args below meth c H locs cells slots Q (F0 m (pc + 1) ls rest)) : W p l e R s m args below meth c H locs cells slots Q (F0 m pc ls (.int x :: .int i :: .ref (ad 34) :: rest)) := va_iast X.1 X.2.1 X.2.2.2.2 w.1 w.2.1 w.2.2.1 34 0 rfl rfl hi hd (fun H1 locs1 hP hD hS => kk H1 locs1 ⟨hP, hD, hS, w.2.2.2⟩)
theorem ilC_35 {own : String} (X : px_X D (tyC cs) p s m args c cc own) (w : px_H D (wC cs ad) A H0 M H locs) (hi : vp_in i 40) (hd : decode cc pc = .ok (.baload, 1)) (kk : W p l e R s m args below meth c H locs cells slots Q (F0 m (pc + 1) ls (.int (M 35 i.toNatClampNeg) :: rest))) : W p l e R s m args below meth c H locs cells slots Q (F0 m pc ls (.int i :: .ref (ad 35) :: rest)) := va_zald X.1 X.2.1 X.2.2.2.2 w.1 35 1 rfl rfl hi hd kk
theorem isC_35 {own : String} (X : px_X D (tyC cs) p s m args c cc own) (w : px_H D (wC cs ad) A H0 M H locs) (hi : vp_in i 40) (hz : narrow .boolean (.int x) = .int x) (hd : decode cc pc = .ok (.bastore, 1)) (kk : ∀ (H : Heap) (locs : List Loc), px_H D (wC cs ad) A H0 (px_up M 35 i.toNatClampNeg x) H locs → W p l e R s m args below meth c H locs cells slots Q (F0 m (pc + 1) ls rest)) : W p l e R s m args below meth c H locs cells slots Q (F0 m pc ls (.int x :: .int i :: .ref (ad 35) :: rest)) := by
  have hv : vp_nar .boolean x = x := by unfold vp_nar; rw [hz]
  refine va_zast X.1 X.2.1 X.2.2.2.2 w.1 w.2.1 w.2.2.1 35 1 rfl rfl hi hd (fun H1 locs1 hP hD hS => ?_)
  rw [hv] at hP hD
  exact kk H1 locs1 ⟨hP, hD, hS, w.2.2.2⟩
theorem ilC_36 {own : String} (X : px_X D (tyC cs) p s m args c cc own) (w : px_H D (wC cs ad) A H0 M H locs) (hi : vp_in i 40) (hd : decode cc pc = .ok (.baload, 1)) (kk : W p l e R s m args below meth c H locs cells slots Q (F0 m (pc + 1) ls (.int (M 36 i.toNatClampNeg) :: rest))) : W p l e R s m args below meth c H locs cells slots Q (F0 m pc ls (.int i :: .ref (ad 36) :: rest)) := va_zald X.1 X.2.1 X.2.2.2.2 w.1 36 1 rfl rfl hi hd kk
theorem isC_36 {own : String} (X : px_X D (tyC cs) p s m args c cc own) (w : px_H D (wC cs ad) A H0 M H locs) (hi : vp_in i 40) (hz : narrow .boolean (.int x) = .int x) (hd : decode cc pc = .ok (.bastore, 1)) (kk : ∀ (H : Heap) (locs : List Loc), px_H D (wC cs ad) A H0 (px_up M 36 i.toNatClampNeg x) H locs → W p l e R s m args below meth c H locs cells slots Q (F0 m (pc + 1) ls rest)) : W p l e R s m args below meth c H locs cells slots Q (F0 m pc ls (.int x :: .int i :: .ref (ad 36) :: rest)) := by
  have hv : vp_nar .boolean x = x := by unfold vp_nar; rw [hz]
  refine va_zast X.1 X.2.1 X.2.2.2.2 w.1 w.2.1 w.2.2.1 36 1 rfl rfl hi hd (fun H1 locs1 hP hD hS => ?_)
  rw [hv] at hP hD
  exact kk H1 locs1 ⟨hP, hD, hS, w.2.2.2⟩
theorem ilC_37 {own : String} (X : px_X D (tyC cs) p s m args c cc own) (w : px_H D (wC cs ad) A H0 M H locs) (hi : vp_in i 40) (hd : decode cc pc = .ok (.baload, 1)) (kk : W p l e R s m args below meth c H locs cells slots Q (F0 m (pc + 1) ls (.int (M 37 i.toNatClampNeg) :: rest))) : W p l e R s m args below meth c H locs cells slots Q (F0 m pc ls (.int i :: .ref (ad 37) :: rest)) := va_zald X.1 X.2.1 X.2.2.2.2 w.1 37 1 rfl rfl hi hd kk
theorem isC_37 {own : String} (X : px_X D (tyC cs) p s m args c cc own) (w : px_H D (wC cs ad) A H0 M H locs) (hi : vp_in i 40) (hz : narrow .boolean (.int x) = .int x) (hd : decode cc pc = .ok (.bastore, 1)) (kk : ∀ (H : Heap) (locs : List Loc), px_H D (wC cs ad) A H0 (px_up M 37 i.toNatClampNeg x) H locs → W p l e R s m args below meth c H locs cells slots Q (F0 m (pc + 1) ls rest)) : W p l e R s m args below meth c H locs cells slots Q (F0 m pc ls (.int x :: .int i :: .ref (ad 37) :: rest)) := by
  have hv : vp_nar .boolean x = x := by unfold vp_nar; rw [hz]
  refine va_zast X.1 X.2.1 X.2.2.2.2 w.1 w.2.1 w.2.2.1 37 1 rfl rfl hi hd (fun H1 locs1 hP hD hS => ?_)
  rw [hv] at hP hD
  exact kk H1 locs1 ⟨hP, hD, hS, w.2.2.2⟩
theorem ilC_38 {own : String} (X : px_X D (tyC cs) p s m args c cc own) (w : px_H D (wC cs ad) A H0 M H locs) (hi : vp_in i 40) (hd : decode cc pc = .ok (.iaload, 1)) (kk : W p l e R s m args below meth c H locs cells slots Q (F0 m (pc + 1) ls (.int (M 38 i.toNatClampNeg) :: rest))) : W p l e R s m args below meth c H locs cells slots Q (F0 m pc ls (.int i :: .ref (ad 38) :: rest)) := va_iald X.1 X.2.1 X.2.2.2.2 w.1 38 0 rfl rfl hi hd kk
theorem isC_38 {own : String} (X : px_X D (tyC cs) p s m args c cc own) (w : px_H D (wC cs ad) A H0 M H locs) (hi : vp_in i 40) (hd : decode cc pc = .ok (.iastore, 1)) (kk : ∀ (H : Heap) (locs : List Loc), px_H D (wC cs ad) A H0 (px_up M 38 i.toNatClampNeg x) H locs → W p l e R s m args below meth c H locs cells slots Q (F0 m (pc + 1) ls rest)) : W p l e R s m args below meth c H locs cells slots Q (F0 m pc ls (.int x :: .int i :: .ref (ad 38) :: rest)) := va_iast X.1 X.2.1 X.2.2.2.2 w.1 w.2.1 w.2.2.1 38 0 rfl rfl hi hd (fun H1 locs1 hP hD hS => kk H1 locs1 ⟨hP, hD, hS, w.2.2.2⟩)
theorem ilC_39 {own : String} (X : px_X D (tyC cs) p s m args c cc own) (w : px_H D (wC cs ad) A H0 M H locs) (hi : vp_in i 80) (hd : decode cc pc = .ok (.iaload, 1)) (kk : W p l e R s m args below meth c H locs cells slots Q (F0 m (pc + 1) ls (.int (M 39 i.toNatClampNeg) :: rest))) : W p l e R s m args below meth c H locs cells slots Q (F0 m pc ls (.int i :: .ref (ad 39) :: rest)) := va_iald X.1 X.2.1 X.2.2.2.2 w.1 39 0 rfl rfl hi hd kk
theorem isC_39 {own : String} (X : px_X D (tyC cs) p s m args c cc own) (w : px_H D (wC cs ad) A H0 M H locs) (hi : vp_in i 80) (hd : decode cc pc = .ok (.iastore, 1)) (kk : ∀ (H : Heap) (locs : List Loc), px_H D (wC cs ad) A H0 (px_up M 39 i.toNatClampNeg x) H locs → W p l e R s m args below meth c H locs cells slots Q (F0 m (pc + 1) ls rest)) : W p l e R s m args below meth c H locs cells slots Q (F0 m pc ls (.int x :: .int i :: .ref (ad 39) :: rest)) := va_iast X.1 X.2.1 X.2.2.2.2 w.1 w.2.1 w.2.2.1 39 0 rfl rfl hi hd (fun H1 locs1 hP hD hS => kk H1 locs1 ⟨hP, hD, hS, w.2.2.2⟩)
theorem ilC_40 {own : String} (X : px_X D (tyC cs) p s m args c cc own) (w : px_H D (wC cs ad) A H0 M H locs) (hi : vp_in i 80) (hd : decode cc pc = .ok (.iaload, 1)) (kk : W p l e R s m args below meth c H locs cells slots Q (F0 m (pc + 1) ls (.int (M 40 i.toNatClampNeg) :: rest))) : W p l e R s m args below meth c H locs cells slots Q (F0 m pc ls (.int i :: .ref (ad 40) :: rest)) := va_iald X.1 X.2.1 X.2.2.2.2 w.1 40 0 rfl rfl hi hd kk
theorem isC_40 {own : String} (X : px_X D (tyC cs) p s m args c cc own) (w : px_H D (wC cs ad) A H0 M H locs) (hi : vp_in i 80) (hd : decode cc pc = .ok (.iastore, 1)) (kk : ∀ (H : Heap) (locs : List Loc), px_H D (wC cs ad) A H0 (px_up M 40 i.toNatClampNeg x) H locs → W p l e R s m args below meth c H locs cells slots Q (F0 m (pc + 1) ls rest)) : W p l e R s m args below meth c H locs cells slots Q (F0 m pc ls (.int x :: .int i :: .ref (ad 40) :: rest)) := va_iast X.1 X.2.1 X.2.2.2.2 w.1 w.2.1 w.2.2.1 40 0 rfl rfl hi hd (fun H1 locs1 hP hD hS => kk H1 locs1 ⟨hP, hD, hS, w.2.2.2⟩)
theorem ilC_41 {own : String} (X : px_X D (tyC cs) p s m args c cc own) (w : px_H D (wC cs ad) A H0 M H locs) (hi : vp_in i 80) (hd : decode cc pc = .ok (.iaload, 1)) (kk : W p l e R s m args below meth c H locs cells slots Q (F0 m (pc + 1) ls (.int (M 41 i.toNatClampNeg) :: rest))) : W p l e R s m args below meth c H locs cells slots Q (F0 m pc ls (.int i :: .ref (ad 41) :: rest)) := va_iald X.1 X.2.1 X.2.2.2.2 w.1 41 0 rfl rfl hi hd kk
theorem isC_41 {own : String} (X : px_X D (tyC cs) p s m args c cc own) (w : px_H D (wC cs ad) A H0 M H locs) (hi : vp_in i 80) (hd : decode cc pc = .ok (.iastore, 1)) (kk : ∀ (H : Heap) (locs : List Loc), px_H D (wC cs ad) A H0 (px_up M 41 i.toNatClampNeg x) H locs → W p l e R s m args below meth c H locs cells slots Q (F0 m (pc + 1) ls rest)) : W p l e R s m args below meth c H locs cells slots Q (F0 m pc ls (.int x :: .int i :: .ref (ad 41) :: rest)) := va_iast X.1 X.2.1 X.2.2.2.2 w.1 w.2.1 w.2.2.1 41 0 rfl rfl hi hd (fun H1 locs1 hP hD hS => kk H1 locs1 ⟨hP, hD, hS, w.2.2.2⟩)
theorem ilC_42 {own : String} (X : px_X D (tyC cs) p s m args c cc own) (w : px_H D (wC cs ad) A H0 M H locs) (hi : vp_in i 80) (hd : decode cc pc = .ok (.iaload, 1)) (kk : W p l e R s m args below meth c H locs cells slots Q (F0 m (pc + 1) ls (.int (M 42 i.toNatClampNeg) :: rest))) : W p l e R s m args below meth c H locs cells slots Q (F0 m pc ls (.int i :: .ref (ad 42) :: rest)) := va_iald X.1 X.2.1 X.2.2.2.2 w.1 42 0 rfl rfl hi hd kk
theorem isC_42 {own : String} (X : px_X D (tyC cs) p s m args c cc own) (w : px_H D (wC cs ad) A H0 M H locs) (hi : vp_in i 80) (hd : decode cc pc = .ok (.iastore, 1)) (kk : ∀ (H : Heap) (locs : List Loc), px_H D (wC cs ad) A H0 (px_up M 42 i.toNatClampNeg x) H locs → W p l e R s m args below meth c H locs cells slots Q (F0 m (pc + 1) ls rest)) : W p l e R s m args below meth c H locs cells slots Q (F0 m pc ls (.int x :: .int i :: .ref (ad 42) :: rest)) := va_iast X.1 X.2.1 X.2.2.2.2 w.1 w.2.1 w.2.2.1 42 0 rfl rfl hi hd (fun H1 locs1 hP hD hS => kk H1 locs1 ⟨hP, hD, hS, w.2.2.2⟩)
theorem rcC_43 (hK : va_K D vwCl (tyC cs) s) (w : px_H D (wC cs ad) A H0 M H locs) : ∃ cell : Cell, H[ad 43]? = some cell ∧ cell.vm.isStatics = false ∧ s.vm.findClass RX4 = some cell.cls := va_recv hK w.1 (ci := 4) (q0 := 43) rfl rfl
theorem gtC_43_0 (X : px_X D (tyC cs) p s m args c cc RX4) (w : px_H D (wC cs ad) A H0 M H locs) (hd : decode cc pc = .ok (.getfield 9, 3)) (kk : W p l e R s m args below meth c H locs cells slots Q (F0 m (pc + 3) ls (.ref (ad 44) :: rest))) : W p l e R s m args below meth c H locs cells slots Q (F0 m pc ls (.ref (ad 43) :: rest)) := va_get (D := D) (ci := 4) (C := RX4) (T := TX4) (N := 10) X.1 X.2.1 X.2.2.1 wu_X4 X.2.2.2.1 X.2.2.2.2 w.1 43 rfl rfl 0 (by decide) (X.2.2.1 _ wf_X4_0) (fun _ h => h) rfl hd kk
theorem gtC_43_1 (X : px_X D (tyC cs) p s m args c cc RX4) (w : px_H D (wC cs ad) A H0 M H locs) (hd : decode cc pc = .ok (.getfield 15, 3)) (kk : W p l e R s m args below meth c H locs cells slots Q (F0 m (pc + 3) ls (.ref (ad 45) :: rest))) : W p l e R s m args below meth c H locs cells slots Q (F0 m pc ls (.ref (ad 43) :: rest)) := va_get (D := D) (ci := 4) (C := RX4) (T := TX4) (N := 10) X.1 X.2.1 X.2.2.1 wu_X4 X.2.2.2.1 X.2.2.2.2 w.1 43 rfl rfl 1 (by decide) (X.2.2.1 _ wf_X4_1) (fun _ h => h) rfl hd kk
theorem gtC_43_2 (X : px_X D (tyC cs) p s m args c cc RX4) (w : px_H D (wC cs ad) A H0 M H locs) (hd : decode cc pc = .ok (.getfield 18, 3)) (kk : W p l e R s m args below meth c H locs cells slots Q (F0 m (pc + 3) ls (.ref (ad 46) :: rest))) : W p l e R s m args below meth c H locs cells slots Q (F0 m pc ls (.ref (ad 43) :: rest)) := va_get (D := D) (ci := 4) (C := RX4) (T := TX4) (N := 10) X.1 X.2.1 X.2.2.1 wu_X4 X.2.2.2.1 X.2.2.2.2 w.1 43 rfl rfl 2 (by decide) (X.2.2.1 _ wf_X4_2) (fun _ h => h) rfl hd kk
theorem gtC_43_3 (X : px_X D (tyC cs) p s m args c cc RX4) (w : px_H D (wC cs ad) A H0 M H locs) (hd : decode cc pc = .ok (.getfield 21, 3)) (kk : W p l e R s m args below meth c H locs cells slots Q (F0 m (pc + 3) ls (.ref (ad 47) :: rest))) : W p l e R s m args below meth c H locs cells slots Q (F0 m pc ls (.ref (ad 43) :: rest)) := va_get (D := D) (ci := 4) (C := RX4) (T := TX4) (N := 10) X.1 X.2.1 X.2.2.1 wu_X4 X.2.2.2.1 X.2.2.2.2 w.1 43 rfl rfl 3 (by decide) (X.2.2.1 _ wf_X4_3) (fun _ h => h) rfl hd kk
theorem gtC_43_4 (X : px_X D (tyC cs) p s m args c cc RX4) (w : px_H D (wC cs ad) A H0 M H locs) (hd : decode cc pc = .ok (.getfield 24, 3)) (kk : W p l e R s m args below meth c H locs cells slots Q (F0 m (pc + 3) ls (.ref (ad 48) :: rest))) : W p l e R s m args below meth c H locs cells slots Q (F0 m pc ls (.ref (ad 43) :: rest)) := va_get (D := D) (ci := 4) (C := RX4) (T := TX4) (N := 10) X.1 X.2.1 X.2.2.1 wu_X4 X.2.2.2.1 X.2.2.2.2 w.1 43 rfl rfl 4 (by decide) (X.2.2.1 _ wf_X4_4) (fun _ h => h) rfl hd kk
theorem gtC_43_5 (X : px_X D (tyC cs) p s m args c cc RX4) (w : px_H D (wC cs ad) A H0 M H locs) (hd : decode cc pc = .ok (.getfield 27, 3)) (kk : W p l e R s m args below meth c H locs cells slots Q (F0 m (pc + 3) ls (.ref (ad 49) :: rest))) : W p l e R s m args below meth c H locs cells slots Q (F0 m pc ls (.ref (ad 43) :: rest)) := va_get (D := D) (ci := 4) (C := RX4) (T := TX4) (N := 10) X.1 X.2.1 X.2.2.1 wu_X4 X.2.2.2.1 X.2.2.2.2 w.1 43 rfl rfl 5 (by decide) (X.2.2.1 _ wf_X4_5) (fun _ h => h) rfl hd kk
theorem gtC_43_6 (X : px_X D (tyC cs) p s m args c cc RX4) (w : px_H D (wC cs ad) A H0 M H locs) (hd : decode cc pc = .ok (.getfield 30, 3)) (kk : W p l e R s m args below meth c H locs cells slots Q (F0 m (pc + 3) ls (.ref (ad 50) :: rest))) : W p l e R s m args below meth c H locs cells slots Q (F0 m pc ls (.ref (ad 43) :: rest)) := va_get (D := D) (ci := 4) (C := RX4) (T := TX4) (N := 10) X.1 X.2.1 X.2.2.1 wu_X4 X.2.2.2.1 X.2.2.2.2 w.1 43 rfl rfl 6 (by decide) (X.2.2.1 _ wf_X4_6) (fun _ h => h) rfl hd kk
theorem gtC_43_7 (X : px_X D (tyC cs) p s m args c cc RX4) (w : px_H D (wC cs ad) A H0 M H locs) (hd : decode cc pc = .ok (.getfield 34, 3)) (kk : W p l e R s m args below meth c H locs cells slots Q (F0 m (pc + 3) ls (.ref (ad 51) :: rest))) : W p l e R s m args below meth c H locs cells slots Q (F0 m pc ls (.ref (ad 43) :: rest)) := va_get (D := D) (ci := 4) (C := RX4) (T := TX4) (N := 10) X.1 X.2.1 X.2.2.1 wu_X4 X.2.2.2.1 X.2.2.2.2 w.1 43 rfl rfl 7 (by decide) (X.2.2.1 _ wf_X4_7) (fun _ h => h) rfl hd kk
theorem gtC_43_8 (X : px_X D (tyC cs) p s m args c cc RX4) (w : px_H D (wC cs ad) A H0 M H locs) (hd : decode cc pc = .ok (.getfield 37, 3)) (kk : W p l e R s m args below meth c H locs cells slots Q (F0 m (pc + 3) ls (.int (M 43 8) :: rest))) : W p l e R s m args below meth c H locs cells slots Q (F0 m pc ls (.ref (ad 43) :: rest)) := va_get (D := D) (ci := 4) (C := RX4) (T := TX4) (N := 10) X.1 X.2.1 X.2.2.1 wu_X4 X.2.2.2.1 X.2.2.2.2 w.1 43 rfl rfl 8 (by decide) (X.2.2.1 _ wf_X4_8) (fun _ h => h) rfl hd kk
theorem ptC_43_8 (X : px_X D (tyC cs) p s m args c cc RX4) (w : px_H D (wC cs ad) A H0 M H locs) (hd : decode cc pc = .ok (.putfield 37, 3)) (kk : ∀ (H : Heap) (locs : List Loc), px_H D (wC cs ad) A H0 (px_up M 43 8 x) H locs → W p l e R s m args below meth c H locs cells slots Q (F0 m (pc + 3) ls rest)) : W p l e R s m args below meth c H locs cells slots Q (F0 m pc ls (.int x :: .ref (ad 43) :: rest)) := va_put (D := D) (ci := 4) (v := .int x) (ty := .int) (C := RX4) (T := TX4) (N := 10) X.1 X.2.1 X.2.2.1 wu_X4 tyX4 tyX4_ok nmX4 X.2.2.2.1 X.2.2.2.2 w.1 w.2.1 w.2.2.1 43 rfl rfl 8 (by decide) (X.2.2.1 _ wf_X4_8) (fun _ h => h) rfl (by decide +kernel) rfl rfl (Nat.le_of_ble_eq_true rfl) hd (fun H1 locs1 hP hD hS => kk H1 locs1 ⟨hP, hD, hS, w.2.2.2⟩)
theorem gtC_43_9 (X : px_X D (tyC cs) p s m args c cc RX4) (w : px_H D (wC cs ad) A H0 M H locs) (hd : decode cc pc = .ok (.getfield 41, 3)) (kk : W p l e R s m args below meth c H locs cells slots Q (F0 m (pc + 3) ls (.int (M 43 9) :: rest))) : W p l e R s m args below meth c H locs cells slots Q (F0 m pc ls (.ref (ad 43) :: rest)) := va_get (D := D) (ci := 4) (C := RX4) (T := TX4) (N := 10) X.1 X.2.1 X.2.2.1 wu_X4 X.2.2.2.1 X.2.2.2.2 w.1 43 rfl rfl 9 (by decide) (X.2.2.1 _ wf_X4_9) (fun _ h => h) rfl hd kk
theorem ptC_43_9 (X : px_X D (tyC cs) p s m args c cc RX4) (w : px_H D (wC cs ad) A H0 M H locs) (hd : decode cc pc = .ok (.putfield 41, 3)) (kk : ∀ (H : Heap) (locs : List Loc), px_H D (wC cs ad) A H0 (px_up M 43 9 x) H locs → W p l e R s m args below meth c H locs cells slots Q (F0 m (pc + 3) ls rest)) : W p l e R s m args below meth c H locs cells slots Q (F0 m pc ls (.int x :: .ref (ad 43) :: rest)) := va_put (D := D) (ci := 4) (v := .int x) (ty := .int) (C := RX4) (T := TX4) (N := 10) X.1 X.2.1 X.2.2.1 wu_X4 tyX4 tyX4_ok nmX4 X.2.2.2.1 X.2.2.2.2 w.1 w.2.1 w.2.2.1 43 rfl rfl 9 (by decide) (X.2.2.1 _ wf_X4_9) (fun _ h => h) rfl (by decide +kernel) rfl rfl (Nat.le_of_ble_eq_true rfl) hd (fun H1 locs1 hP hD hS => kk H1 locs1 ⟨hP, hD, hS, w.2.2.2⟩)
theorem ilC_44 {own : String} (X : px_X D (tyC cs) p s m args c cc own) (w : px_H D (wC cs ad) A H0 M H locs) (hi : vp_in i 12) (hd : decode cc pc = .ok (.iaload, 1)) (kk : W p l e R s m args below meth c H locs cells slots Q (F0 m (pc + 1) ls (.int (M 44 i.toNatClampNeg) :: rest))) : W p l e R s m args below meth c H locs cells slots Q (F0 m pc ls (.int i :: .ref (ad 44) :: rest)) := va_iald X.1 X.2.1 X.2.2.2.2 w.1 44 0 rfl rfl hi hd kk
theorem isC_44 {own : String} (X : px_X D (tyC cs) p s m args c cc own) (w : px_H D (wC cs ad) A H0 M H locs) (hi : vp_in i 12) (hd : decode cc pc = .ok (.iastore, 1)) (kk : ∀ (H : Heap) (locs : List Loc), px_H D (wC cs ad) A H0 (px_up M 44 i.toNatClampNeg x) H locs → W p l e R s m args below meth c H locs cells slots Q (F0 m (pc + 1) ls rest)) : W p l e R s m args below meth c H locs cells slots Q (F0 m pc ls (.int x :: .int i :: .ref (ad 44) :: rest)) := va_iast X.1 X.2.1 X.2.2.2.2 w.1 w.2.1 w.2.2.1 44 0 rfl rfl hi hd (fun H1 locs1 hP hD hS => kk H1 locs1 ⟨hP, hD, hS, w.2.2.2⟩)
theorem ilC_45 {own : String} (X : px_X D (tyC cs) p s m args c cc own) (w : px_H D (wC cs ad) A H0 M H locs) (hi : vp_in i 12) (hd : decode cc pc = .ok (.iaload, 1)) (kk : W p l e R s m args below meth c H locs cells slots Q (F0 m (pc + 1) ls (.int (M 45 i.toNatClampNeg) :: rest))) : W p l e R s m args below meth c H locs cells slots Q (F0 m pc ls (.int i :: .ref (ad 45) :: rest)) := va_iald X.1 X.2.1 X.2.2.2.2 w.1 45 0 rfl rfl hi hd kk
theorem isC_45 {own : String} (X : px_X D (tyC cs) p s m args c cc own) (w : px_H D (wC cs ad) A H0 M H locs) (hi : vp_in i 12) (hd : decode cc pc = .ok (.iastore, 1)) (kk : ∀ (H : Heap) (locs : List Loc), px_H D (wC cs ad) A H0 (px_up M 45 i.toNatClampNeg x) H locs → W p l e R s m args below meth c H locs cells slots Q (F0 m (pc + 1) ls rest)) : W p l e R s m args below meth c H locs cells slots Q (F0 m pc ls (.int x :: .int i :: .ref (ad 45) :: rest)) := va_iast X.1 X.2.1 X.2.2.2.2 w.1 w.2.1 w.2.2.1 45 0 rfl rfl hi hd (fun H1 locs1 hP hD hS => kk H1 locs1 ⟨hP, hD, hS, w.2.2.2⟩)
theorem ilC_46 {own : String} (X : px_X D (tyC cs) p s m args c cc own) (w : px_H D (wC cs ad) A H0 M H locs) (hi : vp_in i 12) (hd : decode cc pc = .ok (.iaload, 1)) (kk : W p l e R s m args below meth c H locs cells slots Q (F0 m (pc + 1) ls (.int (M 46 i.toNatClampNeg) :: rest))) : W p l e R s m args below meth c H locs cells slots Q (F0 m pc ls (.int i :: .ref (ad 46) :: rest)) := va_iald X.1 X.2.1 X.2.2.2.2 w.1 46 0 rfl rfl hi hd kk
theorem isC_46 {own : String} (X : px_X D (tyC cs) p s m args c cc own) (w : px_H D (wC cs ad) A H0 M H locs) (hi : vp_in i 12) (hd : decode cc pc = .ok (.iastore, 1)) (kk : ∀ (H : Heap) (locs : List Loc), px_H D (wC cs ad) A H0 (px_up M 46 i.toNatClampNeg x) H locs → W p l e R s m args below meth c H locs cells slots Q (F0 m (pc + 1) ls rest)) : W p l e R s m args below meth c H locs cells slots Q (F0 m pc ls (.int x :: .int i :: .ref (ad 46) :: rest)) := va_iast X.1 X.2.1 X.2.2.2.2 w.1 w.2.1 w.2.2.1 46 0 rfl rfl hi hd (fun H1 locs1 hP hD hS => kk H1 locs1 ⟨hP, hD, hS, w.2.2.2⟩)
theorem ilC_47 {own : String} (X : px_X D (tyC cs) p s m args c cc own) (w : px_H D (wC cs ad) A H0 M H locs) (hi : vp_in i 12) (hd : decode cc pc = .ok (.iaload, 1)) (kk : W p l e R s m args below meth c H locs cells slots Q (F0 m (pc + 1) ls (.int (M 47 i.toNatClampNeg) :: rest))) : W p l e R s m args below meth c H locs cells slots Q (F0 m pc ls (.int i :: .ref (ad 47) :: rest)) := va_iald X.1 X.2.1 X.2.2.2.2 w.1 47 0 rfl rfl hi hd kk
theorem isC_47 {own : String} (X : px_X D (tyC cs) p s m args c cc own) (w : px_H D (wC cs ad) A H0 M H locs) (hi : vp_in i 12) (hd : decode cc pc = .ok (.iastore, 1)) (kk : ∀ (H : Heap) (locs : List Loc), px_H D (wC cs ad) A H0 (px_up M 47 i.toNatClampNeg x) H locs → W p l e R s m args below meth c H locs cells slots Q (F0 m (pc + 1) ls rest)) : W p l e R s m args below meth c H locs cells slots Q (F0 m pc ls (.int x :: .int i :: .ref (ad 47) :: rest)) := va_iast X.1 X.2.1 X.2.2.2.2 w.1 w.2.1 w.2.2.1 47 0 rfl rfl hi hd (fun H1 locs1 hP hD hS => kk H1 locs1 ⟨hP, hD, hS, w.2.2.2⟩)
theorem ilC_48 {own : String} (X : px_X D (tyC cs) p s m args c cc own) (w : px_H D (wC cs ad) A H0 M H locs) (hi : vp_in i 12) (hd : decode cc pc = .ok (.iaload, 1)) (kk : W p l e R s m args below meth c H locs cells slots Q (F0 m (pc + 1) ls (.int (M 48 i.toNatClampNeg) :: rest))) : W p l e R s m args below meth c H locs cells slots Q (F0 m pc ls (.int i :: .ref (ad 48) :: rest)) := va_iald X.1 X.2.1 X.2.2.2.2 w.1 48 0 rfl rfl hi hd kk
theorem isC_48 {own : String} (X : px_X D (tyC cs) p s m args c cc own) (w : px_H D (wC cs ad) A H0 M H locs) (hi : vp_in i 12) (hd : decode cc pc = .ok (.iastore, 1)) (kk : ∀ (H : Heap) (locs : List Loc), px_H D (wC cs ad) A H0 (px_up M 48 i.toNatClampNeg x) H locs → W p l e R s m args below meth c H locs cells slots Q (F0 m (pc + 1) ls rest)) : W p l e R s m args below meth c H locs cells slots Q (F0 m pc ls (.int x :: .int i :: .ref (ad 48) :: rest)) := va_iast X.1 X.2.1 X.2.2.2.2 w.1 w.2.1 w.2.2.1 48 0 rfl rfl hi hd (fun H1 locs1 hP hD hS => kk H1 locs1 ⟨hP, hD, hS, w.2.2.2⟩)
theorem ilC_49 {own : String} (X : px_X D (tyC cs) p s m args c cc own) (w : px_H D (wC cs ad) A H0 M H locs) (hi : vp_in i 12) (hd : decode cc pc = .ok (.iaload, 1)) (kk : W p l e R s m args below meth c H locs cells slots Q (F0 m (pc + 1) ls (.int (M 49 i.toNatClampNeg) :: rest))) : W p l e R s m args below meth c H locs cells slots Q (F0 m pc ls (.int i :: .ref (ad 49) :: rest)) := va_iald X.1 X.2.1 X.2.2.2.2 w.1 49 0 rfl rfl hi hd kk
theorem isC_49 {own : String} (X : px_X D (tyC cs) p s m args c cc own) (w : px_H D (wC cs ad) A H0 M H locs) (hi : vp_in i 12) (hd : decode cc pc = .ok (.iastore, 1)) (kk : ∀ (H : Heap) (locs : List Loc), px_H D (wC cs ad) A H0 (px_up M 49 i.toNatClampNeg x) H locs → W p l e R s m args below meth c H locs cells slots Q (F0 m (pc + 1) ls rest)) : W p l e R s m args below meth c H locs cells slots Q (F0 m pc ls (.int x :: .int i :: .ref (ad 49) :: rest)) := va_iast X.1 X.2.1 X.2.2.2.2 w.1 w.2.1 w.2.2.1 49 0 rfl rfl hi hd (fun H1 locs1 hP hD hS => kk H1 locs1 ⟨hP, hD, hS, w.2.2.2⟩)
theorem ilC_50 {own : String} (X : px_X D (tyC cs) p s m args c cc own) (w : px_H D (wC cs ad) A H0 M H locs) (hi : vp_in i 12) (hd : decode cc pc = .ok (.baload, 1)) (kk : W p l e R s m args below meth c H locs cells slots Q (F0 m (pc + 1) ls (.int (M 50 i.toNatClampNeg) :: rest))) : W p l e R s m args below meth c H locs cells slots Q (F0 m pc ls (.int i :: .ref (ad 50) :: rest)) := va_zald X.1 X.2.1 X.2.2.2.2 w.1 50 1 rfl rfl hi hd kk
theorem isC_50 {own : String} (X : px_X D (tyC cs) p s m args c cc own) (w : px_H D (wC cs ad) A H0 M H locs) (hi : vp_in i 12) (hz : narrow .boolean (.int x) = .int x) (hd : decode cc pc = .ok (.bastore, 1)) (kk : ∀ (H : Heap) (locs : List Loc), px_H D (wC cs ad) A H0 (px_up M 50 i.toNatClampNeg x) H locs → W p l e R s m args below meth c H locs cells slots Q (F0 m (pc + 1) ls rest)) : W p l e R s m args below meth c H locs cells slots Q (F0 m pc ls (.int x :: .int i :: .ref (ad 50) :: rest)) := by
  have hv : vp_nar .boolean x = x := by unfold vp_nar; rw [hz]
  refine va_zast X.1 X.2.1 X.2.2.2.2 w.1 w.2.1 w.2.2.1 50 1 rfl rfl hi hd (fun H1 locs1 hP hD hS => ?_)
  rw [hv] at hP hD
  exact kk H1 locs1 ⟨hP, hD, hS, w.2.2.2⟩
theorem ilC_51 {own : String} (X : px_X D (tyC cs) p s m args c cc own) (w : px_H D (wC cs ad) A H0 M H locs) (hi : vp_in i 12) (hd : decode cc pc = .ok (.baload, 1)) (kk : W p l e R s m args below meth c H locs cells slots Q (F0 m (pc + 1) ls (.int (M 51 i.toNatClampNeg) :: rest))) : W p l e R s m args below meth c H locs cells slots Q (F0 m pc ls (.int i :: .ref (ad 51) :: rest)) := va_zald X.1 X.2.1 X.2.2.2.2 w.1 51 1 rfl rfl hi hd kk
theorem isC_51 {own : String} (X : px_X D (tyC cs) p s m args c cc own) (w : px_H D (wC cs ad) A H0 M H locs) (hi : vp_in i 12) (hz : narrow .boolean (.int x) = .int x) (hd : decode cc pc = .ok (.bastore, 1)) (kk : ∀ (H : Heap) (locs : List Loc), px_H D (wC cs ad) A H0 (px_up M 51 i.toNatClampNeg x) H locs → W p l e R s m args below meth c H locs cells slots Q (F0 m (pc + 1) ls rest)) : W p l e R s m args below meth c H locs cells slots Q (F0 m pc ls (.int x :: .int i :: .ref (ad 51) :: rest)) := by
  have hv : vp_nar .boolean x = x := by unfold vp_nar; rw [hz]
  refine va_zast X.1 X.2.1 X.2.2.2.2 w.1 w.2.1 w.2.2.1 51 1 rfl rfl hi hd (fun H1 locs1 hP hD hS => ?_)
  rw [hv] at hP hD
  exact kk H1 locs1 ⟨hP, hD, hS, w.2.2.2⟩
end PXCC
end
section
def fC_Functions_length (M : px_M) (p1 : Int32) : Option Int32 := px_ck p1 10 (some (M 2 p1.toNatClampNeg))
set_option maxHeartbeats 4000000 in
set_option maxRecDepth 100000 in
theorem cC_Functions_length (l : Launch) (D : va_G) (cs : Nat → ClassId) (ad : Nat → Nat) {M : px_M} {p1 : Int32} {r : Int32} (hf : fC_Functions_length M p1 = some r) : px_mI l D (tyC cs) (wC cs ad) yX0_length cX0_length 2 (some .int) 0 [.ref (ad 1), .int p1] M r M := by
  refine px_ofI (by decide +kernel) (Nat.le_of_ble_eq_true rfl) ?_
  intro p e s m below meth c A ls X hr hlk hml w hl
  have hl : lv_has ls 2 [(0, .ref (ad 1)), (1, .int p1)] := hl
  unfold fC_Functions_length at hf
  refine lv_aload_n X.1 X.2.1 dX0_length_0 rfl (lv_at hl 0 rfl) ?_
  refine gtC_1_0 X w dX0_length_1 ?_
  refine lv_iload_n X.1 X.2.1 dX0_length_4 rfl (lv_at hl 1 rfl) ?_
  obtain ⟨b1, hf⟩ := px_ck_e hf
  refine ilC_2 X w b1 dX0_length_5 ?_
  cases hf
  exact px_retI X hr hlk w dX0_length_6
def fC_Functions_code (M : px_M) (p1 p2 : Int32) : Option Int32 := px_ck ((p1 * (6 : Int32)) + p2) 60 (some (M 3 ((p1 * (6 : Int32)) + p2).toNatClampNeg))
set_option maxHeartbeats 4000000 in
set_option maxRecDepth 100000 in
theorem cC_Functions_code (l : Launch) (D : va_G) (cs : Nat → ClassId) (ad : Nat → Nat) {M : px_M} {p1 p2 : Int32} {r : Int32} (hf : fC_Functions_code M p1 p2 = some r) : px_mI l D (tyC cs) (wC cs ad) yX0_code cX0_code 3 (some .int) 0 [.ref (ad 1), .int p1, .int p2] M r M := by
  refine px_ofI (by decide +kernel) (Nat.le_of_ble_eq_true rfl) ?_
  intro p e s m below meth c A ls X hr hlk hml w hl
  have hl : lv_has ls 3 [(0, .ref (ad 1)), (1, .int p1), (2, .int p2)] := hl
  unfold fC_Functions_code at hf
  refine lv_aload_n X.1 X.2.1 dX0_code_0 rfl (lv_at hl 0 rfl) ?_
  refine gtC_1_1 X w dX0_code_1 ?_
  refine lv_iload_n X.1 X.2.1 dX0_code_4 rfl (lv_at hl 1 rfl) ?_
  refine lv_bipush (v := (6 : Int32)) X.1 X.2.1 dX0_code_5 (by decide) ?_
  refine lv_imul X.1 X.2.1 dX0_code_7 ?_
  refine lv_iload_n X.1 X.2.1 dX0_code_8 rfl (lv_at hl 2 rfl) ?_
  refine lv_iadd X.1 X.2.1 dX0_code_9 ?_
  obtain ⟨b1, hf⟩ := px_ck_e hf
  refine ilC_3 X w b1 dX0_code_10 ?_
  cases hf
  exact px_retI X hr hlk w dX0_code_11
def fC_Functions_a (M : px_M) (p1 p2 : Int32) : Option Int32 := px_ck ((p1 * (6 : Int32)) + p2) 60 (some (M 4 ((p1 * (6 : Int32)) + p2).toNatClampNeg))
set_option maxHeartbeats 4000000 in
set_option maxRecDepth 100000 in
theorem cC_Functions_a (l : Launch) (D : va_G) (cs : Nat → ClassId) (ad : Nat → Nat) {M : px_M} {p1 p2 : Int32} {r : Int32} (hf : fC_Functions_a M p1 p2 = some r) : px_mI l D (tyC cs) (wC cs ad) yX0_a cX0_a 3 (some .int) 0 [.ref (ad 1), .int p1, .int p2] M r M := by
  refine px_ofI (by decide +kernel) (Nat.le_of_ble_eq_true rfl) ?_
  intro p e s m below meth c A ls X hr hlk hml w hl
  have hl : lv_has ls 3 [(0, .ref (ad 1)), (1, .int p1), (2, .int p2)] := hl
  unfold fC_Functions_a at hf
  refine lv_aload_n X.1 X.2.1 dX0_a_0 rfl (lv_at hl 0 rfl) ?_
  refine gtC_1_2 X w dX0_a_1 ?_
  refine lv_iload_n X.1 X.2.1 dX0_a_4 rfl (lv_at hl 1 rfl) ?_
  refine lv_bipush (v := (6 : Int32)) X.1 X.2.1 dX0_a_5 (by decide) ?_
  refine lv_imul X.1 X.2.1 dX0_a_7 ?_
  refine lv_iload_n X.1 X.2.1 dX0_a_8 rfl (lv_at hl 2 rfl) ?_
  refine lv_iadd X.1 X.2.1 dX0_a_9 ?_
  obtain ⟨b1, hf⟩ := px_ck_e hf
  refine ilC_4 X w b1 dX0_a_10 ?_
  cases hf
  exact px_retI X hr hlk w dX0_a_11
def fC_Functions_b (M : px_M) (p1 p2 : Int32) : Option Int32 := px_ck ((p1 * (6 : Int32)) + p2) 60 (some (M 5 ((p1 * (6 : Int32)) + p2).toNatClampNeg))
set_option maxHeartbeats 4000000 in
set_option maxRecDepth 100000 in
theorem cC_Functions_b (l : Launch) (D : va_G) (cs : Nat → ClassId) (ad : Nat → Nat) {M : px_M} {p1 p2 : Int32} {r : Int32} (hf : fC_Functions_b M p1 p2 = some r) : px_mI l D (tyC cs) (wC cs ad) yX0_b cX0_b 3 (some .int) 0 [.ref (ad 1), .int p1, .int p2] M r M := by
  refine px_ofI (by decide +kernel) (Nat.le_of_ble_eq_true rfl) ?_
  intro p e s m below meth c A ls X hr hlk hml w hl
  have hl : lv_has ls 3 [(0, .ref (ad 1)), (1, .int p1), (2, .int p2)] := hl
  unfold fC_Functions_b at hf
  refine lv_aload_n X.1 X.2.1 dX0_b_0 rfl (lv_at hl 0 rfl) ?_
  refine gtC_1_3 X w dX0_b_1 ?_
  refine lv_iload_n X.1 X.2.1 dX0_b_4 rfl (lv_at hl 1 rfl) ?_
  refine lv_bipush (v := (6 : Int32)) X.1 X.2.1 dX0_b_5 (by decide) ?_
  refine lv_imul X.1 X.2.1 dX0_b_7 ?_
  refine lv_iload_n X.1 X.2.1 dX0_b_8 rfl (lv_at hl 2 rfl) ?_
  refine lv_iadd X.1 X.2.1 dX0_b_9 ?_
  obtain ⟨b1, hf⟩ := px_ck_e hf
  refine ilC_5 X w b1 dX0_b_10 ?_
  cases hf
  exact px_retI X hr hlk w dX0_b_11
def fC_Functions_empty (M : px_M) (p1 : Int32) : Option px_M := px_ck p1 10 (px_bn (px_up M 2 p1.toNatClampNeg (0 : Int32)) (fun M2 => some M2))
set_option maxHeartbeats 4000000 in
set_option maxRecDepth 100000 in
theorem cC_Functions_empty (l : Launch) (D : va_G) (cs : Nat → ClassId) (ad : Nat → Nat) {M : px_M} {p1 : Int32} {M' : px_M} (hf : fC_Functions_empty M p1 = some M') : px_mV l D (tyC cs) (wC cs ad) yX0_empty cX0_empty 2 0 [.ref (ad 1), .int p1] M M' := by
  refine px_ofV (by decide +kernel) (Nat.le_of_ble_eq_true rfl) ?_
  intro p e s m below meth c A ls X hr hlk hml w hl
  have hl : lv_has ls 2 [(0, .ref (ad 1)), (1, .int p1)] := hl
  unfold fC_Functions_empty at hf
  refine lv_aload_n X.1 X.2.1 dX0_empty_0 rfl (lv_at hl 0 rfl) ?_
  refine gtC_1_0 X w dX0_empty_1 ?_
  refine lv_iload_n X.1 X.2.1 dX0_empty_4 rfl (lv_at hl 1 rfl) ?_
  refine lv_iconst (v := (0 : Int32)) X.1 X.2.1 dX0_empty_5 (by decide) ?_
  obtain ⟨b1, hf⟩ := px_ck_e hf
  refine isC_2 X w b1 dX0_empty_6 (fun H locs w => ?_)
  obtain ⟨M2, eM2, hf⟩ := px_bn_e hf
  rw [← eM2] at w
  cases hf
  exact px_retV X hr hlk w dX0_empty_7
def fC_Functions_add (M : px_M) (p1 p2 p3 p4 : Int32) : Option px_M := px_ck p1 10 ((if (M 2 p1.toNatClampNeg) < (6 : Int32) then px_ck p1 10 (px_bn (((p1 * (6 : Int32)) + (M 2 p1.toNatClampNeg))) (fun x4 => px_ck x4 60 (px_bn (px_up M 3 x4.toNatClampNeg p2) (fun M6 => px_ck x4 60 (px_bn (px_up M6 4 x4.toNatClampNeg p3) (fun M8 => px_ck x4 60 (px_bn (px_up M8 5 x4.toNatClampNeg p4) (fun M10 => px_ck p1 10 (px_ck p1 10 (px_bn (px_up M10 2 p1.toNatClampNeg ((M10 2 p1.toNatClampNeg) + (1 : Int32))) (fun M13 => some M13))))))))))) else some M))
set_option maxHeartbeats 4000000 in
set_option maxRecDepth 100000 in
theorem cC_Functions_add (l : Launch) (D : va_G) (cs : Nat → ClassId) (ad : Nat → Nat) {M : px_M} {p1 p2 p3 p4 : Int32} {M' : px_M} (hf : fC_Functions_add M p1 p2 p3 p4 = some M') : px_mV l D (tyC cs) (wC cs ad) yX0_add cX0_add 6 0 [.ref (ad 1), .int p1, .int p2, .int p3, .int p4] M M' := by
  refine px_ofV (by decide +kernel) (Nat.le_of_ble_eq_true rfl) ?_
  intro p e s m below meth c A ls X hr hlk hml w hl
  have hl : lv_has ls 6 [(0, .ref (ad 1)), (1, .int p1), (2, .int p2), (3, .int p3), (4, .int p4)] := hl
  unfold fC_Functions_add at hf
  refine lv_aload_n X.1 X.2.1 dX0_add_0 rfl (lv_at hl 0 rfl) ?_
  refine gtC_1_0 X w dX0_add_1 ?_
  refine lv_iload_n X.1 X.2.1 dX0_add_4 rfl (lv_at hl 1 rfl) ?_
  obtain ⟨b1, hf⟩ := px_ck_e hf
  refine ilC_2 X w b1 dX0_add_5 ?_
  refine lv_bipush (v := (6 : Int32)) X.1 X.2.1 dX0_add_6 (by decide) ?_
  refine lv_icmp_lt (tgt := 12) X.1 X.2.1 dX0_add_8 (by decide) (fun c2 => ?_) (fun c2 => ?_)
  · have hf := px_ip c2 hf
    refine lv_iload_n X.1 X.2.1 dX0_add_12 rfl (lv_at hl 1 rfl) ?_
    refine lv_bipush (v := (6 : Int32)) X.1 X.2.1 dX0_add_13 (by decide) ?_
    refine lv_imul X.1 X.2.1 dX0_add_15 ?_
    refine lv_aload_n X.1 X.2.1 dX0_add_16 rfl (lv_at hl 0 rfl) ?_
    refine gtC_1_0 X w dX0_add_17 ?_
    refine lv_iload_n X.1 X.2.1 dX0_add_20 rfl (lv_at hl 1 rfl) ?_
    obtain ⟨b3, hf⟩ := px_ck_e hf
    refine ilC_2 X w b3 dX0_add_21 ?_
    refine lv_iadd X.1 X.2.1 dX0_add_22 ?_
    obtain ⟨x4, ex4, hf⟩ := px_bn_e hf
    rw [← ex4]
    refine lv_istore (lv' := [(5, .int x4), (0, .ref (ad 1)), (1, .int p1), (2, .int p2), (3, .int p3), (4, .int p4)]) X.1 X.2.1 dX0_add_23 hl (by decide) rfl (fun ls hl => ?_)
    refine lv_aload_n X.1 X.2.1 dX0_add_25 rfl (lv_at hl 1 rfl) ?_
    refine gtC_1_1 X w dX0_add_26 ?_
    refine lv_iload X.1 X.2.1 dX0_add_29 (lv_at hl 0 rfl) ?_
    refine lv_iload_n X.1 X.2.1 dX0_add_31 rfl (lv_at hl 3 rfl) ?_
    obtain ⟨b5, hf⟩ := px_ck_e hf
    refine isC_3 X w b5 dX0_add_32 (fun H locs w => ?_)
    obtain ⟨M6, eM6, hf⟩ := px_bn_e hf
    rw [← eM6] at w
    refine lv_aload_n X.1 X.2.1 dX0_add_33 rfl (lv_at hl 1 rfl) ?_
    refine gtC_1_2 X w dX0_add_34 ?_
    refine lv_iload X.1 X.2.1 dX0_add_37 (lv_at hl 0 rfl) ?_
    refine lv_iload_n X.1 X.2.1 dX0_add_39 rfl (lv_at hl 4 rfl) ?_
    obtain ⟨b7, hf⟩ := px_ck_e hf
    refine isC_4 X w b7 dX0_add_40 (fun H locs w => ?_)
    obtain ⟨M8, eM8, hf⟩ := px_bn_e hf
    rw [← eM8] at w
    refine lv_aload_n X.1 X.2.1 dX0_add_41 rfl (lv_at hl 1 rfl) ?_
    refine gtC_1_3 X w dX0_add_42 ?_
    refine lv_iload X.1 X.2.1 dX0_add_45 (lv_at hl 0 rfl) ?_
    refine lv_iload X.1 X.2.1 dX0_add_47 (lv_at hl 5 rfl) ?_
    obtain ⟨b9, hf⟩ := px_ck_e hf
    refine isC_5 X w b9 dX0_add_49 (fun H locs w => ?_)
    obtain ⟨M10, eM10, hf⟩ := px_bn_e hf
    rw [← eM10] at w
    refine lv_aload_n X.1 X.2.1 dX0_add_50 rfl (lv_at hl 1 rfl) ?_
    refine gtC_1_0 X w dX0_add_51 ?_
    refine lv_iload_n X.1 X.2.1 dX0_add_54 rfl (lv_at hl 2 rfl) ?_
    refine lv_dup2_11 X.1 X.2.1 dX0_add_55 rfl rfl ?_
    obtain ⟨b11, hf⟩ := px_ck_e hf
    refine ilC_2 X w b11 dX0_add_56 ?_
    refine lv_iconst (v := (1 : Int32)) X.1 X.2.1 dX0_add_57 (by decide) ?_
    refine lv_iadd X.1 X.2.1 dX0_add_58 ?_
    obtain ⟨b12, hf⟩ := px_ck_e hf
    refine isC_2 X w b12 dX0_add_59 (fun H locs w => ?_)
    obtain ⟨M13, eM13, hf⟩ := px_bn_e hf
    rw [← eM13] at w
    cases hf
    exact px_retV X hr hlk w dX0_add_60
  · have hf := px_in c2 hf
    cases hf
    exact px_retV X hr hlk w dX0_add_11
def fC_Journal_size_28 (M : px_M) : Option Int32 := some (M 28 1)
set_option maxHeartbeats 4000000 in
set_option maxRecDepth 100000 in
theorem cC_Journal_size_28 (l : Launch) (D : va_G) (cs : Nat → ClassId) (ad : Nat → Nat) {M : px_M} {r : Int32} (hf : fC_Journal_size_28 M = some r) : px_mI l D (tyC cs) (wC cs ad) yX1_size cX1_size 1 (some .int) 0 [.ref (ad 28)] M r M := by
  refine px_ofI (by decide +kernel) (Nat.le_of_ble_eq_true rfl) ?_
  intro p e s m below meth c A ls X hr hlk hml w hl
  have hl : lv_has ls 1 [(0, .ref (ad 28))] := hl
  unfold fC_Journal_size_28 at hf
  refine lv_aload_n X.1 X.2.1 dX1_size_0 rfl (lv_at hl 0 rfl) ?_
  refine gtC_28_1 X w dX1_size_1 ?_
  cases hf
  exact px_retI X hr hlk w dX1_size_4
def fC_Journal_has_28 (M : px_M) (p1 : Int32) : Option Int32 := (if p1 < 0 then some (0 : Int32) else (if (M 28 1) ≤ p1 then some (0 : Int32) else some (1 : Int32)))
set_option maxHeartbeats 4000000 in
set_option maxRecDepth 100000 in
theorem cC_Journal_has_28 (l : Launch) (D : va_G) (cs : Nat → ClassId) (ad : Nat → Nat) {M : px_M} {p1 : Int32} {r : Int32} (hf : fC_Journal_has_28 M p1 = some r) : px_mI l D (tyC cs) (wC cs ad) yX1_has cX1_has 2 (some .boolean) 0 [.ref (ad 28), .int p1] M r M := by
  refine px_ofI (by decide +kernel) (Nat.le_of_ble_eq_true rfl) ?_
  intro p e s m below meth c A ls X hr hlk hml w hl
  have hl : lv_has ls 2 [(0, .ref (ad 28)), (1, .int p1)] := hl
  unfold fC_Journal_has_28 at hf
  refine lv_iload_n X.1 X.2.1 dX1_has_0 rfl (lv_at hl 1 rfl) ?_
  refine lv_if_lt (tgt := 16) X.1 X.2.1 dX1_has_1 (by decide) (fun c1 => ?_) (fun c1 => ?_)
  · have hf := px_ip c1 hf
    refine lv_iconst (v := (0 : Int32)) X.1 X.2.1 dX1_has_16 (by decide) ?_
    cases hf
    exact px_retZ X hr hlk rfl w dX1_has_17
  · have hf := px_in c1 hf
    refine lv_iload_n X.1 X.2.1 dX1_has_4 rfl (lv_at hl 1 rfl) ?_
    refine lv_aload_n X.1 X.2.1 dX1_has_5 rfl (lv_at hl 0 rfl) ?_
    refine gtC_28_1 X w dX1_has_6 ?_
    refine lv_icmp_ge (tgt := 16) X.1 X.2.1 dX1_has_9 (by decide) (fun c2 => ?_) (fun c2 => ?_)
    · have hf := px_ip c2 hf
      refine lv_iconst (v := (0 : Int32)) X.1 X.2.1 dX1_has_16 (by decide) ?_
      cases hf
      exact px_retZ X hr hlk rfl w dX1_has_17
    · have hf := px_in c2 hf
      refine lv_iconst (v := (1 : Int32)) X.1 X.2.1 dX1_has_12 (by decide) ?_
      refine lv_goto (tgt := 17) X.1 X.2.1 dX1_has_13 (by decide) ?_
      cases hf
      exact px_retZ X hr hlk rfl w dX1_has_17
def fC_Journal_at_28 (M : px_M) (p1 : Int32) : Option Int32 := px_ck p1 200 (some (M 29 p1.toNatClampNeg))
set_option maxHeartbeats 4000000 in
set_option maxRecDepth 100000 in
theorem cC_Journal_at_28 (l : Launch) (D : va_G) (cs : Nat → ClassId) (ad : Nat → Nat) {M : px_M} {p1 : Int32} {r : Int32} (hf : fC_Journal_at_28 M p1 = some r) : px_mI l D (tyC cs) (wC cs ad) yX1_at cX1_at 2 (some .int) 0 [.ref (ad 28), .int p1] M r M := by
  refine px_ofI (by decide +kernel) (Nat.le_of_ble_eq_true rfl) ?_
  intro p e s m below meth c A ls X hr hlk hml w hl
  have hl : lv_has ls 2 [(0, .ref (ad 28)), (1, .int p1)] := hl
  unfold fC_Journal_at_28 at hf
  refine lv_aload_n X.1 X.2.1 dX1_at_0 rfl (lv_at hl 0 rfl) ?_
  refine gtC_28_0 X w dX1_at_1 ?_
  refine lv_iload_n X.1 X.2.1 dX1_at_4 rfl (lv_at hl 1 rfl) ?_
  obtain ⟨b1, hf⟩ := px_ck_e hf
  refine ilC_29 X w b1 dX1_at_5 ?_
  cases hf
  exact px_retI X hr hlk w dX1_at_6
def fC_Journal_keep_28 (M : px_M) (p1 : Int32) : Option px_M := (if (200 : Int32) ≤ (M 28 1) then some M else px_ck (M 28 1) 200 (px_bn (px_up M 29 (M 28 1).toNatClampNeg p1) (fun M3 => px_bn (px_up M3 28 1 ((M3 28 1) + (1 : Int32))) (fun M4 => some M4))))
set_option maxHeartbeats 4000000 in
set_option maxRecDepth 100000 in
theorem cC_Journal_keep_28 (l : Launch) (D : va_G) (cs : Nat → ClassId) (ad : Nat → Nat) {M : px_M} {p1 : Int32} {M' : px_M} (hf : fC_Journal_keep_28 M p1 = some M') : px_mV l D (tyC cs) (wC cs ad) yX1_keep cX1_keep 2 0 [.ref (ad 28), .int p1] M M' := by
  refine px_ofV (by decide +kernel) (Nat.le_of_ble_eq_true rfl) ?_
  intro p e s m below meth c A ls X hr hlk hml w hl
  have hl : lv_has ls 2 [(0, .ref (ad 28)), (1, .int p1)] := hl
  unfold fC_Journal_keep_28 at hf
  refine lv_aload_n X.1 X.2.1 dX1_keep_0 rfl (lv_at hl 0 rfl) ?_
  refine gtC_28_1 X w dX1_keep_1 ?_
  refine lv_sipush (v := (200 : Int32)) X.1 X.2.1 dX1_keep_4 (by decide) ?_
  refine lv_icmp_ge (tgt := 30) X.1 X.2.1 dX1_keep_7 (by decide) (fun c1 => ?_) (fun c1 => ?_)
  · have hf := px_ip c1 hf
    cases hf
    exact px_retV X hr hlk w dX1_keep_30
  · have hf := px_in c1 hf
    refine lv_aload_n X.1 X.2.1 dX1_keep_10 rfl (lv_at hl 0 rfl) ?_
    refine gtC_28_0 X w dX1_keep_11 ?_
    refine lv_aload_n X.1 X.2.1 dX1_keep_14 rfl (lv_at hl 0 rfl) ?_
    refine gtC_28_1 X w dX1_keep_15 ?_
    refine lv_iload_n X.1 X.2.1 dX1_keep_18 rfl (lv_at hl 1 rfl) ?_
    obtain ⟨b2, hf⟩ := px_ck_e hf
    refine isC_29 X w b2 dX1_keep_19 (fun H locs w => ?_)
    obtain ⟨M3, eM3, hf⟩ := px_bn_e hf
    rw [← eM3] at w
    refine lv_aload_n X.1 X.2.1 dX1_keep_20 rfl (lv_at hl 0 rfl) ?_
    refine lv_dup X.1 X.2.1 dX1_keep_21 rfl ?_
    refine gtC_28_1 X w dX1_keep_22 ?_
    refine lv_iconst (v := (1 : Int32)) X.1 X.2.1 dX1_keep_25 (by decide) ?_
    refine lv_iadd X.1 X.2.1 dX1_keep_26 ?_
    refine ptC_28_1 X w dX1_keep_27 (fun H locs w => ?_)
    obtain ⟨M4, eM4, hf⟩ := px_bn_e hf
    rw [← eM4] at w
    cases hf
    exact px_retV X hr hlk w dX1_keep_30
def fC_Journal_size_30 (M : px_M) : Option Int32 := some (M 30 1)
set_option maxHeartbeats 4000000 in
set_option maxRecDepth 100000 in
theorem cC_Journal_size_30 (l : Launch) (D : va_G) (cs : Nat → ClassId) (ad : Nat → Nat) {M : px_M} {r : Int32} (hf : fC_Journal_size_30 M = some r) : px_mI l D (tyC cs) (wC cs ad) yX1_size cX1_size 1 (some .int) 0 [.ref (ad 30)] M r M := by
  refine px_ofI (by decide +kernel) (Nat.le_of_ble_eq_true rfl) ?_
  intro p e s m below meth c A ls X hr hlk hml w hl
  have hl : lv_has ls 1 [(0, .ref (ad 30))] := hl
  unfold fC_Journal_size_30 at hf
  refine lv_aload_n X.1 X.2.1 dX1_size_0 rfl (lv_at hl 0 rfl) ?_
  refine gtC_30_1 X w dX1_size_1 ?_
  cases hf
  exact px_retI X hr hlk w dX1_size_4
def fC_Journal_has_30 (M : px_M) (p1 : Int32) : Option Int32 := (if p1 < 0 then some (0 : Int32) else (if (M 30 1) ≤ p1 then some (0 : Int32) else some (1 : Int32)))
set_option maxHeartbeats 4000000 in
set_option maxRecDepth 100000 in
theorem cC_Journal_has_30 (l : Launch) (D : va_G) (cs : Nat → ClassId) (ad : Nat → Nat) {M : px_M} {p1 : Int32} {r : Int32} (hf : fC_Journal_has_30 M p1 = some r) : px_mI l D (tyC cs) (wC cs ad) yX1_has cX1_has 2 (some .boolean) 0 [.ref (ad 30), .int p1] M r M := by
  refine px_ofI (by decide +kernel) (Nat.le_of_ble_eq_true rfl) ?_
  intro p e s m below meth c A ls X hr hlk hml w hl
  have hl : lv_has ls 2 [(0, .ref (ad 30)), (1, .int p1)] := hl
  unfold fC_Journal_has_30 at hf
  refine lv_iload_n X.1 X.2.1 dX1_has_0 rfl (lv_at hl 1 rfl) ?_
  refine lv_if_lt (tgt := 16) X.1 X.2.1 dX1_has_1 (by decide) (fun c1 => ?_) (fun c1 => ?_)
  · have hf := px_ip c1 hf
    refine lv_iconst (v := (0 : Int32)) X.1 X.2.1 dX1_has_16 (by decide) ?_
    cases hf
    exact px_retZ X hr hlk rfl w dX1_has_17
  · have hf := px_in c1 hf
    refine lv_iload_n X.1 X.2.1 dX1_has_4 rfl (lv_at hl 1 rfl) ?_
    refine lv_aload_n X.1 X.2.1 dX1_has_5 rfl (lv_at hl 0 rfl) ?_
    refine gtC_30_1 X w dX1_has_6 ?_
    refine lv_icmp_ge (tgt := 16) X.1 X.2.1 dX1_has_9 (by decide) (fun c2 => ?_) (fun c2 => ?_)
    · have hf := px_ip c2 hf
      refine lv_iconst (v := (0 : Int32)) X.1 X.2.1 dX1_has_16 (by decide) ?_
      cases hf
      exact px_retZ X hr hlk rfl w dX1_has_17
    · have hf := px_in c2 hf
      refine lv_iconst (v := (1 : Int32)) X.1 X.2.1 dX1_has_12 (by decide) ?_
      refine lv_goto (tgt := 17) X.1 X.2.1 dX1_has_13 (by decide) ?_
      cases hf
      exact px_retZ X hr hlk rfl w dX1_has_17
def fC_Journal_at_30 (M : px_M) (p1 : Int32) : Option Int32 := px_ck p1 200 (some (M 31 p1.toNatClampNeg))
set_option maxHeartbeats 4000000 in
set_option maxRecDepth 100000 in
theorem cC_Journal_at_30 (l : Launch) (D : va_G) (cs : Nat → ClassId) (ad : Nat → Nat) {M : px_M} {p1 : Int32} {r : Int32} (hf : fC_Journal_at_30 M p1 = some r) : px_mI l D (tyC cs) (wC cs ad) yX1_at cX1_at 2 (some .int) 0 [.ref (ad 30), .int p1] M r M := by
  refine px_ofI (by decide +kernel) (Nat.le_of_ble_eq_true rfl) ?_
  intro p e s m below meth c A ls X hr hlk hml w hl
  have hl : lv_has ls 2 [(0, .ref (ad 30)), (1, .int p1)] := hl
  unfold fC_Journal_at_30 at hf
  refine lv_aload_n X.1 X.2.1 dX1_at_0 rfl (lv_at hl 0 rfl) ?_
  refine gtC_30_0 X w dX1_at_1 ?_
  refine lv_iload_n X.1 X.2.1 dX1_at_4 rfl (lv_at hl 1 rfl) ?_
  obtain ⟨b1, hf⟩ := px_ck_e hf
  refine ilC_31 X w b1 dX1_at_5 ?_
  cases hf
  exact px_retI X hr hlk w dX1_at_6
def fC_Journal_keep_30 (M : px_M) (p1 : Int32) : Option px_M := (if (200 : Int32) ≤ (M 30 1) then some M else px_ck (M 30 1) 200 (px_bn (px_up M 31 (M 30 1).toNatClampNeg p1) (fun M3 => px_bn (px_up M3 30 1 ((M3 30 1) + (1 : Int32))) (fun M4 => some M4))))
set_option maxHeartbeats 4000000 in
set_option maxRecDepth 100000 in
theorem cC_Journal_keep_30 (l : Launch) (D : va_G) (cs : Nat → ClassId) (ad : Nat → Nat) {M : px_M} {p1 : Int32} {M' : px_M} (hf : fC_Journal_keep_30 M p1 = some M') : px_mV l D (tyC cs) (wC cs ad) yX1_keep cX1_keep 2 0 [.ref (ad 30), .int p1] M M' := by
  refine px_ofV (by decide +kernel) (Nat.le_of_ble_eq_true rfl) ?_
  intro p e s m below meth c A ls X hr hlk hml w hl
  have hl : lv_has ls 2 [(0, .ref (ad 30)), (1, .int p1)] := hl
  unfold fC_Journal_keep_30 at hf
  refine lv_aload_n X.1 X.2.1 dX1_keep_0 rfl (lv_at hl 0 rfl) ?_
  refine gtC_30_1 X w dX1_keep_1 ?_
  refine lv_sipush (v := (200 : Int32)) X.1 X.2.1 dX1_keep_4 (by decide) ?_
  refine lv_icmp_ge (tgt := 30) X.1 X.2.1 dX1_keep_7 (by decide) (fun c1 => ?_) (fun c1 => ?_)
  · have hf := px_ip c1 hf
    cases hf
    exact px_retV X hr hlk w dX1_keep_30
  · have hf := px_in c1 hf
    refine lv_aload_n X.1 X.2.1 dX1_keep_10 rfl (lv_at hl 0 rfl) ?_
    refine gtC_30_0 X w dX1_keep_11 ?_
    refine lv_aload_n X.1 X.2.1 dX1_keep_14 rfl (lv_at hl 0 rfl) ?_
    refine gtC_30_1 X w dX1_keep_15 ?_
    refine lv_iload_n X.1 X.2.1 dX1_keep_18 rfl (lv_at hl 1 rfl) ?_
    obtain ⟨b2, hf⟩ := px_ck_e hf
    refine isC_31 X w b2 dX1_keep_19 (fun H locs w => ?_)
    obtain ⟨M3, eM3, hf⟩ := px_bn_e hf
    rw [← eM3] at w
    refine lv_aload_n X.1 X.2.1 dX1_keep_20 rfl (lv_at hl 0 rfl) ?_
    refine lv_dup X.1 X.2.1 dX1_keep_21 rfl ?_
    refine gtC_30_1 X w dX1_keep_22 ?_
    refine lv_iconst (v := (1 : Int32)) X.1 X.2.1 dX1_keep_25 (by decide) ?_
    refine lv_iadd X.1 X.2.1 dX1_keep_26 ?_
    refine ptC_30_1 X w dX1_keep_27 (fun H locs w => ?_)
    obtain ⟨M4, eM4, hf⟩ := px_bn_e hf
    rw [← eM4] at w
    cases hf
    exact px_retV X hr hlk w dX1_keep_30
def fC_Line_size_8 (M : px_M) : Option Int32 := some (M 8 5)
set_option maxHeartbeats 4000000 in
set_option maxRecDepth 100000 in
theorem cC_Line_size_8 (l : Launch) (D : va_G) (cs : Nat → ClassId) (ad : Nat → Nat) {M : px_M} {r : Int32} (hf : fC_Line_size_8 M = some r) : px_mI l D (tyC cs) (wC cs ad) yX2_size cX2_size 1 (some .int) 0 [.ref (ad 8)] M r M := by
  refine px_ofI (by decide +kernel) (Nat.le_of_ble_eq_true rfl) ?_
  intro p e s m below meth c A ls X hr hlk hml w hl
  have hl : lv_has ls 1 [(0, .ref (ad 8))] := hl
  unfold fC_Line_size_8 at hf
  refine lv_aload_n X.1 X.2.1 dX2_size_0 rfl (lv_at hl 0 rfl) ?_
  refine gtC_8_5 X w dX2_size_1 ?_
  cases hf
  exact px_retI X hr hlk w dX2_size_4
def fC_Line_kind_8 (M : px_M) : Option Int32 := px_ck (M 8 4) 40 (some (M 9 (M 8 4).toNatClampNeg))
set_option maxHeartbeats 4000000 in
set_option maxRecDepth 100000 in
theorem cC_Line_kind_8 (l : Launch) (D : va_G) (cs : Nat → ClassId) (ad : Nat → Nat) {M : px_M} {r : Int32} (hf : fC_Line_kind_8 M = some r) : px_mI l D (tyC cs) (wC cs ad) yX2_kind cX2_kind 1 (some .int) 0 [.ref (ad 8)] M r M := by
  refine px_ofI (by decide +kernel) (Nat.le_of_ble_eq_true rfl) ?_
  intro p e s m below meth c A ls X hr hlk hml w hl
  have hl : lv_has ls 1 [(0, .ref (ad 8))] := hl
  unfold fC_Line_kind_8 at hf
  refine lv_aload_n X.1 X.2.1 dX2_kind_0 rfl (lv_at hl 0 rfl) ?_
  refine gtC_8_1 X w dX2_kind_1 ?_
  refine lv_aload_n X.1 X.2.1 dX2_kind_4 rfl (lv_at hl 0 rfl) ?_
  refine gtC_8_4 X w dX2_kind_5 ?_
  obtain ⟨b1, hf⟩ := px_ck_e hf
  refine ilC_9 X w b1 dX2_kind_8 ?_
  cases hf
  exact px_retI X hr hlk w dX2_kind_9
def fC_Line_subject_8 (M : px_M) : Option Int32 := px_ck (M 8 4) 40 (some (M 10 (M 8 4).toNatClampNeg))
set_option maxHeartbeats 4000000 in
set_option maxRecDepth 100000 in
theorem cC_Line_subject_8 (l : Launch) (D : va_G) (cs : Nat → ClassId) (ad : Nat → Nat) {M : px_M} {r : Int32} (hf : fC_Line_subject_8 M = some r) : px_mI l D (tyC cs) (wC cs ad) yX2_subject cX2_subject 1 (some .int) 0 [.ref (ad 8)] M r M := by
  refine px_ofI (by decide +kernel) (Nat.le_of_ble_eq_true rfl) ?_
  intro p e s m below meth c A ls X hr hlk hml w hl
  have hl : lv_has ls 1 [(0, .ref (ad 8))] := hl
  unfold fC_Line_subject_8 at hf
  refine lv_aload_n X.1 X.2.1 dX2_subject_0 rfl (lv_at hl 0 rfl) ?_
  refine gtC_8_2 X w dX2_subject_1 ?_
  refine lv_aload_n X.1 X.2.1 dX2_subject_4 rfl (lv_at hl 0 rfl) ?_
  refine gtC_8_4 X w dX2_subject_5 ?_
  obtain ⟨b1, hf⟩ := px_ck_e hf
  refine ilC_10 X w b1 dX2_subject_8 ?_
  cases hf
  exact px_retI X hr hlk w dX2_subject_9
def fC_Line_number_8 (M : px_M) : Option Int32 := px_ck (M 8 4) 40 (some (M 11 (M 8 4).toNatClampNeg))
set_option maxHeartbeats 4000000 in
set_option maxRecDepth 100000 in
theorem cC_Line_number_8 (l : Launch) (D : va_G) (cs : Nat → ClassId) (ad : Nat → Nat) {M : px_M} {r : Int32} (hf : fC_Line_number_8 M = some r) : px_mI l D (tyC cs) (wC cs ad) yX2_number cX2_number 1 (some .int) 0 [.ref (ad 8)] M r M := by
  refine px_ofI (by decide +kernel) (Nat.le_of_ble_eq_true rfl) ?_
  intro p e s m below meth c A ls X hr hlk hml w hl
  have hl : lv_has ls 1 [(0, .ref (ad 8))] := hl
  unfold fC_Line_number_8 at hf
  refine lv_aload_n X.1 X.2.1 dX2_number_0 rfl (lv_at hl 0 rfl) ?_
  refine gtC_8_3 X w dX2_number_1 ?_
  refine lv_aload_n X.1 X.2.1 dX2_number_4 rfl (lv_at hl 0 rfl) ?_
  refine gtC_8_4 X w dX2_number_5 ?_
  obtain ⟨b1, hf⟩ := px_ck_e hf
  refine ilC_11 X w b1 dX2_number_8 ?_
  cases hf
  exact px_retI X hr hlk w dX2_number_9
def fC_Line_put_8 (M : px_M) (p1 p2 p3 : Int32) : Option px_M := (if (M 8 5) < (M 8 0) then (if (M 8 0) ≤ ((M 8 4) + (M 8 5)) then px_bn ((((M 8 4) + (M 8 5)) - (M 8 0))) (fun x3 => px_ck x3 40 (px_bn (px_up M 9 x3.toNatClampNeg p1) (fun M5 => px_ck x3 40 (px_bn (px_up M5 10 x3.toNatClampNeg p2) (fun M7 => px_ck x3 40 (px_bn (px_up M7 11 x3.toNatClampNeg p3) (fun M9 => px_bn (px_up M9 8 5 ((M9 8 5) + (1 : Int32))) (fun M10 => some M10)))))))) else px_bn (((M 8 4) + (M 8 5))) (fun x11 => px_ck x11 40 (px_bn (px_up M 9 x11.toNatClampNeg p1) (fun M13 => px_ck x11 40 (px_bn (px_up M13 10 x11.toNatClampNeg p2) (fun M15 => px_ck x11 40 (px_bn (px_up M15 11 x11.toNatClampNeg p3) (fun M17 => px_bn (px_up M17 8 5 ((M17 8 5) + (1 : Int32))) (fun M18 => some M18))))))))) else some M)
set_option maxHeartbeats 4000000 in
set_option maxRecDepth 100000 in
theorem cC_Line_put_8 (l : Launch) (D : va_G) (cs : Nat → ClassId) (ad : Nat → Nat) {M : px_M} {p1 p2 p3 : Int32} {M' : px_M} (hf : fC_Line_put_8 M p1 p2 p3 = some M') : px_mV l D (tyC cs) (wC cs ad) yX2_put cX2_put 5 0 [.ref (ad 8), .int p1, .int p2, .int p3] M M' := by
  refine px_ofV (by decide +kernel) (Nat.le_of_ble_eq_true rfl) ?_
  intro p e s m below meth c A ls X hr hlk hml w hl
  have hl : lv_has ls 5 [(0, .ref (ad 8)), (1, .int p1), (2, .int p2), (3, .int p3)] := hl
  unfold fC_Line_put_8 at hf
  refine lv_aload_n X.1 X.2.1 dX2_put_0 rfl (lv_at hl 0 rfl) ?_
  refine gtC_8_5 X w dX2_put_1 ?_
  refine lv_aload_n X.1 X.2.1 dX2_put_4 rfl (lv_at hl 0 rfl) ?_
  refine gtC_8_0 X w dX2_put_5 ?_
  refine lv_icmp_lt (tgt := 12) X.1 X.2.1 dX2_put_8 (by decide) (fun c1 => ?_) (fun c1 => ?_)
  · have hf := px_ip c1 hf
    refine lv_aload_n X.1 X.2.1 dX2_put_12 rfl (lv_at hl 0 rfl) ?_
    refine gtC_8_4 X w dX2_put_13 ?_
    refine lv_aload_n X.1 X.2.1 dX2_put_16 rfl (lv_at hl 0 rfl) ?_
    refine gtC_8_5 X w dX2_put_17 ?_
    refine lv_iadd X.1 X.2.1 dX2_put_20 ?_
    refine lv_aload_n X.1 X.2.1 dX2_put_21 rfl (lv_at hl 0 rfl) ?_
    refine gtC_8_0 X w dX2_put_22 ?_
    refine lv_icmp_ge (tgt := 40) X.1 X.2.1 dX2_put_25 (by decide) (fun c2 => ?_) (fun c2 => ?_)
    · have hf := px_ip c2 hf
      refine lv_aload_n X.1 X.2.1 dX2_put_40 rfl (lv_at hl 0 rfl) ?_
      refine gtC_8_4 X w dX2_put_41 ?_
      refine lv_aload_n X.1 X.2.1 dX2_put_44 rfl (lv_at hl 0 rfl) ?_
      refine gtC_8_5 X w dX2_put_45 ?_
      refine lv_iadd X.1 X.2.1 dX2_put_48 ?_
      refine lv_aload_n X.1 X.2.1 dX2_put_49 rfl (lv_at hl 0 rfl) ?_
      refine gtC_8_0 X w dX2_put_50 ?_
      refine lv_isub X.1 X.2.1 dX2_put_53 ?_
      obtain ⟨x3, ex3, hf⟩ := px_bn_e hf
      rw [← ex3]
      refine lv_istore (lv' := [(4, .int x3), (0, .ref (ad 8)), (1, .int p1), (2, .int p2), (3, .int p3)]) X.1 X.2.1 dX2_put_54 hl (by decide) rfl (fun ls hl => ?_)
      refine lv_aload_n X.1 X.2.1 dX2_put_56 rfl (lv_at hl 1 rfl) ?_
      refine gtC_8_1 X w dX2_put_57 ?_
      refine lv_iload X.1 X.2.1 dX2_put_60 (lv_at hl 0 rfl) ?_
      refine lv_iload_n X.1 X.2.1 dX2_put_62 rfl (lv_at hl 2 rfl) ?_
      obtain ⟨b4, hf⟩ := px_ck_e hf
      refine isC_9 X w b4 dX2_put_63 (fun H locs w => ?_)
      obtain ⟨M5, eM5, hf⟩ := px_bn_e hf
      rw [← eM5] at w
      refine lv_aload_n X.1 X.2.1 dX2_put_64 rfl (lv_at hl 1 rfl) ?_
      refine gtC_8_2 X w dX2_put_65 ?_
      refine lv_iload X.1 X.2.1 dX2_put_68 (lv_at hl 0 rfl) ?_
      refine lv_iload_n X.1 X.2.1 dX2_put_70 rfl (lv_at hl 3 rfl) ?_
      obtain ⟨b6, hf⟩ := px_ck_e hf
      refine isC_10 X w b6 dX2_put_71 (fun H locs w => ?_)
      obtain ⟨M7, eM7, hf⟩ := px_bn_e hf
      rw [← eM7] at w
      refine lv_aload_n X.1 X.2.1 dX2_put_72 rfl (lv_at hl 1 rfl) ?_
      refine gtC_8_3 X w dX2_put_73 ?_
      refine lv_iload X.1 X.2.1 dX2_put_76 (lv_at hl 0 rfl) ?_
      refine lv_iload_n X.1 X.2.1 dX2_put_78 rfl (lv_at hl 4 rfl) ?_
      obtain ⟨b8, hf⟩ := px_ck_e hf
      refine isC_11 X w b8 dX2_put_79 (fun H locs w => ?_)
      obtain ⟨M9, eM9, hf⟩ := px_bn_e hf
      rw [← eM9] at w
      refine lv_aload_n X.1 X.2.1 dX2_put_80 rfl (lv_at hl 1 rfl) ?_
      refine lv_dup X.1 X.2.1 dX2_put_81 rfl ?_
      refine gtC_8_5 X w dX2_put_82 ?_
      refine lv_iconst (v := (1 : Int32)) X.1 X.2.1 dX2_put_85 (by decide) ?_
      refine lv_iadd X.1 X.2.1 dX2_put_86 ?_
      refine ptC_8_5 X w dX2_put_87 (fun H locs w => ?_)
      obtain ⟨M10, eM10, hf⟩ := px_bn_e hf
      rw [← eM10] at w
      cases hf
      exact px_retV X hr hlk w dX2_put_90
    · have hf := px_in c2 hf
      refine lv_aload_n X.1 X.2.1 dX2_put_28 rfl (lv_at hl 0 rfl) ?_
      refine gtC_8_4 X w dX2_put_29 ?_
      refine lv_aload_n X.1 X.2.1 dX2_put_32 rfl (lv_at hl 0 rfl) ?_
      refine gtC_8_5 X w dX2_put_33 ?_
      refine lv_iadd X.1 X.2.1 dX2_put_36 ?_
      refine lv_goto (tgt := 54) X.1 X.2.1 dX2_put_37 (by decide) ?_
      obtain ⟨x11, ex11, hf⟩ := px_bn_e hf
      rw [← ex11]
      refine lv_istore (lv' := [(4, .int x11), (0, .ref (ad 8)), (1, .int p1), (2, .int p2), (3, .int p3)]) X.1 X.2.1 dX2_put_54 hl (by decide) rfl (fun ls hl => ?_)
      refine lv_aload_n X.1 X.2.1 dX2_put_56 rfl (lv_at hl 1 rfl) ?_
      refine gtC_8_1 X w dX2_put_57 ?_
      refine lv_iload X.1 X.2.1 dX2_put_60 (lv_at hl 0 rfl) ?_
      refine lv_iload_n X.1 X.2.1 dX2_put_62 rfl (lv_at hl 2 rfl) ?_
      obtain ⟨b12, hf⟩ := px_ck_e hf
      refine isC_9 X w b12 dX2_put_63 (fun H locs w => ?_)
      obtain ⟨M13, eM13, hf⟩ := px_bn_e hf
      rw [← eM13] at w
      refine lv_aload_n X.1 X.2.1 dX2_put_64 rfl (lv_at hl 1 rfl) ?_
      refine gtC_8_2 X w dX2_put_65 ?_
      refine lv_iload X.1 X.2.1 dX2_put_68 (lv_at hl 0 rfl) ?_
      refine lv_iload_n X.1 X.2.1 dX2_put_70 rfl (lv_at hl 3 rfl) ?_
      obtain ⟨b14, hf⟩ := px_ck_e hf
      refine isC_10 X w b14 dX2_put_71 (fun H locs w => ?_)
      obtain ⟨M15, eM15, hf⟩ := px_bn_e hf
      rw [← eM15] at w
      refine lv_aload_n X.1 X.2.1 dX2_put_72 rfl (lv_at hl 1 rfl) ?_
      refine gtC_8_3 X w dX2_put_73 ?_
      refine lv_iload X.1 X.2.1 dX2_put_76 (lv_at hl 0 rfl) ?_
      refine lv_iload_n X.1 X.2.1 dX2_put_78 rfl (lv_at hl 4 rfl) ?_
      obtain ⟨b16, hf⟩ := px_ck_e hf
      refine isC_11 X w b16 dX2_put_79 (fun H locs w => ?_)
      obtain ⟨M17, eM17, hf⟩ := px_bn_e hf
      rw [← eM17] at w
      refine lv_aload_n X.1 X.2.1 dX2_put_80 rfl (lv_at hl 1 rfl) ?_
      refine lv_dup X.1 X.2.1 dX2_put_81 rfl ?_
      refine gtC_8_5 X w dX2_put_82 ?_
      refine lv_iconst (v := (1 : Int32)) X.1 X.2.1 dX2_put_85 (by decide) ?_
      refine lv_iadd X.1 X.2.1 dX2_put_86 ?_
      refine ptC_8_5 X w dX2_put_87 (fun H locs w => ?_)
      obtain ⟨M18, eM18, hf⟩ := px_bn_e hf
      rw [← eM18] at w
      cases hf
      exact px_retV X hr hlk w dX2_put_90
  · have hf := px_in c1 hf
    cases hf
    exact px_retV X hr hlk w dX2_put_11
def fC_Line_drop_8 (M : px_M) : Option px_M := (if (M 8 5) ≤ 0 then some M else (if (M 8 0) ≤ ((M 8 4) + (1 : Int32)) then px_bn (px_up M 8 4 (0 : Int32)) (fun M3 => px_bn (px_up M3 8 5 ((M3 8 5) - (1 : Int32))) (fun M4 => some M4)) else px_bn (px_up M 8 4 ((M 8 4) + (1 : Int32))) (fun M5 => px_bn (px_up M5 8 5 ((M5 8 5) - (1 : Int32))) (fun M6 => some M6))))
set_option maxHeartbeats 4000000 in
set_option maxRecDepth 100000 in
theorem cC_Line_drop_8 (l : Launch) (D : va_G) (cs : Nat → ClassId) (ad : Nat → Nat) {M : px_M} {M' : px_M} (hf : fC_Line_drop_8 M = some M') : px_mV l D (tyC cs) (wC cs ad) yX2_drop cX2_drop 1 0 [.ref (ad 8)] M M' := by
  refine px_ofV (by decide +kernel) (Nat.le_of_ble_eq_true rfl) ?_
  intro p e s m below meth c A ls X hr hlk hml w hl
  have hl : lv_has ls 1 [(0, .ref (ad 8))] := hl
  unfold fC_Line_drop_8 at hf
  refine lv_aload_n X.1 X.2.1 dX2_drop_0 rfl (lv_at hl 0 rfl) ?_
  refine gtC_8_5 X w dX2_drop_1 ?_
  refine lv_if_le (tgt := 44) X.1 X.2.1 dX2_drop_4 (by decide) (fun c1 => ?_) (fun c1 => ?_)
  · have hf := px_ip c1 hf
    cases hf
    exact px_retV X hr hlk w dX2_drop_44
  · have hf := px_in c1 hf
    refine lv_aload_n X.1 X.2.1 dX2_drop_7 rfl (lv_at hl 0 rfl) ?_
    refine lv_aload_n X.1 X.2.1 dX2_drop_8 rfl (lv_at hl 0 rfl) ?_
    refine gtC_8_4 X w dX2_drop_9 ?_
    refine lv_iconst (v := (1 : Int32)) X.1 X.2.1 dX2_drop_12 (by decide) ?_
    refine lv_iadd X.1 X.2.1 dX2_drop_13 ?_
    refine lv_aload_n X.1 X.2.1 dX2_drop_14 rfl (lv_at hl 0 rfl) ?_
    refine gtC_8_0 X w dX2_drop_15 ?_
    refine lv_icmp_ge (tgt := 30) X.1 X.2.1 dX2_drop_18 (by decide) (fun c2 => ?_) (fun c2 => ?_)
    · have hf := px_ip c2 hf
      refine lv_iconst (v := (0 : Int32)) X.1 X.2.1 dX2_drop_30 (by decide) ?_
      refine ptC_8_4 X w dX2_drop_31 (fun H locs w => ?_)
      obtain ⟨M3, eM3, hf⟩ := px_bn_e hf
      rw [← eM3] at w
      refine lv_aload_n X.1 X.2.1 dX2_drop_34 rfl (lv_at hl 0 rfl) ?_
      refine lv_dup X.1 X.2.1 dX2_drop_35 rfl ?_
      refine gtC_8_5 X w dX2_drop_36 ?_
      refine lv_iconst (v := (1 : Int32)) X.1 X.2.1 dX2_drop_39 (by decide) ?_
      refine lv_isub X.1 X.2.1 dX2_drop_40 ?_
      refine ptC_8_5 X w dX2_drop_41 (fun H locs w => ?_)
      obtain ⟨M4, eM4, hf⟩ := px_bn_e hf
      rw [← eM4] at w
      cases hf
      exact px_retV X hr hlk w dX2_drop_44
    · have hf := px_in c2 hf
      refine lv_aload_n X.1 X.2.1 dX2_drop_21 rfl (lv_at hl 0 rfl) ?_
      refine gtC_8_4 X w dX2_drop_22 ?_
      refine lv_iconst (v := (1 : Int32)) X.1 X.2.1 dX2_drop_25 (by decide) ?_
      refine lv_iadd X.1 X.2.1 dX2_drop_26 ?_
      refine lv_goto (tgt := 31) X.1 X.2.1 dX2_drop_27 (by decide) ?_
      refine ptC_8_4 X w dX2_drop_31 (fun H locs w => ?_)
      obtain ⟨M5, eM5, hf⟩ := px_bn_e hf
      rw [← eM5] at w
      refine lv_aload_n X.1 X.2.1 dX2_drop_34 rfl (lv_at hl 0 rfl) ?_
      refine lv_dup X.1 X.2.1 dX2_drop_35 rfl ?_
      refine gtC_8_5 X w dX2_drop_36 ?_
      refine lv_iconst (v := (1 : Int32)) X.1 X.2.1 dX2_drop_39 (by decide) ?_
      refine lv_isub X.1 X.2.1 dX2_drop_40 ?_
      refine ptC_8_5 X w dX2_drop_41 (fun H locs w => ?_)
      obtain ⟨M6, eM6, hf⟩ := px_bn_e hf
      rw [← eM6] at w
      cases hf
      exact px_retV X hr hlk w dX2_drop_44
def fC_Line_size_12 (M : px_M) : Option Int32 := some (M 12 5)
set_option maxHeartbeats 4000000 in
set_option maxRecDepth 100000 in
theorem cC_Line_size_12 (l : Launch) (D : va_G) (cs : Nat → ClassId) (ad : Nat → Nat) {M : px_M} {r : Int32} (hf : fC_Line_size_12 M = some r) : px_mI l D (tyC cs) (wC cs ad) yX2_size cX2_size 1 (some .int) 0 [.ref (ad 12)] M r M := by
  refine px_ofI (by decide +kernel) (Nat.le_of_ble_eq_true rfl) ?_
  intro p e s m below meth c A ls X hr hlk hml w hl
  have hl : lv_has ls 1 [(0, .ref (ad 12))] := hl
  unfold fC_Line_size_12 at hf
  refine lv_aload_n X.1 X.2.1 dX2_size_0 rfl (lv_at hl 0 rfl) ?_
  refine gtC_12_5 X w dX2_size_1 ?_
  cases hf
  exact px_retI X hr hlk w dX2_size_4
def fC_Line_kind_12 (M : px_M) : Option Int32 := px_ck (M 12 4) 1051 (some (M 13 (M 12 4).toNatClampNeg))
set_option maxHeartbeats 4000000 in
set_option maxRecDepth 100000 in
theorem cC_Line_kind_12 (l : Launch) (D : va_G) (cs : Nat → ClassId) (ad : Nat → Nat) {M : px_M} {r : Int32} (hf : fC_Line_kind_12 M = some r) : px_mI l D (tyC cs) (wC cs ad) yX2_kind cX2_kind 1 (some .int) 0 [.ref (ad 12)] M r M := by
  refine px_ofI (by decide +kernel) (Nat.le_of_ble_eq_true rfl) ?_
  intro p e s m below meth c A ls X hr hlk hml w hl
  have hl : lv_has ls 1 [(0, .ref (ad 12))] := hl
  unfold fC_Line_kind_12 at hf
  refine lv_aload_n X.1 X.2.1 dX2_kind_0 rfl (lv_at hl 0 rfl) ?_
  refine gtC_12_1 X w dX2_kind_1 ?_
  refine lv_aload_n X.1 X.2.1 dX2_kind_4 rfl (lv_at hl 0 rfl) ?_
  refine gtC_12_4 X w dX2_kind_5 ?_
  obtain ⟨b1, hf⟩ := px_ck_e hf
  refine ilC_13 X w b1 dX2_kind_8 ?_
  cases hf
  exact px_retI X hr hlk w dX2_kind_9
def fC_Line_subject_12 (M : px_M) : Option Int32 := px_ck (M 12 4) 1051 (some (M 14 (M 12 4).toNatClampNeg))
set_option maxHeartbeats 4000000 in
set_option maxRecDepth 100000 in
theorem cC_Line_subject_12 (l : Launch) (D : va_G) (cs : Nat → ClassId) (ad : Nat → Nat) {M : px_M} {r : Int32} (hf : fC_Line_subject_12 M = some r) : px_mI l D (tyC cs) (wC cs ad) yX2_subject cX2_subject 1 (some .int) 0 [.ref (ad 12)] M r M := by
  refine px_ofI (by decide +kernel) (Nat.le_of_ble_eq_true rfl) ?_
  intro p e s m below meth c A ls X hr hlk hml w hl
  have hl : lv_has ls 1 [(0, .ref (ad 12))] := hl
  unfold fC_Line_subject_12 at hf
  refine lv_aload_n X.1 X.2.1 dX2_subject_0 rfl (lv_at hl 0 rfl) ?_
  refine gtC_12_2 X w dX2_subject_1 ?_
  refine lv_aload_n X.1 X.2.1 dX2_subject_4 rfl (lv_at hl 0 rfl) ?_
  refine gtC_12_4 X w dX2_subject_5 ?_
  obtain ⟨b1, hf⟩ := px_ck_e hf
  refine ilC_14 X w b1 dX2_subject_8 ?_
  cases hf
  exact px_retI X hr hlk w dX2_subject_9
def fC_Line_number_12 (M : px_M) : Option Int32 := px_ck (M 12 4) 1051 (some (M 15 (M 12 4).toNatClampNeg))
set_option maxHeartbeats 4000000 in
set_option maxRecDepth 100000 in
theorem cC_Line_number_12 (l : Launch) (D : va_G) (cs : Nat → ClassId) (ad : Nat → Nat) {M : px_M} {r : Int32} (hf : fC_Line_number_12 M = some r) : px_mI l D (tyC cs) (wC cs ad) yX2_number cX2_number 1 (some .int) 0 [.ref (ad 12)] M r M := by
  refine px_ofI (by decide +kernel) (Nat.le_of_ble_eq_true rfl) ?_
  intro p e s m below meth c A ls X hr hlk hml w hl
  have hl : lv_has ls 1 [(0, .ref (ad 12))] := hl
  unfold fC_Line_number_12 at hf
  refine lv_aload_n X.1 X.2.1 dX2_number_0 rfl (lv_at hl 0 rfl) ?_
  refine gtC_12_3 X w dX2_number_1 ?_
  refine lv_aload_n X.1 X.2.1 dX2_number_4 rfl (lv_at hl 0 rfl) ?_
  refine gtC_12_4 X w dX2_number_5 ?_
  obtain ⟨b1, hf⟩ := px_ck_e hf
  refine ilC_15 X w b1 dX2_number_8 ?_
  cases hf
  exact px_retI X hr hlk w dX2_number_9
def fC_Line_put_12 (M : px_M) (p1 p2 p3 : Int32) : Option px_M := (if (M 12 5) < (M 12 0) then (if (M 12 0) ≤ ((M 12 4) + (M 12 5)) then px_bn ((((M 12 4) + (M 12 5)) - (M 12 0))) (fun x3 => px_ck x3 1051 (px_bn (px_up M 13 x3.toNatClampNeg p1) (fun M5 => px_ck x3 1051 (px_bn (px_up M5 14 x3.toNatClampNeg p2) (fun M7 => px_ck x3 1051 (px_bn (px_up M7 15 x3.toNatClampNeg p3) (fun M9 => px_bn (px_up M9 12 5 ((M9 12 5) + (1 : Int32))) (fun M10 => some M10)))))))) else px_bn (((M 12 4) + (M 12 5))) (fun x11 => px_ck x11 1051 (px_bn (px_up M 13 x11.toNatClampNeg p1) (fun M13 => px_ck x11 1051 (px_bn (px_up M13 14 x11.toNatClampNeg p2) (fun M15 => px_ck x11 1051 (px_bn (px_up M15 15 x11.toNatClampNeg p3) (fun M17 => px_bn (px_up M17 12 5 ((M17 12 5) + (1 : Int32))) (fun M18 => some M18))))))))) else some M)
set_option maxHeartbeats 4000000 in
set_option maxRecDepth 100000 in
theorem cC_Line_put_12 (l : Launch) (D : va_G) (cs : Nat → ClassId) (ad : Nat → Nat) {M : px_M} {p1 p2 p3 : Int32} {M' : px_M} (hf : fC_Line_put_12 M p1 p2 p3 = some M') : px_mV l D (tyC cs) (wC cs ad) yX2_put cX2_put 5 0 [.ref (ad 12), .int p1, .int p2, .int p3] M M' := by
  refine px_ofV (by decide +kernel) (Nat.le_of_ble_eq_true rfl) ?_
  intro p e s m below meth c A ls X hr hlk hml w hl
  have hl : lv_has ls 5 [(0, .ref (ad 12)), (1, .int p1), (2, .int p2), (3, .int p3)] := hl
  unfold fC_Line_put_12 at hf
  refine lv_aload_n X.1 X.2.1 dX2_put_0 rfl (lv_at hl 0 rfl) ?_
  refine gtC_12_5 X w dX2_put_1 ?_
  refine lv_aload_n X.1 X.2.1 dX2_put_4 rfl (lv_at hl 0 rfl) ?_
  refine gtC_12_0 X w dX2_put_5 ?_
  refine lv_icmp_lt (tgt := 12) X.1 X.2.1 dX2_put_8 (by decide) (fun c1 => ?_) (fun c1 => ?_)
  · have hf := px_ip c1 hf
    refine lv_aload_n X.1 X.2.1 dX2_put_12 rfl (lv_at hl 0 rfl) ?_
    refine gtC_12_4 X w dX2_put_13 ?_
    refine lv_aload_n X.1 X.2.1 dX2_put_16 rfl (lv_at hl 0 rfl) ?_
    refine gtC_12_5 X w dX2_put_17 ?_
    refine lv_iadd X.1 X.2.1 dX2_put_20 ?_
    refine lv_aload_n X.1 X.2.1 dX2_put_21 rfl (lv_at hl 0 rfl) ?_
    refine gtC_12_0 X w dX2_put_22 ?_
    refine lv_icmp_ge (tgt := 40) X.1 X.2.1 dX2_put_25 (by decide) (fun c2 => ?_) (fun c2 => ?_)
    · have hf := px_ip c2 hf
      refine lv_aload_n X.1 X.2.1 dX2_put_40 rfl (lv_at hl 0 rfl) ?_
      refine gtC_12_4 X w dX2_put_41 ?_
      refine lv_aload_n X.1 X.2.1 dX2_put_44 rfl (lv_at hl 0 rfl) ?_
      refine gtC_12_5 X w dX2_put_45 ?_
      refine lv_iadd X.1 X.2.1 dX2_put_48 ?_
      refine lv_aload_n X.1 X.2.1 dX2_put_49 rfl (lv_at hl 0 rfl) ?_
      refine gtC_12_0 X w dX2_put_50 ?_
      refine lv_isub X.1 X.2.1 dX2_put_53 ?_
      obtain ⟨x3, ex3, hf⟩ := px_bn_e hf
      rw [← ex3]
      refine lv_istore (lv' := [(4, .int x3), (0, .ref (ad 12)), (1, .int p1), (2, .int p2), (3, .int p3)]) X.1 X.2.1 dX2_put_54 hl (by decide) rfl (fun ls hl => ?_)
      refine lv_aload_n X.1 X.2.1 dX2_put_56 rfl (lv_at hl 1 rfl) ?_
      refine gtC_12_1 X w dX2_put_57 ?_
      refine lv_iload X.1 X.2.1 dX2_put_60 (lv_at hl 0 rfl) ?_
      refine lv_iload_n X.1 X.2.1 dX2_put_62 rfl (lv_at hl 2 rfl) ?_
      obtain ⟨b4, hf⟩ := px_ck_e hf
      refine isC_13 X w b4 dX2_put_63 (fun H locs w => ?_)
      obtain ⟨M5, eM5, hf⟩ := px_bn_e hf
      rw [← eM5] at w
      refine lv_aload_n X.1 X.2.1 dX2_put_64 rfl (lv_at hl 1 rfl) ?_
      refine gtC_12_2 X w dX2_put_65 ?_
      refine lv_iload X.1 X.2.1 dX2_put_68 (lv_at hl 0 rfl) ?_
      refine lv_iload_n X.1 X.2.1 dX2_put_70 rfl (lv_at hl 3 rfl) ?_
      obtain ⟨b6, hf⟩ := px_ck_e hf
      refine isC_14 X w b6 dX2_put_71 (fun H locs w => ?_)
      obtain ⟨M7, eM7, hf⟩ := px_bn_e hf
      rw [← eM7] at w
      refine lv_aload_n X.1 X.2.1 dX2_put_72 rfl (lv_at hl 1 rfl) ?_
      refine gtC_12_3 X w dX2_put_73 ?_
      refine lv_iload X.1 X.2.1 dX2_put_76 (lv_at hl 0 rfl) ?_
      refine lv_iload_n X.1 X.2.1 dX2_put_78 rfl (lv_at hl 4 rfl) ?_
      obtain ⟨b8, hf⟩ := px_ck_e hf
      refine isC_15 X w b8 dX2_put_79 (fun H locs w => ?_)
      obtain ⟨M9, eM9, hf⟩ := px_bn_e hf
      rw [← eM9] at w
      refine lv_aload_n X.1 X.2.1 dX2_put_80 rfl (lv_at hl 1 rfl) ?_
      refine lv_dup X.1 X.2.1 dX2_put_81 rfl ?_
      refine gtC_12_5 X w dX2_put_82 ?_
      refine lv_iconst (v := (1 : Int32)) X.1 X.2.1 dX2_put_85 (by decide) ?_
      refine lv_iadd X.1 X.2.1 dX2_put_86 ?_
      refine ptC_12_5 X w dX2_put_87 (fun H locs w => ?_)
      obtain ⟨M10, eM10, hf⟩ := px_bn_e hf
      rw [← eM10] at w
      cases hf
      exact px_retV X hr hlk w dX2_put_90
    · have hf := px_in c2 hf
      refine lv_aload_n X.1 X.2.1 dX2_put_28 rfl (lv_at hl 0 rfl) ?_
      refine gtC_12_4 X w dX2_put_29 ?_
      refine lv_aload_n X.1 X.2.1 dX2_put_32 rfl (lv_at hl 0 rfl) ?_
      refine gtC_12_5 X w dX2_put_33 ?_
      refine lv_iadd X.1 X.2.1 dX2_put_36 ?_
      refine lv_goto (tgt := 54) X.1 X.2.1 dX2_put_37 (by decide) ?_
      obtain ⟨x11, ex11, hf⟩ := px_bn_e hf
      rw [← ex11]
      refine lv_istore (lv' := [(4, .int x11), (0, .ref (ad 12)), (1, .int p1), (2, .int p2), (3, .int p3)]) X.1 X.2.1 dX2_put_54 hl (by decide) rfl (fun ls hl => ?_)
      refine lv_aload_n X.1 X.2.1 dX2_put_56 rfl (lv_at hl 1 rfl) ?_
      refine gtC_12_1 X w dX2_put_57 ?_
      refine lv_iload X.1 X.2.1 dX2_put_60 (lv_at hl 0 rfl) ?_
      refine lv_iload_n X.1 X.2.1 dX2_put_62 rfl (lv_at hl 2 rfl) ?_
      obtain ⟨b12, hf⟩ := px_ck_e hf
      refine isC_13 X w b12 dX2_put_63 (fun H locs w => ?_)
      obtain ⟨M13, eM13, hf⟩ := px_bn_e hf
      rw [← eM13] at w
      refine lv_aload_n X.1 X.2.1 dX2_put_64 rfl (lv_at hl 1 rfl) ?_
      refine gtC_12_2 X w dX2_put_65 ?_
      refine lv_iload X.1 X.2.1 dX2_put_68 (lv_at hl 0 rfl) ?_
      refine lv_iload_n X.1 X.2.1 dX2_put_70 rfl (lv_at hl 3 rfl) ?_
      obtain ⟨b14, hf⟩ := px_ck_e hf
      refine isC_14 X w b14 dX2_put_71 (fun H locs w => ?_)
      obtain ⟨M15, eM15, hf⟩ := px_bn_e hf
      rw [← eM15] at w
      refine lv_aload_n X.1 X.2.1 dX2_put_72 rfl (lv_at hl 1 rfl) ?_
      refine gtC_12_3 X w dX2_put_73 ?_
      refine lv_iload X.1 X.2.1 dX2_put_76 (lv_at hl 0 rfl) ?_
      refine lv_iload_n X.1 X.2.1 dX2_put_78 rfl (lv_at hl 4 rfl) ?_
      obtain ⟨b16, hf⟩ := px_ck_e hf
      refine isC_15 X w b16 dX2_put_79 (fun H locs w => ?_)
      obtain ⟨M17, eM17, hf⟩ := px_bn_e hf
      rw [← eM17] at w
      refine lv_aload_n X.1 X.2.1 dX2_put_80 rfl (lv_at hl 1 rfl) ?_
      refine lv_dup X.1 X.2.1 dX2_put_81 rfl ?_
      refine gtC_12_5 X w dX2_put_82 ?_
      refine lv_iconst (v := (1 : Int32)) X.1 X.2.1 dX2_put_85 (by decide) ?_
      refine lv_iadd X.1 X.2.1 dX2_put_86 ?_
      refine ptC_12_5 X w dX2_put_87 (fun H locs w => ?_)
      obtain ⟨M18, eM18, hf⟩ := px_bn_e hf
      rw [← eM18] at w
      cases hf
      exact px_retV X hr hlk w dX2_put_90
  · have hf := px_in c1 hf
    cases hf
    exact px_retV X hr hlk w dX2_put_11
def fC_Line_drop_12 (M : px_M) : Option px_M := (if (M 12 5) ≤ 0 then some M else (if (M 12 0) ≤ ((M 12 4) + (1 : Int32)) then px_bn (px_up M 12 4 (0 : Int32)) (fun M3 => px_bn (px_up M3 12 5 ((M3 12 5) - (1 : Int32))) (fun M4 => some M4)) else px_bn (px_up M 12 4 ((M 12 4) + (1 : Int32))) (fun M5 => px_bn (px_up M5 12 5 ((M5 12 5) - (1 : Int32))) (fun M6 => some M6))))
set_option maxHeartbeats 4000000 in
set_option maxRecDepth 100000 in
theorem cC_Line_drop_12 (l : Launch) (D : va_G) (cs : Nat → ClassId) (ad : Nat → Nat) {M : px_M} {M' : px_M} (hf : fC_Line_drop_12 M = some M') : px_mV l D (tyC cs) (wC cs ad) yX2_drop cX2_drop 1 0 [.ref (ad 12)] M M' := by
  refine px_ofV (by decide +kernel) (Nat.le_of_ble_eq_true rfl) ?_
  intro p e s m below meth c A ls X hr hlk hml w hl
  have hl : lv_has ls 1 [(0, .ref (ad 12))] := hl
  unfold fC_Line_drop_12 at hf
  refine lv_aload_n X.1 X.2.1 dX2_drop_0 rfl (lv_at hl 0 rfl) ?_
  refine gtC_12_5 X w dX2_drop_1 ?_
  refine lv_if_le (tgt := 44) X.1 X.2.1 dX2_drop_4 (by decide) (fun c1 => ?_) (fun c1 => ?_)
  · have hf := px_ip c1 hf
    cases hf
    exact px_retV X hr hlk w dX2_drop_44
  · have hf := px_in c1 hf
    refine lv_aload_n X.1 X.2.1 dX2_drop_7 rfl (lv_at hl 0 rfl) ?_
    refine lv_aload_n X.1 X.2.1 dX2_drop_8 rfl (lv_at hl 0 rfl) ?_
    refine gtC_12_4 X w dX2_drop_9 ?_
    refine lv_iconst (v := (1 : Int32)) X.1 X.2.1 dX2_drop_12 (by decide) ?_
    refine lv_iadd X.1 X.2.1 dX2_drop_13 ?_
    refine lv_aload_n X.1 X.2.1 dX2_drop_14 rfl (lv_at hl 0 rfl) ?_
    refine gtC_12_0 X w dX2_drop_15 ?_
    refine lv_icmp_ge (tgt := 30) X.1 X.2.1 dX2_drop_18 (by decide) (fun c2 => ?_) (fun c2 => ?_)
    · have hf := px_ip c2 hf
      refine lv_iconst (v := (0 : Int32)) X.1 X.2.1 dX2_drop_30 (by decide) ?_
      refine ptC_12_4 X w dX2_drop_31 (fun H locs w => ?_)
      obtain ⟨M3, eM3, hf⟩ := px_bn_e hf
      rw [← eM3] at w
      refine lv_aload_n X.1 X.2.1 dX2_drop_34 rfl (lv_at hl 0 rfl) ?_
      refine lv_dup X.1 X.2.1 dX2_drop_35 rfl ?_
      refine gtC_12_5 X w dX2_drop_36 ?_
      refine lv_iconst (v := (1 : Int32)) X.1 X.2.1 dX2_drop_39 (by decide) ?_
      refine lv_isub X.1 X.2.1 dX2_drop_40 ?_
      refine ptC_12_5 X w dX2_drop_41 (fun H locs w => ?_)
      obtain ⟨M4, eM4, hf⟩ := px_bn_e hf
      rw [← eM4] at w
      cases hf
      exact px_retV X hr hlk w dX2_drop_44
    · have hf := px_in c2 hf
      refine lv_aload_n X.1 X.2.1 dX2_drop_21 rfl (lv_at hl 0 rfl) ?_
      refine gtC_12_4 X w dX2_drop_22 ?_
      refine lv_iconst (v := (1 : Int32)) X.1 X.2.1 dX2_drop_25 (by decide) ?_
      refine lv_iadd X.1 X.2.1 dX2_drop_26 ?_
      refine lv_goto (tgt := 31) X.1 X.2.1 dX2_drop_27 (by decide) ?_
      refine ptC_12_4 X w dX2_drop_31 (fun H locs w => ?_)
      obtain ⟨M5, eM5, hf⟩ := px_bn_e hf
      rw [← eM5] at w
      refine lv_aload_n X.1 X.2.1 dX2_drop_34 rfl (lv_at hl 0 rfl) ?_
      refine lv_dup X.1 X.2.1 dX2_drop_35 rfl ?_
      refine gtC_12_5 X w dX2_drop_36 ?_
      refine lv_iconst (v := (1 : Int32)) X.1 X.2.1 dX2_drop_39 (by decide) ?_
      refine lv_isub X.1 X.2.1 dX2_drop_40 ?_
      refine ptC_12_5 X w dX2_drop_41 (fun H locs w => ?_)
      obtain ⟨M6, eM6, hf⟩ := px_bn_e hf
      rw [← eM6] at w
      cases hf
      exact px_retV X hr hlk w dX2_drop_44
def fC_Line_size_16 (M : px_M) : Option Int32 := some (M 16 5)
set_option maxHeartbeats 4000000 in
set_option maxRecDepth 100000 in
theorem cC_Line_size_16 (l : Launch) (D : va_G) (cs : Nat → ClassId) (ad : Nat → Nat) {M : px_M} {r : Int32} (hf : fC_Line_size_16 M = some r) : px_mI l D (tyC cs) (wC cs ad) yX2_size cX2_size 1 (some .int) 0 [.ref (ad 16)] M r M := by
  refine px_ofI (by decide +kernel) (Nat.le_of_ble_eq_true rfl) ?_
  intro p e s m below meth c A ls X hr hlk hml w hl
  have hl : lv_has ls 1 [(0, .ref (ad 16))] := hl
  unfold fC_Line_size_16 at hf
  refine lv_aload_n X.1 X.2.1 dX2_size_0 rfl (lv_at hl 0 rfl) ?_
  refine gtC_16_5 X w dX2_size_1 ?_
  cases hf
  exact px_retI X hr hlk w dX2_size_4
def fC_Line_kind_16 (M : px_M) : Option Int32 := px_ck (M 16 4) 40 (some (M 17 (M 16 4).toNatClampNeg))
set_option maxHeartbeats 4000000 in
set_option maxRecDepth 100000 in
theorem cC_Line_kind_16 (l : Launch) (D : va_G) (cs : Nat → ClassId) (ad : Nat → Nat) {M : px_M} {r : Int32} (hf : fC_Line_kind_16 M = some r) : px_mI l D (tyC cs) (wC cs ad) yX2_kind cX2_kind 1 (some .int) 0 [.ref (ad 16)] M r M := by
  refine px_ofI (by decide +kernel) (Nat.le_of_ble_eq_true rfl) ?_
  intro p e s m below meth c A ls X hr hlk hml w hl
  have hl : lv_has ls 1 [(0, .ref (ad 16))] := hl
  unfold fC_Line_kind_16 at hf
  refine lv_aload_n X.1 X.2.1 dX2_kind_0 rfl (lv_at hl 0 rfl) ?_
  refine gtC_16_1 X w dX2_kind_1 ?_
  refine lv_aload_n X.1 X.2.1 dX2_kind_4 rfl (lv_at hl 0 rfl) ?_
  refine gtC_16_4 X w dX2_kind_5 ?_
  obtain ⟨b1, hf⟩ := px_ck_e hf
  refine ilC_17 X w b1 dX2_kind_8 ?_
  cases hf
  exact px_retI X hr hlk w dX2_kind_9
def fC_Line_subject_16 (M : px_M) : Option Int32 := px_ck (M 16 4) 40 (some (M 18 (M 16 4).toNatClampNeg))
set_option maxHeartbeats 4000000 in
set_option maxRecDepth 100000 in
theorem cC_Line_subject_16 (l : Launch) (D : va_G) (cs : Nat → ClassId) (ad : Nat → Nat) {M : px_M} {r : Int32} (hf : fC_Line_subject_16 M = some r) : px_mI l D (tyC cs) (wC cs ad) yX2_subject cX2_subject 1 (some .int) 0 [.ref (ad 16)] M r M := by
  refine px_ofI (by decide +kernel) (Nat.le_of_ble_eq_true rfl) ?_
  intro p e s m below meth c A ls X hr hlk hml w hl
  have hl : lv_has ls 1 [(0, .ref (ad 16))] := hl
  unfold fC_Line_subject_16 at hf
  refine lv_aload_n X.1 X.2.1 dX2_subject_0 rfl (lv_at hl 0 rfl) ?_
  refine gtC_16_2 X w dX2_subject_1 ?_
  refine lv_aload_n X.1 X.2.1 dX2_subject_4 rfl (lv_at hl 0 rfl) ?_
  refine gtC_16_4 X w dX2_subject_5 ?_
  obtain ⟨b1, hf⟩ := px_ck_e hf
  refine ilC_18 X w b1 dX2_subject_8 ?_
  cases hf
  exact px_retI X hr hlk w dX2_subject_9
def fC_Line_number_16 (M : px_M) : Option Int32 := px_ck (M 16 4) 40 (some (M 19 (M 16 4).toNatClampNeg))
set_option maxHeartbeats 4000000 in
set_option maxRecDepth 100000 in
theorem cC_Line_number_16 (l : Launch) (D : va_G) (cs : Nat → ClassId) (ad : Nat → Nat) {M : px_M} {r : Int32} (hf : fC_Line_number_16 M = some r) : px_mI l D (tyC cs) (wC cs ad) yX2_number cX2_number 1 (some .int) 0 [.ref (ad 16)] M r M := by
  refine px_ofI (by decide +kernel) (Nat.le_of_ble_eq_true rfl) ?_
  intro p e s m below meth c A ls X hr hlk hml w hl
  have hl : lv_has ls 1 [(0, .ref (ad 16))] := hl
  unfold fC_Line_number_16 at hf
  refine lv_aload_n X.1 X.2.1 dX2_number_0 rfl (lv_at hl 0 rfl) ?_
  refine gtC_16_3 X w dX2_number_1 ?_
  refine lv_aload_n X.1 X.2.1 dX2_number_4 rfl (lv_at hl 0 rfl) ?_
  refine gtC_16_4 X w dX2_number_5 ?_
  obtain ⟨b1, hf⟩ := px_ck_e hf
  refine ilC_19 X w b1 dX2_number_8 ?_
  cases hf
  exact px_retI X hr hlk w dX2_number_9
def fC_Line_put_16 (M : px_M) (p1 p2 p3 : Int32) : Option px_M := (if (M 16 5) < (M 16 0) then (if (M 16 0) ≤ ((M 16 4) + (M 16 5)) then px_bn ((((M 16 4) + (M 16 5)) - (M 16 0))) (fun x3 => px_ck x3 40 (px_bn (px_up M 17 x3.toNatClampNeg p1) (fun M5 => px_ck x3 40 (px_bn (px_up M5 18 x3.toNatClampNeg p2) (fun M7 => px_ck x3 40 (px_bn (px_up M7 19 x3.toNatClampNeg p3) (fun M9 => px_bn (px_up M9 16 5 ((M9 16 5) + (1 : Int32))) (fun M10 => some M10)))))))) else px_bn (((M 16 4) + (M 16 5))) (fun x11 => px_ck x11 40 (px_bn (px_up M 17 x11.toNatClampNeg p1) (fun M13 => px_ck x11 40 (px_bn (px_up M13 18 x11.toNatClampNeg p2) (fun M15 => px_ck x11 40 (px_bn (px_up M15 19 x11.toNatClampNeg p3) (fun M17 => px_bn (px_up M17 16 5 ((M17 16 5) + (1 : Int32))) (fun M18 => some M18))))))))) else some M)
set_option maxHeartbeats 4000000 in
set_option maxRecDepth 100000 in
theorem cC_Line_put_16 (l : Launch) (D : va_G) (cs : Nat → ClassId) (ad : Nat → Nat) {M : px_M} {p1 p2 p3 : Int32} {M' : px_M} (hf : fC_Line_put_16 M p1 p2 p3 = some M') : px_mV l D (tyC cs) (wC cs ad) yX2_put cX2_put 5 0 [.ref (ad 16), .int p1, .int p2, .int p3] M M' := by
  refine px_ofV (by decide +kernel) (Nat.le_of_ble_eq_true rfl) ?_
  intro p e s m below meth c A ls X hr hlk hml w hl
  have hl : lv_has ls 5 [(0, .ref (ad 16)), (1, .int p1), (2, .int p2), (3, .int p3)] := hl
  unfold fC_Line_put_16 at hf
  refine lv_aload_n X.1 X.2.1 dX2_put_0 rfl (lv_at hl 0 rfl) ?_
  refine gtC_16_5 X w dX2_put_1 ?_
  refine lv_aload_n X.1 X.2.1 dX2_put_4 rfl (lv_at hl 0 rfl) ?_
  refine gtC_16_0 X w dX2_put_5 ?_
  refine lv_icmp_lt (tgt := 12) X.1 X.2.1 dX2_put_8 (by decide) (fun c1 => ?_) (fun c1 => ?_)
  · have hf := px_ip c1 hf
    refine lv_aload_n X.1 X.2.1 dX2_put_12 rfl (lv_at hl 0 rfl) ?_
    refine gtC_16_4 X w dX2_put_13 ?_
    refine lv_aload_n X.1 X.2.1 dX2_put_16 rfl (lv_at hl 0 rfl) ?_
    refine gtC_16_5 X w dX2_put_17 ?_
    refine lv_iadd X.1 X.2.1 dX2_put_20 ?_
    refine lv_aload_n X.1 X.2.1 dX2_put_21 rfl (lv_at hl 0 rfl) ?_
    refine gtC_16_0 X w dX2_put_22 ?_
    refine lv_icmp_ge (tgt := 40) X.1 X.2.1 dX2_put_25 (by decide) (fun c2 => ?_) (fun c2 => ?_)
    · have hf := px_ip c2 hf
      refine lv_aload_n X.1 X.2.1 dX2_put_40 rfl (lv_at hl 0 rfl) ?_
      refine gtC_16_4 X w dX2_put_41 ?_
      refine lv_aload_n X.1 X.2.1 dX2_put_44 rfl (lv_at hl 0 rfl) ?_
      refine gtC_16_5 X w dX2_put_45 ?_
      refine lv_iadd X.1 X.2.1 dX2_put_48 ?_
      refine lv_aload_n X.1 X.2.1 dX2_put_49 rfl (lv_at hl 0 rfl) ?_
      refine gtC_16_0 X w dX2_put_50 ?_
      refine lv_isub X.1 X.2.1 dX2_put_53 ?_
      obtain ⟨x3, ex3, hf⟩ := px_bn_e hf
      rw [← ex3]
      refine lv_istore (lv' := [(4, .int x3), (0, .ref (ad 16)), (1, .int p1), (2, .int p2), (3, .int p3)]) X.1 X.2.1 dX2_put_54 hl (by decide) rfl (fun ls hl => ?_)
      refine lv_aload_n X.1 X.2.1 dX2_put_56 rfl (lv_at hl 1 rfl) ?_
      refine gtC_16_1 X w dX2_put_57 ?_
      refine lv_iload X.1 X.2.1 dX2_put_60 (lv_at hl 0 rfl) ?_
      refine lv_iload_n X.1 X.2.1 dX2_put_62 rfl (lv_at hl 2 rfl) ?_
      obtain ⟨b4, hf⟩ := px_ck_e hf
      refine isC_17 X w b4 dX2_put_63 (fun H locs w => ?_)
      obtain ⟨M5, eM5, hf⟩ := px_bn_e hf
      rw [← eM5] at w
      refine lv_aload_n X.1 X.2.1 dX2_put_64 rfl (lv_at hl 1 rfl) ?_
      refine gtC_16_2 X w dX2_put_65 ?_
      refine lv_iload X.1 X.2.1 dX2_put_68 (lv_at hl 0 rfl) ?_
      refine lv_iload_n X.1 X.2.1 dX2_put_70 rfl (lv_at hl 3 rfl) ?_
      obtain ⟨b6, hf⟩ := px_ck_e hf
      refine isC_18 X w b6 dX2_put_71 (fun H locs w => ?_)
      obtain ⟨M7, eM7, hf⟩ := px_bn_e hf
      rw [← eM7] at w
      refine lv_aload_n X.1 X.2.1 dX2_put_72 rfl (lv_at hl 1 rfl) ?_
      refine gtC_16_3 X w dX2_put_73 ?_
      refine lv_iload X.1 X.2.1 dX2_put_76 (lv_at hl 0 rfl) ?_
      refine lv_iload_n X.1 X.2.1 dX2_put_78 rfl (lv_at hl 4 rfl) ?_
      obtain ⟨b8, hf⟩ := px_ck_e hf
      refine isC_19 X w b8 dX2_put_79 (fun H locs w => ?_)
      obtain ⟨M9, eM9, hf⟩ := px_bn_e hf
      rw [← eM9] at w
      refine lv_aload_n X.1 X.2.1 dX2_put_80 rfl (lv_at hl 1 rfl) ?_
      refine lv_dup X.1 X.2.1 dX2_put_81 rfl ?_
      refine gtC_16_5 X w dX2_put_82 ?_
      refine lv_iconst (v := (1 : Int32)) X.1 X.2.1 dX2_put_85 (by decide) ?_
      refine lv_iadd X.1 X.2.1 dX2_put_86 ?_
      refine ptC_16_5 X w dX2_put_87 (fun H locs w => ?_)
      obtain ⟨M10, eM10, hf⟩ := px_bn_e hf
      rw [← eM10] at w
      cases hf
      exact px_retV X hr hlk w dX2_put_90
    · have hf := px_in c2 hf
      refine lv_aload_n X.1 X.2.1 dX2_put_28 rfl (lv_at hl 0 rfl) ?_
      refine gtC_16_4 X w dX2_put_29 ?_
      refine lv_aload_n X.1 X.2.1 dX2_put_32 rfl (lv_at hl 0 rfl) ?_
      refine gtC_16_5 X w dX2_put_33 ?_
      refine lv_iadd X.1 X.2.1 dX2_put_36 ?_
      refine lv_goto (tgt := 54) X.1 X.2.1 dX2_put_37 (by decide) ?_
      obtain ⟨x11, ex11, hf⟩ := px_bn_e hf
      rw [← ex11]
      refine lv_istore (lv' := [(4, .int x11), (0, .ref (ad 16)), (1, .int p1), (2, .int p2), (3, .int p3)]) X.1 X.2.1 dX2_put_54 hl (by decide) rfl (fun ls hl => ?_)
      refine lv_aload_n X.1 X.2.1 dX2_put_56 rfl (lv_at hl 1 rfl) ?_
      refine gtC_16_1 X w dX2_put_57 ?_
      refine lv_iload X.1 X.2.1 dX2_put_60 (lv_at hl 0 rfl) ?_
      refine lv_iload_n X.1 X.2.1 dX2_put_62 rfl (lv_at hl 2 rfl) ?_
      obtain ⟨b12, hf⟩ := px_ck_e hf
      refine isC_17 X w b12 dX2_put_63 (fun H locs w => ?_)
      obtain ⟨M13, eM13, hf⟩ := px_bn_e hf
      rw [← eM13] at w
      refine lv_aload_n X.1 X.2.1 dX2_put_64 rfl (lv_at hl 1 rfl) ?_
      refine gtC_16_2 X w dX2_put_65 ?_
      refine lv_iload X.1 X.2.1 dX2_put_68 (lv_at hl 0 rfl) ?_
      refine lv_iload_n X.1 X.2.1 dX2_put_70 rfl (lv_at hl 3 rfl) ?_
      obtain ⟨b14, hf⟩ := px_ck_e hf
      refine isC_18 X w b14 dX2_put_71 (fun H locs w => ?_)
      obtain ⟨M15, eM15, hf⟩ := px_bn_e hf
      rw [← eM15] at w
      refine lv_aload_n X.1 X.2.1 dX2_put_72 rfl (lv_at hl 1 rfl) ?_
      refine gtC_16_3 X w dX2_put_73 ?_
      refine lv_iload X.1 X.2.1 dX2_put_76 (lv_at hl 0 rfl) ?_
      refine lv_iload_n X.1 X.2.1 dX2_put_78 rfl (lv_at hl 4 rfl) ?_
      obtain ⟨b16, hf⟩ := px_ck_e hf
      refine isC_19 X w b16 dX2_put_79 (fun H locs w => ?_)
      obtain ⟨M17, eM17, hf⟩ := px_bn_e hf
      rw [← eM17] at w
      refine lv_aload_n X.1 X.2.1 dX2_put_80 rfl (lv_at hl 1 rfl) ?_
      refine lv_dup X.1 X.2.1 dX2_put_81 rfl ?_
      refine gtC_16_5 X w dX2_put_82 ?_
      refine lv_iconst (v := (1 : Int32)) X.1 X.2.1 dX2_put_85 (by decide) ?_
      refine lv_iadd X.1 X.2.1 dX2_put_86 ?_
      refine ptC_16_5 X w dX2_put_87 (fun H locs w => ?_)
      obtain ⟨M18, eM18, hf⟩ := px_bn_e hf
      rw [← eM18] at w
      cases hf
      exact px_retV X hr hlk w dX2_put_90
  · have hf := px_in c1 hf
    cases hf
    exact px_retV X hr hlk w dX2_put_11
def fC_Line_drop_16 (M : px_M) : Option px_M := (if (M 16 5) ≤ 0 then some M else (if (M 16 0) ≤ ((M 16 4) + (1 : Int32)) then px_bn (px_up M 16 4 (0 : Int32)) (fun M3 => px_bn (px_up M3 16 5 ((M3 16 5) - (1 : Int32))) (fun M4 => some M4)) else px_bn (px_up M 16 4 ((M 16 4) + (1 : Int32))) (fun M5 => px_bn (px_up M5 16 5 ((M5 16 5) - (1 : Int32))) (fun M6 => some M6))))
set_option maxHeartbeats 4000000 in
set_option maxRecDepth 100000 in
theorem cC_Line_drop_16 (l : Launch) (D : va_G) (cs : Nat → ClassId) (ad : Nat → Nat) {M : px_M} {M' : px_M} (hf : fC_Line_drop_16 M = some M') : px_mV l D (tyC cs) (wC cs ad) yX2_drop cX2_drop 1 0 [.ref (ad 16)] M M' := by
  refine px_ofV (by decide +kernel) (Nat.le_of_ble_eq_true rfl) ?_
  intro p e s m below meth c A ls X hr hlk hml w hl
  have hl : lv_has ls 1 [(0, .ref (ad 16))] := hl
  unfold fC_Line_drop_16 at hf
  refine lv_aload_n X.1 X.2.1 dX2_drop_0 rfl (lv_at hl 0 rfl) ?_
  refine gtC_16_5 X w dX2_drop_1 ?_
  refine lv_if_le (tgt := 44) X.1 X.2.1 dX2_drop_4 (by decide) (fun c1 => ?_) (fun c1 => ?_)
  · have hf := px_ip c1 hf
    cases hf
    exact px_retV X hr hlk w dX2_drop_44
  · have hf := px_in c1 hf
    refine lv_aload_n X.1 X.2.1 dX2_drop_7 rfl (lv_at hl 0 rfl) ?_
    refine lv_aload_n X.1 X.2.1 dX2_drop_8 rfl (lv_at hl 0 rfl) ?_
    refine gtC_16_4 X w dX2_drop_9 ?_
    refine lv_iconst (v := (1 : Int32)) X.1 X.2.1 dX2_drop_12 (by decide) ?_
    refine lv_iadd X.1 X.2.1 dX2_drop_13 ?_
    refine lv_aload_n X.1 X.2.1 dX2_drop_14 rfl (lv_at hl 0 rfl) ?_
    refine gtC_16_0 X w dX2_drop_15 ?_
    refine lv_icmp_ge (tgt := 30) X.1 X.2.1 dX2_drop_18 (by decide) (fun c2 => ?_) (fun c2 => ?_)
    · have hf := px_ip c2 hf
      refine lv_iconst (v := (0 : Int32)) X.1 X.2.1 dX2_drop_30 (by decide) ?_
      refine ptC_16_4 X w dX2_drop_31 (fun H locs w => ?_)
      obtain ⟨M3, eM3, hf⟩ := px_bn_e hf
      rw [← eM3] at w
      refine lv_aload_n X.1 X.2.1 dX2_drop_34 rfl (lv_at hl 0 rfl) ?_
      refine lv_dup X.1 X.2.1 dX2_drop_35 rfl ?_
      refine gtC_16_5 X w dX2_drop_36 ?_
      refine lv_iconst (v := (1 : Int32)) X.1 X.2.1 dX2_drop_39 (by decide) ?_
      refine lv_isub X.1 X.2.1 dX2_drop_40 ?_
      refine ptC_16_5 X w dX2_drop_41 (fun H locs w => ?_)
      obtain ⟨M4, eM4, hf⟩ := px_bn_e hf
      rw [← eM4] at w
      cases hf
      exact px_retV X hr hlk w dX2_drop_44
    · have hf := px_in c2 hf
      refine lv_aload_n X.1 X.2.1 dX2_drop_21 rfl (lv_at hl 0 rfl) ?_
      refine gtC_16_4 X w dX2_drop_22 ?_
      refine lv_iconst (v := (1 : Int32)) X.1 X.2.1 dX2_drop_25 (by decide) ?_
      refine lv_iadd X.1 X.2.1 dX2_drop_26 ?_
      refine lv_goto (tgt := 31) X.1 X.2.1 dX2_drop_27 (by decide) ?_
      refine ptC_16_4 X w dX2_drop_31 (fun H locs w => ?_)
      obtain ⟨M5, eM5, hf⟩ := px_bn_e hf
      rw [← eM5] at w
      refine lv_aload_n X.1 X.2.1 dX2_drop_34 rfl (lv_at hl 0 rfl) ?_
      refine lv_dup X.1 X.2.1 dX2_drop_35 rfl ?_
      refine gtC_16_5 X w dX2_drop_36 ?_
      refine lv_iconst (v := (1 : Int32)) X.1 X.2.1 dX2_drop_39 (by decide) ?_
      refine lv_isub X.1 X.2.1 dX2_drop_40 ?_
      refine ptC_16_5 X w dX2_drop_41 (fun H locs w => ?_)
      obtain ⟨M6, eM6, hf⟩ := px_bn_e hf
      rw [← eM6] at w
      cases hf
      exact px_retV X hr hlk w dX2_drop_44
def fC_Line_size_20 (M : px_M) : Option Int32 := some (M 20 5)
set_option maxHeartbeats 4000000 in
set_option maxRecDepth 100000 in
theorem cC_Line_size_20 (l : Launch) (D : va_G) (cs : Nat → ClassId) (ad : Nat → Nat) {M : px_M} {r : Int32} (hf : fC_Line_size_20 M = some r) : px_mI l D (tyC cs) (wC cs ad) yX2_size cX2_size 1 (some .int) 0 [.ref (ad 20)] M r M := by
  refine px_ofI (by decide +kernel) (Nat.le_of_ble_eq_true rfl) ?_
  intro p e s m below meth c A ls X hr hlk hml w hl
  have hl : lv_has ls 1 [(0, .ref (ad 20))] := hl
  unfold fC_Line_size_20 at hf
  refine lv_aload_n X.1 X.2.1 dX2_size_0 rfl (lv_at hl 0 rfl) ?_
  refine gtC_20_5 X w dX2_size_1 ?_
  cases hf
  exact px_retI X hr hlk w dX2_size_4
def fC_Line_kind_20 (M : px_M) : Option Int32 := px_ck (M 20 4) 180 (some (M 21 (M 20 4).toNatClampNeg))
set_option maxHeartbeats 4000000 in
set_option maxRecDepth 100000 in
theorem cC_Line_kind_20 (l : Launch) (D : va_G) (cs : Nat → ClassId) (ad : Nat → Nat) {M : px_M} {r : Int32} (hf : fC_Line_kind_20 M = some r) : px_mI l D (tyC cs) (wC cs ad) yX2_kind cX2_kind 1 (some .int) 0 [.ref (ad 20)] M r M := by
  refine px_ofI (by decide +kernel) (Nat.le_of_ble_eq_true rfl) ?_
  intro p e s m below meth c A ls X hr hlk hml w hl
  have hl : lv_has ls 1 [(0, .ref (ad 20))] := hl
  unfold fC_Line_kind_20 at hf
  refine lv_aload_n X.1 X.2.1 dX2_kind_0 rfl (lv_at hl 0 rfl) ?_
  refine gtC_20_1 X w dX2_kind_1 ?_
  refine lv_aload_n X.1 X.2.1 dX2_kind_4 rfl (lv_at hl 0 rfl) ?_
  refine gtC_20_4 X w dX2_kind_5 ?_
  obtain ⟨b1, hf⟩ := px_ck_e hf
  refine ilC_21 X w b1 dX2_kind_8 ?_
  cases hf
  exact px_retI X hr hlk w dX2_kind_9
def fC_Line_subject_20 (M : px_M) : Option Int32 := px_ck (M 20 4) 180 (some (M 22 (M 20 4).toNatClampNeg))
set_option maxHeartbeats 4000000 in
set_option maxRecDepth 100000 in
theorem cC_Line_subject_20 (l : Launch) (D : va_G) (cs : Nat → ClassId) (ad : Nat → Nat) {M : px_M} {r : Int32} (hf : fC_Line_subject_20 M = some r) : px_mI l D (tyC cs) (wC cs ad) yX2_subject cX2_subject 1 (some .int) 0 [.ref (ad 20)] M r M := by
  refine px_ofI (by decide +kernel) (Nat.le_of_ble_eq_true rfl) ?_
  intro p e s m below meth c A ls X hr hlk hml w hl
  have hl : lv_has ls 1 [(0, .ref (ad 20))] := hl
  unfold fC_Line_subject_20 at hf
  refine lv_aload_n X.1 X.2.1 dX2_subject_0 rfl (lv_at hl 0 rfl) ?_
  refine gtC_20_2 X w dX2_subject_1 ?_
  refine lv_aload_n X.1 X.2.1 dX2_subject_4 rfl (lv_at hl 0 rfl) ?_
  refine gtC_20_4 X w dX2_subject_5 ?_
  obtain ⟨b1, hf⟩ := px_ck_e hf
  refine ilC_22 X w b1 dX2_subject_8 ?_
  cases hf
  exact px_retI X hr hlk w dX2_subject_9
def fC_Line_number_20 (M : px_M) : Option Int32 := px_ck (M 20 4) 180 (some (M 23 (M 20 4).toNatClampNeg))
set_option maxHeartbeats 4000000 in
set_option maxRecDepth 100000 in
theorem cC_Line_number_20 (l : Launch) (D : va_G) (cs : Nat → ClassId) (ad : Nat → Nat) {M : px_M} {r : Int32} (hf : fC_Line_number_20 M = some r) : px_mI l D (tyC cs) (wC cs ad) yX2_number cX2_number 1 (some .int) 0 [.ref (ad 20)] M r M := by
  refine px_ofI (by decide +kernel) (Nat.le_of_ble_eq_true rfl) ?_
  intro p e s m below meth c A ls X hr hlk hml w hl
  have hl : lv_has ls 1 [(0, .ref (ad 20))] := hl
  unfold fC_Line_number_20 at hf
  refine lv_aload_n X.1 X.2.1 dX2_number_0 rfl (lv_at hl 0 rfl) ?_
  refine gtC_20_3 X w dX2_number_1 ?_
  refine lv_aload_n X.1 X.2.1 dX2_number_4 rfl (lv_at hl 0 rfl) ?_
  refine gtC_20_4 X w dX2_number_5 ?_
  obtain ⟨b1, hf⟩ := px_ck_e hf
  refine ilC_23 X w b1 dX2_number_8 ?_
  cases hf
  exact px_retI X hr hlk w dX2_number_9
def fC_Line_put_20 (M : px_M) (p1 p2 p3 : Int32) : Option px_M := (if (M 20 5) < (M 20 0) then (if (M 20 0) ≤ ((M 20 4) + (M 20 5)) then px_bn ((((M 20 4) + (M 20 5)) - (M 20 0))) (fun x3 => px_ck x3 180 (px_bn (px_up M 21 x3.toNatClampNeg p1) (fun M5 => px_ck x3 180 (px_bn (px_up M5 22 x3.toNatClampNeg p2) (fun M7 => px_ck x3 180 (px_bn (px_up M7 23 x3.toNatClampNeg p3) (fun M9 => px_bn (px_up M9 20 5 ((M9 20 5) + (1 : Int32))) (fun M10 => some M10)))))))) else px_bn (((M 20 4) + (M 20 5))) (fun x11 => px_ck x11 180 (px_bn (px_up M 21 x11.toNatClampNeg p1) (fun M13 => px_ck x11 180 (px_bn (px_up M13 22 x11.toNatClampNeg p2) (fun M15 => px_ck x11 180 (px_bn (px_up M15 23 x11.toNatClampNeg p3) (fun M17 => px_bn (px_up M17 20 5 ((M17 20 5) + (1 : Int32))) (fun M18 => some M18))))))))) else some M)
set_option maxHeartbeats 4000000 in
set_option maxRecDepth 100000 in
theorem cC_Line_put_20 (l : Launch) (D : va_G) (cs : Nat → ClassId) (ad : Nat → Nat) {M : px_M} {p1 p2 p3 : Int32} {M' : px_M} (hf : fC_Line_put_20 M p1 p2 p3 = some M') : px_mV l D (tyC cs) (wC cs ad) yX2_put cX2_put 5 0 [.ref (ad 20), .int p1, .int p2, .int p3] M M' := by
  refine px_ofV (by decide +kernel) (Nat.le_of_ble_eq_true rfl) ?_
  intro p e s m below meth c A ls X hr hlk hml w hl
  have hl : lv_has ls 5 [(0, .ref (ad 20)), (1, .int p1), (2, .int p2), (3, .int p3)] := hl
  unfold fC_Line_put_20 at hf
  refine lv_aload_n X.1 X.2.1 dX2_put_0 rfl (lv_at hl 0 rfl) ?_
  refine gtC_20_5 X w dX2_put_1 ?_
  refine lv_aload_n X.1 X.2.1 dX2_put_4 rfl (lv_at hl 0 rfl) ?_
  refine gtC_20_0 X w dX2_put_5 ?_
  refine lv_icmp_lt (tgt := 12) X.1 X.2.1 dX2_put_8 (by decide) (fun c1 => ?_) (fun c1 => ?_)
  · have hf := px_ip c1 hf
    refine lv_aload_n X.1 X.2.1 dX2_put_12 rfl (lv_at hl 0 rfl) ?_
    refine gtC_20_4 X w dX2_put_13 ?_
    refine lv_aload_n X.1 X.2.1 dX2_put_16 rfl (lv_at hl 0 rfl) ?_
    refine gtC_20_5 X w dX2_put_17 ?_
    refine lv_iadd X.1 X.2.1 dX2_put_20 ?_
    refine lv_aload_n X.1 X.2.1 dX2_put_21 rfl (lv_at hl 0 rfl) ?_
    refine gtC_20_0 X w dX2_put_22 ?_
    refine lv_icmp_ge (tgt := 40) X.1 X.2.1 dX2_put_25 (by decide) (fun c2 => ?_) (fun c2 => ?_)
    · have hf := px_ip c2 hf
      refine lv_aload_n X.1 X.2.1 dX2_put_40 rfl (lv_at hl 0 rfl) ?_
      refine gtC_20_4 X w dX2_put_41 ?_
      refine lv_aload_n X.1 X.2.1 dX2_put_44 rfl (lv_at hl 0 rfl) ?_
      refine gtC_20_5 X w dX2_put_45 ?_
      refine lv_iadd X.1 X.2.1 dX2_put_48 ?_
      refine lv_aload_n X.1 X.2.1 dX2_put_49 rfl (lv_at hl 0 rfl) ?_
      refine gtC_20_0 X w dX2_put_50 ?_
      refine lv_isub X.1 X.2.1 dX2_put_53 ?_
      obtain ⟨x3, ex3, hf⟩ := px_bn_e hf
      rw [← ex3]
      refine lv_istore (lv' := [(4, .int x3), (0, .ref (ad 20)), (1, .int p1), (2, .int p2), (3, .int p3)]) X.1 X.2.1 dX2_put_54 hl (by decide) rfl (fun ls hl => ?_)
      refine lv_aload_n X.1 X.2.1 dX2_put_56 rfl (lv_at hl 1 rfl) ?_
      refine gtC_20_1 X w dX2_put_57 ?_
      refine lv_iload X.1 X.2.1 dX2_put_60 (lv_at hl 0 rfl) ?_
      refine lv_iload_n X.1 X.2.1 dX2_put_62 rfl (lv_at hl 2 rfl) ?_
      obtain ⟨b4, hf⟩ := px_ck_e hf
      refine isC_21 X w b4 dX2_put_63 (fun H locs w => ?_)
      obtain ⟨M5, eM5, hf⟩ := px_bn_e hf
      rw [← eM5] at w
      refine lv_aload_n X.1 X.2.1 dX2_put_64 rfl (lv_at hl 1 rfl) ?_
      refine gtC_20_2 X w dX2_put_65 ?_
      refine lv_iload X.1 X.2.1 dX2_put_68 (lv_at hl 0 rfl) ?_
      refine lv_iload_n X.1 X.2.1 dX2_put_70 rfl (lv_at hl 3 rfl) ?_
      obtain ⟨b6, hf⟩ := px_ck_e hf
      refine isC_22 X w b6 dX2_put_71 (fun H locs w => ?_)
      obtain ⟨M7, eM7, hf⟩ := px_bn_e hf
      rw [← eM7] at w
      refine lv_aload_n X.1 X.2.1 dX2_put_72 rfl (lv_at hl 1 rfl) ?_
      refine gtC_20_3 X w dX2_put_73 ?_
      refine lv_iload X.1 X.2.1 dX2_put_76 (lv_at hl 0 rfl) ?_
      refine lv_iload_n X.1 X.2.1 dX2_put_78 rfl (lv_at hl 4 rfl) ?_
      obtain ⟨b8, hf⟩ := px_ck_e hf
      refine isC_23 X w b8 dX2_put_79 (fun H locs w => ?_)
      obtain ⟨M9, eM9, hf⟩ := px_bn_e hf
      rw [← eM9] at w
      refine lv_aload_n X.1 X.2.1 dX2_put_80 rfl (lv_at hl 1 rfl) ?_
      refine lv_dup X.1 X.2.1 dX2_put_81 rfl ?_
      refine gtC_20_5 X w dX2_put_82 ?_
      refine lv_iconst (v := (1 : Int32)) X.1 X.2.1 dX2_put_85 (by decide) ?_
      refine lv_iadd X.1 X.2.1 dX2_put_86 ?_
      refine ptC_20_5 X w dX2_put_87 (fun H locs w => ?_)
      obtain ⟨M10, eM10, hf⟩ := px_bn_e hf
      rw [← eM10] at w
      cases hf
      exact px_retV X hr hlk w dX2_put_90
    · have hf := px_in c2 hf
      refine lv_aload_n X.1 X.2.1 dX2_put_28 rfl (lv_at hl 0 rfl) ?_
      refine gtC_20_4 X w dX2_put_29 ?_
      refine lv_aload_n X.1 X.2.1 dX2_put_32 rfl (lv_at hl 0 rfl) ?_
      refine gtC_20_5 X w dX2_put_33 ?_
      refine lv_iadd X.1 X.2.1 dX2_put_36 ?_
      refine lv_goto (tgt := 54) X.1 X.2.1 dX2_put_37 (by decide) ?_
      obtain ⟨x11, ex11, hf⟩ := px_bn_e hf
      rw [← ex11]
      refine lv_istore (lv' := [(4, .int x11), (0, .ref (ad 20)), (1, .int p1), (2, .int p2), (3, .int p3)]) X.1 X.2.1 dX2_put_54 hl (by decide) rfl (fun ls hl => ?_)
      refine lv_aload_n X.1 X.2.1 dX2_put_56 rfl (lv_at hl 1 rfl) ?_
      refine gtC_20_1 X w dX2_put_57 ?_
      refine lv_iload X.1 X.2.1 dX2_put_60 (lv_at hl 0 rfl) ?_
      refine lv_iload_n X.1 X.2.1 dX2_put_62 rfl (lv_at hl 2 rfl) ?_
      obtain ⟨b12, hf⟩ := px_ck_e hf
      refine isC_21 X w b12 dX2_put_63 (fun H locs w => ?_)
      obtain ⟨M13, eM13, hf⟩ := px_bn_e hf
      rw [← eM13] at w
      refine lv_aload_n X.1 X.2.1 dX2_put_64 rfl (lv_at hl 1 rfl) ?_
      refine gtC_20_2 X w dX2_put_65 ?_
      refine lv_iload X.1 X.2.1 dX2_put_68 (lv_at hl 0 rfl) ?_
      refine lv_iload_n X.1 X.2.1 dX2_put_70 rfl (lv_at hl 3 rfl) ?_
      obtain ⟨b14, hf⟩ := px_ck_e hf
      refine isC_22 X w b14 dX2_put_71 (fun H locs w => ?_)
      obtain ⟨M15, eM15, hf⟩ := px_bn_e hf
      rw [← eM15] at w
      refine lv_aload_n X.1 X.2.1 dX2_put_72 rfl (lv_at hl 1 rfl) ?_
      refine gtC_20_3 X w dX2_put_73 ?_
      refine lv_iload X.1 X.2.1 dX2_put_76 (lv_at hl 0 rfl) ?_
      refine lv_iload_n X.1 X.2.1 dX2_put_78 rfl (lv_at hl 4 rfl) ?_
      obtain ⟨b16, hf⟩ := px_ck_e hf
      refine isC_23 X w b16 dX2_put_79 (fun H locs w => ?_)
      obtain ⟨M17, eM17, hf⟩ := px_bn_e hf
      rw [← eM17] at w
      refine lv_aload_n X.1 X.2.1 dX2_put_80 rfl (lv_at hl 1 rfl) ?_
      refine lv_dup X.1 X.2.1 dX2_put_81 rfl ?_
      refine gtC_20_5 X w dX2_put_82 ?_
      refine lv_iconst (v := (1 : Int32)) X.1 X.2.1 dX2_put_85 (by decide) ?_
      refine lv_iadd X.1 X.2.1 dX2_put_86 ?_
      refine ptC_20_5 X w dX2_put_87 (fun H locs w => ?_)
      obtain ⟨M18, eM18, hf⟩ := px_bn_e hf
      rw [← eM18] at w
      cases hf
      exact px_retV X hr hlk w dX2_put_90
  · have hf := px_in c1 hf
    cases hf
    exact px_retV X hr hlk w dX2_put_11
def fC_Line_drop_20 (M : px_M) : Option px_M := (if (M 20 5) ≤ 0 then some M else (if (M 20 0) ≤ ((M 20 4) + (1 : Int32)) then px_bn (px_up M 20 4 (0 : Int32)) (fun M3 => px_bn (px_up M3 20 5 ((M3 20 5) - (1 : Int32))) (fun M4 => some M4)) else px_bn (px_up M 20 4 ((M 20 4) + (1 : Int32))) (fun M5 => px_bn (px_up M5 20 5 ((M5 20 5) - (1 : Int32))) (fun M6 => some M6))))
set_option maxHeartbeats 4000000 in
set_option maxRecDepth 100000 in
theorem cC_Line_drop_20 (l : Launch) (D : va_G) (cs : Nat → ClassId) (ad : Nat → Nat) {M : px_M} {M' : px_M} (hf : fC_Line_drop_20 M = some M') : px_mV l D (tyC cs) (wC cs ad) yX2_drop cX2_drop 1 0 [.ref (ad 20)] M M' := by
  refine px_ofV (by decide +kernel) (Nat.le_of_ble_eq_true rfl) ?_
  intro p e s m below meth c A ls X hr hlk hml w hl
  have hl : lv_has ls 1 [(0, .ref (ad 20))] := hl
  unfold fC_Line_drop_20 at hf
  refine lv_aload_n X.1 X.2.1 dX2_drop_0 rfl (lv_at hl 0 rfl) ?_
  refine gtC_20_5 X w dX2_drop_1 ?_
  refine lv_if_le (tgt := 44) X.1 X.2.1 dX2_drop_4 (by decide) (fun c1 => ?_) (fun c1 => ?_)
  · have hf := px_ip c1 hf
    cases hf
    exact px_retV X hr hlk w dX2_drop_44
  · have hf := px_in c1 hf
    refine lv_aload_n X.1 X.2.1 dX2_drop_7 rfl (lv_at hl 0 rfl) ?_
    refine lv_aload_n X.1 X.2.1 dX2_drop_8 rfl (lv_at hl 0 rfl) ?_
    refine gtC_20_4 X w dX2_drop_9 ?_
    refine lv_iconst (v := (1 : Int32)) X.1 X.2.1 dX2_drop_12 (by decide) ?_
    refine lv_iadd X.1 X.2.1 dX2_drop_13 ?_
    refine lv_aload_n X.1 X.2.1 dX2_drop_14 rfl (lv_at hl 0 rfl) ?_
    refine gtC_20_0 X w dX2_drop_15 ?_
    refine lv_icmp_ge (tgt := 30) X.1 X.2.1 dX2_drop_18 (by decide) (fun c2 => ?_) (fun c2 => ?_)
    · have hf := px_ip c2 hf
      refine lv_iconst (v := (0 : Int32)) X.1 X.2.1 dX2_drop_30 (by decide) ?_
      refine ptC_20_4 X w dX2_drop_31 (fun H locs w => ?_)
      obtain ⟨M3, eM3, hf⟩ := px_bn_e hf
      rw [← eM3] at w
      refine lv_aload_n X.1 X.2.1 dX2_drop_34 rfl (lv_at hl 0 rfl) ?_
      refine lv_dup X.1 X.2.1 dX2_drop_35 rfl ?_
      refine gtC_20_5 X w dX2_drop_36 ?_
      refine lv_iconst (v := (1 : Int32)) X.1 X.2.1 dX2_drop_39 (by decide) ?_
      refine lv_isub X.1 X.2.1 dX2_drop_40 ?_
      refine ptC_20_5 X w dX2_drop_41 (fun H locs w => ?_)
      obtain ⟨M4, eM4, hf⟩ := px_bn_e hf
      rw [← eM4] at w
      cases hf
      exact px_retV X hr hlk w dX2_drop_44
    · have hf := px_in c2 hf
      refine lv_aload_n X.1 X.2.1 dX2_drop_21 rfl (lv_at hl 0 rfl) ?_
      refine gtC_20_4 X w dX2_drop_22 ?_
      refine lv_iconst (v := (1 : Int32)) X.1 X.2.1 dX2_drop_25 (by decide) ?_
      refine lv_iadd X.1 X.2.1 dX2_drop_26 ?_
      refine lv_goto (tgt := 31) X.1 X.2.1 dX2_drop_27 (by decide) ?_
      refine ptC_20_4 X w dX2_drop_31 (fun H locs w => ?_)
      obtain ⟨M5, eM5, hf⟩ := px_bn_e hf
      rw [← eM5] at w
      refine lv_aload_n X.1 X.2.1 dX2_drop_34 rfl (lv_at hl 0 rfl) ?_
      refine lv_dup X.1 X.2.1 dX2_drop_35 rfl ?_
      refine gtC_20_5 X w dX2_drop_36 ?_
      refine lv_iconst (v := (1 : Int32)) X.1 X.2.1 dX2_drop_39 (by decide) ?_
      refine lv_isub X.1 X.2.1 dX2_drop_40 ?_
      refine ptC_20_5 X w dX2_drop_41 (fun H locs w => ?_)
      obtain ⟨M6, eM6, hf⟩ := px_bn_e hf
      rw [← eM6] at w
      cases hf
      exact px_retV X hr hlk w dX2_drop_44
def fC_Line_size_24 (M : px_M) : Option Int32 := some (M 24 5)
set_option maxHeartbeats 4000000 in
set_option maxRecDepth 100000 in
theorem cC_Line_size_24 (l : Launch) (D : va_G) (cs : Nat → ClassId) (ad : Nat → Nat) {M : px_M} {r : Int32} (hf : fC_Line_size_24 M = some r) : px_mI l D (tyC cs) (wC cs ad) yX2_size cX2_size 1 (some .int) 0 [.ref (ad 24)] M r M := by
  refine px_ofI (by decide +kernel) (Nat.le_of_ble_eq_true rfl) ?_
  intro p e s m below meth c A ls X hr hlk hml w hl
  have hl : lv_has ls 1 [(0, .ref (ad 24))] := hl
  unfold fC_Line_size_24 at hf
  refine lv_aload_n X.1 X.2.1 dX2_size_0 rfl (lv_at hl 0 rfl) ?_
  refine gtC_24_5 X w dX2_size_1 ?_
  cases hf
  exact px_retI X hr hlk w dX2_size_4
def fC_Line_kind_24 (M : px_M) : Option Int32 := px_ck (M 24 4) 8 (some (M 25 (M 24 4).toNatClampNeg))
set_option maxHeartbeats 4000000 in
set_option maxRecDepth 100000 in
theorem cC_Line_kind_24 (l : Launch) (D : va_G) (cs : Nat → ClassId) (ad : Nat → Nat) {M : px_M} {r : Int32} (hf : fC_Line_kind_24 M = some r) : px_mI l D (tyC cs) (wC cs ad) yX2_kind cX2_kind 1 (some .int) 0 [.ref (ad 24)] M r M := by
  refine px_ofI (by decide +kernel) (Nat.le_of_ble_eq_true rfl) ?_
  intro p e s m below meth c A ls X hr hlk hml w hl
  have hl : lv_has ls 1 [(0, .ref (ad 24))] := hl
  unfold fC_Line_kind_24 at hf
  refine lv_aload_n X.1 X.2.1 dX2_kind_0 rfl (lv_at hl 0 rfl) ?_
  refine gtC_24_1 X w dX2_kind_1 ?_
  refine lv_aload_n X.1 X.2.1 dX2_kind_4 rfl (lv_at hl 0 rfl) ?_
  refine gtC_24_4 X w dX2_kind_5 ?_
  obtain ⟨b1, hf⟩ := px_ck_e hf
  refine ilC_25 X w b1 dX2_kind_8 ?_
  cases hf
  exact px_retI X hr hlk w dX2_kind_9
def fC_Line_subject_24 (M : px_M) : Option Int32 := px_ck (M 24 4) 8 (some (M 26 (M 24 4).toNatClampNeg))
set_option maxHeartbeats 4000000 in
set_option maxRecDepth 100000 in
theorem cC_Line_subject_24 (l : Launch) (D : va_G) (cs : Nat → ClassId) (ad : Nat → Nat) {M : px_M} {r : Int32} (hf : fC_Line_subject_24 M = some r) : px_mI l D (tyC cs) (wC cs ad) yX2_subject cX2_subject 1 (some .int) 0 [.ref (ad 24)] M r M := by
  refine px_ofI (by decide +kernel) (Nat.le_of_ble_eq_true rfl) ?_
  intro p e s m below meth c A ls X hr hlk hml w hl
  have hl : lv_has ls 1 [(0, .ref (ad 24))] := hl
  unfold fC_Line_subject_24 at hf
  refine lv_aload_n X.1 X.2.1 dX2_subject_0 rfl (lv_at hl 0 rfl) ?_
  refine gtC_24_2 X w dX2_subject_1 ?_
  refine lv_aload_n X.1 X.2.1 dX2_subject_4 rfl (lv_at hl 0 rfl) ?_
  refine gtC_24_4 X w dX2_subject_5 ?_
  obtain ⟨b1, hf⟩ := px_ck_e hf
  refine ilC_26 X w b1 dX2_subject_8 ?_
  cases hf
  exact px_retI X hr hlk w dX2_subject_9
def fC_Line_number_24 (M : px_M) : Option Int32 := px_ck (M 24 4) 8 (some (M 27 (M 24 4).toNatClampNeg))
set_option maxHeartbeats 4000000 in
set_option maxRecDepth 100000 in
theorem cC_Line_number_24 (l : Launch) (D : va_G) (cs : Nat → ClassId) (ad : Nat → Nat) {M : px_M} {r : Int32} (hf : fC_Line_number_24 M = some r) : px_mI l D (tyC cs) (wC cs ad) yX2_number cX2_number 1 (some .int) 0 [.ref (ad 24)] M r M := by
  refine px_ofI (by decide +kernel) (Nat.le_of_ble_eq_true rfl) ?_
  intro p e s m below meth c A ls X hr hlk hml w hl
  have hl : lv_has ls 1 [(0, .ref (ad 24))] := hl
  unfold fC_Line_number_24 at hf
  refine lv_aload_n X.1 X.2.1 dX2_number_0 rfl (lv_at hl 0 rfl) ?_
  refine gtC_24_3 X w dX2_number_1 ?_
  refine lv_aload_n X.1 X.2.1 dX2_number_4 rfl (lv_at hl 0 rfl) ?_
  refine gtC_24_4 X w dX2_number_5 ?_
  obtain ⟨b1, hf⟩ := px_ck_e hf
  refine ilC_27 X w b1 dX2_number_8 ?_
  cases hf
  exact px_retI X hr hlk w dX2_number_9
def fC_Line_put_24 (M : px_M) (p1 p2 p3 : Int32) : Option px_M := (if (M 24 5) < (M 24 0) then (if (M 24 0) ≤ ((M 24 4) + (M 24 5)) then px_bn ((((M 24 4) + (M 24 5)) - (M 24 0))) (fun x3 => px_ck x3 8 (px_bn (px_up M 25 x3.toNatClampNeg p1) (fun M5 => px_ck x3 8 (px_bn (px_up M5 26 x3.toNatClampNeg p2) (fun M7 => px_ck x3 8 (px_bn (px_up M7 27 x3.toNatClampNeg p3) (fun M9 => px_bn (px_up M9 24 5 ((M9 24 5) + (1 : Int32))) (fun M10 => some M10)))))))) else px_bn (((M 24 4) + (M 24 5))) (fun x11 => px_ck x11 8 (px_bn (px_up M 25 x11.toNatClampNeg p1) (fun M13 => px_ck x11 8 (px_bn (px_up M13 26 x11.toNatClampNeg p2) (fun M15 => px_ck x11 8 (px_bn (px_up M15 27 x11.toNatClampNeg p3) (fun M17 => px_bn (px_up M17 24 5 ((M17 24 5) + (1 : Int32))) (fun M18 => some M18))))))))) else some M)
set_option maxHeartbeats 4000000 in
set_option maxRecDepth 100000 in
theorem cC_Line_put_24 (l : Launch) (D : va_G) (cs : Nat → ClassId) (ad : Nat → Nat) {M : px_M} {p1 p2 p3 : Int32} {M' : px_M} (hf : fC_Line_put_24 M p1 p2 p3 = some M') : px_mV l D (tyC cs) (wC cs ad) yX2_put cX2_put 5 0 [.ref (ad 24), .int p1, .int p2, .int p3] M M' := by
  refine px_ofV (by decide +kernel) (Nat.le_of_ble_eq_true rfl) ?_
  intro p e s m below meth c A ls X hr hlk hml w hl
  have hl : lv_has ls 5 [(0, .ref (ad 24)), (1, .int p1), (2, .int p2), (3, .int p3)] := hl
  unfold fC_Line_put_24 at hf
  refine lv_aload_n X.1 X.2.1 dX2_put_0 rfl (lv_at hl 0 rfl) ?_
  refine gtC_24_5 X w dX2_put_1 ?_
  refine lv_aload_n X.1 X.2.1 dX2_put_4 rfl (lv_at hl 0 rfl) ?_
  refine gtC_24_0 X w dX2_put_5 ?_
  refine lv_icmp_lt (tgt := 12) X.1 X.2.1 dX2_put_8 (by decide) (fun c1 => ?_) (fun c1 => ?_)
  · have hf := px_ip c1 hf
    refine lv_aload_n X.1 X.2.1 dX2_put_12 rfl (lv_at hl 0 rfl) ?_
    refine gtC_24_4 X w dX2_put_13 ?_
    refine lv_aload_n X.1 X.2.1 dX2_put_16 rfl (lv_at hl 0 rfl) ?_
    refine gtC_24_5 X w dX2_put_17 ?_
    refine lv_iadd X.1 X.2.1 dX2_put_20 ?_
    refine lv_aload_n X.1 X.2.1 dX2_put_21 rfl (lv_at hl 0 rfl) ?_
    refine gtC_24_0 X w dX2_put_22 ?_
    refine lv_icmp_ge (tgt := 40) X.1 X.2.1 dX2_put_25 (by decide) (fun c2 => ?_) (fun c2 => ?_)
    · have hf := px_ip c2 hf
      refine lv_aload_n X.1 X.2.1 dX2_put_40 rfl (lv_at hl 0 rfl) ?_
      refine gtC_24_4 X w dX2_put_41 ?_
      refine lv_aload_n X.1 X.2.1 dX2_put_44 rfl (lv_at hl 0 rfl) ?_
      refine gtC_24_5 X w dX2_put_45 ?_
      refine lv_iadd X.1 X.2.1 dX2_put_48 ?_
      refine lv_aload_n X.1 X.2.1 dX2_put_49 rfl (lv_at hl 0 rfl) ?_
      refine gtC_24_0 X w dX2_put_50 ?_
      refine lv_isub X.1 X.2.1 dX2_put_53 ?_
      obtain ⟨x3, ex3, hf⟩ := px_bn_e hf
      rw [← ex3]
      refine lv_istore (lv' := [(4, .int x3), (0, .ref (ad 24)), (1, .int p1), (2, .int p2), (3, .int p3)]) X.1 X.2.1 dX2_put_54 hl (by decide) rfl (fun ls hl => ?_)
      refine lv_aload_n X.1 X.2.1 dX2_put_56 rfl (lv_at hl 1 rfl) ?_
      refine gtC_24_1 X w dX2_put_57 ?_
      refine lv_iload X.1 X.2.1 dX2_put_60 (lv_at hl 0 rfl) ?_
      refine lv_iload_n X.1 X.2.1 dX2_put_62 rfl (lv_at hl 2 rfl) ?_
      obtain ⟨b4, hf⟩ := px_ck_e hf
      refine isC_25 X w b4 dX2_put_63 (fun H locs w => ?_)
      obtain ⟨M5, eM5, hf⟩ := px_bn_e hf
      rw [← eM5] at w
      refine lv_aload_n X.1 X.2.1 dX2_put_64 rfl (lv_at hl 1 rfl) ?_
      refine gtC_24_2 X w dX2_put_65 ?_
      refine lv_iload X.1 X.2.1 dX2_put_68 (lv_at hl 0 rfl) ?_
      refine lv_iload_n X.1 X.2.1 dX2_put_70 rfl (lv_at hl 3 rfl) ?_
      obtain ⟨b6, hf⟩ := px_ck_e hf
      refine isC_26 X w b6 dX2_put_71 (fun H locs w => ?_)
      obtain ⟨M7, eM7, hf⟩ := px_bn_e hf
      rw [← eM7] at w
      refine lv_aload_n X.1 X.2.1 dX2_put_72 rfl (lv_at hl 1 rfl) ?_
      refine gtC_24_3 X w dX2_put_73 ?_
      refine lv_iload X.1 X.2.1 dX2_put_76 (lv_at hl 0 rfl) ?_
      refine lv_iload_n X.1 X.2.1 dX2_put_78 rfl (lv_at hl 4 rfl) ?_
      obtain ⟨b8, hf⟩ := px_ck_e hf
      refine isC_27 X w b8 dX2_put_79 (fun H locs w => ?_)
      obtain ⟨M9, eM9, hf⟩ := px_bn_e hf
      rw [← eM9] at w
      refine lv_aload_n X.1 X.2.1 dX2_put_80 rfl (lv_at hl 1 rfl) ?_
      refine lv_dup X.1 X.2.1 dX2_put_81 rfl ?_
      refine gtC_24_5 X w dX2_put_82 ?_
      refine lv_iconst (v := (1 : Int32)) X.1 X.2.1 dX2_put_85 (by decide) ?_
      refine lv_iadd X.1 X.2.1 dX2_put_86 ?_
      refine ptC_24_5 X w dX2_put_87 (fun H locs w => ?_)
      obtain ⟨M10, eM10, hf⟩ := px_bn_e hf
      rw [← eM10] at w
      cases hf
      exact px_retV X hr hlk w dX2_put_90
    · have hf := px_in c2 hf
      refine lv_aload_n X.1 X.2.1 dX2_put_28 rfl (lv_at hl 0 rfl) ?_
      refine gtC_24_4 X w dX2_put_29 ?_
      refine lv_aload_n X.1 X.2.1 dX2_put_32 rfl (lv_at hl 0 rfl) ?_
      refine gtC_24_5 X w dX2_put_33 ?_
      refine lv_iadd X.1 X.2.1 dX2_put_36 ?_
      refine lv_goto (tgt := 54) X.1 X.2.1 dX2_put_37 (by decide) ?_
      obtain ⟨x11, ex11, hf⟩ := px_bn_e hf
      rw [← ex11]
      refine lv_istore (lv' := [(4, .int x11), (0, .ref (ad 24)), (1, .int p1), (2, .int p2), (3, .int p3)]) X.1 X.2.1 dX2_put_54 hl (by decide) rfl (fun ls hl => ?_)
      refine lv_aload_n X.1 X.2.1 dX2_put_56 rfl (lv_at hl 1 rfl) ?_
      refine gtC_24_1 X w dX2_put_57 ?_
      refine lv_iload X.1 X.2.1 dX2_put_60 (lv_at hl 0 rfl) ?_
      refine lv_iload_n X.1 X.2.1 dX2_put_62 rfl (lv_at hl 2 rfl) ?_
      obtain ⟨b12, hf⟩ := px_ck_e hf
      refine isC_25 X w b12 dX2_put_63 (fun H locs w => ?_)
      obtain ⟨M13, eM13, hf⟩ := px_bn_e hf
      rw [← eM13] at w
      refine lv_aload_n X.1 X.2.1 dX2_put_64 rfl (lv_at hl 1 rfl) ?_
      refine gtC_24_2 X w dX2_put_65 ?_
      refine lv_iload X.1 X.2.1 dX2_put_68 (lv_at hl 0 rfl) ?_
      refine lv_iload_n X.1 X.2.1 dX2_put_70 rfl (lv_at hl 3 rfl) ?_
      obtain ⟨b14, hf⟩ := px_ck_e hf
      refine isC_26 X w b14 dX2_put_71 (fun H locs w => ?_)
      obtain ⟨M15, eM15, hf⟩ := px_bn_e hf
      rw [← eM15] at w
      refine lv_aload_n X.1 X.2.1 dX2_put_72 rfl (lv_at hl 1 rfl) ?_
      refine gtC_24_3 X w dX2_put_73 ?_
      refine lv_iload X.1 X.2.1 dX2_put_76 (lv_at hl 0 rfl) ?_
      refine lv_iload_n X.1 X.2.1 dX2_put_78 rfl (lv_at hl 4 rfl) ?_
      obtain ⟨b16, hf⟩ := px_ck_e hf
      refine isC_27 X w b16 dX2_put_79 (fun H locs w => ?_)
      obtain ⟨M17, eM17, hf⟩ := px_bn_e hf
      rw [← eM17] at w
      refine lv_aload_n X.1 X.2.1 dX2_put_80 rfl (lv_at hl 1 rfl) ?_
      refine lv_dup X.1 X.2.1 dX2_put_81 rfl ?_
      refine gtC_24_5 X w dX2_put_82 ?_
      refine lv_iconst (v := (1 : Int32)) X.1 X.2.1 dX2_put_85 (by decide) ?_
      refine lv_iadd X.1 X.2.1 dX2_put_86 ?_
      refine ptC_24_5 X w dX2_put_87 (fun H locs w => ?_)
      obtain ⟨M18, eM18, hf⟩ := px_bn_e hf
      rw [← eM18] at w
      cases hf
      exact px_retV X hr hlk w dX2_put_90
  · have hf := px_in c1 hf
    cases hf
    exact px_retV X hr hlk w dX2_put_11
def fC_Line_drop_24 (M : px_M) : Option px_M := (if (M 24 5) ≤ 0 then some M else (if (M 24 0) ≤ ((M 24 4) + (1 : Int32)) then px_bn (px_up M 24 4 (0 : Int32)) (fun M3 => px_bn (px_up M3 24 5 ((M3 24 5) - (1 : Int32))) (fun M4 => some M4)) else px_bn (px_up M 24 4 ((M 24 4) + (1 : Int32))) (fun M5 => px_bn (px_up M5 24 5 ((M5 24 5) - (1 : Int32))) (fun M6 => some M6))))
set_option maxHeartbeats 4000000 in
set_option maxRecDepth 100000 in
theorem cC_Line_drop_24 (l : Launch) (D : va_G) (cs : Nat → ClassId) (ad : Nat → Nat) {M : px_M} {M' : px_M} (hf : fC_Line_drop_24 M = some M') : px_mV l D (tyC cs) (wC cs ad) yX2_drop cX2_drop 1 0 [.ref (ad 24)] M M' := by
  refine px_ofV (by decide +kernel) (Nat.le_of_ble_eq_true rfl) ?_
  intro p e s m below meth c A ls X hr hlk hml w hl
  have hl : lv_has ls 1 [(0, .ref (ad 24))] := hl
  unfold fC_Line_drop_24 at hf
  refine lv_aload_n X.1 X.2.1 dX2_drop_0 rfl (lv_at hl 0 rfl) ?_
  refine gtC_24_5 X w dX2_drop_1 ?_
  refine lv_if_le (tgt := 44) X.1 X.2.1 dX2_drop_4 (by decide) (fun c1 => ?_) (fun c1 => ?_)
  · have hf := px_ip c1 hf
    cases hf
    exact px_retV X hr hlk w dX2_drop_44
  · have hf := px_in c1 hf
    refine lv_aload_n X.1 X.2.1 dX2_drop_7 rfl (lv_at hl 0 rfl) ?_
    refine lv_aload_n X.1 X.2.1 dX2_drop_8 rfl (lv_at hl 0 rfl) ?_
    refine gtC_24_4 X w dX2_drop_9 ?_
    refine lv_iconst (v := (1 : Int32)) X.1 X.2.1 dX2_drop_12 (by decide) ?_
    refine lv_iadd X.1 X.2.1 dX2_drop_13 ?_
    refine lv_aload_n X.1 X.2.1 dX2_drop_14 rfl (lv_at hl 0 rfl) ?_
    refine gtC_24_0 X w dX2_drop_15 ?_
    refine lv_icmp_ge (tgt := 30) X.1 X.2.1 dX2_drop_18 (by decide) (fun c2 => ?_) (fun c2 => ?_)
    · have hf := px_ip c2 hf
      refine lv_iconst (v := (0 : Int32)) X.1 X.2.1 dX2_drop_30 (by decide) ?_
      refine ptC_24_4 X w dX2_drop_31 (fun H locs w => ?_)
      obtain ⟨M3, eM3, hf⟩ := px_bn_e hf
      rw [← eM3] at w
      refine lv_aload_n X.1 X.2.1 dX2_drop_34 rfl (lv_at hl 0 rfl) ?_
      refine lv_dup X.1 X.2.1 dX2_drop_35 rfl ?_
      refine gtC_24_5 X w dX2_drop_36 ?_
      refine lv_iconst (v := (1 : Int32)) X.1 X.2.1 dX2_drop_39 (by decide) ?_
      refine lv_isub X.1 X.2.1 dX2_drop_40 ?_
      refine ptC_24_5 X w dX2_drop_41 (fun H locs w => ?_)
      obtain ⟨M4, eM4, hf⟩ := px_bn_e hf
      rw [← eM4] at w
      cases hf
      exact px_retV X hr hlk w dX2_drop_44
    · have hf := px_in c2 hf
      refine lv_aload_n X.1 X.2.1 dX2_drop_21 rfl (lv_at hl 0 rfl) ?_
      refine gtC_24_4 X w dX2_drop_22 ?_
      refine lv_iconst (v := (1 : Int32)) X.1 X.2.1 dX2_drop_25 (by decide) ?_
      refine lv_iadd X.1 X.2.1 dX2_drop_26 ?_
      refine lv_goto (tgt := 31) X.1 X.2.1 dX2_drop_27 (by decide) ?_
      refine ptC_24_4 X w dX2_drop_31 (fun H locs w => ?_)
      obtain ⟨M5, eM5, hf⟩ := px_bn_e hf
      rw [← eM5] at w
      refine lv_aload_n X.1 X.2.1 dX2_drop_34 rfl (lv_at hl 0 rfl) ?_
      refine lv_dup X.1 X.2.1 dX2_drop_35 rfl ?_
      refine gtC_24_5 X w dX2_drop_36 ?_
      refine lv_iconst (v := (1 : Int32)) X.1 X.2.1 dX2_drop_39 (by decide) ?_
      refine lv_isub X.1 X.2.1 dX2_drop_40 ?_
      refine ptC_24_5 X w dX2_drop_41 (fun H locs w => ?_)
      obtain ⟨M6, eM6, hf⟩ := px_bn_e hf
      rw [← eM6] at w
      cases hf
      exact px_retV X hr hlk w dX2_drop_44
end
