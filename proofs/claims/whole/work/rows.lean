section
-- ===== PART A: goes FIRST, ahead of the names: the tables' words, and 'selects' of the private methods out of them =====
/-- a private method of a class that the tables say can be made, by its rows of tables_1 -/
def lw_okq (q : MethodName × Nat) : Prop := (q.1.cls ≠ "java/lang/invoke/MethodHandle" ∧ q.1.cls ≠ "java/lang/invoke/VarHandle") ∧ Cond.instantiable q.1.cls q.2 ∈ tables_1 ∧ Cond.privateMethod q.1 ∈ tables_1 ∧ Cond.instanceMethod q.1 ∈ tables_1
theorem lw_p0 : lw_okq (⟨"java/lang/Throwable", "fillInStackTrace", "(I)Ljava/lang/Throwable;"⟩, 6) := ⟨⟨by decide +kernel, by decide +kernel⟩, List.mem_of_getElem? (i := 270) (by decide +kernel), List.mem_of_getElem? (i := 268) (by decide +kernel), List.mem_of_getElem? (i := 269) (by decide +kernel)⟩
theorem lw_p1 : lw_okq (⟨"SpinKernel", "isPriorityTaken", "(II)Z"⟩, 8) := ⟨⟨by decide +kernel, by decide +kernel⟩, List.mem_of_getElem? (i := 16) (by decide +kernel), List.mem_of_getElem? (i := 310) (by decide +kernel), List.mem_of_getElem? (i := 311) (by decide +kernel)⟩
theorem lw_p2 : lw_okq (⟨"SpinKernel", "measure", "()V"⟩, 8) := ⟨⟨by decide +kernel, by decide +kernel⟩, List.mem_of_getElem? (i := 16) (by decide +kernel), List.mem_of_getElem? (i := 337) (by decide +kernel), List.mem_of_getElem? (i := 338) (by decide +kernel)⟩
theorem lw_p3 : lw_okq (⟨"SpinKernel", "formGroups", "()V"⟩, 8) := ⟨⟨by decide +kernel, by decide +kernel⟩, List.mem_of_getElem? (i := 16) (by decide +kernel), List.mem_of_getElem? (i := 341) (by decide +kernel), List.mem_of_getElem? (i := 342) (by decide +kernel)⟩
theorem lw_p4 : lw_okq (⟨"SpinKernel", "joinGroups", "(II)V"⟩, 8) := ⟨⟨by decide +kernel, by decide +kernel⟩, List.mem_of_getElem? (i := 16) (by decide +kernel), List.mem_of_getElem? (i := 349) (by decide +kernel), List.mem_of_getElem? (i := 350) (by decide +kernel)⟩
theorem lw_p5 : lw_okq (⟨"SpinKernel", "findLongest", "()V"⟩, 8) := ⟨⟨by decide +kernel, by decide +kernel⟩, List.mem_of_getElem? (i := 16) (by decide +kernel), List.mem_of_getElem? (i := 359) (by decide +kernel), List.mem_of_getElem? (i := 360) (by decide +kernel)⟩
theorem lw_p6 : lw_okq (⟨"SpinKernel", "inflate", "(LSpinKernel$Task;)V"⟩, 8) := ⟨⟨by decide +kernel, by decide +kernel⟩, List.mem_of_getElem? (i := 16) (by decide +kernel), List.mem_of_getElem? (i := 363) (by decide +kernel), List.mem_of_getElem? (i := 364) (by decide +kernel)⟩
theorem lw_p7 : lw_okq (⟨"SpinKernel", "longestElsewhere", "(II)I"⟩, 8) := ⟨⟨by decide +kernel, by decide +kernel⟩, List.mem_of_getElem? (i := 16) (by decide +kernel), List.mem_of_getElem? (i := 367) (by decide +kernel), List.mem_of_getElem? (i := 368) (by decide +kernel)⟩
theorem lw_p8 : lw_okq (⟨"SpinKernel", "taskAt", "(I)LSpinKernel$Task;"⟩, 8) := ⟨⟨by decide +kernel, by decide +kernel⟩, List.mem_of_getElem? (i := 16) (by decide +kernel), List.mem_of_getElem? (i := 378) (by decide +kernel), List.mem_of_getElem? (i := 379) (by decide +kernel)⟩
theorem lw_p9 : lw_okq (⟨"SpinKernel", "blockingOf", "(LSpinKernel$Task;)I"⟩, 8) := ⟨⟨by decide +kernel, by decide +kernel⟩, List.mem_of_getElem? (i := 16) (by decide +kernel), List.mem_of_getElem? (i := 434) (by decide +kernel), List.mem_of_getElem? (i := 435) (by decide +kernel)⟩
theorem lw_p10 : lw_okq (⟨"SpinKernel", "responseOf", "(LSpinKernel$Task;)I"⟩, 8) := ⟨⟨by decide +kernel, by decide +kernel⟩, List.mem_of_getElem? (i := 16) (by decide +kernel), List.mem_of_getElem? (i := 443) (by decide +kernel), List.mem_of_getElem? (i := 444) (by decide +kernel)⟩
theorem lw_p11 : lw_okq (⟨"SpinKernel", "demandAbove", "(LSpinKernel$Task;I)I"⟩, 8) := ⟨⟨by decide +kernel, by decide +kernel⟩, List.mem_of_getElem? (i := 16) (by decide +kernel), List.mem_of_getElem? (i := 447) (by decide +kernel), List.mem_of_getElem? (i := 448) (by decide +kernel)⟩
theorem lw_p12 : lw_okq (⟨"SpinKernel", "isAnyJobOpen", "()Z"⟩, 8) := ⟨⟨by decide +kernel, by decide +kernel⟩, List.mem_of_getElem? (i := 16) (by decide +kernel), List.mem_of_getElem? (i := 469) (by decide +kernel), List.mem_of_getElem? (i := 470) (by decide +kernel)⟩
theorem lw_p13 : lw_okq (⟨"SpinKernel", "takeJobs", "()V"⟩, 8) := ⟨⟨by decide +kernel, by decide +kernel⟩, List.mem_of_getElem? (i := 16) (by decide +kernel), List.mem_of_getElem? (i := 523) (by decide +kernel), List.mem_of_getElem? (i := 524) (by decide +kernel)⟩
theorem lw_p14 : lw_okq (⟨"SpinKernel", "isHeldFast", "(I)Z"⟩, 8) := ⟨⟨by decide +kernel, by decide +kernel⟩, List.mem_of_getElem? (i := 16) (by decide +kernel), List.mem_of_getElem? (i := 527) (by decide +kernel), List.mem_of_getElem? (i := 528) (by decide +kernel)⟩
theorem lw_p15 : lw_okq (⟨"SpinKernel", "mostUrgentOn", "(I)I"⟩, 8) := ⟨⟨by decide +kernel, by decide +kernel⟩, List.mem_of_getElem? (i := 16) (by decide +kernel), List.mem_of_getElem? (i := 531) (by decide +kernel), List.mem_of_getElem? (i := 532) (by decide +kernel)⟩
def lw_privs_1 : List (MethodName × Nat) := [(⟨"java/lang/Throwable", "fillInStackTrace", "(I)Ljava/lang/Throwable;"⟩, 6), (⟨"SpinKernel", "isPriorityTaken", "(II)Z"⟩, 8), (⟨"SpinKernel", "measure", "()V"⟩, 8), (⟨"SpinKernel", "formGroups", "()V"⟩, 8), (⟨"SpinKernel", "joinGroups", "(II)V"⟩, 8), (⟨"SpinKernel", "findLongest", "()V"⟩, 8), (⟨"SpinKernel", "inflate", "(LSpinKernel$Task;)V"⟩, 8), (⟨"SpinKernel", "longestElsewhere", "(II)I"⟩, 8), (⟨"SpinKernel", "taskAt", "(I)LSpinKernel$Task;"⟩, 8), (⟨"SpinKernel", "blockingOf", "(LSpinKernel$Task;)I"⟩, 8), (⟨"SpinKernel", "responseOf", "(LSpinKernel$Task;)I"⟩, 8), (⟨"SpinKernel", "demandAbove", "(LSpinKernel$Task;I)I"⟩, 8), (⟨"SpinKernel", "isAnyJobOpen", "()Z"⟩, 8), (⟨"SpinKernel", "takeJobs", "()V"⟩, 8), (⟨"SpinKernel", "isHeldFast", "(I)Z"⟩, 8), (⟨"SpinKernel", "mostUrgentOn", "(I)I"⟩, 8)]
theorem lw_r1 : ∀ q ∈ lw_privs_1, lw_okq q := List.forall_mem_cons.mpr ⟨lw_p0, List.forall_mem_cons.mpr ⟨lw_p1, List.forall_mem_cons.mpr ⟨lw_p2, List.forall_mem_cons.mpr ⟨lw_p3, List.forall_mem_cons.mpr ⟨lw_p4, List.forall_mem_cons.mpr ⟨lw_p5, List.forall_mem_cons.mpr ⟨lw_p6, List.forall_mem_cons.mpr ⟨lw_p7, List.forall_mem_cons.mpr ⟨lw_p8, List.forall_mem_cons.mpr ⟨lw_p9, List.forall_mem_cons.mpr ⟨lw_p10, List.forall_mem_cons.mpr ⟨lw_p11, List.forall_mem_cons.mpr ⟨lw_p12, List.forall_mem_cons.mpr ⟨lw_p13, List.forall_mem_cons.mpr ⟨lw_p14, List.forall_mem_cons.mpr ⟨lw_p15, fun _ h => absurd h List.not_mem_nil⟩⟩⟩⟩⟩⟩⟩⟩⟩⟩⟩⟩⟩⟩⟩⟩
theorem lw_p16 : lw_okq (⟨"SpinKernel", "askIfDue", "(I)V"⟩, 8) := ⟨⟨by decide +kernel, by decide +kernel⟩, List.mem_of_getElem? (i := 16) (by decide +kernel), List.mem_of_getElem? (i := 535) (by decide +kernel), List.mem_of_getElem? (i := 536) (by decide +kernel)⟩
theorem lw_p17 : lw_okq (⟨"SpinKernel", "rowOf", "(I)LSpinKernel$Row;"⟩, 8) := ⟨⟨by decide +kernel, by decide +kernel⟩, List.mem_of_getElem? (i := 16) (by decide +kernel), List.mem_of_getElem? (i := 553) (by decide +kernel), List.mem_of_getElem? (i := 554) (by decide +kernel)⟩
theorem lw_p18 : lw_okq (⟨"SpinKernel", "letFirstsHold", "()V"⟩, 8) := ⟨⟨by decide +kernel, by decide +kernel⟩, List.mem_of_getElem? (i := 16) (by decide +kernel), List.mem_of_getElem? (i := 561) (by decide +kernel), List.mem_of_getElem? (i := 562) (by decide +kernel)⟩
theorem lw_p19 : lw_okq (⟨"SpinKernel", "ticksAlike", "()I"⟩, 8) := ⟨⟨by decide +kernel, by decide +kernel⟩, List.mem_of_getElem? (i := 16) (by decide +kernel), List.mem_of_getElem? (i := 573) (by decide +kernel), List.mem_of_getElem? (i := 574) (by decide +kernel)⟩
theorem lw_p20 : lw_okq (⟨"SpinKernel", "workOn", "(I)I"⟩, 8) := ⟨⟨by decide +kernel, by decide +kernel⟩, List.mem_of_getElem? (i := 16) (by decide +kernel), List.mem_of_getElem? (i := 581) (by decide +kernel), List.mem_of_getElem? (i := 582) (by decide +kernel)⟩
theorem lw_p21 : lw_okq (⟨"SpinKernel", "workOnJob", "(LSpinKernel$Task;I)Z"⟩, 8) := ⟨⟨by decide +kernel, by decide +kernel⟩, List.mem_of_getElem? (i := 16) (by decide +kernel), List.mem_of_getElem? (i := 585) (by decide +kernel), List.mem_of_getElem? (i := 586) (by decide +kernel)⟩
theorem lw_p22 : lw_okq (⟨"SpinKernel", "holdFor", "(LSpinKernel$Task;I)V"⟩, 8) := ⟨⟨by decide +kernel, by decide +kernel⟩, List.mem_of_getElem? (i := 16) (by decide +kernel), List.mem_of_getElem? (i := 593) (by decide +kernel), List.mem_of_getElem? (i := 594) (by decide +kernel)⟩
theorem lw_p23 : lw_okq (⟨"SpinKernelModel", "forget", "()V"⟩, 34) := ⟨⟨by decide +kernel, by decide +kernel⟩, List.mem_of_getElem? (i := 647) (by decide +kernel), List.mem_of_getElem? (i := 653) (by decide +kernel), List.mem_of_getElem? (i := 654) (by decide +kernel)⟩
theorem lw_p24 : lw_okq (⟨"SpinKernelModel", "hasPriority", "(II)Z"⟩, 34) := ⟨⟨by decide +kernel, by decide +kernel⟩, List.mem_of_getElem? (i := 647) (by decide +kernel), List.mem_of_getElem? (i := 772) (by decide +kernel), List.mem_of_getElem? (i := 773) (by decide +kernel)⟩
theorem lw_p25 : lw_okq (⟨"SpinKernelModel", "refused", "(ZZZ)Z"⟩, 34) := ⟨⟨by decide +kernel, by decide +kernel⟩, List.mem_of_getElem? (i := 647) (by decide +kernel), List.mem_of_getElem? (i := 776) (by decide +kernel), List.mem_of_getElem? (i := 777) (by decide +kernel)⟩
theorem lw_p26 : lw_okq (⟨"SpinKernelModel", "isTask", "(I)Z"⟩, 34) := ⟨⟨by decide +kernel, by decide +kernel⟩, List.mem_of_getElem? (i := 647) (by decide +kernel), List.mem_of_getElem? (i := 784) (by decide +kernel), List.mem_of_getElem? (i := 785) (by decide +kernel)⟩
theorem lw_p27 : lw_okq (⟨"SpinKernelModel", "mayBe", "(IIIII)Z"⟩, 34) := ⟨⟨by decide +kernel, by decide +kernel⟩, List.mem_of_getElem? (i := 647) (by decide +kernel), List.mem_of_getElem? (i := 788) (by decide +kernel), List.mem_of_getElem? (i := 789) (by decide +kernel)⟩
theorem lw_p28 : lw_okq (⟨"SpinKernelModel", "outerBefore", "(I)I"⟩, 34) := ⟨⟨by decide +kernel, by decide +kernel⟩, List.mem_of_getElem? (i := 647) (by decide +kernel), List.mem_of_getElem? (i := 792) (by decide +kernel), List.mem_of_getElem? (i := 793) (by decide +kernel)⟩
theorem lw_p29 : lw_okq (⟨"SpinKernelModel", "isRequest", "(II)Z"⟩, 34) := ⟨⟨by decide +kernel, by decide +kernel⟩, List.mem_of_getElem? (i := 647) (by decide +kernel), List.mem_of_getElem? (i := 796) (by decide +kernel), List.mem_of_getElem? (i := 797) (by decide +kernel)⟩
theorem lw_p30 : lw_okq (⟨"SpinKernelModel", "findGroups", "()V"⟩, 34) := ⟨⟨by decide +kernel, by decide +kernel⟩, List.mem_of_getElem? (i := 647) (by decide +kernel), List.mem_of_getElem? (i := 808) (by decide +kernel), List.mem_of_getElem? (i := 809) (by decide +kernel)⟩
theorem lw_p31 : lw_okq (⟨"SpinKernelModel", "isOuter", "(II)Z"⟩, 34) := ⟨⟨by decide +kernel, by decide +kernel⟩, List.mem_of_getElem? (i := 647) (by decide +kernel), List.mem_of_getElem? (i := 816) (by decide +kernel), List.mem_of_getElem? (i := 817) (by decide +kernel)⟩
def lw_privs_2 : List (MethodName × Nat) := [(⟨"SpinKernel", "askIfDue", "(I)V"⟩, 8), (⟨"SpinKernel", "rowOf", "(I)LSpinKernel$Row;"⟩, 8), (⟨"SpinKernel", "letFirstsHold", "()V"⟩, 8), (⟨"SpinKernel", "ticksAlike", "()I"⟩, 8), (⟨"SpinKernel", "workOn", "(I)I"⟩, 8), (⟨"SpinKernel", "workOnJob", "(LSpinKernel$Task;I)Z"⟩, 8), (⟨"SpinKernel", "holdFor", "(LSpinKernel$Task;I)V"⟩, 8), (⟨"SpinKernelModel", "forget", "()V"⟩, 34), (⟨"SpinKernelModel", "hasPriority", "(II)Z"⟩, 34), (⟨"SpinKernelModel", "refused", "(ZZZ)Z"⟩, 34), (⟨"SpinKernelModel", "isTask", "(I)Z"⟩, 34), (⟨"SpinKernelModel", "mayBe", "(IIIII)Z"⟩, 34), (⟨"SpinKernelModel", "outerBefore", "(I)I"⟩, 34), (⟨"SpinKernelModel", "isRequest", "(II)Z"⟩, 34), (⟨"SpinKernelModel", "findGroups", "()V"⟩, 34), (⟨"SpinKernelModel", "isOuter", "(II)Z"⟩, 34)]
theorem lw_r2 : ∀ q ∈ lw_privs_2, lw_okq q := List.forall_mem_cons.mpr ⟨lw_p16, List.forall_mem_cons.mpr ⟨lw_p17, List.forall_mem_cons.mpr ⟨lw_p18, List.forall_mem_cons.mpr ⟨lw_p19, List.forall_mem_cons.mpr ⟨lw_p20, List.forall_mem_cons.mpr ⟨lw_p21, List.forall_mem_cons.mpr ⟨lw_p22, List.forall_mem_cons.mpr ⟨lw_p23, List.forall_mem_cons.mpr ⟨lw_p24, List.forall_mem_cons.mpr ⟨lw_p25, List.forall_mem_cons.mpr ⟨lw_p26, List.forall_mem_cons.mpr ⟨lw_p27, List.forall_mem_cons.mpr ⟨lw_p28, List.forall_mem_cons.mpr ⟨lw_p29, List.forall_mem_cons.mpr ⟨lw_p30, List.forall_mem_cons.mpr ⟨lw_p31, fun _ h => absurd h List.not_mem_nil⟩⟩⟩⟩⟩⟩⟩⟩⟩⟩⟩⟩⟩⟩⟩⟩
theorem lw_p32 : lw_okq (⟨"SpinKernelModel", "spinOf", "(II)I"⟩, 34) := ⟨⟨by decide +kernel, by decide +kernel⟩, List.mem_of_getElem? (i := 647) (by decide +kernel), List.mem_of_getElem? (i := 820) (by decide +kernel), List.mem_of_getElem? (i := 821) (by decide +kernel)⟩
theorem lw_p33 : lw_okq (⟨"SpinKernelModel", "inflated", "(I)I"⟩, 34) := ⟨⟨by decide +kernel, by decide +kernel⟩, List.mem_of_getElem? (i := 647) (by decide +kernel), List.mem_of_getElem? (i := 828) (by decide +kernel), List.mem_of_getElem? (i := 829) (by decide +kernel)⟩
theorem lw_p34 : lw_okq (⟨"SpinKernelModel", "blocking", "(I)I"⟩, 34) := ⟨⟨by decide +kernel, by decide +kernel⟩, List.mem_of_getElem? (i := 647) (by decide +kernel), List.mem_of_getElem? (i := 832) (by decide +kernel), List.mem_of_getElem? (i := 833) (by decide +kernel)⟩
theorem lw_p35 : lw_okq (⟨"SpinKernelModel", "responseOf", "(I)I"⟩, 34) := ⟨⟨by decide +kernel, by decide +kernel⟩, List.mem_of_getElem? (i := 647) (by decide +kernel), List.mem_of_getElem? (i := 836) (by decide +kernel), List.mem_of_getElem? (i := 837) (by decide +kernel)⟩
theorem lw_p36 : lw_okq (⟨"SpinKernelModel", "hasOpen", "()Z"⟩, 34) := ⟨⟨by decide +kernel, by decide +kernel⟩, List.mem_of_getElem? (i := 647) (by decide +kernel), List.mem_of_getElem? (i := 848) (by decide +kernel), List.mem_of_getElem? (i := 849) (by decide +kernel)⟩
theorem lw_p37 : lw_okq (⟨"SpinKernelModel", "goToNext", "(I)V"⟩, 34) := ⟨⟨by decide +kernel, by decide +kernel⟩, List.mem_of_getElem? (i := 647) (by decide +kernel), List.mem_of_getElem? (i := 856) (by decide +kernel), List.mem_of_getElem? (i := 857) (by decide +kernel)⟩
theorem lw_p38 : lw_okq (⟨"SpinKernelModel", "choose", "(I)V"⟩, 34) := ⟨⟨by decide +kernel, by decide +kernel⟩, List.mem_of_getElem? (i := 647) (by decide +kernel), List.mem_of_getElem? (i := 869) (by decide +kernel), List.mem_of_getElem? (i := 870) (by decide +kernel)⟩
theorem lw_p39 : lw_okq (⟨"SpinKernelModel", "groupOf", "(I)I"⟩, 34) := ⟨⟨by decide +kernel, by decide +kernel⟩, List.mem_of_getElem? (i := 647) (by decide +kernel), List.mem_of_getElem? (i := 873) (by decide +kernel), List.mem_of_getElem? (i := 874) (by decide +kernel)⟩
theorem lw_p40 : lw_okq (⟨"SpinKernelModel", "goOn", "(I)I"⟩, 34) := ⟨⟨by decide +kernel, by decide +kernel⟩, List.mem_of_getElem? (i := 647) (by decide +kernel), List.mem_of_getElem? (i := 877) (by decide +kernel), List.mem_of_getElem? (i := 878) (by decide +kernel)⟩
theorem lw_p41 : lw_okq (⟨"SpinKernelModel", "leave", "(II)V"⟩, 34) := ⟨⟨by decide +kernel, by decide +kernel⟩, List.mem_of_getElem? (i := 647) (by decide +kernel), List.mem_of_getElem? (i := 881) (by decide +kernel), List.mem_of_getElem? (i := 882) (by decide +kernel)⟩
theorem lw_p42 : lw_okq (⟨"SpinKernelModel", "end", "(I)V"⟩, 34) := ⟨⟨by decide +kernel, by decide +kernel⟩, List.mem_of_getElem? (i := 647) (by decide +kernel), List.mem_of_getElem? (i := 885) (by decide +kernel), List.mem_of_getElem? (i := 886) (by decide +kernel)⟩
def lw_privs_3 : List (MethodName × Nat) := [(⟨"SpinKernelModel", "spinOf", "(II)I"⟩, 34), (⟨"SpinKernelModel", "inflated", "(I)I"⟩, 34), (⟨"SpinKernelModel", "blocking", "(I)I"⟩, 34), (⟨"SpinKernelModel", "responseOf", "(I)I"⟩, 34), (⟨"SpinKernelModel", "hasOpen", "()Z"⟩, 34), (⟨"SpinKernelModel", "goToNext", "(I)V"⟩, 34), (⟨"SpinKernelModel", "choose", "(I)V"⟩, 34), (⟨"SpinKernelModel", "groupOf", "(I)I"⟩, 34), (⟨"SpinKernelModel", "goOn", "(I)I"⟩, 34), (⟨"SpinKernelModel", "leave", "(II)V"⟩, 34), (⟨"SpinKernelModel", "end", "(I)V"⟩, 34)]
theorem lw_r3 : ∀ q ∈ lw_privs_3, lw_okq q := List.forall_mem_cons.mpr ⟨lw_p32, List.forall_mem_cons.mpr ⟨lw_p33, List.forall_mem_cons.mpr ⟨lw_p34, List.forall_mem_cons.mpr ⟨lw_p35, List.forall_mem_cons.mpr ⟨lw_p36, List.forall_mem_cons.mpr ⟨lw_p37, List.forall_mem_cons.mpr ⟨lw_p38, List.forall_mem_cons.mpr ⟨lw_p39, List.forall_mem_cons.mpr ⟨lw_p40, List.forall_mem_cons.mpr ⟨lw_p41, List.forall_mem_cons.mpr ⟨lw_p42, fun _ h => absurd h List.not_mem_nil⟩⟩⟩⟩⟩⟩⟩⟩⟩⟩⟩
def lw_privs : List (MethodName × Nat) := lw_privs_1 ++ (lw_privs_2 ++ (lw_privs_3))
def lw_tbl : List Cond := k2_sels lw_privs ++ tables_1
theorem lw_privs_ok : ∀ q ∈ lw_privs, lw_okq q := by
  show ∀ q ∈ lw_privs_1 ++ (lw_privs_2 ++ (lw_privs_3)), lw_okq q
  exact List.forall_mem_append.mpr ⟨lw_r1, List.forall_mem_append.mpr ⟨lw_r2, lw_r3⟩⟩
/-! ===== BEGIN words of one list among another's, by their places ===== -/
theorem goodIn_r {big : List Cond} (ws : List Cond) (ps : List Nat) (hp : ws = ps.filterMap (fun i => big[i]?)) (h : ws.all goodWord = true) : GoodIn big ws := by
  intro w hw
  have h1 := List.all_eq_true.mp h w hw
  rw [hp] at hw
  obtain ⟨i, -, hi⟩ := List.mem_filterMap.mp hw
  have hm : w ∈ big := by first | exact List.mem_of_getElem? hi | exact List.getElem?_mem hi
  exact ⟨hm, good_of_word h1⟩
theorem goodIn_app {big a b : List Cond} (ha : GoodIn big a) (hb : GoodIn big b) : GoodIn big (a ++ b) := fun w h => (List.mem_append.mp h).elim (ha w) (hb w)
theorem goodIn_ca {big a b : List Cond} {c : Cond} (ha : GoodIn big (c :: a)) (hb : GoodIn big b) : GoodIn big (c :: (a ++ b)) := fun w h => (List.mem_cons.mp h).elim (fun e => ha w (List.mem_cons.mpr (Or.inl e))) (fun h => (List.mem_append.mp h).elim (fun h => ha w (List.mem_cons.mpr (Or.inr h))) (hb w))
theorem goodIn_sub {big ws : List Cond} (hm : ∀ w ∈ ws, w ∈ big) (h : ws.all goodWord = true) : GoodIn big ws := fun w hw => ⟨hm w hw, good_of_word (List.all_eq_true.mp h w hw)⟩
/-! ===== END ===== -/


/-! ===== BEGIN exceptions that leave a method, and their catching by the caller (launches without stack traces) ===== -/
section VXA
/-! The laws vx_back, vx_callV, vx_callS, vx_callSW, vx_throw0, vx_throwS follow proofs of the library, with one case more: JvmDerived/Free/Laws.lean (Back.of_free), Shelf42/LK1.lean (callV, callS), Shelf/KitTraced.lean (throwNew0V, throwNewS). -/
/-- where a method has thrown q: the class by its name, the cell, what was written, the world -/
def vx_T (XC : String → State → State → Prop) (st : State) (q : Addr) (t : State) (mc ms : Nat) (free : Addr → Prop) : Prop :=
  ∃ (E : String) (ce : Cell) (L : List Loc), XC E st t ∧ t.heap[q]? = some ce ∧ ce.vm = .none ∧ st.vm.findClass E = some ce.cls ∧ st.WarmedH t.vm ∧ st.sameButNew ({ t with vm := st.vm } : State) L mc ms ∧ ∀ z ∈ L, free z.base
def vx_Q (Qc : Array Value → State → Outcome → State → Prop) (XC : String → State → State → Prop) (mc ms : Nat) (free : Addr → Prop) : Array Value → State → Outcome → State → Prop := fun a st o t =>
  (Qc a st o t ∧ ∃ L, FrameEnd st o t L mc ms ∧ ∀ q ∈ L, free q.base) ∨ ∃ q, o = .threw q ∧ vx_T XC st q t mc ms free
/-- a callee that returns or throws -/
def vx_Met (l : Launch) (y : MethodName) (ws : List Cond) (rm : Room) (Pc : Array Value → State → Prop) (Qc : Array Value → State → Outcome → State → Prop) (XC : String → State → State → Prop) (mc ms : Nat) (free : Addr → Prop) : Prop :=
  MetFree l y (headSpec ws rm) Pc (fun _ _ _ _ _ => True) (vx_Q Qc XC mc ms free)
def vx_Post (XC : String → State → State → Prop) (mc ms : Nat) (free : Addr → Prop) : Pt → Array Value → Addr → Pt → Prop := fun A a q B =>
  ∃ (g : JFrame) (mk : MethodId) (t : State) (L : List Loc) (E : String) (ce : Cell), B.U.heap = t.heap ∧ B.U.vm = t.vm ∧ XC E (A.U.calling g mk a) t ∧ t.heap[q]? = some ce ∧ ce.vm = .none ∧ A.U.vm.findClass E = some ce.cls ∧ B.locs = A.locs ++ L ∧ (∀ z ∈ L, free z.base) ∧ B.cells = A.cells + mc ∧ B.slots = A.slots + ms
def vx_Back (l : Launch) (R : Room) (p : Program) (e : Env) (below : List Frame) (s : State) (sargs : Array Value) (y : MethodName) (len W9 : Nat)
    (Pre : Pt → Array Value → Prop) (Post : Pt → Array Value → Option Value → Pt → Prop) (PostX : Pt → Array Value → Addr → Pt → Prop) : Prop :=
  ∀ (m : MethodId) (meth : Method) (c : Code) (A : Pt) (g : JFrame) (ig : Instr) (mk : MethodId) (a : Array Value),
    Stand p l e R s m sargs below meth c A.U A.locs A.cells A.slots → g.method = m → g.locals.size = c.maxLocals → decode c.code g.pc = .ok (ig, len) →
    2 * g.monitorRoom + (g.stack.map fun v => v.category).sum ≤ W9 → A.U.methodNamed? y = some mk → Pre A a →
    (∃ (v : Option Value) (B : Pt), Stand p l e R s m sargs below meth c B.U B.locs B.cells B.slots ∧ Post A a v B ∧
      Steps p.tables e below (doInvoke e (A.U.setTop g) [] mk a).1 (B.U.setTop { g with pc := g.pc + len, stack := v.toList ++ g.stack })) ∨
    (∃ (q : Addr) (B : Pt), Stand p l e R s m sargs below meth c B.U B.locs B.cells B.slots ∧ PostX A a q B ∧
      Steps p.tables e below (doInvoke e (A.U.setTop g) [] mk a).1 ((B.U.setTop g).pushFrame (.throwing q)))
section Payer
variable {l : Launch} {R : Room} {p : Program} {e : Env} {below : List Frame} {s : State} {sargs : Array Value} {y : MethodName} {len W9 : Nat}
theorem vx_back {ws : List Cond} {rm : Room} {Pc : Array Value → State → Prop} {Qc : Array Value → State → Outcome → State → Prop} {XC : String → State → State → Prop} {mc ms : Nat} {free : Addr → Prop} {bytes : ByteArray} {maxL : Nat} {ret : Option FieldType}
    (hM : vx_Met l y ws rm Pc Qc XC mc ms free) (hblind : FrameBlind Pc) (hrc : rm.cells = mc) (hrs : rm.slots = ms)
    (hframes : rm.frames + 1 ≤ R.frames) (hlocals : W9 + (maxL + 11) + rm.locals ≤ R.locals)
    (hws : ∀ w ∈ ws, ∀ a' U, s.WarmedH U.vm → w.before a' U = true) (hcode : Cond.code y bytes maxL ret ∈ ws) (hinit : ∀ a' U, s.WarmedH U.vm → (Cond.initialized y.cls).before a' U = true) :
    vx_Back l R p e below s sargs y len W9 (PreOf R mc ms Pc) (PostOf Qc mc ms free) (vx_Post XC mc ms free) := by
  intro m meth c A g ig mk a X hg hsize hdg hW hn hp
  have h1 : (headSpec ws rm).pre.before a A.U = true := atoms_intro fun w hw => hws w hw _ _ X.warmed
  have h2 : (Cond.code y bytes maxL ret).before a A.U = true := hws _ hcode _ _ X.warmed
  have h3 : (Cond.initialized y.cls).before a A.U = true := hinit _ _ X.warmed
  have h4 : A.cells + (headSpec ws rm).room.cells ≤ R.cells := by rw [show (headSpec ws rm).room.cells = mc from hrc]; exact hp.1
  have h5 : A.slots + (headSpec ws rm).room.slots ≤ R.slots := by rw [show (headSpec ws rm).room.slots = ms from hrs]; exact hp.2.1
  have hPc : Pc a (A.U.calling g mk a) := hblind _ _ _ _ hp.2.2
  obtain ⟨U, Ls, c0, s0⟩ := A
  dsimp only [Pt.U, Pt.locs, Pt.cells, Pt.slots] at h1 h2 h3 h4 h5 X hn hPc ⊢
  obtain ⟨methY, cY, hmY, hcY, -, hlY, -, -, -, -⟩ := Cond.code_spec hn h2
  obtain ⟨kY, hkY, -⟩ := className_of_methodNamed hn
  have hinitY : kY.init = .initialized := Cond.initialized_spec (findClass_of_methodNamed hn) hkY h3
  have h : At U g.method c below := by rw [hg]; exact X.here
  have hlocals9 : W9 + (maxL + 11) + (headSpec ws rm).room.locals ≤ R.locals := hlocals
  have happ : (headSpec ws rm).appliesLoose y e.platform (U.calling g mk a) = true :=
    Spec.appliesLoose_calling (g := g) h hdg hn hkY hinitY
      (X.room_calling (g := g) (R' := (headSpec ws rm).room) hsize hmY hcY hframes (by rw [hlY]; omega) h4 h5) h1
  obtain ⟨mid, hmid⟩ := h.above
  have hfr : (U.setTop g).frames = (.java g :: mid) ++ below := by rw [State.frames_setTop' g h.top, hmid]; rfl
  obtain ⟨o, s₂, hsteps, -, hend, hq⟩ := Steps.callFree hM p X.admits X.cas X.clock (acts := []) hfr happ hPc trivial
  have hq' : vx_Q Qc XC mc ms free a (U.calling g mk a) o s₂ := hq
  rw [State.frames_setTop' g h.top] at hend
  obtain ⟨g₀, hg0⟩ := Option.isSome_iff_exists.mp h.top
  obtain ⟨r, hr⟩ := State.topJava?_eq_some.mp hg0
  have hr' : (({ U with heap := s₂.heap, slotsUsed := s₂.slotsUsed } : State).setVm s₂.vm).frames = .java g₀ :: r := hr
  rcases hq' with ⟨hqc, L, hfe, hL⟩ | ⟨q, rfl, E, ce, L, hx, hce, hcv, hcl, hW₂, hsm, hL⟩
  · obtain ⟨⟨v, rfl⟩, hW₂, e2, q2, q3, q4, q5, q6⟩ := id hfe
    have e3 : s₂ = ({ (U.calling g mk a).setFrames s₂.frames with heap := s₂.heap, slotsUsed := s₂.slotsUsed } : State).setVm s₂.vm := by
      have : s₂ = ({ s₂ with vm := (U.calling g mk a).vm } : State).setVm s₂.vm := rfl
      rw [e2] at this
      exact this
    obtain ⟨c₂, i₂, len₂, hc₂, hd₂, hf₂⟩ := hend
    have hW' : U.WarmedH s₂.vm := hW₂
    have hcc : c₂ = c := by
      have h1 : s₂.code? g.method = U.code? g.method := by
        rw [State.code?_eq, State.code?_eq, hW'.alike.method?]
      exact Option.some.inj (hc₂.symm.trans (h1.trans h.code))
    subst hcc
    have hlen : len₂ = len := by rw [hdg] at hd₂; cases hd₂; rfl
    subst hlen
    have hs₂ : s₂ = (({ U with heap := s₂.heap, slotsUsed := s₂.slotsUsed } : State).setVm s₂.vm).setTop { g with pc := g.pc + len₂, stack := v.toList ++ g.stack } := by
      refine e3.trans ?_
      rw [hf₂, State.calling_eq h.top, State.setFrames_setFrames, State.setTop_of_frames _ hr', hr]
      rfl
    have hsame : U.sameButNew ({ U with heap := s₂.heap, slotsUsed := s₂.slotsUsed } : State) L mc ms := by
      refine ⟨?_, q2, q3, q4, q5, q6⟩
      obtain ⟨t, ht, -⟩ := State.frames_cons hr
      show ({ U with heap := s₂.heap, slotsUsed := s₂.slotsUsed } : State) = { U.setFrames U.frames with heap := s₂.heap, slotsUsed := s₂.slotsUsed }
      rw [State.setFrames_self ht]
    subst hg
    refine Or.inl ⟨v, ⟨(({ U with heap := s₂.heap, slotsUsed := s₂.slotsUsed } : State).setVm s₂.vm), Ls ++ L, c0 + mc, s0 + ms⟩,
      ⟨X.admits, X.cas, X.clock, X.frames, X.room, X.hears, X.method, X.code, (X.here.setHeapUsed s₂.heap s₂.slotsUsed).setVm hW'.alike, X.tail, State.WarmedH.trans X.warmed hW', X.limits, X.bytes, X.same.trans (hsame.setVm s.vm)⟩,
      ⟨g, mk, s₂, L, rfl, rfl, hqc, rfl, hL, rfl, rfl⟩, ?_⟩
    show Steps p.tables e below _ ((({ U with heap := s₂.heap, slotsUsed := s₂.slotsUsed } : State).setVm s₂.vm).setTop { g with pc := g.pc + len₂, stack := v.toList ++ g.stack })
    rw [← hs₂]
    exact hsteps
  · obtain ⟨e2, q2, q3, q4, q5, q6⟩ := id hsm
    have e3 : s₂ = ({ (U.calling g mk a).setFrames s₂.frames with heap := s₂.heap, slotsUsed := s₂.slotsUsed } : State).setVm s₂.vm := by
      have : s₂ = ({ s₂ with vm := (U.calling g mk a).vm } : State).setVm s₂.vm := rfl
      rw [e2] at this
      exact this
    have hf₂ : s₂.frames = .throwing q :: .java g :: U.frames.tail := hend
    have hW' : U.WarmedH s₂.vm := hW₂
    have hs₂ : s₂ = ((({ U with heap := s₂.heap, slotsUsed := s₂.slotsUsed } : State).setVm s₂.vm).setTop g).pushFrame (.throwing q) := by
      refine e3.trans ?_
      rw [hf₂, State.calling_eq h.top, State.setFrames_setFrames, State.pushFrame, State.frames_setTop _ hr', State.setTop_of_frames _ hr', State.setFrames_setFrames, hr]
      rfl
    have hsame : U.sameButNew ({ U with heap := s₂.heap, slotsUsed := s₂.slotsUsed } : State) L mc ms := by
      refine ⟨?_, q2, q3, q4, q5, q6⟩
      obtain ⟨t, ht, -⟩ := State.frames_cons hr
      show ({ U with heap := s₂.heap, slotsUsed := s₂.slotsUsed } : State) = { U.setFrames U.frames with heap := s₂.heap, slotsUsed := s₂.slotsUsed }
      rw [State.setFrames_self ht]
    subst hg
    refine Or.inr ⟨q, ⟨(({ U with heap := s₂.heap, slotsUsed := s₂.slotsUsed } : State).setVm s₂.vm), Ls ++ L, c0 + mc, s0 + ms⟩,
      ⟨X.admits, X.cas, X.clock, X.frames, X.room, X.hears, X.method, X.code, (X.here.setHeapUsed s₂.heap s₂.slotsUsed).setVm hW'.alike, X.tail, State.WarmedH.trans X.warmed hW', X.limits, X.bytes, X.same.trans (hsame.setVm s.vm)⟩,
      ⟨g, mk, s₂, L, E, ce, rfl, rfl, hx, hce, hcv, hcl, rfl, hL, rfl, rfl⟩, ?_⟩
    show Steps p.tables e below _ (((({ U with heap := s₂.heap, slotsUsed := s₂.slotsUsed } : State).setVm s₂.vm).setTop g).pushFrame (.throwing q))
    rw [← hs₂]
    exact hsteps
end Payer
section Calls
variable {p : Program} {l : Launch} {e : Env} {R : Room} {s : State} {m : MethodId} {args : Array Value} {below : List Frame} {meth : Method} {c : Code} {T : State} {locs : List Loc} {cells slots : Nat}
theorem vx_callV (X : Stand p l e R s m args below meth c T locs cells slots) (hexec : p.tables.exec = Jvm.exec) {own C : String} {index : Nat} {y : MethodName} {bytes : ByteArray} {maxL : Nat} {ret : Option FieldType}
    (hown : s.vm.findClass own = some m.cls) (hlink : (Cond.methodLink own index y).before args s = true) (hinst : (Cond.instanceMethod y).before args s = true) (hsel : (Cond.selects C y y).before args s = true)
    (hcode : (Cond.code y bytes maxL ret).before args s = true) (hy : y.cls ≠ "java/lang/invoke/MethodHandle" ∧ y.cls ≠ "java/lang/invoke/VarHandle")
    {W9 : Nat} {Pre : Pt → Array Value → Prop} {Post : Pt → Array Value → Option Value → Pt → Prop} {PostX : Pt → Array Value → Addr → Pt → Prop} (hK : vx_Back l R p e below s args y 3 W9 Pre Post PostX)
    {b : Addr} {cellB : Cell} (hcell : T.heap[b]? = some cellB) (hobj : cellB.vm.isStatics = false) (hcls : s.vm.findClass C = some cellB.cls)
    {g : JFrame} (hg : g.method = m) (hsize : g.locals.size = c.maxLocals) {argsL rest : List Value} (hlen : ∀ sig, parseMethodDescriptor y.desc = some sig → argsL.length = sig.parameters.length)
    (hstack : g.stack = argsL.reverse ++ .ref b :: rest) (hW : 2 * g.monitorRoom + (rest.map fun v => v.category).sum ≤ W9) (hdg : decode c.code g.pc = .ok (.invokevirtual index, 3))
    (hpre : ∀ vm₁, s.WarmedH vm₁ → Pre ⟨T.setVm vm₁, locs, cells, slots⟩ (Value.ref b :: argsL).toArray) :
    (∃ (v : Option Value) (vm₁ : Vm) (B : Pt), s.WarmedH vm₁ ∧ Stand p l e R s m args below meth c B.U B.locs B.cells B.slots ∧ Post ⟨T.setVm vm₁, locs, cells, slots⟩ (Value.ref b :: argsL).toArray v B ∧
      ∀ target, Steps p.tables e below (B.U.setTop { g with pc := g.pc + 3, stack := v.toList ++ rest }) target → Steps p.tables e below (T.setTop g) target) ∨
    (∃ (q : Addr) (vm₁ : Vm) (B : Pt), s.WarmedH vm₁ ∧ Stand p l e R s m args below meth c B.U B.locs B.cells B.slots ∧ PostX ⟨T.setVm vm₁, locs, cells, slots⟩ (Value.ref b :: argsL).toArray q B ∧
      Steps p.tables e below (T.setTop g) ((B.U.setTop { g with stack := rest }).pushFrame (.throwing q))) := by
  obtain ⟨mk, methM, hnamed, hmethM, hstM, habM⟩ := Cond.instanceMethod_spec hinst
  obtain ⟨methM', cM, hmethM', -, -, -, -, -, -, hsigM⟩ := Cond.code_spec hnamed hcode
  cases hmethM.symm.trans hmethM'
  obtain ⟨c2, r2, m2, q1, q2, q3, q4, kP, hkP, hkPi⟩ := Cond.selects_spec hsel
  cases hcls.symm.trans q1
  cases (State.methodFound?_of_named hnamed hy).symm.trans q2
  cases hnamed.symm.trans q3
  have hselP : selectMethod e.platform s.vm cellB.cls mk = .method mk := by rw [Launch.admits_selectMethod X.admits]; exact q4
  obtain ⟨vm₁, X₁, hstep₁⟩ := X.invokevirtual hexec hown hlink hnamed hmethM hstM hkP hkPi hy (a := b) (cell := cellB) hcell
    (fun z h => by rw [h] at hobj; cases hobj) hselP hmethM habM hkP hkPi (g := g) hg (argsL := argsL) (rest := rest) (hlen _ hsigM) hstack hdg
  rcases hK m meth c ⟨T.setVm vm₁, locs, cells, slots⟩ { g with stack := rest } (.invokevirtual index) mk (Value.ref b :: argsL).toArray X₁ hg hsize hdg hW (X₁.named hnamed) (hpre vm₁ X₁.warmed) with ⟨v, B, X', hpost, hsteps⟩ | ⟨q, B, X', hpost, hsteps⟩
  · exact Or.inl ⟨v, vm₁, B, X₁.warmed, X', hpost, fun target h => hstep₁ _ fun acts => by rw [doInvoke_state]; exact hsteps.trans h⟩
  · exact Or.inr ⟨q, vm₁, B, X₁.warmed, X', hpost, hstep₁ _ fun acts => by rw [doInvoke_state]; exact hsteps⟩
theorem vx_callS (X : Stand p l e R s m args below meth c T locs cells slots) (hexec : p.tables.exec = Jvm.exec) {own : String} {index : Nat} {y : MethodName} {bytes : ByteArray} {maxL : Nat} {ret : Option FieldType}
    (hown : s.vm.findClass own = some m.cls) (hlink : (Cond.methodLink own index y).before args s = true) (hstat : (Cond.static y).before args s = true) (hinit : (Cond.initialized y.cls).before args s = true)
    (hcode : (Cond.code y bytes maxL ret).before args s = true) (hy : y.cls ≠ "java/lang/invoke/MethodHandle" ∧ y.cls ≠ "java/lang/invoke/VarHandle")
    {W9 : Nat} {Pre : Pt → Array Value → Prop} {Post : Pt → Array Value → Option Value → Pt → Prop} {PostX : Pt → Array Value → Addr → Pt → Prop} (hK : vx_Back l R p e below s args y 3 W9 Pre Post PostX)
    {g : JFrame} (hg : g.method = m) (hsize : g.locals.size = c.maxLocals) {argsL rest : List Value} (hlen : ∀ sig, parseMethodDescriptor y.desc = some sig → argsL.length = sig.parameters.length)
    (hstack : g.stack = argsL.reverse ++ rest) (hW : 2 * g.monitorRoom + (rest.map fun v => v.category).sum ≤ W9) (hdg : decode c.code g.pc = .ok (.invokestatic index, 3))
    (hpre : ∀ vm₁, s.WarmedH vm₁ → Pre ⟨T.setVm vm₁, locs, cells, slots⟩ argsL.toArray) :
    (∃ (v : Option Value) (vm₁ : Vm) (B : Pt), s.WarmedH vm₁ ∧ Stand p l e R s m args below meth c B.U B.locs B.cells B.slots ∧ Post ⟨T.setVm vm₁, locs, cells, slots⟩ argsL.toArray v B ∧
      ∀ target, Steps p.tables e below (B.U.setTop { g with pc := g.pc + 3, stack := v.toList ++ rest }) target → Steps p.tables e below (T.setTop g) target) ∨
    (∃ (q : Addr) (vm₁ : Vm) (B : Pt), s.WarmedH vm₁ ∧ Stand p l e R s m args below meth c B.U B.locs B.cells B.slots ∧ PostX ⟨T.setVm vm₁, locs, cells, slots⟩ argsL.toArray q B ∧
      Steps p.tables e below (T.setTop g) ((B.U.setTop { g with stack := rest }).pushFrame (.throwing q))) := by
  obtain ⟨mk, hnamed⟩ := Cond.code_named hcode
  obtain ⟨methM, cM, hmethM, -, -, -, -, -, -, hsigM⟩ := Cond.code_spec hnamed hcode
  have hstatic : methM.isStatic = true := Cond.static_spec hnamed hmethM hstat
  obtain ⟨kP, hkP, -⟩ := className_of_methodNamed hnamed
  have hinitP : kP.init = .initialized := Cond.initialized_spec (findClass_of_methodNamed hnamed) hkP hinit
  obtain ⟨vm₁, X₁, hstep₁⟩ := X.invokestatic hexec hown hlink hnamed hmethM hstatic hkP hinitP hy (g := g) hg (argsL := argsL) (rest := rest) (hlen _ hsigM) hstack hdg
  rcases hK m meth c ⟨T.setVm vm₁, locs, cells, slots⟩ { g with stack := rest } (.invokestatic index) mk argsL.toArray X₁ hg hsize hdg hW (X₁.named hnamed) (hpre vm₁ X₁.warmed) with ⟨v, B, X', hpost, hsteps⟩ | ⟨q, B, X', hpost, hsteps⟩
  · exact Or.inl ⟨v, vm₁, B, X₁.warmed, X', hpost, fun target h => hstep₁ _ fun acts => by rw [doInvoke_state]; exact hsteps.trans h⟩
  · exact Or.inr ⟨q, vm₁, B, X₁.warmed, X', hpost, hstep₁ _ fun acts => by rw [doInvoke_state]; exact hsteps⟩
end Calls
theorem vx_cls {s : State} {T : State} {vm₁ : Vm} {E : String} {k : ClassId} (hW : s.WarmedH vm₁) (h : (T.setVm vm₁).vm.findClass E = some k) : s.vm.findClass E = some k := by
  have h1 : vm₁.findClass E = some k := h
  rw [hW.alike.findClass] at h1
  exact h1
/-- the method's frame g, with q thrown over it -/
def vx_W (p : Program) (l : Launch) (e : Env) (R : Room) (s : State) (m : MethodId) (args : Array Value) (below : List Frame) (meth : Method) (c : Code) (H : Heap) (locs : List Loc) (cells slots : Nat) (Q : State → Prop) (g : JFrame) (q : Addr) : Prop :=
  ∀ T : State, T.heap = H → Stand p l e R s m args below meth c T locs cells slots → ∃ t, Steps p.tables e below ((T.setTop g).pushFrame (.throwing q)) t ∧ Q t
def vx_Run (p : Program) (l : Launch) (e : Env) (R : Room) (s : State) (m : MethodId) (args : Array Value) (below : List Frame) (meth : Method) (c : Code) (H : Heap) (locs : List Loc) (cells slots mc ms : Nat) (g : JFrame) (rest : List Value) (Qa : State → Outcome → State → Prop) (XC : String → State → State → Prop) (free : Addr → Prop) : Prop :=
  ∀ T : State, T.heap = H → Stand p l e R s m args below meth c T locs cells slots →
    (∃ (v : Option Value) (st₀ t T' : State) (L : List Loc), st₀.heap = H ∧ Stand p l e R s m args below meth c T' (locs ++ L) (cells + mc) (slots + ms) ∧ (∀ q ∈ L, free q.base) ∧ T'.heap = t.heap ∧ T'.vm = t.vm ∧ Qa st₀ (.returned v) t ∧
      Goes p e below T g T' { g with pc := g.pc + 3, stack := v.toList ++ rest }) ∨
    (∃ (q : Addr) (st₀ t T' : State) (L : List Loc) (E : String) (ce : Cell), st₀.heap = H ∧ Stand p l e R s m args below meth c T' (locs ++ L) (cells + mc) (slots + ms) ∧ (∀ z ∈ L, free z.base) ∧ T'.heap = t.heap ∧ T'.vm = t.vm ∧ XC E st₀ t ∧ t.heap[q]? = some ce ∧ ce.vm = .none ∧ s.vm.findClass E = some ce.cls ∧
      Steps p.tables e below (T.setTop g) ((T'.setTop { g with stack := rest }).pushFrame (.throwing q)))
def vx_X {S : Type} (px : S → Prop) (B : String → S → State → Prop) (A : Nat → Prop) : String → State → State → Prop := fun E st t => ∃ u : S, px u ∧ B E u t ∧ va_F A st t
section Runs
variable {p : Program} {l : Launch} {e : Env} {R : Room} {s : State} {m : MethodId} {args : Array Value} {below : List Frame} {meth : Method} {c : Code} {H : Heap} {locs : List Loc} {cells slots : Nat}
variable {y : MethodName} {bytes cc : ByteArray} {maxL nL mc ms n index : Nat} {ret : Option FieldType} {ws : List Cond} {rm : Room} {Pc : Array Value → State → Prop} {Qc : Array Value → State → Outcome → State → Prop} {XC : String → State → State → Prop} {free : Addr → Prop} {Ts : List Cond} {own C : String} {b : Addr} {As rest : List Value} {g : JFrame}
theorem vx_callBack (cb : CallB R s args own index y bytes maxL ret ws rm mc ms n) (hM : vx_Met l y ws rm Pc Qc XC mc ms free) (hbl : FrameBlind Pc) : vx_Back l R p e below s args y 3 8 (PreOf R mc ms Pc) (PostOf Qc mc ms free) (vx_Post XC mc ms free) := by
  obtain ⟨hrc, hrs, hfr, hlo, hws, hcw, -, hini, -⟩ := cb
  exact vx_back (bytes := bytes) (maxL := maxL) (ret := ret) hM hbl hrc hrs hfr hlo hws hcw (fun a' U hW => word_at hW (Or.inl (by first | rfl | simp [Cond.onTables, Cond.keeps, Cond.steady])) hini)
theorem vx_runV (S : CallFix p m c cc nL s args Ts own) (hM : vx_Met l y ws rm Pc Qc XC mc ms free) (cw : CallW R s args own C index y bytes maxL ret ws rm mc ms n) (hp : PreV s H C b Pc As)
    (hg : g.method = m) (hn : As.length = n) (hsize : g.locals.size = nL) (hstack : g.stack = As.reverse ++ .ref b :: rest) (hW : 2 * g.monitorRoom + (rest.map fun v => v.category).sum ≤ 8) (hdg : decode cc g.pc = .ok (.invokevirtual index, 3)) (hf : cells + mc ≤ R.cells ∧ slots + ms ≤ R.slots) :
    vx_Run p l e R s m args below meth c H locs cells slots mc ms g rest (Qc (Value.ref b :: As).toArray) XC free := by
  have hK : vx_Back l R p e below s args y 3 8 (PreOf R mc ms Pc) (PostOf Qc mc ms free) (vx_Post XC mc ms free) := vx_callBack cw.1 hM hp.1
  obtain ⟨⟨-, -, -, -, -, -, hcode, -, hy, hlen, hl⟩, hin, hse⟩ := cw
  obtain ⟨hx, hb, hml, ho, -⟩ := S
  obtain ⟨-, ⟨cellB, hcB, hoB, hclB⟩, hPc⟩ := hp
  intro T hT X
  rcases vx_callV X hx (C := C) (bytes := bytes) (maxL := maxL) (ret := ret) ho hl hin hse hcode hy hK (by rw [hT]; exact hcB) hoB hclB hg (hsize.trans hml.symm) (argsL := As) (rest := rest) (fun sig h => hn.trans (hlen sig h)) hstack hW (by rw [hb]; exact hdg)
    (fun vm₁ hW₁ => ⟨hf.1, hf.2, hPc (T.setVm vm₁) hT hW₁⟩) with ⟨v, vm₁, ⟨U', l2, c2, s2⟩, hW₁, X', ⟨g', mk, t, L, e1, e2, hq, h1, hL, h2, h3⟩, st⟩ | ⟨q, vm₁, ⟨U', l2, c2, s2⟩, hW₁, X', ⟨g', mk, t, L, E, ce, e1, e2, hq, hce, hcv, hcl, h1, hL, h2, h3⟩, st⟩
  · dsimp only [Pt.U, Pt.locs, Pt.cells, Pt.slots] at X' e1 e2 h1 h2 h3 st
    subst h1; subst h2; subst h3
    exact Or.inl ⟨v, (T.setVm vm₁).calling g' mk (Value.ref b :: As).toArray, t, U', L, hT, X', hL, e1, e2, hq, st⟩
  · dsimp only [Pt.U, Pt.locs, Pt.cells, Pt.slots] at X' e1 e2 h1 h2 h3 st hcl
    subst h1; subst h2; subst h3
    exact Or.inr ⟨q, (T.setVm vm₁).calling g' mk (Value.ref b :: As).toArray, t, U', L, E, ce, hT, X', hL, e1, e2, hq, hce, hcv, vx_cls hW₁ hcl, st⟩
theorem vx_runS (S : CallFix p m c cc nL s args Ts own) (hM : vx_Met l y ws rm Pc Qc XC mc ms free) (cw : CallB R s args own index y bytes maxL ret ws rm mc ms n ∧ (Cond.static y).before args s = true) (hp : PreS s H Pc As)
    (hg : g.method = m) (hn : As.length = n) (hsize : g.locals.size = nL) (hstack : g.stack = As.reverse ++ rest) (hW : 2 * g.monitorRoom + (rest.map fun v => v.category).sum ≤ 8) (hdg : decode cc g.pc = .ok (.invokestatic index, 3)) (hf : cells + mc ≤ R.cells ∧ slots + ms ≤ R.slots) :
    vx_Run p l e R s m args below meth c H locs cells slots mc ms g rest (Qc As.toArray) XC free := by
  have hK : vx_Back l R p e below s args y 3 8 (PreOf R mc ms Pc) (PostOf Qc mc ms free) (vx_Post XC mc ms free) := vx_callBack cw.1 hM hp.1
  obtain ⟨⟨-, -, -, -, -, -, hcode, hini, hy, hlen, hl⟩, hstt⟩ := cw
  obtain ⟨hx, hb, hml, ho, -⟩ := S
  intro T hT X
  rcases vx_callS X hx (bytes := bytes) (maxL := maxL) (ret := ret) ho hl hstt hini hcode hy hK hg (hsize.trans hml.symm) (argsL := As) (rest := rest) (fun sig h => hn.trans (hlen sig h)) hstack hW (by rw [hb]; exact hdg)
    (fun vm₁ hW₁ => ⟨hf.1, hf.2, hp.2 (T.setVm vm₁) hT hW₁⟩) with ⟨v, vm₁, ⟨U', l2, c2, s2⟩, hW₁, X', ⟨g', mk, t, L, e1, e2, hq, h1, hL, h2, h3⟩, st⟩ | ⟨q, vm₁, ⟨U', l2, c2, s2⟩, hW₁, X', ⟨g', mk, t, L, E, ce, e1, e2, hq, hce, hcv, hcl, h1, hL, h2, h3⟩, st⟩
  · dsimp only [Pt.U, Pt.locs, Pt.cells, Pt.slots] at X' e1 e2 h1 h2 h3 st
    subst h1; subst h2; subst h3
    exact Or.inl ⟨v, (T.setVm vm₁).calling g' mk As.toArray, t, U', L, hT, X', hL, e1, e2, hq, st⟩
  · dsimp only [Pt.U, Pt.locs, Pt.cells, Pt.slots] at X' e1 e2 h1 h2 h3 st hcl
    subst h1; subst h2; subst h3
    exact Or.inr ⟨q, (T.setVm vm₁).calling g' mk As.toArray, t, U', L, E, ce, hT, X', hL, e1, e2, hq, hce, hcv, vx_cls hW₁ hcl, st⟩
end Runs
section Rows
variable {p : Program} {l : Launch} {e : Env} {R : Room} {s : State} {m : MethodId} {args : Array Value} {below : List Frame} {meth : Method} {c : Code} {H : Heap} {locs : List Loc} {cells slots : Nat} {Q : State → Prop}
variable {mc ms : Nat} {free : Addr → Prop} {A0 A1 : Nat → Prop} {H0 : Heap} {a : Array Value} {pc : Nat} {ls : Array Slot} {st0 rest : List Value}
theorem vx_keep {st₀ t T' : State} {L : List Loc} (h0 : st₀.heap = H) (e1 : T'.heap = t.heap) (hS : va_S A0 H0 H locs) (hA : ∀ q, q < H.size → A1 q → A0 q) (hf : ∀ q, free q → A0 q) (hL : ∀ q ∈ L, free q.base) (hF : va_F A1 st₀ t) :
    H.size ≤ T'.heap.size ∧ (∀ q : Nat, q < H.size → ¬ A1 q → T'.heap[q]? = H[q]?) ∧ va_S A0 H0 T'.heap (locs ++ L) := by
  obtain ⟨hz, hk⟩ := hF
  rw [h0] at hz hk
  exact ⟨by rw [e1]; exact hz, fun q h1 h2 => by rw [e1]; exact hk q h1 h2,
    ⟨Nat.le_trans hS.1 (by rw [e1]; exact hz), fun q h1 h2 => by rw [e1, hk q (Nat.lt_of_lt_of_le h1 hS.1) (fun z => h2 (hA q (Nat.lt_of_lt_of_le h1 hS.1) z))]; exact hS.2.1 q h1 h2, fun q hq => by
      rcases List.mem_append.mp hq with h | h
      · exact hS.2.2 q h
      · exact hf _ (hL q h)⟩⟩
theorem vx_calli {S SX : Type} {post : Int32 → S → Prop} {px : SX → Prop} {B : S → State → Prop} {BX : String → SX → State → Prop} {AX : Nat → Prop} (hr : vx_Run p l e R s m args below meth c H locs cells slots mc ms (F0 m pc ls st0) rest (va_Qi post B A1 a) (vx_X px BX AX) free) (hS : va_S A0 H0 H locs) (hA : ∀ q, q < H.size → A1 q → A0 q) (hf : ∀ q, free q → A0 q) (hAX : ∀ q, q < H.size → AX q → A0 q)
    (kx : ∀ (E : String) (ce : Cell) (q9 : Addr) (u : SX) (t : State) (H1 : Heap) (locs1 : List Loc), t.heap = H1 → s.vm.Alike t.vm → px u → BX E u t → H.size ≤ H1.size → (∀ q : Nat, q < H.size → ¬ AX q → H1[q]? = H[q]?) → va_S A0 H0 H1 locs1 → H1[q9]? = some ce → ce.vm = .none → s.vm.findClass E = some ce.cls → vx_W p l e R s m args below meth c H1 locs1 (cells + mc) (slots + ms) Q (F0 m pc ls rest) q9)
    (kk : ∀ (r : Int32) (u : S) (t : State) (H1 : Heap) (locs1 : List Loc), t.heap = H1 → s.vm.Alike t.vm → post r u → B u t → H.size ≤ H1.size → (∀ q : Nat, q < H.size → ¬ A1 q → H1[q]? = H[q]?) → va_S A0 H0 H1 locs1 → W p l e R s m args below meth c H1 locs1 (cells + mc) (slots + ms) Q (F0 m (pc + 3) ls (.int r :: rest))) : W p l e R s m args below meth c H locs cells slots Q (F0 m pc ls st0) := by
  intro T hT X
  rcases hr T hT X with ⟨v, st₀, t, T', L, h0, X', hL, e1, e2, ⟨⟨r, u, hv, hp, hb⟩, hF⟩, st⟩ | ⟨q, st₀, t, T', L, E, ce, h0, X', hL, e1, e2, ⟨u, hp, hb, hF⟩, hce, hcv, hcl, st⟩
  · cases hv
    obtain ⟨k1, k2, k3⟩ := vx_keep h0 e1 hS hA hf hL hF
    obtain ⟨t2, a1, b1⟩ := kk r u t T'.heap (locs ++ L) e1.symm (by rw [← e2]; exact X'.warmed.alike) hp hb k1 k2 k3 T' rfl X'
    exact ⟨t2, st t2 a1, b1⟩
  · obtain ⟨k1, k2, k3⟩ := vx_keep h0 e1 hS hAX hf hL hF
    obtain ⟨t2, a1, b1⟩ := kx E ce q u t T'.heap (locs ++ L) e1.symm (by rw [← e2]; exact X'.warmed.alike) hp hb k1 k2 k3 (by rw [e1]; exact hce) hcv hcl T' rfl X'
    exact ⟨t2, st.trans a1, b1⟩
theorem vx_calll {S SX : Type} {post : Int64 → S → Prop} {px : SX → Prop} {B : S → State → Prop} {BX : String → SX → State → Prop} {AX : Nat → Prop} (hr : vx_Run p l e R s m args below meth c H locs cells slots mc ms (F0 m pc ls st0) rest (va_Ql post B A1 a) (vx_X px BX AX) free) (hS : va_S A0 H0 H locs) (hA : ∀ q, q < H.size → A1 q → A0 q) (hf : ∀ q, free q → A0 q) (hAX : ∀ q, q < H.size → AX q → A0 q)
    (kx : ∀ (E : String) (ce : Cell) (q9 : Addr) (u : SX) (t : State) (H1 : Heap) (locs1 : List Loc), t.heap = H1 → s.vm.Alike t.vm → px u → BX E u t → H.size ≤ H1.size → (∀ q : Nat, q < H.size → ¬ AX q → H1[q]? = H[q]?) → va_S A0 H0 H1 locs1 → H1[q9]? = some ce → ce.vm = .none → s.vm.findClass E = some ce.cls → vx_W p l e R s m args below meth c H1 locs1 (cells + mc) (slots + ms) Q (F0 m pc ls rest) q9)
    (kk : ∀ (r : Int64) (u : S) (t : State) (H1 : Heap) (locs1 : List Loc), t.heap = H1 → s.vm.Alike t.vm → post r u → B u t → H.size ≤ H1.size → (∀ q : Nat, q < H.size → ¬ A1 q → H1[q]? = H[q]?) → va_S A0 H0 H1 locs1 → W p l e R s m args below meth c H1 locs1 (cells + mc) (slots + ms) Q (F0 m (pc + 3) ls (.long r :: rest))) : W p l e R s m args below meth c H locs cells slots Q (F0 m pc ls st0) := by
  intro T hT X
  rcases hr T hT X with ⟨v, st₀, t, T', L, h0, X', hL, e1, e2, ⟨⟨r, u, hv, hp, hb⟩, hF⟩, st⟩ | ⟨q, st₀, t, T', L, E, ce, h0, X', hL, e1, e2, ⟨u, hp, hb, hF⟩, hce, hcv, hcl, st⟩
  · cases hv
    obtain ⟨k1, k2, k3⟩ := vx_keep h0 e1 hS hA hf hL hF
    obtain ⟨t2, a1, b1⟩ := kk r u t T'.heap (locs ++ L) e1.symm (by rw [← e2]; exact X'.warmed.alike) hp hb k1 k2 k3 T' rfl X'
    exact ⟨t2, st t2 a1, b1⟩
  · obtain ⟨k1, k2, k3⟩ := vx_keep h0 e1 hS hAX hf hL hF
    obtain ⟨t2, a1, b1⟩ := kx E ce q u t T'.heap (locs ++ L) e1.symm (by rw [← e2]; exact X'.warmed.alike) hp hb k1 k2 k3 (by rw [e1]; exact hce) hcv hcl T' rfl X'
    exact ⟨t2, st.trans a1, b1⟩
theorem vx_callf {S SX : Type} {post : UInt32 → S → Prop} {px : SX → Prop} {B : S → State → Prop} {BX : String → SX → State → Prop} {AX : Nat → Prop} (hr : vx_Run p l e R s m args below meth c H locs cells slots mc ms (F0 m pc ls st0) rest (va_Qf post B A1 a) (vx_X px BX AX) free) (hS : va_S A0 H0 H locs) (hA : ∀ q, q < H.size → A1 q → A0 q) (hf : ∀ q, free q → A0 q) (hAX : ∀ q, q < H.size → AX q → A0 q)
    (kx : ∀ (E : String) (ce : Cell) (q9 : Addr) (u : SX) (t : State) (H1 : Heap) (locs1 : List Loc), t.heap = H1 → s.vm.Alike t.vm → px u → BX E u t → H.size ≤ H1.size → (∀ q : Nat, q < H.size → ¬ AX q → H1[q]? = H[q]?) → va_S A0 H0 H1 locs1 → H1[q9]? = some ce → ce.vm = .none → s.vm.findClass E = some ce.cls → vx_W p l e R s m args below meth c H1 locs1 (cells + mc) (slots + ms) Q (F0 m pc ls rest) q9)
    (kk : ∀ (r : UInt32) (u : S) (t : State) (H1 : Heap) (locs1 : List Loc), t.heap = H1 → s.vm.Alike t.vm → post r u → B u t → H.size ≤ H1.size → (∀ q : Nat, q < H.size → ¬ A1 q → H1[q]? = H[q]?) → va_S A0 H0 H1 locs1 → W p l e R s m args below meth c H1 locs1 (cells + mc) (slots + ms) Q (F0 m (pc + 3) ls (.float r :: rest))) : W p l e R s m args below meth c H locs cells slots Q (F0 m pc ls st0) := by
  intro T hT X
  rcases hr T hT X with ⟨v, st₀, t, T', L, h0, X', hL, e1, e2, ⟨⟨r, u, hv, hp, hb⟩, hF⟩, st⟩ | ⟨q, st₀, t, T', L, E, ce, h0, X', hL, e1, e2, ⟨u, hp, hb, hF⟩, hce, hcv, hcl, st⟩
  · cases hv
    obtain ⟨k1, k2, k3⟩ := vx_keep h0 e1 hS hA hf hL hF
    obtain ⟨t2, a1, b1⟩ := kk r u t T'.heap (locs ++ L) e1.symm (by rw [← e2]; exact X'.warmed.alike) hp hb k1 k2 k3 T' rfl X'
    exact ⟨t2, st t2 a1, b1⟩
  · obtain ⟨k1, k2, k3⟩ := vx_keep h0 e1 hS hAX hf hL hF
    obtain ⟨t2, a1, b1⟩ := kx E ce q u t T'.heap (locs ++ L) e1.symm (by rw [← e2]; exact X'.warmed.alike) hp hb k1 k2 k3 (by rw [e1]; exact hce) hcv hcl T' rfl X'
    exact ⟨t2, st.trans a1, b1⟩
theorem vx_calld {S SX : Type} {post : UInt64 → S → Prop} {px : SX → Prop} {B : S → State → Prop} {BX : String → SX → State → Prop} {AX : Nat → Prop} (hr : vx_Run p l e R s m args below meth c H locs cells slots mc ms (F0 m pc ls st0) rest (va_Qd post B A1 a) (vx_X px BX AX) free) (hS : va_S A0 H0 H locs) (hA : ∀ q, q < H.size → A1 q → A0 q) (hf : ∀ q, free q → A0 q) (hAX : ∀ q, q < H.size → AX q → A0 q)
    (kx : ∀ (E : String) (ce : Cell) (q9 : Addr) (u : SX) (t : State) (H1 : Heap) (locs1 : List Loc), t.heap = H1 → s.vm.Alike t.vm → px u → BX E u t → H.size ≤ H1.size → (∀ q : Nat, q < H.size → ¬ AX q → H1[q]? = H[q]?) → va_S A0 H0 H1 locs1 → H1[q9]? = some ce → ce.vm = .none → s.vm.findClass E = some ce.cls → vx_W p l e R s m args below meth c H1 locs1 (cells + mc) (slots + ms) Q (F0 m pc ls rest) q9)
    (kk : ∀ (r : UInt64) (u : S) (t : State) (H1 : Heap) (locs1 : List Loc), t.heap = H1 → s.vm.Alike t.vm → post r u → B u t → H.size ≤ H1.size → (∀ q : Nat, q < H.size → ¬ A1 q → H1[q]? = H[q]?) → va_S A0 H0 H1 locs1 → W p l e R s m args below meth c H1 locs1 (cells + mc) (slots + ms) Q (F0 m (pc + 3) ls (.double r :: rest))) : W p l e R s m args below meth c H locs cells slots Q (F0 m pc ls st0) := by
  intro T hT X
  rcases hr T hT X with ⟨v, st₀, t, T', L, h0, X', hL, e1, e2, ⟨⟨r, u, hv, hp, hb⟩, hF⟩, st⟩ | ⟨q, st₀, t, T', L, E, ce, h0, X', hL, e1, e2, ⟨u, hp, hb, hF⟩, hce, hcv, hcl, st⟩
  · cases hv
    obtain ⟨k1, k2, k3⟩ := vx_keep h0 e1 hS hA hf hL hF
    obtain ⟨t2, a1, b1⟩ := kk r u t T'.heap (locs ++ L) e1.symm (by rw [← e2]; exact X'.warmed.alike) hp hb k1 k2 k3 T' rfl X'
    exact ⟨t2, st t2 a1, b1⟩
  · obtain ⟨k1, k2, k3⟩ := vx_keep h0 e1 hS hAX hf hL hF
    obtain ⟨t2, a1, b1⟩ := kx E ce q u t T'.heap (locs ++ L) e1.symm (by rw [← e2]; exact X'.warmed.alike) hp hb k1 k2 k3 (by rw [e1]; exact hce) hcv hcl T' rfl X'
    exact ⟨t2, st.trans a1, b1⟩
theorem vx_callv {S SX : Type} {post : S → Prop} {px : SX → Prop} {B : S → State → Prop} {BX : String → SX → State → Prop} {AX : Nat → Prop} (hr : vx_Run p l e R s m args below meth c H locs cells slots mc ms (F0 m pc ls st0) rest (va_Qv post B A1 a) (vx_X px BX AX) free) (hS : va_S A0 H0 H locs) (hA : ∀ q, q < H.size → A1 q → A0 q) (hf : ∀ q, free q → A0 q) (hAX : ∀ q, q < H.size → AX q → A0 q)
    (kx : ∀ (E : String) (ce : Cell) (q9 : Addr) (u : SX) (t : State) (H1 : Heap) (locs1 : List Loc), t.heap = H1 → s.vm.Alike t.vm → px u → BX E u t → H.size ≤ H1.size → (∀ q : Nat, q < H.size → ¬ AX q → H1[q]? = H[q]?) → va_S A0 H0 H1 locs1 → H1[q9]? = some ce → ce.vm = .none → s.vm.findClass E = some ce.cls → vx_W p l e R s m args below meth c H1 locs1 (cells + mc) (slots + ms) Q (F0 m pc ls rest) q9)
    (kk : ∀ (u : S) (t : State) (H1 : Heap) (locs1 : List Loc), t.heap = H1 → s.vm.Alike t.vm → post u → B u t → H.size ≤ H1.size → (∀ q : Nat, q < H.size → ¬ A1 q → H1[q]? = H[q]?) → va_S A0 H0 H1 locs1 → W p l e R s m args below meth c H1 locs1 (cells + mc) (slots + ms) Q (F0 m (pc + 3) ls (rest))) : W p l e R s m args below meth c H locs cells slots Q (F0 m pc ls st0) := by
  intro T hT X
  rcases hr T hT X with ⟨v, st₀, t, T', L, h0, X', hL, e1, e2, ⟨⟨u, hv, hp, hb⟩, hF⟩, st⟩ | ⟨q, st₀, t, T', L, E, ce, h0, X', hL, e1, e2, ⟨u, hp, hb, hF⟩, hce, hcv, hcl, st⟩
  · cases hv
    obtain ⟨k1, k2, k3⟩ := vx_keep h0 e1 hS hA hf hL hF
    obtain ⟨t2, a1, b1⟩ := kk u t T'.heap (locs ++ L) e1.symm (by rw [← e2]; exact X'.warmed.alike) hp hb k1 k2 k3 T' rfl X'
    exact ⟨t2, st t2 a1, b1⟩
  · obtain ⟨k1, k2, k3⟩ := vx_keep h0 e1 hS hAX hf hL hF
    obtain ⟨t2, a1, b1⟩ := kx E ce q u t T'.heap (locs ++ L) e1.symm (by rw [← e2]; exact X'.warmed.alike) hp hb k1 k2 k3 (by rw [e1]; exact hce) hcv hcl T' rfl X'
    exact ⟨t2, st.trans a1, b1⟩
end Rows
section Ends
variable {p : Program} {l : Launch} {e : Env} {R : Room} {s : State} {m : MethodId} {args : Array Value} {below : List Frame} {meth : Method} {c : Code} {H : Heap} {locs : List Loc} {cells slots : Nat} {Q : State → Prop}
variable {mc ms : Nat} {free : Addr → Prop} {A0 A1 : Nat → Prop} {H0 : Heap} {a : Array Value} {ls : Array Slot} {st0 rest : List Value}
variable {Qc : Array Value → State → Outcome → State → Prop} {XC : String → State → State → Prop}
/-- what a body that may throw owes at its end -/
def vx_MQ (below : List Frame) (Qc : Array Value → State → Outcome → State → Prop) (XC : String → State → State → Prop) (a : Array Value) (s : State) (mc ms : Nat) (free : Addr → Prop) : State → Prop := fun t =>
  ∃ o, t.status = .running ∧ Ended t below o ∧ vx_Q Qc XC mc ms free a s o t
theorem vx_ret {g : JFrame} {mc ms : Nat} (k : W p l e R s m args below meth c H locs cells slots (MQ below Qc args s mc ms free) g) : W p l e R s m args below meth c H locs cells slots (vx_MQ below Qc XC args s mc ms free) g := by
  intro T hT X
  obtain ⟨t, a1, o, b1, b2, b3, b4⟩ := k T hT X
  exact ⟨t, a1, o, b1, b2, Or.inl ⟨b3, b4⟩⟩
/-- not caught here: it goes on to the caller -/
theorem vx_widen {g : JFrame} {q : Addr} {k n : Nat} (h1 : cells ≤ k) (h2 : slots ≤ n) (kk : vx_W p l e R s m args below meth c H locs k n Q g q) : vx_W p l e R s m args below meth c H locs cells slots Q g q := fun T hT X => kk T hT (stand_widen X h1 h2)
theorem vx_out {pc : Nat} {E : String} {ce : Cell} {q : Addr} {mc ms : Nat} (hout : ∀ x ∈ c.exceptionTable.toList, covers x pc = false) (hlocks : meth.locks = false) (hcell : H[q]? = some ce) (hv : ce.vm = .none) (hcl : s.vm.findClass E = some ce.cls)
    (hx : ∀ t : State, t.heap = H → s.vm.Alike t.vm → XC E s t) (hf : ∀ z ∈ locs, free z.base) (hc : cells ≤ mc) (hs : slots ≤ ms) :
    vx_W p l e R s m args below meth c H locs cells slots (vx_MQ below Qc XC args s mc ms free) (F0 m pc ls rest) q := by
  intro T hT X
  obtain ⟨st1, hrun, hend, hW, hsm⟩ := X.leaveThrown q (g := F0 m pc ls rest) rfl rfl rfl hout hlocks
  have hcell9 : (T.setFrames (.throwing q :: below)).heap[q]? = some ce := by
    show T.heap[q]? = some ce
    rw [hT]; exact hcell
  exact ⟨_, st1, .threw q, hrun, hend, Or.inr ⟨q, rfl, E, ce, locs, hx _ hT hW.alike, hcell9, hv, hcl, hW, hsm.mono hc hs, hf⟩⟩
theorem vx_frame {U : State} {k n : Nat} (h : s.sameButNew ({ U with vm := s.vm } : State) locs k n) : s.heap.size ≤ U.heap.size ∧ ∀ q : Nat, q < s.heap.size → (∀ z ∈ locs, z.base ≠ q) → U.heap[q]? = s.heap[q]? := by
  obtain ⟨-, h2, -, -, -, h6⟩ := h
  refine ⟨h2, fun q hq hz => ?_⟩
  obtain ⟨c9, e1, e2, e3, e4⟩ := h6 q _ (Array.getElem?_eq_getElem hq)
  have hs : c9.slots = (s.heap[q]).slots := Array.ext_getElem? fun i => e4 i fun hm => hz _ hm rfl
  have h9 : c9 = s.heap[q] := by
    rw [hs] at e2
    exact e2
  have e5 : U.heap[q]? = some c9 := e1
  rw [e5, h9, Array.getElem?_eq_getElem hq]
/-- the words of a throw but the four that speak of the heap -/
def vx_no (w : Cond) : Bool := decide (w ≠ .isRef (.static Bundle.tN "UNASSIGNED_STACK" Bundle.steD)) && decide (w ≠ .isRef (.static Bundle.tN "SUPPRESSED_SENTINEL" Bundle.listD)) && decide (w ≠ .laysStatic Bundle.tN "UNASSIGNED_STACK" Bundle.steD) && decide (w ≠ .laysStatic Bundle.tN "SUPPRESSED_SENTINEL" Bundle.listD)
def vx_at0 (own : String) (ic : Nat) (X : String) (names : List String) : List Cond := (Bundle.ownAtoms0 own ic X names).filter vx_no
def vx_atS (own : String) (ic : Nat) (X : String) (names : List String) : List Cond := (Bundle.ownAtoms own ic X names).filter vx_no
/-- a word that the tables alone decide, or a good one -/
def vx_ot (w : Cond) : Bool := w.onTables || goodWord w
theorem vx_ot_at {args a' : Array Value} {s U : State} {w : Cond} (hW : s.WarmedH U.vm) (hvm : s.vm = U.vm) (hg : vx_ot w = true) (h : w.before args s = true) : w.before a' U = true := by
  simp only [vx_ot, Bool.or_eq_true] at hg
  rcases hg with hg | hg
  · exact va_tabs hg hvm h
  · exact word_at hW (good_of_word hg) h
/-- a list's words: the good ones out of the method's own list, the others by premises of their own -/
theorem vx_hat {args : Array Value} {s : State} {L B : List Cond} (h1 : ∀ w ∈ L.filter goodWord, w.before args s = true) (h2 : ∀ w ∈ L.filter (fun w => !goodWord w), w ∈ B) (h3 : ∀ w ∈ B, w.before args s = true) : ∀ w ∈ L, w.before args s = true := by
  intro w hw
  by_cases g : goodWord w = true
  · exact h1 w (List.mem_filter.mpr ⟨hw, g⟩)
  · refine h3 w (h2 w (List.mem_filter.mpr ⟨hw, ?_⟩))
    show (!goodWord w) = true
    cases hgw : goodWord w
    · rfl
    · exact absurd hgw g
theorem vx_c {args : Array Value} {s : State} {w : Cond} {B : List Cond} (h : w.before args s = true) (t : ∀ w ∈ B, w.before args s = true) : ∀ w' ∈ w :: B, w'.before args s = true := fun w' h' => (List.mem_cons.mp h').elim (fun e => by rw [e]; exact h) (t w')
theorem vx_n {args : Array Value} {s : State} : ∀ w ∈ ([] : List Cond), w.before args s = true := fun _ h => nomatch h
theorem vx_own {args : Array Value} {s : State} {L : List Cond} (h1 : ∀ w ∈ L.filter vx_no, w.before args s = true)
    (hU : (Cond.isRef (.static Bundle.tN "UNASSIGNED_STACK" Bundle.steD)).before args s = true) (hN : (Cond.isRef (.static Bundle.tN "SUPPRESSED_SENTINEL" Bundle.listD)).before args s = true)
    (lU : (Cond.laysStatic Bundle.tN "UNASSIGNED_STACK" Bundle.steD).before args s = true) (lN : (Cond.laysStatic Bundle.tN "SUPPRESSED_SENTINEL" Bundle.listD).before args s = true) : ∀ w ∈ L, w.before args s = true := by
  intro w hw
  by_cases e1 : w = .isRef (.static Bundle.tN "UNASSIGNED_STACK" Bundle.steD)
  · rw [e1]; exact hU
  · by_cases e2 : w = .isRef (.static Bundle.tN "SUPPRESSED_SENTINEL" Bundle.listD)
    · rw [e2]; exact hN
    · by_cases e3 : w = .laysStatic Bundle.tN "UNASSIGNED_STACK" Bundle.steD
      · rw [e3]; exact lU
      · by_cases e4 : w = .laysStatic Bundle.tN "SUPPRESSED_SENTINEL" Bundle.listD
        · rw [e4]; exact lN
        · exact h1 w (List.mem_filter.mpr ⟨hw, by unfold vx_no; rw [decide_eq_true e1, decide_eq_true e2, decide_eq_true e3, decide_eq_true e4]; rfl⟩)
/-- where a static field lies, its class's statics cell in H -/
def vx_L (C n d : String) (A : Nat → Prop) (U : State) (H : Heap) : Prop := ∃ (c : ClassId) (k : Class) (i : Nat) (f : Field) (a : Nat) (cell : Cell), U.vm.findClass C = some c ∧ U.fieldFound? C n d = some (c, k, i, f) ∧ f.isStatic = true ∧ k.statics = some a ∧ H[a]? = some cell ∧ cell.vm.isStatics = true ∧ cell.cls = c ∧ f.slot < cell.slots.size ∧ k.staticTypes[f.slot]? = some f.type ∧ ¬ A a
theorem vx_L.moved {C n d : String} {A : Nat → Prop} {u U : State} {H : Heap} (hvm : u.vm.Alike U.vm) (h : vx_L C n d A u H) : vx_L C n d A U H := by
  obtain ⟨c, k, i, f, a, cell, h1, h2, h3, h4, h5, h6, h7, h8, h9, h10⟩ := h
  obtain ⟨k', hi', he⟩ := State.fieldFound?_setVm hvm h2
  exact ⟨c, k', i, f, a, cell, by rw [hvm.findClass]; exact h1, hi', h3, by rw [he]; exact h4, h5, h6, h7, h8, by rw [he]; exact h9, h10⟩
theorem vx_L.kept {C n d : String} {A : Nat → Prop} {U : State} {H H1 : Heap} (h : vx_L C n d A U H) (hq : ∀ a : Nat, a < H.size → ¬ A a → H1[a]? = H[a]?) : vx_L C n d A U H1 := by
  obtain ⟨c, k, i, f, a, cell, h1, h2, h3, h4, h5, h6, h7, h8, h9, h10⟩ := h
  exact ⟨c, k, i, f, a, cell, h1, h2, h3, h4, by rw [hq a (Array.getElem?_eq_some_iff.mp h5).1 h10]; exact h5, h6, h7, h8, h9, h10⟩
theorem vx_L.narrow {C n d : String} {A B : Nat → Prop} {U : State} {H : Heap} (h : vx_L C n d A U H) (hAB : ∀ q, B q → A q) : vx_L C n d B U H := by
  obtain ⟨c, k, i, f, a, cell, h1, h2, h3, h4, h5, h6, h7, h8, h9, h10⟩ := h
  exact ⟨c, k, i, f, a, cell, h1, h2, h3, h4, h5, h6, h7, h8, h9, fun z => h10 (hAB _ z)⟩
theorem vx_L.word {C n d : String} {A : Nat → Prop} {s : State} {args : Array Value} (h : vx_L C n d A s s.heap) : (Cond.laysStatic C n d).before args s = true := by
  obtain ⟨c, k, i, f, a, cell, h1, h2, h3, h4, h5, h6, h7, h8, h9, -⟩ := h
  show (Cond.laysStatic C n d).holds args s none s [] = true
  exact Cond.laysStatic_of h1 h2 h3 h4 h5 h6 h7 h8 h9
/-- .. and what it holds: null or some reference -/
def vx_Zq (C n d : String) (A : Nat → Prop) (U : State) (H : Heap) : Prop := va_Zq C n d A U H ∧ vx_L C n d A U H
theorem vx_Zq.moved {C n d : String} {A : Nat → Prop} {u U : State} {H : Heap} (hvm : u.vm.Alike U.vm) (h : vx_Zq C n d A u H) : vx_Zq C n d A U H := ⟨va_Zq.moved hvm h.1, vx_L.moved hvm h.2⟩
theorem vx_Zq.kept {C n d : String} {A : Nat → Prop} {U : State} {H H1 : Heap} (h : vx_Zq C n d A U H) (hq : ∀ a : Nat, a < H.size → ¬ A a → H1[a]? = H[a]?) : vx_Zq C n d A U H1 := ⟨va_Zq.kept h.1 hq, vx_L.kept h.2 hq⟩
theorem vx_Zq.narrow {C n d : String} {A B : Nat → Prop} {U : State} {H : Heap} (h : vx_Zq C n d A U H) (hAB : ∀ q, B q → A q) : vx_Zq C n d B U H := ⟨va_Zq.narrow h.1 hAB, vx_L.narrow h.2 hAB⟩
theorem vx_Zqof {args : Array Value} {s : State} {C n d : String} {A : Nat → Prop} (hl : (Cond.laysStatic C n d).before args s = true) (hini : (Cond.initialized C).before args s = true) (h : (Cond.isRef (.static C n d)).before args s = true) (hA : ∀ a : Nat, a < s.heap.size → ¬ A a) : vx_Zq C n d A s s.heap := by
  refine ⟨va_Zqof hl hini h hA, ?_⟩
  obtain ⟨c, k, i, f, a, cell, h1, h2, h3, h4, h5, h6, h7, h8, h9⟩ := Cond.laysStatic_spec hl
  exact ⟨c, k, i, f, a, cell, h1, h2, h3, h4, h5, h6, h7, h8, h9, hA a (Array.getElem?_eq_some_iff.mp h5).1⟩
theorem vx_isRef {C n d : String} {v : Value} {A : Nat → Prop} {s : State} {args : Array Value} (h : va_Z C n d v A s s.heap) (hv : v.isRef = true) : (Cond.isRef (.static C n d)).before args s = true := by
  obtain ⟨cf, kf, fi, f, a, cell, h1, h2, h3, h4, h5, h6, h7, -⟩ := h
  have he : (Term.static C n d).eval args s none [] s = some v := by
    simp [Term.eval, State.fieldNamed?, h1, h2, h4, h5, h6, h7]
  simp only [Cond.before, Cond.holds, Cond.value, he]
  cases v <;> simp_all [Value.isRef]
theorem vx_isRefq {C n d : String} {A : Nat → Prop} {s : State} {args : Array Value} (h : va_Zq C n d A s s.heap) : (Cond.isRef (.static C n d)).before args s = true := by
  rcases h with h | ⟨t, h⟩
  · exact vx_isRef h rfl
  · exact vx_isRef h rfl
/-- the same frame, seen from here: as if the method were called anew in this heap -/
theorem vx_rebase {T : State} (X : Stand p l e R s m args below meth c T locs cells slots) {R' : Room} (hf : R'.frames ≤ R.frames) (hl : R'.locals ≤ R.locals) (hc : cells + R'.cells ≤ R.cells) (hs : slots + R'.slots ≤ R.slots) :
    Stand p l e R' ((T.setVm s.vm).setFrames (.invoking m args :: below)) m args below meth c T [] 0 0 := by
  have htop : (T.setVm s.vm).topJava?.isSome := X.here.top
  have hF : ((T.setVm s.vm).setFrames (.invoking m args :: below)).frames = .invoking m args :: below := State.frames_setFrames _ (State.cur_lt_of_top htop)
  obtain ⟨g₀, hg0⟩ := Option.isSome_iff_exists.mp htop
  obtain ⟨r, hr⟩ := State.topJava?_eq_some.mp hg0
  have hl9 : e.platform.stackLimits (T.setVm s.vm).me = e.platform.stackLimits s.me := X.limits
  have hb9 : (T.setVm s.vm).me.stackBytes = s.me.stackBytes := X.bytes
  refine ⟨X.admits, X.cas, X.clock, hF, ?_, X.hears, X.method, X.code, X.here, X.tail, X.warmed, ?_, ?_, ?_⟩
  · have h := X.room
    have hU : ((T.setVm s.vm).setFrames (.invoking m args :: below)).localsInUse = s.localsInUse := by
      rw [State.localsInUse_invoking hF (meth := meth) (c := c) X.method X.code, State.localsInUse_invoking X.frames X.method X.code]
    simp only [State.hasRoom, Bool.and_eq_true, decide_eq_true_eq] at h ⊢
    obtain ⟨⟨⟨⟨h1, h2, h3, h4, h5, h6⟩, h7⟩, h8⟩, h9⟩ := h
    rw [X.frames, List.length_cons] at h2 h3
    have q1 := X.heapSize
    have q2 := X.used
    simp only [hF, hU, List.length_cons, State.stackLimits_setFrames, State.stackBytes_setFrames, hl9, hb9]
    refine ⟨⟨⟨⟨by omega, by omega, by omega, by omega, by omega, h6⟩, ?_⟩, ?_⟩, X.book⟩
    · show T.heap.size + R'.cells ≤ e.platform.maxCells
      omega
    · show T.slotsUsed + R'.slots ≤ e.platform.maxSlots
      omega
  · rw [State.stackLimits_setFrames]; rfl
  · rw [State.stackBytes_setFrames]; rfl
  · refine ⟨?_, Nat.le_refl _, Nat.le_refl _, ?_, ?_, fun a c9 h9 => ⟨c9, h9, rfl, rfl, fun _ _ => rfl⟩⟩
    · obtain ⟨t, ht, -⟩ := State.frames_cons hr
      show T.setVm s.vm = { ((T.setVm s.vm).setFrames (.invoking m args :: below)).setFrames (T.setVm s.vm).frames with heap := T.heap, slotsUsed := T.slotsUsed }
      rw [State.setFrames_setFrames, State.setFrames_self ht]
      rfl
    · show T.slotsUsed = T.slotsUsed + ((T.heap.toList.drop T.heap.size).map (·.slots.size)).sum
      rw [List.drop_eq_nil_of_le (Nat.le_of_eq Array.length_toList)]
      rfl
    · show ((T.heap.toList.drop T.heap.size).map (·.slots.size)).sum ≤ 0
      rw [List.drop_eq_nil_of_le (Nat.le_of_eq Array.length_toList)]
      exact Nat.le_refl _
/-- 'throw new E()': new; dup; invokespecial; athrow -/
theorem vx_throw0 {cc : ByteArray} {pc : Nat} (hexec : p.tables.exec = Jvm.exec) (hb : c.code = cc) (hl : l.stackTraces = false) {own cls : String} {names : List String} {ik ic mc ms : Nat} {A : Nat → Prop}
    (hown : s.vm.findClass own = some m.cls) (hcls : Bundle.fit cls = true) (hnames : ∀ n ∈ names, Bundle.fit n = true)
    (hk : (Cond.classLink own ik cls).before args s = true) (hini : (Cond.initialized cls).before args s = true) (hat : ∀ w ∈ vx_at0 own ic cls names, w.before args s = true)
    (hgood : ∀ w ∈ Cond.classLink own ik cls :: Cond.initialized cls :: vx_at0 own ic cls names, vx_ot w = true)
    (hU : vx_Zq Bundle.tN "UNASSIGNED_STACK" Bundle.steD A s s.heap) (hN : vx_Zq Bundle.tN "SUPPRESSED_SENTINEL" Bundle.listD A s s.heap) (hS : va_S A s.heap H locs) (hsize : ls.size = c.maxLocals)
    (d0 : decode cc pc = .ok (.new ik, 3)) (d3 : decode cc (pc + 3) = .ok (.dup, 1)) (d4 : decode cc (pc + 4) = .ok (.invokespecial ic, 3)) (d7 : decode cc (pc + 7) = .ok (.athrow, 1))
    (hout : ∀ x ∈ c.exceptionTable.toList, covers x (pc + 7) = false)
    (hRframes : names.length + 3 < R.frames) (hRlocals : (rest.map fun v => v.category).sum + (13 * (names.length + 1) + 42) ≤ R.locals) (hRcells : cells + 1 ≤ R.cells) (hRslots : slots + 6 ≤ R.slots) (hlocks : meth.locks = false)
    (hx : ∀ t : State, s.vm.Alike t.vm → H.size ≤ t.heap.size → (∀ q : Nat, q < H.size → t.heap[q]? = H[q]?) → XC cls s t)
    (hf : ∀ z ∈ locs, free z.base) (hc : cells + 1 ≤ mc) (hs : slots + 6 ≤ ms) :
    W p l e R s m args below meth c H locs cells slots (vx_MQ below Qc XC args s mc ms free) (F0 m pc ls rest) := by
  intro T hT X
  have htr : e.platform.stackTraces = false := (show e.platform.stackTraces = l.stackTraces by rw [X.admits.platform]).trans hl
  have Y := vx_rebase X (R' := { frames := R.frames, locals := R.locals, cells := 1, slots := 6 }) (Nat.le_refl _) (Nat.le_refl _) hRcells hRslots
  obtain ⟨s', hA⟩ : ∃ z, z = (T.setVm s.vm).setFrames (.invoking m args :: below) := ⟨_, rfl⟩
  rw [← hA] at Y
  have hvm : s'.vm = s.vm := by rw [hA]; rfl
  have hhp : s'.heap = H := by rw [hA]; exact hT
  have hW0 : s.WarmedH s'.vm := by rw [hvm]; exact State.WarmedH.refl s
  have hat' : ∀ w ∈ vx_at0 own ic cls names, w.before args s' = true := fun w hw => vx_ot_at hW0 hvm.symm (hgood w (List.mem_cons_of_mem _ (List.mem_cons_of_mem _ hw))) (hat w hw)
  have hk' : (Cond.classLink own ik cls).before args s' = true := vx_ot_at hW0 hvm.symm (hgood _ List.mem_cons_self) hk
  have hini' : (Cond.initialized cls).before args s' = true := vx_ot_at hW0 hvm.symm (hgood _ (List.mem_cons_of_mem _ List.mem_cons_self)) hini
  have hU' : vx_Zq Bundle.tN "UNASSIGNED_STACK" Bundle.steD A s' s'.heap := by rw [hhp]; exact vx_Zq.moved hW0.alike (hU.kept hS.2.1)
  have hN' : vx_Zq Bundle.tN "SUPPRESSED_SENTINEL" Bundle.listD A s' s'.heap := by rw [hhp]; exact vx_Zq.moved hW0.alike (hN.kept hS.2.1)
  have h : ∀ w ∈ Bundle.ownAtoms0 own ic cls names, w.before args s' = true := vx_own hat' (vx_isRefq hU'.1) (vx_isRefq hN'.1) hU'.2.word hN'.2.word
  have hown' : s'.vm.findClass own = some m.cls := by rw [hvm]; exact hown
  have hins : (Cond.instantiable cls 6).before args s' = true := h _ (by simp [Bundle.ownAtoms0])
  obtain ⟨vm₁, cX, kX, hfX, hkX, -, -, X₁, st1⟩ := Y.newCold hexec (own := own) (C := cls) (index := ik) (n := 6) hown' hk' hins hini'
    (g := F0 m pc ls rest) rfl (by rw [hb]; exact d0) (Nat.le_refl _) (Nat.le_refl _)
  generalize hT1 : (T.setVm vm₁).pushCell { cls := cX, slots := kX.instanceTypes.map defaultValue, vm := .none } = T1 at X₁ st1
  have hcat : (Value.ref T.heap.size).category = 1 := rfl
  have hcellA : T1.heap[T.heap.size]? = some (freshCell cX kX) := by rw [← hT1]; exact State.heap_pushCell_size _ _
  have d3' : decode c.code (pc + 3) = .ok (.dup, 1) := by rw [hb]; exact d3
  obtain ⟨U, hsteps, hrun, hend, hW, hsame, ce, hce, hO⟩ := X₁.ctorThrow0 hexec htr (own := own) (cls := cls) (names := names) (ic := ic) hown' hcls hnames h (fun x hx => nomatch hx) hfX hkX hcellA (by rw [hhp, hT]; exact Nat.le_refl _)
    (g := { method := m, pc := pc + 4, locals := ls, stack := .ref T.heap.size :: .ref T.heap.size :: rest, locked := none }) rfl hsize rfl rfl (rest := rest) rfl
    (by rw [hb]; exact d4) (by rw [hb]; exact d7) hout hRframes (by simp only [List.map_cons, List.sum_cons, hcat]; omega) hlocks
  obtain ⟨f1, f2⟩ := vx_frame hsame
  rw [hhp] at f1 f2
  have hWs : s.WarmedH U.vm := State.WarmedH.trans hW0 hW
  have hcl : s.vm.findClass cls = some ce.cls := by
    have h9 := hO.cls
    rw [hvm] at h9
    exact h9
  have hall : s.sameButNew ({ U with vm := s.vm } : State) locs mc ms := by
    subst hA
    obtain ⟨e1, e2⟩ := hsame
    rw [State.setFrames_setFrames] at e1
    have h2 : (T.setVm s.vm).sameButNew ({ U with vm := s.vm } : State) [] (0 + 1) (0 + 6) := ⟨e1, e2⟩
    have h3 := X.same.trans h2
    rw [List.append_nil] at h3
    exact h3.mono hc hs
  refine ⟨U, ?_, .threw T.heap.size, hrun, hend, Or.inr ⟨T.heap.size, rfl, cls, ce, locs, hx U hWs.alike f1 (fun q hq => f2 q hq (fun z hz => nomatch hz)), hce, hO.vm, hcl, hWs, hall, hf⟩⟩
  refine st1 _ ?_
  show Steps p.tables e below (T1.setTop { method := m, pc := pc + 3, locals := ls, stack := .ref T.heap.size :: rest, locked := none }) _
  jvm_step X₁.here [X₁.here.top, hexec, d3', Value.category]
  exact hsteps
/-- 'throw new E("text")': new; dup; ldc; invokespecial; athrow -/
theorem vx_throwS {cc : ByteArray} {pc : Nat} (hexec : p.tables.exec = Jvm.exec) (hb : c.code = cc) (hl : l.stackTraces = false) {own cls text : String} {names : List String} {ik is ic mc ms sa : Nat} {A : Nat → Prop}
    (hown : s.vm.findClass own = some m.cls) (hcls : Bundle.fit cls = true) (hnames : ∀ n ∈ names, Bundle.fit n = true)
    (hk : (Cond.classLink own ik cls).before args s = true) (hini : (Cond.initialized cls).before args s = true) (hstr : vk_R own is text sa s) (hat : ∀ w ∈ vx_atS own ic cls names, w.before args s = true)
    (hgood : ∀ w ∈ Cond.classLink own ik cls :: Cond.initialized cls :: vx_atS own ic cls names, vx_ot w = true)
    (hU : vx_Zq Bundle.tN "UNASSIGNED_STACK" Bundle.steD A s s.heap) (hN : vx_Zq Bundle.tN "SUPPRESSED_SENTINEL" Bundle.listD A s s.heap) (hS : va_S A s.heap H locs) (hsize : ls.size = c.maxLocals)
    (d0 : decode cc pc = .ok (.new ik, 3)) (d3 : decode cc (pc + 3) = .ok (.dup, 1)) (d4 : decode cc (pc + 4) = .ok (.ldc is, 2)) (d6 : decode cc (pc + 6) = .ok (.invokespecial ic, 3)) (d9 : decode cc (pc + 9) = .ok (.athrow, 1))
    (hout : ∀ x ∈ c.exceptionTable.toList, covers x (pc + 9) = false)
    (hRframes : names.length + 3 < R.frames) (hRlocals : (rest.map fun v => v.category).sum + (13 * (names.length + 1) + 43) ≤ R.locals) (hRcells : cells + 1 ≤ R.cells) (hRslots : slots + 6 ≤ R.slots) (hlocks : meth.locks = false)
    (hx : ∀ t : State, s.vm.Alike t.vm → H.size ≤ t.heap.size → (∀ q : Nat, q < H.size → t.heap[q]? = H[q]?) → XC cls s t)
    (hf : ∀ z ∈ locs, free z.base) (hc : cells + 1 ≤ mc) (hs : slots + 6 ≤ ms) :
    W p l e R s m args below meth c H locs cells slots (vx_MQ below Qc XC args s mc ms free) (F0 m pc ls rest) := by
  intro T hT X
  have htr : e.platform.stackTraces = false := (show e.platform.stackTraces = l.stackTraces by rw [X.admits.platform]).trans hl
  have Y := vx_rebase X (R' := { frames := R.frames, locals := R.locals, cells := 1, slots := 6 }) (Nat.le_refl _) (Nat.le_refl _) hRcells hRslots
  obtain ⟨s', hA⟩ : ∃ z, z = (T.setVm s.vm).setFrames (.invoking m args :: below) := ⟨_, rfl⟩
  rw [← hA] at Y
  have hvm : s'.vm = s.vm := by rw [hA]; rfl
  have hhp : s'.heap = H := by rw [hA]; exact hT
  have hW0 : s.WarmedH s'.vm := by rw [hvm]; exact State.WarmedH.refl s
  have hat' : ∀ w ∈ vx_atS own ic cls names, w.before args s' = true := fun w hw => vx_ot_at hW0 hvm.symm (hgood w (List.mem_cons_of_mem _ (List.mem_cons_of_mem _ hw))) (hat w hw)
  have hk' : (Cond.classLink own ik cls).before args s' = true := vx_ot_at hW0 hvm.symm (hgood _ List.mem_cons_self) hk
  have hini' : (Cond.initialized cls).before args s' = true := vx_ot_at hW0 hvm.symm (hgood _ (List.mem_cons_of_mem _ List.mem_cons_self)) hini
  have hU' : vx_Zq Bundle.tN "UNASSIGNED_STACK" Bundle.steD A s' s'.heap := by rw [hhp]; exact vx_Zq.moved hW0.alike (hU.kept hS.2.1)
  have hN' : vx_Zq Bundle.tN "SUPPRESSED_SENTINEL" Bundle.listD A s' s'.heap := by rw [hhp]; exact vx_Zq.moved hW0.alike (hN.kept hS.2.1)
  have h : ∀ w ∈ Bundle.ownAtoms own ic cls names, w.before args s' = true := vx_own hat' (vx_isRefq hU'.1) (vx_isRefq hN'.1) hU'.2.word hN'.2.word
  have hown' : s'.vm.findClass own = some m.cls := by rw [hvm]; exact hown
  have hins : (Cond.instantiable cls 6).before args s' = true := h _ (by simp [Bundle.ownAtoms])
  obtain ⟨vm₁, cX, kX, hfX, hkX, -, -, X₁, st1⟩ := Y.newCold hexec (own := own) (C := cls) (index := ik) (n := 6) hown' hk' hins hini'
    (g := F0 m pc ls rest) rfl (by rw [hb]; exact d0) (Nat.le_refl _) (Nat.le_refl _)
  generalize hT1 : (T.setVm vm₁).pushCell { cls := cX, slots := kX.instanceTypes.map defaultValue, vm := .none } = T1 at X₁ st1
  have hcat : (Value.ref T.heap.size).category = 1 := rfl
  have hcellA : T1.heap[T.heap.size]? = some (freshCell cX kX) := by rw [← hT1]; exact State.heap_pushCell_size _ _
  have d3' : decode c.code (pc + 3) = .ok (.dup, 1) := by rw [hb]; exact d3
  have d4' : decode c.code (pc + 4) = .ok (.ldc is, 2) := by rw [hb]; exact d4
  have hstr' : vk_R own is text sa s' := vk_R.warm hW0 hstr
  obtain ⟨U, hsteps, hrun, hend, hW, hsame, ce, hce, hO⟩ := X₁.ctorThrowS hexec htr (own := own) (cls := cls) (names := names) (ic := ic) hown' hcls hnames h (fun x hx => nomatch hx) hfX hkX hcellA (by rw [hhp, hT]; exact Nat.le_refl _) (msg := .ref sa) rfl
    (g := { method := m, pc := pc + 6, locals := ls, stack := .ref sa :: .ref T.heap.size :: .ref T.heap.size :: rest, locked := none }) rfl hsize rfl rfl (rest := rest) rfl
    (by rw [hb]; exact d6) (by rw [hb]; exact d9) hout hRframes (by simp only [List.map_cons, List.sum_cons, hcat]; omega) hlocks
  obtain ⟨f1, f2⟩ := vx_frame hsame
  rw [hhp] at f1 f2
  have hWs : s.WarmedH U.vm := State.WarmedH.trans hW0 hW
  have hcl : s.vm.findClass cls = some ce.cls := by
    have h9 := hO.cls
    rw [hvm] at h9
    exact h9
  have hall : s.sameButNew ({ U with vm := s.vm } : State) locs mc ms := by
    subst hA
    obtain ⟨e1, e2⟩ := hsame
    rw [State.setFrames_setFrames] at e1
    have h2 : (T.setVm s.vm).sameButNew ({ U with vm := s.vm } : State) [] (0 + 1) (0 + 6) := ⟨e1, e2⟩
    have h3 := X.same.trans h2
    rw [List.append_nil] at h3
    exact h3.mono hc hs
  refine ⟨U, ?_, .threw T.heap.size, hrun, hend, Or.inr ⟨T.heap.size, rfl, cls, ce, locs, hx U hWs.alike f1 (fun q hq => f2 q hq (fun z hz => nomatch hz)), hce, hO.vm, hcl, hWs, hall, hf⟩⟩
  refine st1 _ ?_
  show Steps p.tables e below (T1.setTop { method := m, pc := pc + 3, locals := ls, stack := .ref T.heap.size :: rest, locked := none }) _
  jvm_step X₁.here [X₁.here.top, hexec, d3', Value.category]
  exact X₁.ldcString hexec (own := own) (text := text) (index := is) (a := sa) hown' hstr'.1 hstr'.2
    (g := { method := m, pc := pc + 4, locals := ls, stack := .ref T.heap.size :: .ref T.heap.size :: rest, locked := none }) rfl d4' _ hsteps
/-- 'throw new E("text")', the text by a wide index -/
theorem vx_throwSW {cc : ByteArray} {pc : Nat} (hexec : p.tables.exec = Jvm.exec) (hb : c.code = cc) (hl : l.stackTraces = false) {own cls text : String} {names : List String} {ik is ic mc ms sa : Nat} {A : Nat → Prop}
    (hown : s.vm.findClass own = some m.cls) (hcls : Bundle.fit cls = true) (hnames : ∀ n ∈ names, Bundle.fit n = true)
    (hk : (Cond.classLink own ik cls).before args s = true) (hini : (Cond.initialized cls).before args s = true) (hstr : vk_R own is text sa s) (hat : ∀ w ∈ vx_atS own ic cls names, w.before args s = true)
    (hgood : ∀ w ∈ Cond.classLink own ik cls :: Cond.initialized cls :: vx_atS own ic cls names, vx_ot w = true)
    (hU : vx_Zq Bundle.tN "UNASSIGNED_STACK" Bundle.steD A s s.heap) (hN : vx_Zq Bundle.tN "SUPPRESSED_SENTINEL" Bundle.listD A s s.heap) (hS : va_S A s.heap H locs) (hsize : ls.size = c.maxLocals)
    (d0 : decode cc pc = .ok (.new ik, 3)) (d3 : decode cc (pc + 3) = .ok (.dup, 1)) (d4 : decode cc (pc + 4) = .ok (.ldc_w is, 3)) (d7 : decode cc (pc + 7) = .ok (.invokespecial ic, 3)) (d10 : decode cc (pc + 10) = .ok (.athrow, 1))
    (hout : ∀ x ∈ c.exceptionTable.toList, covers x (pc + 10) = false)
    (hRframes : names.length + 3 < R.frames) (hRlocals : (rest.map fun v => v.category).sum + (13 * (names.length + 1) + 43) ≤ R.locals) (hRcells : cells + 1 ≤ R.cells) (hRslots : slots + 6 ≤ R.slots) (hlocks : meth.locks = false)
    (hx : ∀ t : State, s.vm.Alike t.vm → H.size ≤ t.heap.size → (∀ q : Nat, q < H.size → t.heap[q]? = H[q]?) → XC cls s t)
    (hf : ∀ z ∈ locs, free z.base) (hc : cells + 1 ≤ mc) (hs : slots + 6 ≤ ms) :
    W p l e R s m args below meth c H locs cells slots (vx_MQ below Qc XC args s mc ms free) (F0 m pc ls rest) := by
  intro T hT X
  have htr : e.platform.stackTraces = false := (show e.platform.stackTraces = l.stackTraces by rw [X.admits.platform]).trans hl
  have Y := vx_rebase X (R' := { frames := R.frames, locals := R.locals, cells := 1, slots := 6 }) (Nat.le_refl _) (Nat.le_refl _) hRcells hRslots
  obtain ⟨s', hA⟩ : ∃ z, z = (T.setVm s.vm).setFrames (.invoking m args :: below) := ⟨_, rfl⟩
  rw [← hA] at Y
  have hvm : s'.vm = s.vm := by rw [hA]; rfl
  have hhp : s'.heap = H := by rw [hA]; exact hT
  have hW0 : s.WarmedH s'.vm := by rw [hvm]; exact State.WarmedH.refl s
  have hat' : ∀ w ∈ vx_atS own ic cls names, w.before args s' = true := fun w hw => vx_ot_at hW0 hvm.symm (hgood w (List.mem_cons_of_mem _ (List.mem_cons_of_mem _ hw))) (hat w hw)
  have hk' : (Cond.classLink own ik cls).before args s' = true := vx_ot_at hW0 hvm.symm (hgood _ List.mem_cons_self) hk
  have hini' : (Cond.initialized cls).before args s' = true := vx_ot_at hW0 hvm.symm (hgood _ (List.mem_cons_of_mem _ List.mem_cons_self)) hini
  have hU' : vx_Zq Bundle.tN "UNASSIGNED_STACK" Bundle.steD A s' s'.heap := by rw [hhp]; exact vx_Zq.moved hW0.alike (hU.kept hS.2.1)
  have hN' : vx_Zq Bundle.tN "SUPPRESSED_SENTINEL" Bundle.listD A s' s'.heap := by rw [hhp]; exact vx_Zq.moved hW0.alike (hN.kept hS.2.1)
  have h : ∀ w ∈ Bundle.ownAtoms own ic cls names, w.before args s' = true := vx_own hat' (vx_isRefq hU'.1) (vx_isRefq hN'.1) hU'.2.word hN'.2.word
  have hown' : s'.vm.findClass own = some m.cls := by rw [hvm]; exact hown
  have hins : (Cond.instantiable cls 6).before args s' = true := h _ (by simp [Bundle.ownAtoms])
  obtain ⟨vm₁, cX, kX, hfX, hkX, -, -, X₁, st1⟩ := Y.newCold hexec (own := own) (C := cls) (index := ik) (n := 6) hown' hk' hins hini'
    (g := F0 m pc ls rest) rfl (by rw [hb]; exact d0) (Nat.le_refl _) (Nat.le_refl _)
  generalize hT1 : (T.setVm vm₁).pushCell { cls := cX, slots := kX.instanceTypes.map defaultValue, vm := .none } = T1 at X₁ st1
  have hcat : (Value.ref T.heap.size).category = 1 := rfl
  have hcellA : T1.heap[T.heap.size]? = some (freshCell cX kX) := by rw [← hT1]; exact State.heap_pushCell_size _ _
  have d3' : decode c.code (pc + 3) = .ok (.dup, 1) := by rw [hb]; exact d3
  have d4' : decode c.code (pc + 4) = .ok (.ldc_w is, 3) := by rw [hb]; exact d4
  have hstr' : vk_R own is text sa s' := vk_R.warm hW0 hstr
  obtain ⟨U, hsteps, hrun, hend, hW, hsame, ce, hce, hO⟩ := X₁.ctorThrowS hexec htr (own := own) (cls := cls) (names := names) (ic := ic) hown' hcls hnames h (fun x hx => nomatch hx) hfX hkX hcellA (by rw [hhp, hT]; exact Nat.le_refl _) (msg := .ref sa) rfl
    (g := { method := m, pc := pc + 7, locals := ls, stack := .ref sa :: .ref T.heap.size :: .ref T.heap.size :: rest, locked := none }) rfl hsize rfl rfl (rest := rest) rfl
    (by rw [hb]; exact d7) (by rw [hb]; exact d10) hout hRframes (by simp only [List.map_cons, List.sum_cons, hcat]; omega) hlocks
  obtain ⟨f1, f2⟩ := vx_frame hsame
  rw [hhp] at f1 f2
  have hWs : s.WarmedH U.vm := State.WarmedH.trans hW0 hW
  have hcl : s.vm.findClass cls = some ce.cls := by
    have h9 := hO.cls
    rw [hvm] at h9
    exact h9
  have hall : s.sameButNew ({ U with vm := s.vm } : State) locs mc ms := by
    subst hA
    obtain ⟨e1, e2⟩ := hsame
    rw [State.setFrames_setFrames] at e1
    have h2 : (T.setVm s.vm).sameButNew ({ U with vm := s.vm } : State) [] (0 + 1) (0 + 6) := ⟨e1, e2⟩
    have h3 := X.same.trans h2
    rw [List.append_nil] at h3
    exact h3.mono hc hs
  refine ⟨U, ?_, .threw T.heap.size, hrun, hend, Or.inr ⟨T.heap.size, rfl, cls, ce, locs, hx U hWs.alike f1 (fun q hq => f2 q hq (fun z hz => nomatch hz)), hce, hO.vm, hcl, hWs, hall, hf⟩⟩
  refine st1 _ ?_
  show Steps p.tables e below (T1.setTop { method := m, pc := pc + 3, locals := ls, stack := .ref T.heap.size :: rest, locked := none }) _
  jvm_step X₁.here [X₁.here.top, hexec, d3', Value.category]
  exact X₁.ldcStringW hexec (own := own) (text := text) (index := is) (a := sa) hown' hstr'.1 hstr'.2
    (g := { method := m, pc := pc + 4, locals := ls, stack := .ref T.heap.size :: .ref T.heap.size :: rest, locked := none }) rfl d4' _ hsteps
end Ends
section Bodies
variable {l : Launch}
theorem vx_ofW {y : MethodName} {ws ws' : List Cond} {rm : Room} {Pc : Array Value → State → Prop} {Qc : Array Value → State → Outcome → State → Prop} {XC : String → State → State → Prop} {mc ms : Nat} {free : Addr → Prop} {cc : ByteArray} {maxL : Nat} {ret : Option FieldType}
    (hy : plainName y.cls = true) (hw : ws = Cond.code y cc maxL ret :: ws')
    (body : ∀ p e s m args below meth c s₁, BodyLoose p l y (headSpec ws rm) cc maxL ret e s m args below meth c s₁ → c.maxLocals = maxL → (∀ x ∈ c.exceptionTable.toList, False) → Pc args s →
      W p l e (headSpec ws rm).room s m args below meth c s.heap [] 0 0 (vx_MQ below Qc XC args s mc ms free) (entryFrame m args maxL)) : vx_Met l y ws rm Pc Qc XC mc ms free := by
  refine MetFree.of_bodyS (code := cc) (maxLocals := maxL) (ret := ret) hy ?_ ?_
  · intro args s m h hn
    obtain ⟨meth, c, h1, h2, h3, h4, h5, h6, -, -⟩ := Cond.code_spec hn (atoms_spec (ws := ws) h _ (by rw [hw]; exact List.mem_cons_self))
    exact ⟨meth, c, h1, h2, h3, h4, h5, h6⟩
  · intro p e s m args below meth c s₁ B hml hP _
    have hh0 : s₁.heap = s.heap := by rw [B.state]; rfl
    have ht : ∀ x ∈ c.exceptionTable.toList, False := by
      obtain ⟨meth9, c9, h1, h2, -, -, -, -, h7, -⟩ := Cond.code_spec B.named (atoms_spec (ws := ws) B.pre _ (by rw [hw]; exact List.mem_cons_self))
      cases Option.some.inj (h1.symm.trans B.method)
      cases Option.some.inj (h2.symm.trans (Stand.of_body B).code)
      intro x hx
      rw [Array.isEmpty_iff.mp h7] at hx
      cases hx
    obtain ⟨t, a1, o, b1, b2, b3⟩ := body p e s m args below meth c s₁ B hml ht hP s₁ hh0 (Stand.of_body B)
    exact ⟨t, o, a1, b1, b2, b3⟩
/-- the table of a body with handlers -/
theorem vx_table {p : Program} {x y : MethodName} {S : Spec} {cc bytes : ByteArray} {maxL maxL' : Nat} {ret ret' : Option FieldType} {e : Env} {s s₁ : State} {m : MethodId} {args : Array Value} {below : List Frame} {meth : Method} {c : Code} {hh : List (Nat × Nat × Nat × Nat)}
    (B : BodyLoose p l y S cc maxL ret e s m args below meth c s₁) (h : (Cond.codeWith y bytes maxL' ret' hh).before args s = true) : c.exceptionTable.toList = tableOf hh := by
  obtain ⟨m9, meth9, c9, hn9, h1, h2, -, -, h6, -⟩ := Cond.codeWith_spec h
  cases Option.some.inj (hn9.symm.trans B.named)
  cases Option.some.inj (h1.symm.trans B.method)
  cases Option.some.inj (h2.symm.trans (Stand.of_body B).code)
  rw [← h6, table_eq]
end Bodies
end VXA
/-! ===== END ===== -/
/-! ===== BEGIN a static call of a method with an exception table ===== -/
section VXS
variable {p : Program} {l : Launch} {e : Env} {R : Room} {s : State} {m : MethodId} {args : Array Value} {below : List Frame} {meth : Method} {c : Code} {T : State} {H : Heap} {locs : List Loc} {cells slots : Nat}
abbrev vx_CSW (R : Room) (s : State) (args : Array Value) (own : String) (index : Nat) (y : MethodName) (bytes : ByteArray) (maxL : Nat) (ret : Option FieldType) (hh : List (Nat × Nat × Nat × Nat)) (ws : List Cond) (rm : Room) (mc ms n : Nat) : Prop :=
  (rm.cells = mc ∧ rm.slots = ms ∧ rm.frames + 1 ≤ R.frames ∧ 8 + (maxL + 11) + rm.locals ≤ R.locals ∧ (∀ w ∈ ws, ∀ (a' : Array Value) (U : State), s.WarmedH U.vm → w.before a' U = true) ∧ Cond.codeWith y bytes maxL ret hh ∈ ws) ∧
  (Cond.codeWith y bytes maxL ret hh).before args s = true ∧ (Cond.initialized y.cls).before args s = true ∧ (y.cls ≠ "java/lang/invoke/MethodHandle" ∧ y.cls ≠ "java/lang/invoke/VarHandle") ∧
  (∀ sig, parseMethodDescriptor y.desc = some sig → n = sig.parameters.length) ∧ (Cond.methodLink own index y).before args s = true ∧ (Cond.static y).before args s = true
theorem vx_cwSW {own : String} {index maxL mc ms : Nat} {y : MethodName} {bytes : ByteArray} {ret : Option FieldType} {hh : List (Nat × Nat × Nat × Nat)} {Ts ws ws' : List Cond} {rm : Room} (n : Nat) (ht : ∀ w ∈ Ts, w.before args s = true) (hT : GoodIn Ts (va_wsS own index y ws)) (hw : ws = Cond.codeWith y bytes maxL ret hh :: ws') (hrc : rm.cells = mc) (hrs : rm.slots = ms)
    (hd : y.cls ≠ "java/lang/invoke/MethodHandle" ∧ y.cls ≠ "java/lang/invoke/VarHandle" ∧ (parseMethodDescriptor y.desc).map (fun d => d.parameters.length) = some n) (hR : rm.frames + 1 ≤ R.frames ∧ 8 + (maxL + 11) + rm.locals ≤ R.locals) :
    vx_CSW R s args own index y bytes maxL ret hh ws rm mc ms n := by
  have ok : ∀ w ∈ va_wsS own index y ws, w.before args s = true := fun w h => ht w (hT w h).1
  have hG : GoodIn Ts ws := fun w h => hT w (by unfold va_wsS; exact List.mem_append_right _ h)
  have hc : Cond.codeWith y bytes maxL ret hh ∈ ws := by rw [hw]; exact List.mem_cons_self
  refine ⟨⟨hrc, hrs, hR.1, hR.2, pay_in ht hG, hc⟩, ht _ (hG _ hc).1, ok _ (by simp [va_wsS]), ⟨hd.1, hd.2.1⟩, fun sig h => ?_, ok _ (by simp [va_wsS]), ok _ (by simp [va_wsS])⟩
  have h2 := hd.2.2
  rw [h] at h2
  exact (Option.some.inj h2).symm
theorem vx_callSW (X : Stand p l e R s m args below meth c T locs cells slots) (hexec : p.tables.exec = Jvm.exec) {own : String} {index : Nat} {y : MethodName} {bytes : ByteArray} {maxL : Nat} {ret : Option FieldType} {hh : List (Nat × Nat × Nat × Nat)}
    (hown : s.vm.findClass own = some m.cls) (hlink : (Cond.methodLink own index y).before args s = true) (hstat : (Cond.static y).before args s = true) (hinit : (Cond.initialized y.cls).before args s = true)
    (hcode : (Cond.codeWith y bytes maxL ret hh).before args s = true) (hy : y.cls ≠ "java/lang/invoke/MethodHandle" ∧ y.cls ≠ "java/lang/invoke/VarHandle")
    {W9 : Nat} {Pre : Pt → Array Value → Prop} {Post : Pt → Array Value → Option Value → Pt → Prop} (hK : Back l R p e below s args y 3 W9 Pre Post)
    {g : JFrame} (hg : g.method = m) (hsize : g.locals.size = c.maxLocals) {argsL rest : List Value} (hlen : ∀ sig, parseMethodDescriptor y.desc = some sig → argsL.length = sig.parameters.length)
    (hstack : g.stack = argsL.reverse ++ rest) (hW : 2 * g.monitorRoom + (rest.map fun v => v.category).sum ≤ W9) (hdg : decode c.code g.pc = .ok (.invokestatic index, 3))
    (hpre : ∀ vm₁, s.WarmedH vm₁ → Pre ⟨T.setVm vm₁, locs, cells, slots⟩ argsL.toArray) :
    ∃ (v : Option Value) (vm₁ : Vm) (B : Pt), s.WarmedH vm₁ ∧ Stand p l e R s m args below meth c B.U B.locs B.cells B.slots ∧ Post ⟨T.setVm vm₁, locs, cells, slots⟩ argsL.toArray v B ∧
      ∀ target, Steps p.tables e below (B.U.setTop { g with pc := g.pc + 3, stack := v.toList ++ rest }) target → Steps p.tables e below (T.setTop g) target := by
  obtain ⟨mk, methM, cM, hnamed, hmethM, -, -, -, -, -, -, hsigM⟩ := Cond.codeWith_spec hcode
  have hstatic : methM.isStatic = true := Cond.static_spec hnamed hmethM hstat
  obtain ⟨kP, hkP, -⟩ := className_of_methodNamed hnamed
  have hinitP : kP.init = .initialized := Cond.initialized_spec (findClass_of_methodNamed hnamed) hkP hinit
  obtain ⟨vm₁, X₁, hstep₁⟩ := X.invokestatic hexec hown hlink hnamed hmethM hstatic hkP hinitP hy (g := g) hg (argsL := argsL) (rest := rest) (hlen _ hsigM) hstack hdg
  obtain ⟨v, B, X', hpost, hsteps⟩ := hK m meth c ⟨T.setVm vm₁, locs, cells, slots⟩ { g with stack := rest } (.invokestatic index) mk argsL.toArray X₁ hg hsize hdg hW (X₁.named hnamed) (hpre vm₁ X₁.warmed)
  exact ⟨v, vm₁, B, X₁.warmed, X', hpost, fun target h => hstep₁ _ fun acts => by rw [doInvoke_state]; exact hsteps.trans h⟩
theorem vx_runSW {y : MethodName} {bytes cc : ByteArray} {maxL nL mc ms n index : Nat} {ret : Option FieldType} {hh : List (Nat × Nat × Nat × Nat)} {ws : List Cond} {rm : Room} {Pc : Array Value → State → Prop} {Qc : Array Value → State → Outcome → State → Prop} {free : Addr → Prop} {Ts : List Cond} {own : String} {As rest : List Value} {g : JFrame}
    (S : CallFix p m c cc nL s args Ts own) (hM : Met l y ws rm Pc Qc mc ms free) (cw : vx_CSW R s args own index y bytes maxL ret hh ws rm mc ms n) (hp : PreS s H Pc As)
    (hg : g.method = m) (hn : As.length = n) (hsize : g.locals.size = nL) (hstack : g.stack = As.reverse ++ rest) (hW : 2 * g.monitorRoom + (rest.map fun v => v.category).sum ≤ 8) (hdg : decode cc g.pc = .ok (.invokestatic index, 3)) (hf : cells + mc ≤ R.cells ∧ slots + ms ≤ R.slots) :
    va_Run p l e R s m args below meth c H locs cells slots mc ms g rest (Qc As.toArray) (free) := by
  obtain ⟨⟨hrc, hrs, hfr, hlo, hws, hcw⟩, hcode, hini, hy, hlen, hl, hstt⟩ := cw
  have hK : Back l R p e below s args y 3 8 (PreOf R mc ms Pc) (PostOf Qc mc ms free) := va_backW (hh := hh) (bytes := bytes) (maxL := maxL) (ret := ret) hM hp.1 hrc hrs hfr hlo hws hcw (fun a' U hW => word_at hW (Or.inl (by first | rfl | simp [Cond.onTables, Cond.keeps, Cond.steady])) hini)
  obtain ⟨hx, hb, hml, ho, -⟩ := S
  intro T hT X
  obtain ⟨v, vm₁, ⟨U', l2, c2, s2⟩, hW₁, X', ⟨g', mk, t, L, e1, e2, hq, h1, hL, h2, h3⟩, st⟩ := vx_callSW X hx (hh := hh) (bytes := bytes) (maxL := maxL) (ret := ret) ho hl hstt hini hcode hy hK hg (hsize.trans hml.symm) (argsL := As) (rest := rest) (fun sig h => hn.trans (hlen sig h)) hstack hW (by rw [hb]; exact hdg)
    (fun vm₁ hW₁ => ⟨hf.1, hf.2, hp.2 (T.setVm vm₁) hT hW₁⟩)
  dsimp only [Pt.U, Pt.locs, Pt.cells, Pt.slots] at X' e1 e2 h1 h2 h3 st
  subst h1; subst h2; subst h3
  exact ⟨v, (T.setVm vm₁).calling g' mk As.toArray, t, U', L, hT, X', hL, e1, e2, hq, st⟩
/-- a thing of a world lies in the heap -/
theorem vx_lt {D : va_G} {cl : List vw_C} {ws : va_W} {H1 : Heap} (h : va_P D cl ws H1) {k : Nat} {q : Nat × va_E} (hk : ws[k]? = some q) : q.1 < H1.size := (h k q hk).lt
end VXS
/-! ===== END ===== -/
/-! ===== BEGIN methods with a table of their own: called by a name, returning or throwing ===== -/
section VXH
/-! vx_backW, vx_callVX, vx_callSX, vx_callVW, vx_runVW, vx_runVX, vx_runSX, vx_ofWH follow the same proofs as their sisters above (Free/Laws.lean, Shelf42/LK1.lean); vx_outP calls Shelf42/NT130.lean (outThrough). -/
section
variable {l : Launch} {R : Room} {p : Program} {e : Env} {below : List Frame} {s : State} {sargs : Array Value} {y : MethodName} {len W9 : Nat}
theorem vx_backW {ws : List Cond} {rm : Room} {Pc : Array Value → State → Prop} {Qc : Array Value → State → Outcome → State → Prop} {XC : String → State → State → Prop} {mc ms : Nat} {free : Addr → Prop} {bytes : ByteArray} {maxL : Nat} {ret : Option FieldType} {hh : List (Nat × Nat × Nat × Nat)}
    (hM : vx_Met l y ws rm Pc Qc XC mc ms free) (hblind : FrameBlind Pc) (hrc : rm.cells = mc) (hrs : rm.slots = ms)
    (hframes : rm.frames + 1 ≤ R.frames) (hlocals : W9 + (maxL + 11) + rm.locals ≤ R.locals)
    (hws : ∀ w ∈ ws, ∀ a' U, s.WarmedH U.vm → w.before a' U = true) (hcode : Cond.codeWith y bytes maxL ret hh ∈ ws) (hinit : ∀ a' U, s.WarmedH U.vm → (Cond.initialized y.cls).before a' U = true) :
    vx_Back l R p e below s sargs y len W9 (PreOf R mc ms Pc) (PostOf Qc mc ms free) (vx_Post XC mc ms free) := by
  intro m meth c A g ig mk a X hg hsize hdg hW hn hp
  have h1 : (headSpec ws rm).pre.before a A.U = true := atoms_intro fun w hw => hws w hw _ _ X.warmed
  have h2 : (Cond.codeWith y bytes maxL ret hh).before a A.U = true := hws _ hcode _ _ X.warmed
  have h3 : (Cond.initialized y.cls).before a A.U = true := hinit _ _ X.warmed
  have h4 : A.cells + (headSpec ws rm).room.cells ≤ R.cells := by rw [show (headSpec ws rm).room.cells = mc from hrc]; exact hp.1
  have h5 : A.slots + (headSpec ws rm).room.slots ≤ R.slots := by rw [show (headSpec ws rm).room.slots = ms from hrs]; exact hp.2.1
  have hPc : Pc a (A.U.calling g mk a) := hblind _ _ _ _ hp.2.2
  obtain ⟨U, Ls, c0, s0⟩ := A
  dsimp only [Pt.U, Pt.locs, Pt.cells, Pt.slots] at h1 h2 h3 h4 h5 X hn hPc ⊢
  obtain ⟨m9, methY, cY, hn9, hmY, hcY, -, hlY, -⟩ := Cond.codeWith_spec h2
  cases Option.some.inj (hn9.symm.trans hn)
  obtain ⟨kY, hkY, -⟩ := className_of_methodNamed hn
  have hinitY : kY.init = .initialized := Cond.initialized_spec (findClass_of_methodNamed hn) hkY h3
  have h : At U g.method c below := by rw [hg]; exact X.here
  have hlocals9 : W9 + (maxL + 11) + (headSpec ws rm).room.locals ≤ R.locals := hlocals
  have happ : (headSpec ws rm).appliesLoose y e.platform (U.calling g mk a) = true :=
    Spec.appliesLoose_calling (g := g) h hdg hn hkY hinitY
      (X.room_calling (g := g) (R' := (headSpec ws rm).room) hsize hmY hcY hframes (by rw [hlY]; omega) h4 h5) h1
  obtain ⟨mid, hmid⟩ := h.above
  have hfr : (U.setTop g).frames = (.java g :: mid) ++ below := by rw [State.frames_setTop' g h.top, hmid]; rfl
  obtain ⟨o, s₂, hsteps, -, hend, hq⟩ := Steps.callFree hM p X.admits X.cas X.clock (acts := []) hfr happ hPc trivial
  have hq' : vx_Q Qc XC mc ms free a (U.calling g mk a) o s₂ := hq
  rw [State.frames_setTop' g h.top] at hend
  obtain ⟨g₀, hg0⟩ := Option.isSome_iff_exists.mp h.top
  obtain ⟨r, hr⟩ := State.topJava?_eq_some.mp hg0
  have hr' : (({ U with heap := s₂.heap, slotsUsed := s₂.slotsUsed } : State).setVm s₂.vm).frames = .java g₀ :: r := hr
  rcases hq' with ⟨hqc, L, hfe, hL⟩ | ⟨q, rfl, E, ce, L, hx, hce, hcv, hcl, hW₂, hsm, hL⟩
  · obtain ⟨⟨v, rfl⟩, hW₂, e2, q2, q3, q4, q5, q6⟩ := id hfe
    have e3 : s₂ = ({ (U.calling g mk a).setFrames s₂.frames with heap := s₂.heap, slotsUsed := s₂.slotsUsed } : State).setVm s₂.vm := by
      have : s₂ = ({ s₂ with vm := (U.calling g mk a).vm } : State).setVm s₂.vm := rfl
      rw [e2] at this
      exact this
    obtain ⟨c₂, i₂, len₂, hc₂, hd₂, hf₂⟩ := hend
    have hW' : U.WarmedH s₂.vm := hW₂
    have hcc : c₂ = c := by
      have h1 : s₂.code? g.method = U.code? g.method := by
        rw [State.code?_eq, State.code?_eq, hW'.alike.method?]
      exact Option.some.inj (hc₂.symm.trans (h1.trans h.code))
    subst hcc
    have hlen : len₂ = len := by rw [hdg] at hd₂; cases hd₂; rfl
    subst hlen
    have hs₂ : s₂ = (({ U with heap := s₂.heap, slotsUsed := s₂.slotsUsed } : State).setVm s₂.vm).setTop { g with pc := g.pc + len₂, stack := v.toList ++ g.stack } := by
      refine e3.trans ?_
      rw [hf₂, State.calling_eq h.top, State.setFrames_setFrames, State.setTop_of_frames _ hr', hr]
      rfl
    have hsame : U.sameButNew ({ U with heap := s₂.heap, slotsUsed := s₂.slotsUsed } : State) L mc ms := by
      refine ⟨?_, q2, q3, q4, q5, q6⟩
      obtain ⟨t, ht, -⟩ := State.frames_cons hr
      show ({ U with heap := s₂.heap, slotsUsed := s₂.slotsUsed } : State) = { U.setFrames U.frames with heap := s₂.heap, slotsUsed := s₂.slotsUsed }
      rw [State.setFrames_self ht]
    subst hg
    refine Or.inl ⟨v, ⟨(({ U with heap := s₂.heap, slotsUsed := s₂.slotsUsed } : State).setVm s₂.vm), Ls ++ L, c0 + mc, s0 + ms⟩,
      ⟨X.admits, X.cas, X.clock, X.frames, X.room, X.hears, X.method, X.code, (X.here.setHeapUsed s₂.heap s₂.slotsUsed).setVm hW'.alike, X.tail, State.WarmedH.trans X.warmed hW', X.limits, X.bytes, X.same.trans (hsame.setVm s.vm)⟩,
      ⟨g, mk, s₂, L, rfl, rfl, hqc, rfl, hL, rfl, rfl⟩, ?_⟩
    show Steps p.tables e below _ ((({ U with heap := s₂.heap, slotsUsed := s₂.slotsUsed } : State).setVm s₂.vm).setTop { g with pc := g.pc + len₂, stack := v.toList ++ g.stack })
    rw [← hs₂]
    exact hsteps
  · obtain ⟨e2, q2, q3, q4, q5, q6⟩ := id hsm
    have e3 : s₂ = ({ (U.calling g mk a).setFrames s₂.frames with heap := s₂.heap, slotsUsed := s₂.slotsUsed } : State).setVm s₂.vm := by
      have : s₂ = ({ s₂ with vm := (U.calling g mk a).vm } : State).setVm s₂.vm := rfl
      rw [e2] at this
      exact this
    have hf₂ : s₂.frames = .throwing q :: .java g :: U.frames.tail := hend
    have hW' : U.WarmedH s₂.vm := hW₂
    have hs₂ : s₂ = ((({ U with heap := s₂.heap, slotsUsed := s₂.slotsUsed } : State).setVm s₂.vm).setTop g).pushFrame (.throwing q) := by
      refine e3.trans ?_
      rw [hf₂, State.calling_eq h.top, State.setFrames_setFrames, State.pushFrame, State.frames_setTop _ hr', State.setTop_of_frames _ hr', State.setFrames_setFrames, hr]
      rfl
    have hsame : U.sameButNew ({ U with heap := s₂.heap, slotsUsed := s₂.slotsUsed } : State) L mc ms := by
      refine ⟨?_, q2, q3, q4, q5, q6⟩
      obtain ⟨t, ht, -⟩ := State.frames_cons hr
      show ({ U with heap := s₂.heap, slotsUsed := s₂.slotsUsed } : State) = { U.setFrames U.frames with heap := s₂.heap, slotsUsed := s₂.slotsUsed }
      rw [State.setFrames_self ht]
    subst hg
    refine Or.inr ⟨q, ⟨(({ U with heap := s₂.heap, slotsUsed := s₂.slotsUsed } : State).setVm s₂.vm), Ls ++ L, c0 + mc, s0 + ms⟩,
      ⟨X.admits, X.cas, X.clock, X.frames, X.room, X.hears, X.method, X.code, (X.here.setHeapUsed s₂.heap s₂.slotsUsed).setVm hW'.alike, X.tail, State.WarmedH.trans X.warmed hW', X.limits, X.bytes, X.same.trans (hsame.setVm s.vm)⟩,
      ⟨g, mk, s₂, L, E, ce, rfl, rfl, hx, hce, hcv, hcl, rfl, hL, rfl, rfl⟩, ?_⟩
    show Steps p.tables e below _ (((({ U with heap := s₂.heap, slotsUsed := s₂.slotsUsed } : State).setVm s₂.vm).setTop g).pushFrame (.throwing q))
    rw [← hs₂]
    exact hsteps
end
variable {p : Program} {l : Launch} {e : Env} {R : Room} {s : State} {m : MethodId} {args : Array Value} {below : List Frame} {meth : Method} {c : Code} {T : State} {H : Heap} {locs : List Loc} {cells slots : Nat}
theorem vx_callVX (X : Stand p l e R s m args below meth c T locs cells slots) (hexec : p.tables.exec = Jvm.exec) {own C : String} {index : Nat} {y : MethodName} {bytes : ByteArray} {maxL : Nat} {ret : Option FieldType} {hh : List (Nat × Nat × Nat × Nat)}
    (hown : s.vm.findClass own = some m.cls) (hlink : (Cond.methodLink own index y).before args s = true) (hinst : (Cond.instanceMethod y).before args s = true) (hsel : (Cond.selects C y y).before args s = true)
    (hcode : (Cond.codeWith y bytes maxL ret hh).before args s = true) (hy : y.cls ≠ "java/lang/invoke/MethodHandle" ∧ y.cls ≠ "java/lang/invoke/VarHandle")
    {W9 : Nat} {Pre : Pt → Array Value → Prop} {Post : Pt → Array Value → Option Value → Pt → Prop} {PostX : Pt → Array Value → Addr → Pt → Prop} (hK : vx_Back l R p e below s args y 3 W9 Pre Post PostX)
    {b : Addr} {cellB : Cell} (hcell : T.heap[b]? = some cellB) (hobj : cellB.vm.isStatics = false) (hcls : s.vm.findClass C = some cellB.cls)
    {g : JFrame} (hg : g.method = m) (hsize : g.locals.size = c.maxLocals) {argsL rest : List Value} (hlen : ∀ sig, parseMethodDescriptor y.desc = some sig → argsL.length = sig.parameters.length)
    (hstack : g.stack = argsL.reverse ++ .ref b :: rest) (hW : 2 * g.monitorRoom + (rest.map fun v => v.category).sum ≤ W9) (hdg : decode c.code g.pc = .ok (.invokevirtual index, 3))
    (hpre : ∀ vm₁, s.WarmedH vm₁ → Pre ⟨T.setVm vm₁, locs, cells, slots⟩ (Value.ref b :: argsL).toArray) :
    (∃ (v : Option Value) (vm₁ : Vm) (B : Pt), s.WarmedH vm₁ ∧ Stand p l e R s m args below meth c B.U B.locs B.cells B.slots ∧ Post ⟨T.setVm vm₁, locs, cells, slots⟩ (Value.ref b :: argsL).toArray v B ∧
      ∀ target, Steps p.tables e below (B.U.setTop { g with pc := g.pc + 3, stack := v.toList ++ rest }) target → Steps p.tables e below (T.setTop g) target) ∨
    (∃ (q : Addr) (vm₁ : Vm) (B : Pt), s.WarmedH vm₁ ∧ Stand p l e R s m args below meth c B.U B.locs B.cells B.slots ∧ PostX ⟨T.setVm vm₁, locs, cells, slots⟩ (Value.ref b :: argsL).toArray q B ∧
      Steps p.tables e below (T.setTop g) ((B.U.setTop { g with stack := rest }).pushFrame (.throwing q))) := by
  obtain ⟨mk, methM, hnamed, hmethM, hstM, habM⟩ := Cond.instanceMethod_spec hinst
  obtain ⟨m8, methM', cM, hn8, hmethM', -, -, -, -, -, -, hsigM⟩ := Cond.codeWith_spec hcode
  cases Option.some.inj (hn8.symm.trans hnamed)
  cases hmethM.symm.trans hmethM'
  obtain ⟨c2, r2, m2, q1, q2, q3, q4, kP, hkP, hkPi⟩ := Cond.selects_spec hsel
  cases hcls.symm.trans q1
  cases (State.methodFound?_of_named hnamed hy).symm.trans q2
  cases hnamed.symm.trans q3
  have hselP : selectMethod e.platform s.vm cellB.cls mk = .method mk := by rw [Launch.admits_selectMethod X.admits]; exact q4
  obtain ⟨vm₁, X₁, hstep₁⟩ := X.invokevirtual hexec hown hlink hnamed hmethM hstM hkP hkPi hy (a := b) (cell := cellB) hcell
    (fun z h => by rw [h] at hobj; cases hobj) hselP hmethM habM hkP hkPi (g := g) hg (argsL := argsL) (rest := rest) (hlen _ hsigM) hstack hdg
  rcases hK m meth c ⟨T.setVm vm₁, locs, cells, slots⟩ { g with stack := rest } (.invokevirtual index) mk (Value.ref b :: argsL).toArray X₁ hg hsize hdg hW (X₁.named hnamed) (hpre vm₁ X₁.warmed) with ⟨v, B, X', hpost, hsteps⟩ | ⟨q, B, X', hpost, hsteps⟩
  · exact Or.inl ⟨v, vm₁, B, X₁.warmed, X', hpost, fun target h => hstep₁ _ fun acts => by rw [doInvoke_state]; exact hsteps.trans h⟩
  · exact Or.inr ⟨q, vm₁, B, X₁.warmed, X', hpost, hstep₁ _ fun acts => by rw [doInvoke_state]; exact hsteps⟩
theorem vx_callSX (X : Stand p l e R s m args below meth c T locs cells slots) (hexec : p.tables.exec = Jvm.exec) {own : String} {index : Nat} {y : MethodName} {bytes : ByteArray} {maxL : Nat} {ret : Option FieldType} {hh : List (Nat × Nat × Nat × Nat)}
    (hown : s.vm.findClass own = some m.cls) (hlink : (Cond.methodLink own index y).before args s = true) (hstat : (Cond.static y).before args s = true) (hinit : (Cond.initialized y.cls).before args s = true)
    (hcode : (Cond.codeWith y bytes maxL ret hh).before args s = true) (hy : y.cls ≠ "java/lang/invoke/MethodHandle" ∧ y.cls ≠ "java/lang/invoke/VarHandle")
    {W9 : Nat} {Pre : Pt → Array Value → Prop} {Post : Pt → Array Value → Option Value → Pt → Prop} {PostX : Pt → Array Value → Addr → Pt → Prop} (hK : vx_Back l R p e below s args y 3 W9 Pre Post PostX)
    {g : JFrame} (hg : g.method = m) (hsize : g.locals.size = c.maxLocals) {argsL rest : List Value} (hlen : ∀ sig, parseMethodDescriptor y.desc = some sig → argsL.length = sig.parameters.length)
    (hstack : g.stack = argsL.reverse ++ rest) (hW : 2 * g.monitorRoom + (rest.map fun v => v.category).sum ≤ W9) (hdg : decode c.code g.pc = .ok (.invokestatic index, 3))
    (hpre : ∀ vm₁, s.WarmedH vm₁ → Pre ⟨T.setVm vm₁, locs, cells, slots⟩ argsL.toArray) :
    (∃ (v : Option Value) (vm₁ : Vm) (B : Pt), s.WarmedH vm₁ ∧ Stand p l e R s m args below meth c B.U B.locs B.cells B.slots ∧ Post ⟨T.setVm vm₁, locs, cells, slots⟩ argsL.toArray v B ∧
      ∀ target, Steps p.tables e below (B.U.setTop { g with pc := g.pc + 3, stack := v.toList ++ rest }) target → Steps p.tables e below (T.setTop g) target) ∨
    (∃ (q : Addr) (vm₁ : Vm) (B : Pt), s.WarmedH vm₁ ∧ Stand p l e R s m args below meth c B.U B.locs B.cells B.slots ∧ PostX ⟨T.setVm vm₁, locs, cells, slots⟩ argsL.toArray q B ∧
      Steps p.tables e below (T.setTop g) ((B.U.setTop { g with stack := rest }).pushFrame (.throwing q))) := by
  obtain ⟨mk, methM, cM, hnamed, hmethM, -, -, -, -, -, -, hsigM⟩ := Cond.codeWith_spec hcode
  have hstatic : methM.isStatic = true := Cond.static_spec hnamed hmethM hstat
  obtain ⟨kP, hkP, -⟩ := className_of_methodNamed hnamed
  have hinitP : kP.init = .initialized := Cond.initialized_spec (findClass_of_methodNamed hnamed) hkP hinit
  obtain ⟨vm₁, X₁, hstep₁⟩ := X.invokestatic hexec hown hlink hnamed hmethM hstatic hkP hinitP hy (g := g) hg (argsL := argsL) (rest := rest) (hlen _ hsigM) hstack hdg
  rcases hK m meth c ⟨T.setVm vm₁, locs, cells, slots⟩ { g with stack := rest } (.invokestatic index) mk argsL.toArray X₁ hg hsize hdg hW (X₁.named hnamed) (hpre vm₁ X₁.warmed) with ⟨v, B, X', hpost, hsteps⟩ | ⟨q, B, X', hpost, hsteps⟩
  · exact Or.inl ⟨v, vm₁, B, X₁.warmed, X', hpost, fun target h => hstep₁ _ fun acts => by rw [doInvoke_state]; exact hsteps.trans h⟩
  · exact Or.inr ⟨q, vm₁, B, X₁.warmed, X', hpost, hstep₁ _ fun acts => by rw [doInvoke_state]; exact hsteps⟩
theorem vx_callVW (X : Stand p l e R s m args below meth c T locs cells slots) (hexec : p.tables.exec = Jvm.exec) {own C : String} {index : Nat} {y : MethodName} {bytes : ByteArray} {maxL : Nat} {ret : Option FieldType} {hh : List (Nat × Nat × Nat × Nat)}
    (hown : s.vm.findClass own = some m.cls) (hlink : (Cond.methodLink own index y).before args s = true) (hinst : (Cond.instanceMethod y).before args s = true) (hsel : (Cond.selects C y y).before args s = true)
    (hcode : (Cond.codeWith y bytes maxL ret hh).before args s = true) (hy : y.cls ≠ "java/lang/invoke/MethodHandle" ∧ y.cls ≠ "java/lang/invoke/VarHandle")
    {W9 : Nat} {Pre : Pt → Array Value → Prop} {Post : Pt → Array Value → Option Value → Pt → Prop} (hK : Back l R p e below s args y 3 W9 Pre Post)
    {b : Addr} {cellB : Cell} (hcell : T.heap[b]? = some cellB) (hobj : cellB.vm.isStatics = false) (hcls : s.vm.findClass C = some cellB.cls)
    {g : JFrame} (hg : g.method = m) (hsize : g.locals.size = c.maxLocals) {argsL rest : List Value} (hlen : ∀ sig, parseMethodDescriptor y.desc = some sig → argsL.length = sig.parameters.length)
    (hstack : g.stack = argsL.reverse ++ .ref b :: rest) (hW : 2 * g.monitorRoom + (rest.map fun v => v.category).sum ≤ W9) (hdg : decode c.code g.pc = .ok (.invokevirtual index, 3))
    (hpre : ∀ vm₁, s.WarmedH vm₁ → Pre ⟨T.setVm vm₁, locs, cells, slots⟩ (Value.ref b :: argsL).toArray) :
    ∃ (v : Option Value) (vm₁ : Vm) (B : Pt), s.WarmedH vm₁ ∧ Stand p l e R s m args below meth c B.U B.locs B.cells B.slots ∧ Post ⟨T.setVm vm₁, locs, cells, slots⟩ (Value.ref b :: argsL).toArray v B ∧
      ∀ target, Steps p.tables e below (B.U.setTop { g with pc := g.pc + 3, stack := v.toList ++ rest }) target → Steps p.tables e below (T.setTop g) target := by
  obtain ⟨mk, methM, hnamed, hmethM, hstM, habM⟩ := Cond.instanceMethod_spec hinst
  obtain ⟨m8, methM', cM, hn8, hmethM', -, -, -, -, -, -, hsigM⟩ := Cond.codeWith_spec hcode
  cases Option.some.inj (hn8.symm.trans hnamed)
  cases hmethM.symm.trans hmethM'
  obtain ⟨c2, r2, m2, q1, q2, q3, q4, kP, hkP, hkPi⟩ := Cond.selects_spec hsel
  cases hcls.symm.trans q1
  cases (State.methodFound?_of_named hnamed hy).symm.trans q2
  cases hnamed.symm.trans q3
  have hselP : selectMethod e.platform s.vm cellB.cls mk = .method mk := by rw [Launch.admits_selectMethod X.admits]; exact q4
  obtain ⟨vm₁, X₁, hstep₁⟩ := X.invokevirtual hexec hown hlink hnamed hmethM hstM hkP hkPi hy (a := b) (cell := cellB) hcell
    (fun z h => by rw [h] at hobj; cases hobj) hselP hmethM habM hkP hkPi (g := g) hg (argsL := argsL) (rest := rest) (hlen _ hsigM) hstack hdg
  obtain ⟨v, B, X', hpost, hsteps⟩ := hK m meth c ⟨T.setVm vm₁, locs, cells, slots⟩ { g with stack := rest } (.invokevirtual index) mk (Value.ref b :: argsL).toArray X₁ hg hsize hdg hW (X₁.named hnamed) (hpre vm₁ X₁.warmed)
  exact ⟨v, vm₁, B, X₁.warmed, X', hpost, fun target h => hstep₁ _ fun acts => by rw [doInvoke_state]; exact hsteps.trans h⟩
abbrev vx_CVW (R : Room) (s : State) (args : Array Value) (own C : String) (index : Nat) (y : MethodName) (bytes : ByteArray) (maxL : Nat) (ret : Option FieldType) (hh : List (Nat × Nat × Nat × Nat)) (ws : List Cond) (rm : Room) (mc ms n : Nat) : Prop :=
  (rm.cells = mc ∧ rm.slots = ms ∧ rm.frames + 1 ≤ R.frames ∧ 8 + (maxL + 11) + rm.locals ≤ R.locals ∧ (∀ w ∈ ws, ∀ (a' : Array Value) (U : State), s.WarmedH U.vm → w.before a' U = true) ∧ Cond.codeWith y bytes maxL ret hh ∈ ws) ∧
  (Cond.codeWith y bytes maxL ret hh).before args s = true ∧ (Cond.initialized y.cls).before args s = true ∧ (y.cls ≠ "java/lang/invoke/MethodHandle" ∧ y.cls ≠ "java/lang/invoke/VarHandle") ∧
  (∀ sig, parseMethodDescriptor y.desc = some sig → n = sig.parameters.length) ∧ (Cond.methodLink own index y).before args s = true ∧ (Cond.instanceMethod y).before args s = true ∧ (Cond.selects C y y).before args s = true
theorem vx_cwVW {own C : String} {index maxL mc ms : Nat} {y : MethodName} {bytes : ByteArray} {ret : Option FieldType} {hh : List (Nat × Nat × Nat × Nat)} {Ts ws ws' : List Cond} {rm : Room} (n : Nat) (ht : ∀ w ∈ Ts, w.before args s = true) (hT : GoodIn Ts (wsV own index C y ws)) (hw : ws = Cond.codeWith y bytes maxL ret hh :: ws') (hrc : rm.cells = mc) (hrs : rm.slots = ms)
    (hd : y.cls = C ∧ y.cls ≠ "java/lang/invoke/MethodHandle" ∧ y.cls ≠ "java/lang/invoke/VarHandle" ∧ (parseMethodDescriptor y.desc).map (fun d => d.parameters.length) = some n) (hR : rm.frames + 1 ≤ R.frames ∧ 8 + (maxL + 11) + rm.locals ≤ R.locals) :
    vx_CVW R s args own C index y bytes maxL ret hh ws rm mc ms n := by
  obtain ⟨hC, hd⟩ := hd
  subst hC
  have ok : ∀ w ∈ wsV own index y.cls y ws, w.before args s = true := fun w h => ht w (hT w h).1
  have hG : GoodIn Ts ws := fun w h => hT w (by unfold wsV; exact List.mem_append_right _ h)
  have hc : Cond.codeWith y bytes maxL ret hh ∈ ws := by rw [hw]; exact List.mem_cons_self
  refine ⟨⟨hrc, hrs, hR.1, hR.2, pay_in ht hG, hc⟩, ht _ (hG _ hc).1, ok _ (by simp [wsV]), ⟨hd.1, hd.2.1⟩, fun sig h => ?_, ok _ (by simp [wsV]), ok _ (by simp [wsV]), ok _ (by simp [wsV])⟩
  have h2 := hd.2.2
  rw [h] at h2
  exact (Option.some.inj h2).symm
theorem vx_runVW {y : MethodName} {bytes cc : ByteArray} {maxL nL mc ms n index : Nat} {ret : Option FieldType} {hh : List (Nat × Nat × Nat × Nat)} {ws : List Cond} {rm : Room} {Pc : Array Value → State → Prop} {Qc : Array Value → State → Outcome → State → Prop} {free : Addr → Prop} {Ts : List Cond} {own C : String} {b : Addr} {As rest : List Value} {g : JFrame}
    (S : CallFix p m c cc nL s args Ts own) (hM : Met l y ws rm Pc Qc mc ms free) (cw : vx_CVW R s args own C index y bytes maxL ret hh ws rm mc ms n) (hp : PreV s H C b Pc As)
    (hg : g.method = m) (hn : As.length = n) (hsize : g.locals.size = nL) (hstack : g.stack = As.reverse ++ .ref b :: rest) (hW : 2 * g.monitorRoom + (rest.map fun v => v.category).sum ≤ 8) (hdg : decode cc g.pc = .ok (.invokevirtual index, 3)) (hf : cells + mc ≤ R.cells ∧ slots + ms ≤ R.slots) :
    va_Run p l e R s m args below meth c H locs cells slots mc ms g rest (Qc (Value.ref b :: As).toArray) free := by
  obtain ⟨⟨hrc, hrs, hfr, hlo, hws, hcw⟩, hcode, hini, hy, hlen, hl, hin, hse⟩ := cw
  have hK : Back l R p e below s args y 3 8 (PreOf R mc ms Pc) (PostOf Qc mc ms free) := va_backW (hh := hh) (bytes := bytes) (maxL := maxL) (ret := ret) hM hp.1 hrc hrs hfr hlo hws hcw (fun a' U hW => word_at hW (Or.inl (by first | rfl | simp [Cond.onTables, Cond.keeps, Cond.steady])) hini)
  obtain ⟨hx, hb, hml, ho, -⟩ := S
  obtain ⟨-, ⟨cellB, hcB, hoB, hclB⟩, hPc⟩ := hp
  intro T hT X
  obtain ⟨v, vm₁, ⟨U', l2, c2, s2⟩, hW₁, X', ⟨g', mk, t, L, e1, e2, hq, h1, hL, h2, h3⟩, st⟩ := vx_callVW X hx (C := C) (hh := hh) (bytes := bytes) (maxL := maxL) (ret := ret) ho hl hin hse hcode hy hK (by rw [hT]; exact hcB) hoB hclB hg (hsize.trans hml.symm) (argsL := As) (rest := rest) (fun sig h => hn.trans (hlen sig h)) hstack hW (by rw [hb]; exact hdg)
    (fun vm₁ hW₁ => ⟨hf.1, hf.2, hPc (T.setVm vm₁) hT hW₁⟩)
  dsimp only [Pt.U, Pt.locs, Pt.cells, Pt.slots] at X' e1 e2 h1 h2 h3 st
  subst h1; subst h2; subst h3
  exact ⟨v, (T.setVm vm₁).calling g' mk (Value.ref b :: As).toArray, t, U', L, hT, X', hL, e1, e2, hq, st⟩
section
variable {y : MethodName} {bytes cc : ByteArray} {maxL nL mc ms n index : Nat} {ret : Option FieldType} {ws : List Cond} {rm : Room} {Pc : Array Value → State → Prop} {Qc : Array Value → State → Outcome → State → Prop} {XC : String → State → State → Prop} {free : Addr → Prop} {Ts : List Cond} {own C : String} {b : Addr} {As rest : List Value} {g : JFrame}
theorem vx_runVX {hh : List (Nat × Nat × Nat × Nat)} (S : CallFix p m c cc nL s args Ts own) (hM : vx_Met l y ws rm Pc Qc XC mc ms free) (cw : vx_CVW R s args own C index y bytes maxL ret hh ws rm mc ms n) (hp : PreV s H C b Pc As)
    (hg : g.method = m) (hn : As.length = n) (hsize : g.locals.size = nL) (hstack : g.stack = As.reverse ++ .ref b :: rest) (hW : 2 * g.monitorRoom + (rest.map fun v => v.category).sum ≤ 8) (hdg : decode cc g.pc = .ok (.invokevirtual index, 3)) (hf : cells + mc ≤ R.cells ∧ slots + ms ≤ R.slots) :
    vx_Run p l e R s m args below meth c H locs cells slots mc ms g rest (Qc (Value.ref b :: As).toArray) XC free := by
  obtain ⟨⟨hrc, hrs, hfr, hlo, hws, hcw⟩, hcode, hini, hy, hlen, hl, hin, hse⟩ := cw
  have hK : vx_Back l R p e below s args y 3 8 (PreOf R mc ms Pc) (PostOf Qc mc ms free) (vx_Post XC mc ms free) := vx_backW (hh := hh) (bytes := bytes) (maxL := maxL) (ret := ret) hM hp.1 hrc hrs hfr hlo hws hcw (fun a' U hW => word_at hW (Or.inl (by first | rfl | simp [Cond.onTables, Cond.keeps, Cond.steady])) hini)
  obtain ⟨hx, hb, hml, ho, -⟩ := S
  obtain ⟨-, ⟨cellB, hcB, hoB, hclB⟩, hPc⟩ := hp
  intro T hT X
  rcases vx_callVX X hx (C := C) (hh := hh) (bytes := bytes) (maxL := maxL) (ret := ret) ho hl hin hse hcode hy hK (by rw [hT]; exact hcB) hoB hclB hg (hsize.trans hml.symm) (argsL := As) (rest := rest) (fun sig h => hn.trans (hlen sig h)) hstack hW (by rw [hb]; exact hdg)
    (fun vm₁ hW₁ => ⟨hf.1, hf.2, hPc (T.setVm vm₁) hT hW₁⟩) with ⟨v, vm₁, ⟨U', l2, c2, s2⟩, hW₁, X', ⟨g', mk, t, L, e1, e2, hq, h1, hL, h2, h3⟩, st⟩ | ⟨q, vm₁, ⟨U', l2, c2, s2⟩, hW₁, X', ⟨g', mk, t, L, E, ce, e1, e2, hq, hce, hcv, hcl, h1, hL, h2, h3⟩, st⟩
  · dsimp only [Pt.U, Pt.locs, Pt.cells, Pt.slots] at X' e1 e2 h1 h2 h3 st
    subst h1; subst h2; subst h3
    exact Or.inl ⟨v, (T.setVm vm₁).calling g' mk (Value.ref b :: As).toArray, t, U', L, hT, X', hL, e1, e2, hq, st⟩
  · dsimp only [Pt.U, Pt.locs, Pt.cells, Pt.slots] at X' e1 e2 h1 h2 h3 st hcl
    subst h1; subst h2; subst h3
    exact Or.inr ⟨q, (T.setVm vm₁).calling g' mk (Value.ref b :: As).toArray, t, U', L, E, ce, hT, X', hL, e1, e2, hq, hce, hcv, vx_cls hW₁ hcl, st⟩
theorem vx_runSX {hh : List (Nat × Nat × Nat × Nat)} (S : CallFix p m c cc nL s args Ts own) (hM : vx_Met l y ws rm Pc Qc XC mc ms free) (cw : vx_CSW R s args own index y bytes maxL ret hh ws rm mc ms n) (hp : PreS s H Pc As)
    (hg : g.method = m) (hn : As.length = n) (hsize : g.locals.size = nL) (hstack : g.stack = As.reverse ++ rest) (hW : 2 * g.monitorRoom + (rest.map fun v => v.category).sum ≤ 8) (hdg : decode cc g.pc = .ok (.invokestatic index, 3)) (hf : cells + mc ≤ R.cells ∧ slots + ms ≤ R.slots) :
    vx_Run p l e R s m args below meth c H locs cells slots mc ms g rest (Qc As.toArray) XC free := by
  obtain ⟨⟨hrc, hrs, hfr, hlo, hws, hcw⟩, hcode, hini, hy, hlen, hl, hstt⟩ := cw
  have hK : vx_Back l R p e below s args y 3 8 (PreOf R mc ms Pc) (PostOf Qc mc ms free) (vx_Post XC mc ms free) := vx_backW (hh := hh) (bytes := bytes) (maxL := maxL) (ret := ret) hM hp.1 hrc hrs hfr hlo hws hcw (fun a' U hW => word_at hW (Or.inl (by first | rfl | simp [Cond.onTables, Cond.keeps, Cond.steady])) hini)
  obtain ⟨hx, hb, hml, ho, -⟩ := S
  intro T hT X
  rcases vx_callSX X hx (hh := hh) (bytes := bytes) (maxL := maxL) (ret := ret) ho hl hstt hini hcode hy hK hg (hsize.trans hml.symm) (argsL := As) (rest := rest) (fun sig h => hn.trans (hlen sig h)) hstack hW (by rw [hb]; exact hdg)
    (fun vm₁ hW₁ => ⟨hf.1, hf.2, hp.2 (T.setVm vm₁) hT hW₁⟩) with ⟨v, vm₁, ⟨U', l2, c2, s2⟩, hW₁, X', ⟨g', mk, t, L, e1, e2, hq, h1, hL, h2, h3⟩, st⟩ | ⟨q, vm₁, ⟨U', l2, c2, s2⟩, hW₁, X', ⟨g', mk, t, L, E, ce, e1, e2, hq, hce, hcv, hcl, h1, hL, h2, h3⟩, st⟩
  · dsimp only [Pt.U, Pt.locs, Pt.cells, Pt.slots] at X' e1 e2 h1 h2 h3 st
    subst h1; subst h2; subst h3
    exact Or.inl ⟨v, (T.setVm vm₁).calling g' mk As.toArray, t, U', L, hT, X', hL, e1, e2, hq, st⟩
  · dsimp only [Pt.U, Pt.locs, Pt.cells, Pt.slots] at X' e1 e2 h1 h2 h3 st hcl
    subst h1; subst h2; subst h3
    exact Or.inr ⟨q, (T.setVm vm₁).calling g' mk As.toArray, t, U', L, E, ce, hT, X', hL, e1, e2, hq, hce, hcv, vx_cls hW₁ hcl, st⟩
end
end VXH
theorem vx_ofWH {l : Launch} {y : MethodName} {ws ws' : List Cond} {rm : Room} {Pc : Array Value → State → Prop} {Qc : Array Value → State → Outcome → State → Prop} {XC : String → State → State → Prop} {mc ms : Nat} {free : Addr → Prop} {cc : ByteArray} {maxL : Nat} {ret : Option FieldType} {hh : List (Nat × Nat × Nat × Nat)}
    (hy : plainName y.cls = true) (hw : ws = Cond.codeWith y cc maxL ret hh :: ws')
    (body : ∀ p e s m args below meth c s₁, BodyLoose p l y (headSpec ws rm) cc maxL ret e s m args below meth c s₁ → c.maxLocals = maxL → Pc args s →
      W p l e (headSpec ws rm).room s m args below meth c s.heap [] 0 0 (vx_MQ below Qc XC args s mc ms free) (entryFrame m args maxL)) : vx_Met l y ws rm Pc Qc XC mc ms free := by
  refine MetFree.of_bodyS (code := cc) (maxLocals := maxL) (ret := ret) hy ?_ ?_
  · intro args s m h hn
    obtain ⟨m9, meth, c, hn9, h1, h2, h3, h4, -, h5, h6, -⟩ := Cond.codeWith_spec (atoms_spec (ws := ws) h _ (by rw [hw]; exact List.mem_cons_self))
    cases hn.symm.trans hn9
    exact ⟨meth, c, h1, h2, h3, h4, h5, h6⟩
  · intro p e s m args below meth c s₁ B hml hP _
    have hh0 : s₁.heap = s.heap := by rw [B.state]; rfl
    obtain ⟨t, a1, o, b1, b2, b3⟩ := body p e s m args below meth c s₁ B hml hP s₁ hh0 (Stand.of_body B)
    exact ⟨t, o, a1, b1, b2, b3⟩
/-! ===== END ===== -/
end
section
/-! ===== BEGIN printed: names, fields, word lists, decode rows ===== -/
def RX0 : String := "SpinKernel$Job"
def TX0 : u_T := fun k => match k with
  | 0 => ("SpinKernel$Job", "hasCome", "Z", false)
  | 1 => ("SpinKernel$Job", "isOpen", "Z", false)
  | 2 => ("SpinKernel$Job", "cameAt", "I", false)
  | 3 => ("SpinKernel$Job", "state", "I", false)
  | 4 => ("SpinKernel$Job", "workDone", "I", false)
  | 5 => ("SpinKernel$Job", "next", "I", false)
  | 6 => ("SpinKernel$Job", "sectionLeft", "I", false)
  | 7 => ("SpinKernel$Job", "spinning", "I", false)
  | 8 => ("SpinKernel$Job", "ended", "I", false)
  | 9 => ("SpinKernel$Job", "endedLate", "I", false)
  | 10 => ("SpinKernel$Job", "greatestResponse", "I", false)
  | _ => ("SpinKernel$Job", "latestResponse", "I", false)
def tyX0 : Nat → FieldType := fun k => match k with
  | 0 => .boolean
  | 1 => .boolean
  | 2 => .int
  | 3 => .int
  | 4 => .int
  | 5 => .int
  | 6 => .int
  | 7 => .int
  | 8 => .int
  | 9 => .int
  | 10 => .int
  | _ => .int
abbrev wsX00 : List Cond := u_ws RX0 TX0 12
theorem nmX0 : ∀ a, a < 12 → ∀ b, b < 12 → a ≠ b → (TX0 a).2.1 ≠ (TX0 b).2.1 := by decide +kernel
theorem tyX0_ok : ∀ k, k < 12 → parseFieldDescriptor (TX0 k).2.2.1 = some (tyX0 k) := by decide +kernel
abbrev cX0_init : ByteArray := prog_2_method_1_code
def yX0_init : MethodName := ⟨RX0, "<init>", "()V"⟩
abbrev cX0_start : ByteArray := prog_2_method_2_code
def yX0_start : MethodName := ⟨RX0, "start", "(II)V"⟩
abbrev cX0_end : ByteArray := prog_2_method_3_code
def yX0_end : MethodName := ⟨RX0, "end", "(II)V"⟩
abbrev cX0_forget : ByteArray := prog_2_method_4_code
def yX0_forget : MethodName := ⟨RX0, "forget", "()V"⟩
def RX1 : String := "SpinKernel$Request"
def TX1 : u_T := fun k => match k with
  | 0 => ("SpinKernel$Request", "after", "I", false)
  | 1 => ("SpinKernel$Request", "lock", "I", false)
  | 2 => ("SpinKernel$Request", "length", "I", false)
  | 3 => ("SpinKernel$Request", "in", "I", false)
  | 4 => ("SpinKernel$Request", "spinBound", "I", false)
  | 5 => ("SpinKernel$Request", "ticksOfNextJob", "I", false)
  | 6 => ("SpinKernel$Request", "ticksOfJob", "I", false)
  | _ => ("SpinKernel$Request", "mostSpun", "I", false)
def tyX1 : Nat → FieldType := fun k => match k with
  | 0 => .int
  | 1 => .int
  | 2 => .int
  | 3 => .int
  | 4 => .int
  | 5 => .int
  | 6 => .int
  | _ => .int
abbrev wsX10 : List Cond := u_ws RX1 TX1 8
theorem nmX1 : ∀ a, a < 8 → ∀ b, b < 8 → a ≠ b → (TX1 a).2.1 ≠ (TX1 b).2.1 := by decide +kernel
theorem tyX1_ok : ∀ k, k < 8 → parseFieldDescriptor (TX1 k).2.2.1 = some (tyX1 k) := by decide +kernel
abbrev cX1_init : ByteArray := prog_3_method_1_code
def yX1_init : MethodName := ⟨RX1, "<init>", "()V"⟩
abbrev cX1_layDown : ByteArray := prog_3_method_2_code
def yX1_layDown : MethodName := ⟨RX1, "layDown", "(IIII)V"⟩
abbrev cX1_isOuter : ByteArray := prog_3_method_3_code
def yX1_isOuter : MethodName := ⟨RX1, "isOuter", "()Z"⟩
abbrev cX1_startJob : ByteArray := prog_3_method_4_code
def yX1_startJob : MethodName := ⟨RX1, "startJob", "()V"⟩
abbrev cX1_forgetJobs : ByteArray := prog_3_method_5_code
def yX1_forgetJobs : MethodName := ⟨RX1, "forgetJobs", "()V"⟩
def RX2 : String := "SpinKernel$Row"
def TX2 : u_T := fun k => match k with
  | 0 => ("SpinKernel$Row", "cores", "[I", true)
  | _ => ("SpinKernel$Row", "size", "I", false)
def tyX2 : Nat → FieldType := fun k => match k with
  | 0 => .array .int
  | _ => .int
abbrev wsX20 : List Cond := u_ws RX2 TX2 2
theorem nmX2 : ∀ a, a < 2 → ∀ b, b < 2 → a ≠ b → (TX2 a).2.1 ≠ (TX2 b).2.1 := by decide +kernel
theorem tyX2_ok : ∀ k, k < 2 → parseFieldDescriptor (TX2 k).2.2.1 = some (tyX2 k) := by decide +kernel
abbrev cX2_init : ByteArray := prog_4_method_1_code
def yX2_init : MethodName := ⟨RX2, "<init>", "()V"⟩
abbrev cX2_join : ByteArray := prog_4_method_2_code
def yX2_join : MethodName := ⟨RX2, "join", "(I)V"⟩
abbrev cX2_dropFirst : ByteArray := prog_4_method_3_code
def yX2_dropFirst : MethodName := ⟨RX2, "dropFirst", "()V"⟩
abbrev cX2_coreAt : ByteArray := prog_4_method_4_code
def yX2_coreAt : MethodName := ⟨RX2, "coreAt", "(I)I"⟩
def RX3 : String := "SpinKernel$Task"
def TX3 : u_T := fun k => match k with
  | 0 => ("SpinKernel$Task", "isThere", "Z", false)
  | 1 => ("SpinKernel$Task", "core", "I", false)
  | 2 => ("SpinKernel$Task", "priority", "I", false)
  | 3 => ("SpinKernel$Task", "distance", "I", false)
  | 4 => ("SpinKernel$Task", "deadline", "I", false)
  | 5 => ("SpinKernel$Task", "work", "I", false)
  | 6 => ("SpinKernel$Task", "inflated", "I", false)
  | 7 => ("SpinKernel$Task", "count", "I", false)
  | 8 => ("SpinKernel$Task", "requests", "[LSpinKernel$Request;", true)
  | _ => ("SpinKernel$Task", "job", "LSpinKernel$Job;", true)
def tyX3 : Nat → FieldType := fun k => match k with
  | 0 => .boolean
  | 1 => .int
  | 2 => .int
  | 3 => .int
  | 4 => .int
  | 5 => .int
  | 6 => .int
  | 7 => .int
  | 8 => .array (.object "SpinKernel$Request")
  | _ => .object "SpinKernel$Job"
abbrev wsX30 : List Cond := u_ws RX3 TX3 10
theorem nmX3 : ∀ a, a < 10 → ∀ b, b < 10 → a ≠ b → (TX3 a).2.1 ≠ (TX3 b).2.1 := by decide +kernel
theorem tyX3_ok : ∀ k, k < 10 → parseFieldDescriptor (TX3 k).2.2.1 = some (tyX3 k) := by decide +kernel
abbrev cX3_init : ByteArray := prog_5_method_1_code
def yX3_init : MethodName := ⟨RX3, "<init>", "()V"⟩
abbrev cX3_layDown : ByteArray := prog_5_method_2_code
def yX3_layDown : MethodName := ⟨RX3, "layDown", "(IIIII)V"⟩
abbrev cX3_isOn : ByteArray := prog_5_method_3_code
def yX3_isOn : MethodName := ⟨RX3, "isOn", "(I)Z"⟩
abbrev cX3_isOuter : ByteArray := prog_5_method_4_code
def yX3_isOuter : MethodName := ⟨RX3, "isOuter", "(I)Z"⟩
abbrev cX3_hasPlaceFor : ByteArray := prog_5_method_5_code
def yX3_hasPlaceFor : MethodName := ⟨RX3, "hasPlaceFor", "(III)Z"⟩
abbrev cX3_greatestAfter : ByteArray := prog_5_method_6_code
def yX3_greatestAfter : MethodName := ⟨RX3, "greatestAfter", "()I"⟩
abbrev cX3_addRequest : ByteArray := prog_5_method_7_code
def yX3_addRequest : MethodName := ⟨RX3, "addRequest", "(IIII)I"⟩
abbrev cX3_longestStay : ByteArray := prog_5_method_8_code
def yX3_longestStay : MethodName := ⟨RX3, "longestStay", "()I"⟩
abbrev cX3_beginningsIn : ByteArray := prog_5_method_9_code
def yX3_beginningsIn : MethodName := ⟨RX3, "beginningsIn", "(I)I"⟩
abbrev cX3_startJob : ByteArray := prog_5_method_10_code
def yX3_startJob : MethodName := ⟨RX3, "startJob", "(I)V"⟩
abbrev cX3_endJob : ByteArray := prog_5_method_11_code
def yX3_endJob : MethodName := ⟨RX3, "endJob", "(I)V"⟩
abbrev cX3_forgetJobs : ByteArray := prog_5_method_12_code
def yX3_forgetJobs : MethodName := ⟨RX3, "forgetJobs", "()V"⟩
abbrev cX3_outerFrom : ByteArray := prog_5_method_13_code
def yX3_outerFrom : MethodName := ⟨RX3, "outerFrom", "(I)I"⟩
abbrev cX3_nextRequest : ByteArray := prog_5_method_14_code
def yX3_nextRequest : MethodName := ⟨RX3, "nextRequest", "()LSpinKernel$Request;"⟩
abbrev cX3_hasToAsk : ByteArray := prog_5_method_15_code
def yX3_hasToAsk : MethodName := ⟨RX3, "hasToAsk", "()Z"⟩
abbrev cX3_startSpinning : ByteArray := prog_5_method_16_code
def yX3_startSpinning : MethodName := ⟨RX3, "startSpinning", "()V"⟩
abbrev cX3_spinFor : ByteArray := prog_5_method_17_code
def yX3_spinFor : MethodName := ⟨RX3, "spinFor", "(I)V"⟩
abbrev cX3_startHolding : ByteArray := prog_5_method_18_code
def yX3_startHolding : MethodName := ⟨RX3, "startHolding", "()V"⟩
abbrev cX3_leaveSection : ByteArray := prog_5_method_19_code
def yX3_leaveSection : MethodName := ⟨RX3, "leaveSection", "()V"⟩
abbrev cX3_ticksToChange : ByteArray := prog_5_method_20_code
def yX3_ticksToChange : MethodName := ⟨RX3, "ticksToChange", "()I"⟩
abbrev cX3_isAllDone : ByteArray := prog_5_method_21_code
def yX3_isAllDone : MethodName := ⟨RX3, "isAllDone", "()Z"⟩
def RX4 : String := "SpinKernel"
def TX4 : u_T := fun k => match k with
  | 0 => ("SpinKernel", "tasks", "[LSpinKernel$Task;", true)
  | 1 => ("SpinKernel", "rows", "[LSpinKernel$Row;", true)
  | 2 => ("SpinKernel", "leastOfGroup", "[I", true)
  | 3 => ("SpinKernel", "longest", "[[I", true)
  | 4 => ("SpinKernel", "taskOfCore", "[I", true)
  | 5 => ("SpinKernel", "deedOfCore", "[I", true)
  | 6 => ("SpinKernel", "sealed", "Z", false)
  | _ => ("SpinKernel", "now", "I", false)
def tyX4 : Nat → FieldType := fun k => match k with
  | 0 => .array (.object "SpinKernel$Task")
  | 1 => .array (.object "SpinKernel$Row")
  | 2 => .array .int
  | 3 => .array (.array .int)
  | 4 => .array .int
  | 5 => .array .int
  | 6 => .boolean
  | _ => .int
abbrev wsX40 : List Cond := u_ws RX4 TX4 8
theorem nmX4 : ∀ a, a < 8 → ∀ b, b < 8 → a ≠ b → (TX4 a).2.1 ≠ (TX4 b).2.1 := by decide +kernel
theorem tyX4_ok : ∀ k, k < 8 → parseFieldDescriptor (TX4 k).2.2.1 = some (tyX4 k) := by decide +kernel
abbrev cX4_init : ByteArray := prog_1_method_1_code
def yX4_init : MethodName := ⟨RX4, "<init>", "()V"⟩
abbrev cX4_task : ByteArray := prog_1_method_2_code
def yX4_task : MethodName := ⟨RX4, "task", "(IIIIII)V"⟩
abbrev cX4_request : ByteArray := prog_1_method_3_code
def yX4_request : MethodName := ⟨RX4, "request", "(IIIII)I"⟩
abbrev cX4_take : ByteArray := prog_1_method_4_code
def yX4_take : MethodName := ⟨RX4, "take", "(I)V"⟩
abbrev cX4_group : ByteArray := prog_1_method_5_code
def yX4_group : MethodName := ⟨RX4, "group", "(I)I"⟩
abbrev cX4_spin : ByteArray := prog_1_method_6_code
def yX4_spin : MethodName := ⟨RX4, "spin", "(II)I"⟩
abbrev cX4_bound : ByteArray := prog_1_method_7_code
def yX4_bound : MethodName := ⟨RX4, "bound", "(II)I"⟩
abbrev cX4_seal : ByteArray := prog_1_method_8_code
def yX4_seal : MethodName := ⟨RX4, "seal", "()I"⟩
abbrev cX4_unseal : ByteArray := prog_1_method_9_code
def yX4_unseal : MethodName := ⟨RX4, "unseal", "()V"⟩
abbrev cX4_arrive : ByteArray := prog_1_method_10_code
def yX4_arrive : MethodName := ⟨RX4, "arrive", "(I)Z"⟩
abbrev cX4_shorten : ByteArray := prog_1_method_11_code
def yX4_shorten : MethodName := ⟨RX4, "shorten", "(III)V"⟩
abbrev cX4_tick : ByteArray := prog_1_method_12_code
def yX4_tick : MethodName := ⟨RX4, "tick", "(I)I"⟩
abbrev cX4_core : ByteArray := prog_1_method_13_code
def yX4_core : MethodName := ⟨RX4, "core", "(II)I"⟩
abbrev cX4_row : ByteArray := prog_1_method_14_code
def yX4_row : MethodName := ⟨RX4, "row", "(II)I"⟩
abbrev cX4_jobs : ByteArray := prog_1_method_15_code
def yX4_jobs : MethodName := ⟨RX4, "jobs", "(II)I"⟩
abbrev cX4_spun : ByteArray := prog_1_method_16_code
def yX4_spun : MethodName := ⟨RX4, "spun", "(II)I"⟩
abbrev cX4_late : ByteArray := prog_1_method_17_code
def yX4_late : MethodName := ⟨RX4, "late", "()I"⟩
abbrev cX4_isWithin : ByteArray := prog_1_method_18_code
def yX4_isWithin : MethodName := ⟨RX4, "isWithin", "(III)Z"⟩
abbrev cX4_taskAt : ByteArray := prog_1_method_19_code
def yX4_taskAt : MethodName := ⟨RX4, "taskAt", "(I)LSpinKernel$Task;"⟩
abbrev cX4_requestAt : ByteArray := prog_1_method_20_code
def yX4_requestAt : MethodName := ⟨RX4, "requestAt", "(LSpinKernel$Task;I)LSpinKernel$Request;"⟩
abbrev cX4_rowOf : ByteArray := prog_1_method_21_code
def yX4_rowOf : MethodName := ⟨RX4, "rowOf", "(I)LSpinKernel$Row;"⟩
abbrev cX4_isPriorityTaken : ByteArray := prog_1_method_22_code
def yX4_isPriorityTaken : MethodName := ⟨RX4, "isPriorityTaken", "(II)Z"⟩
abbrev cX4_isAnyJobOpen : ByteArray := prog_1_method_23_code
def yX4_isAnyJobOpen : MethodName := ⟨RX4, "isAnyJobOpen", "()Z"⟩
abbrev cX4_measure : ByteArray := prog_1_method_24_code
def yX4_measure : MethodName := ⟨RX4, "measure", "()V"⟩
abbrev cX4_formGroups : ByteArray := prog_1_method_25_code
def yX4_formGroups : MethodName := ⟨RX4, "formGroups", "()V"⟩
abbrev cX4_joinGroups : ByteArray := prog_1_method_26_code
def yX4_joinGroups : MethodName := ⟨RX4, "joinGroups", "(II)V"⟩
abbrev cX4_findLongest : ByteArray := prog_1_method_27_code
def yX4_findLongest : MethodName := ⟨RX4, "findLongest", "()V"⟩
abbrev cX4_inflate : ByteArray := prog_1_method_28_code
def yX4_inflate : MethodName := ⟨RX4, "inflate", "(LSpinKernel$Task;)V"⟩
abbrev cX4_longestElsewhere : ByteArray := prog_1_method_29_code
def yX4_longestElsewhere : MethodName := ⟨RX4, "longestElsewhere", "(II)I"⟩
abbrev cX4_blockingOf : ByteArray := prog_1_method_30_code
def yX4_blockingOf : MethodName := ⟨RX4, "blockingOf", "(LSpinKernel$Task;)I"⟩
abbrev cX4_responseOf : ByteArray := prog_1_method_31_code
def yX4_responseOf : MethodName := ⟨RX4, "responseOf", "(LSpinKernel$Task;)I"⟩
abbrev cX4_demandAbove : ByteArray := prog_1_method_32_code
def yX4_demandAbove : MethodName := ⟨RX4, "demandAbove", "(LSpinKernel$Task;I)I"⟩
abbrev cX4_takeJobs : ByteArray := prog_1_method_33_code
def yX4_takeJobs : MethodName := ⟨RX4, "takeJobs", "()V"⟩
abbrev cX4_isHeldFast : ByteArray := prog_1_method_34_code
def yX4_isHeldFast : MethodName := ⟨RX4, "isHeldFast", "(I)Z"⟩
abbrev cX4_mostUrgentOn : ByteArray := prog_1_method_35_code
def yX4_mostUrgentOn : MethodName := ⟨RX4, "mostUrgentOn", "(I)I"⟩
abbrev cX4_askIfDue : ByteArray := prog_1_method_36_code
def yX4_askIfDue : MethodName := ⟨RX4, "askIfDue", "(I)V"⟩
abbrev cX4_letFirstsHold : ByteArray := prog_1_method_37_code
def yX4_letFirstsHold : MethodName := ⟨RX4, "letFirstsHold", "()V"⟩
abbrev cX4_ticksAlike : ByteArray := prog_1_method_38_code
def yX4_ticksAlike : MethodName := ⟨RX4, "ticksAlike", "()I"⟩
abbrev cX4_workOn : ByteArray := prog_1_method_39_code
def yX4_workOn : MethodName := ⟨RX4, "workOn", "(I)I"⟩
abbrev cX4_workOnJob : ByteArray := prog_1_method_40_code
def yX4_workOnJob : MethodName := ⟨RX4, "workOnJob", "(LSpinKernel$Task;I)Z"⟩
abbrev cX4_holdFor : ByteArray := prog_1_method_41_code
def yX4_holdFor : MethodName := ⟨RX4, "holdFor", "(LSpinKernel$Task;I)V"⟩
def RX5 : String := "SpinKernelModel"
def TX5 : u_T := fun k => match k with
  | 0 => ("SpinKernelModel", "thrown", "I", false)
  | 1 => ("SpinKernelModel", "cores", "[I", true)
  | 2 => ("SpinKernelModel", "priorities", "[I", true)
  | 3 => ("SpinKernelModel", "distances", "[I", true)
  | 4 => ("SpinKernelModel", "deadlines", "[I", true)
  | 5 => ("SpinKernelModel", "works", "[I", true)
  | 6 => ("SpinKernelModel", "counts", "[I", true)
  | 7 => ("SpinKernelModel", "afters", "[I", true)
  | 8 => ("SpinKernelModel", "locks", "[I", true)
  | 9 => ("SpinKernelModel", "lengths", "[I", true)
  | 10 => ("SpinKernelModel", "ins", "[I", true)
  | 11 => ("SpinKernelModel", "groups", "[I", true)
  | 12 => ("SpinKernelModel", "sealed", "Z", false)
  | 13 => ("SpinKernelModel", "now", "I", false)
  | 14 => ("SpinKernelModel", "open", "[Z", true)
  | 15 => ("SpinKernelModel", "came", "[Z", true)
  | 16 => ("SpinKernelModel", "times", "[I", true)
  | 17 => ("SpinKernelModel", "done", "[I", true)
  | 18 => ("SpinKernelModel", "nexts", "[I", true)
  | 19 => ("SpinKernelModel", "left", "[I", true)
  | 20 => ("SpinKernelModel", "spinning", "[I", true)
  | 21 => ("SpinKernelModel", "mine", "[I", true)
  | 22 => ("SpinKernelModel", "coming", "[I", true)
  | 23 => ("SpinKernelModel", "ended", "[I", true)
  | 24 => ("SpinKernelModel", "greatest", "[I", true)
  | 25 => ("SpinKernelModel", "latest", "[I", true)
  | 26 => ("SpinKernelModel", "spuns", "[I", true)
  | 27 => ("SpinKernelModel", "behind", "I", false)
  | 28 => ("SpinKernelModel", "at", "[I", true)
  | 29 => ("SpinKernelModel", "state", "[I", true)
  | 30 => ("SpinKernelModel", "lastTask", "[I", true)
  | 31 => ("SpinKernelModel", "lastState", "[I", true)
  | 32 => ("SpinKernelModel", "rows", "[I", true)
  | _ => ("SpinKernelModel", "many", "[I", true)
def tyX5 : Nat → FieldType := fun k => match k with
  | 0 => .int
  | 1 => .array .int
  | 2 => .array .int
  | 3 => .array .int
  | 4 => .array .int
  | 5 => .array .int
  | 6 => .array .int
  | 7 => .array .int
  | 8 => .array .int
  | 9 => .array .int
  | 10 => .array .int
  | 11 => .array .int
  | 12 => .boolean
  | 13 => .int
  | 14 => .array .boolean
  | 15 => .array .boolean
  | 16 => .array .int
  | 17 => .array .int
  | 18 => .array .int
  | 19 => .array .int
  | 20 => .array .int
  | 21 => .array .int
  | 22 => .array .int
  | 23 => .array .int
  | 24 => .array .int
  | 25 => .array .int
  | 26 => .array .int
  | 27 => .int
  | 28 => .array .int
  | 29 => .array .int
  | 30 => .array .int
  | 31 => .array .int
  | 32 => .array .int
  | _ => .array .int
abbrev wsX50 : List Cond := u_ws RX5 TX5 34
theorem nmX5 : ∀ a, a < 34 → ∀ b, b < 34 → a ≠ b → (TX5 a).2.1 ≠ (TX5 b).2.1 := by decide +kernel
theorem tyX5_ok : ∀ k, k < 34 → parseFieldDescriptor (TX5 k).2.2.1 = some (tyX5 k) := by decide +kernel
abbrev cX5_init : ByteArray := prog_7_method_1_code
def yX5_init : MethodName := ⟨RX5, "<init>", "()V"⟩
abbrev cX5_thrown : ByteArray := prog_7_method_2_code
def yX5_thrown : MethodName := ⟨RX5, "thrown", "()I"⟩
abbrev cX5_refused : ByteArray := prog_7_method_3_code
def yX5_refused : MethodName := ⟨RX5, "refused", "(ZZZ)Z"⟩
abbrev cX5_isTask : ByteArray := prog_7_method_4_code
def yX5_isTask : MethodName := ⟨RX5, "isTask", "(I)Z"⟩
abbrev cX5_isRequest : ByteArray := prog_7_method_5_code
def yX5_isRequest : MethodName := ⟨RX5, "isRequest", "(II)Z"⟩
abbrev cX5_within : ByteArray := prog_7_method_6_code
def yX5_within : MethodName := ⟨RX5, "within", "(III)Z"⟩
abbrev cX5_hasPriority : ByteArray := prog_7_method_7_code
def yX5_hasPriority : MethodName := ⟨RX5, "hasPriority", "(II)Z"⟩
abbrev cX5_task : ByteArray := prog_7_method_8_code
def yX5_task : MethodName := ⟨RX5, "task", "(IIIIII)V"⟩
abbrev cX5_outerBefore : ByteArray := prog_7_method_9_code
def yX5_outerBefore : MethodName := ⟨RX5, "outerBefore", "(I)I"⟩
abbrev cX5_mayBe : ByteArray := prog_7_method_10_code
def yX5_mayBe : MethodName := ⟨RX5, "mayBe", "(IIIII)Z"⟩
abbrev cX5_request : ByteArray := prog_7_method_11_code
def yX5_request : MethodName := ⟨RX5, "request", "(IIIII)I"⟩
abbrev cX5_take : ByteArray := prog_7_method_12_code
def yX5_take : MethodName := ⟨RX5, "take", "(I)V"⟩
abbrev cX5_findGroups : ByteArray := prog_7_method_13_code
def yX5_findGroups : MethodName := ⟨RX5, "findGroups", "()V"⟩
abbrev cX5_group : ByteArray := prog_7_method_14_code
def yX5_group : MethodName := ⟨RX5, "group", "(I)I"⟩
abbrev cX5_isOuter : ByteArray := prog_7_method_15_code
def yX5_isOuter : MethodName := ⟨RX5, "isOuter", "(II)Z"⟩
abbrev cX5_spinOf : ByteArray := prog_7_method_16_code
def yX5_spinOf : MethodName := ⟨RX5, "spinOf", "(II)I"⟩
abbrev cX5_spin : ByteArray := prog_7_method_17_code
def yX5_spin : MethodName := ⟨RX5, "spin", "(II)I"⟩
abbrev cX5_inflated : ByteArray := prog_7_method_18_code
def yX5_inflated : MethodName := ⟨RX5, "inflated", "(I)I"⟩
abbrev cX5_blocking : ByteArray := prog_7_method_19_code
def yX5_blocking : MethodName := ⟨RX5, "blocking", "(I)I"⟩
abbrev cX5_responseOf : ByteArray := prog_7_method_20_code
def yX5_responseOf : MethodName := ⟨RX5, "responseOf", "(I)I"⟩
abbrev cX5_bound : ByteArray := prog_7_method_21_code
def yX5_bound : MethodName := ⟨RX5, "bound", "(II)I"⟩
abbrev cX5_seal : ByteArray := prog_7_method_22_code
def yX5_seal : MethodName := ⟨RX5, "seal", "()I"⟩
abbrev cX5_forget : ByteArray := prog_7_method_23_code
def yX5_forget : MethodName := ⟨RX5, "forget", "()V"⟩
abbrev cX5_hasOpen : ByteArray := prog_7_method_24_code
def yX5_hasOpen : MethodName := ⟨RX5, "hasOpen", "()Z"⟩
abbrev cX5_unseal : ByteArray := prog_7_method_25_code
def yX5_unseal : MethodName := ⟨RX5, "unseal", "()V"⟩
abbrev cX5_arrive : ByteArray := prog_7_method_26_code
def yX5_arrive : MethodName := ⟨RX5, "arrive", "(I)Z"⟩
abbrev cX5_goToNext : ByteArray := prog_7_method_27_code
def yX5_goToNext : MethodName := ⟨RX5, "goToNext", "(I)V"⟩
abbrev cX5_shorten : ByteArray := prog_7_method_28_code
def yX5_shorten : MethodName := ⟨RX5, "shorten", "(III)V"⟩
abbrev cX5_groupOf : ByteArray := prog_7_method_29_code
def yX5_groupOf : MethodName := ⟨RX5, "groupOf", "(I)I"⟩
abbrev cX5_choose : ByteArray := prog_7_method_30_code
def yX5_choose : MethodName := ⟨RX5, "choose", "(I)V"⟩
abbrev cX5_goOn : ByteArray := prog_7_method_31_code
def yX5_goOn : MethodName := ⟨RX5, "goOn", "(I)I"⟩
abbrev cX5_leave : ByteArray := prog_7_method_32_code
def yX5_leave : MethodName := ⟨RX5, "leave", "(II)V"⟩
abbrev cX5_end : ByteArray := prog_7_method_33_code
def yX5_end : MethodName := ⟨RX5, "end", "(I)V"⟩
abbrev cX5_tick : ByteArray := prog_7_method_34_code
def yX5_tick : MethodName := ⟨RX5, "tick", "(I)I"⟩
abbrev cX5_core : ByteArray := prog_7_method_35_code
def yX5_core : MethodName := ⟨RX5, "core", "(II)I"⟩
abbrev cX5_row : ByteArray := prog_7_method_36_code
def yX5_row : MethodName := ⟨RX5, "row", "(II)I"⟩
abbrev cX5_jobs : ByteArray := prog_7_method_37_code
def yX5_jobs : MethodName := ⟨RX5, "jobs", "(II)I"⟩
abbrev cX5_spun : ByteArray := prog_7_method_38_code
def yX5_spun : MethodName := ⟨RX5, "spun", "(II)I"⟩
abbrev cX5_late : ByteArray := prog_7_method_39_code
def yX5_late : MethodName := ⟨RX5, "late", "()I"⟩
def RJ9 : String := "java/lang/Math"
def TJ9 : u_T := fun k => match k with
  | _ => ("", "", "", false)
def tyJ9 : Nat → FieldType := fun k => match k with
  | _ => .int
abbrev wsJ90 : List Cond := u_ws RJ9 TJ9 0
theorem nmJ9 : ∀ a, a < 0 → ∀ b, b < 0 → a ≠ b → (TJ9 a).2.1 ≠ (TJ9 b).2.1 := by decide +kernel
theorem tyJ9_ok : ∀ k, k < 0 → parseFieldDescriptor (TJ9 k).2.2.1 = some (tyJ9 k) := by decide +kernel
abbrev cJ9_max_7cf53 : ByteArray := prog_12_method_65_code
def yJ9_max_7cf53 : MethodName := ⟨RJ9, "max", "(II)I"⟩
abbrev cJ9_min_7cf53 : ByteArray := prog_12_method_69_code
def yJ9_min_7cf53 : MethodName := ⟨RJ9, "min", "(II)I"⟩
def RJ7 : String := "java/util/Arrays"
def TJ7 : u_T := fun k => match k with
  | _ => ("", "", "", false)
def tyJ7 : Nat → FieldType := fun k => match k with
  | _ => .int
abbrev wsJ70 : List Cond := u_ws RJ7 TJ7 0
theorem nmJ7 : ∀ a, a < 0 → ∀ b, b < 0 → a ≠ b → (TJ7 a).2.1 ≠ (TJ7 b).2.1 := by decide +kernel
theorem tyJ7_ok : ∀ k, k < 0 → parseFieldDescriptor (TJ7 k).2.2.1 = some (tyJ7 k) := by decide +kernel
abbrev cJ7_fill_53178 : ByteArray := prog_15_method_103_code
def yJ7_fill_53178 : MethodName := ⟨RJ7, "fill", "([II)V"⟩
def RL : String := "SpinKernelLaw"
abbrev cL_task : ByteArray := method_3_code
def yL_task : MethodName := ⟨RL, "task", "(LSpinKernel;IIIIII)I"⟩
abbrev cL_request : ByteArray := method_4_code
def yL_request : MethodName := ⟨RL, "request", "(LSpinKernel;IIIII[J)I"⟩
abbrev cL_take : ByteArray := method_5_code
def yL_take : MethodName := ⟨RL, "take", "(LSpinKernel;I)I"⟩
abbrev cL_group : ByteArray := method_6_code
def yL_group : MethodName := ⟨RL, "group", "(LSpinKernel;I[J)I"⟩
abbrev cL_spin : ByteArray := method_7_code
def yL_spin : MethodName := ⟨RL, "spin", "(LSpinKernel;II[J)I"⟩
abbrev cL_bound : ByteArray := method_8_code
def yL_bound : MethodName := ⟨RL, "bound", "(LSpinKernel;II[J)I"⟩
abbrev cL_seal : ByteArray := method_9_code
def yL_seal : MethodName := ⟨RL, "seal", "(LSpinKernel;[J)I"⟩
abbrev cL_unseal : ByteArray := method_10_code
def yL_unseal : MethodName := ⟨RL, "unseal", "(LSpinKernel;)I"⟩
abbrev cL_arrive : ByteArray := method_11_code
def yL_arrive : MethodName := ⟨RL, "arrive", "(LSpinKernel;I[J)I"⟩
abbrev cL_shorten : ByteArray := method_12_code
def yL_shorten : MethodName := ⟨RL, "shorten", "(LSpinKernel;III)I"⟩
abbrev cL_tick : ByteArray := method_13_code
def yL_tick : MethodName := ⟨RL, "tick", "(LSpinKernel;I[J)I"⟩
abbrev cL_core : ByteArray := method_14_code
def yL_core : MethodName := ⟨RL, "core", "(LSpinKernel;II[J)I"⟩
abbrev cL_row : ByteArray := method_15_code
def yL_row : MethodName := ⟨RL, "row", "(LSpinKernel;II[J)I"⟩
abbrev cL_jobs : ByteArray := method_16_code
def yL_jobs : MethodName := ⟨RL, "jobs", "(LSpinKernel;II[J)I"⟩
abbrev cL_spun : ByteArray := method_17_code
def yL_spun : MethodName := ⟨RL, "spun", "(LSpinKernel;II[J)I"⟩
abbrev cL_law : ByteArray := code
def yL_law : MethodName := ⟨RL, "law", "([I)Z"⟩
def wsX0_init : List Cond := .code yX0_init cX0_init 1 none :: ([.methodLink RX0 3 objectInit, .instanceMethod objectInit, .code objectInit ⟨#[0xb1]⟩ 1 none, .fieldLink RX0 9 "SpinKernel$Job" "state" "I"] ++ wsX00)
def wsX0_start : List Cond := .code yX0_start cX0_start 3 none :: ([.fieldLink RX0 15 "SpinKernel$Job" "hasCome" "Z", .fieldLink RX0 19 "SpinKernel$Job" "isOpen" "Z", .fieldLink RX0 22 "SpinKernel$Job" "cameAt" "I", .fieldLink RX0 9 "SpinKernel$Job" "state" "I", .fieldLink RX0 25 "SpinKernel$Job" "workDone" "I", .fieldLink RX0 28 "SpinKernel$Job" "next" "I"] ++ wsX00)
def wsX0_end : List Cond := .code yX0_end cX0_end 3 none :: ([.fieldLink RX0 19 "SpinKernel$Job" "isOpen" "Z", .fieldLink RX0 31 "SpinKernel$Job" "ended" "I", .fieldLink RX0 22 "SpinKernel$Job" "cameAt" "I", .fieldLink RX0 34 "SpinKernel$Job" "latestResponse" "I", .fieldLink RX0 37 "SpinKernel$Job" "greatestResponse" "I", .methodLink RX0 40 Lib.Math.max.name, .static Lib.Math.max.name, .initialized "java/lang/Math", .code Lib.Math.max.name Lib.Math.max.code 2 (some .int), .fieldLink RX0 46 "SpinKernel$Job" "endedLate" "I"] ++ wsX00)
def wsX0_forget : List Cond := .code yX0_forget cX0_forget 1 none :: ([.fieldLink RX0 15 "SpinKernel$Job" "hasCome" "Z", .fieldLink RX0 31 "SpinKernel$Job" "ended" "I", .fieldLink RX0 46 "SpinKernel$Job" "endedLate" "I", .fieldLink RX0 37 "SpinKernel$Job" "greatestResponse" "I", .fieldLink RX0 34 "SpinKernel$Job" "latestResponse" "I"] ++ wsX00)
def wsX1_init : List Cond := .code yX1_init cX1_init 1 none :: ([.methodLink RX1 3 objectInit, .instanceMethod objectInit, .code objectInit ⟨#[0xb1]⟩ 1 none])
def wsX1_layDown : List Cond := .code yX1_layDown cX1_layDown 5 none :: ([.fieldLink RX1 9 "SpinKernel$Request" "after" "I", .fieldLink RX1 15 "SpinKernel$Request" "lock" "I", .fieldLink RX1 18 "SpinKernel$Request" "length" "I", .fieldLink RX1 21 "SpinKernel$Request" "in" "I", .fieldLink RX1 24 "SpinKernel$Request" "spinBound" "I"] ++ wsX10)
def wsX1_isOuter : List Cond := .code yX1_isOuter cX1_isOuter 1 (some .boolean) :: ([.fieldLink RX1 21 "SpinKernel$Request" "in" "I"] ++ wsX10)
def wsX1_startJob : List Cond := .code yX1_startJob cX1_startJob 1 none :: ([.fieldLink RX1 27 "SpinKernel$Request" "ticksOfNextJob" "I", .fieldLink RX1 18 "SpinKernel$Request" "length" "I", .fieldLink RX1 30 "SpinKernel$Request" "ticksOfJob" "I"] ++ wsX10)
def wsX1_forgetJobs : List Cond := .code yX1_forgetJobs cX1_forgetJobs 1 none :: ([.fieldLink RX1 27 "SpinKernel$Request" "ticksOfNextJob" "I", .fieldLink RX1 33 "SpinKernel$Request" "mostSpun" "I"] ++ wsX10)
def wsX2_init : List Cond := .code yX2_init cX2_init 1 none :: ([.methodLink RX2 3 objectInit, .instanceMethod objectInit, .code objectInit ⟨#[0xb1]⟩ 1 none, .arrayClass .int, .fieldLink RX2 9 "SpinKernel$Row" "cores" "[I"] ++ wsX20)
def wsX2_join : List Cond := .code yX2_join cX2_join 2 none :: ([.fieldLink RX2 15 "SpinKernel$Row" "size" "I", .fieldLink RX2 9 "SpinKernel$Row" "cores" "[I"] ++ wsX20)
def wsX2_dropFirst : List Cond := .code yX2_dropFirst cX2_dropFirst 2 none :: ([.fieldLink RX2 15 "SpinKernel$Row" "size" "I", .fieldLink RX2 9 "SpinKernel$Row" "cores" "[I", .methodLink RX2 19 Lib.Math.max.name, .static Lib.Math.max.name, .initialized "java/lang/Math", .code Lib.Math.max.name Lib.Math.max.code 2 (some .int)] ++ wsX20)
def wsX2_coreAt : List Cond := .code yX2_coreAt cX2_coreAt 2 (some .int) :: ([.fieldLink RX2 15 "SpinKernel$Row" "size" "I", .fieldLink RX2 9 "SpinKernel$Row" "cores" "[I"] ++ wsX20)
def wsX3_init : List Cond := .code yX3_init cX3_init 2 none :: ([.methodLink RX3 3 objectInit, .instanceMethod objectInit, .code objectInit ⟨#[0xb1]⟩ 1 none, .classLink RX3 9 RX1, .fieldLink RX3 11 "SpinKernel$Task" "requests" "[LSpinKernel$Request;", .classLink RX3 17 RX0, .instantiable RX0 12, .initialized RX0, .fieldLink RX3 20 "SpinKernel$Task" "job" "LSpinKernel$Job;", .instantiable RX1 8, .initialized RX1, .instanceMethod yX0_init, .code yX0_init cX0_init 1 none, .methodLink RX0 3 objectInit, .fieldLink RX0 9 "SpinKernel$Job" "state" "I", .instanceMethod yX1_init, .code yX1_init cX1_init 1 none, .methodLink RX1 3 objectInit] ++ wsX30 ++ wsX00 ++ wsX10)
def wsX3_layDown : List Cond := .code yX3_layDown cX3_layDown 6 none :: ([.fieldLink RX3 25 "SpinKernel$Task" "isThere" "Z", .fieldLink RX3 29 "SpinKernel$Task" "core" "I", .fieldLink RX3 33 "SpinKernel$Task" "priority" "I", .fieldLink RX3 36 "SpinKernel$Task" "distance" "I", .fieldLink RX3 39 "SpinKernel$Task" "deadline" "I", .fieldLink RX3 42 "SpinKernel$Task" "work" "I", .fieldLink RX3 45 "SpinKernel$Task" "count" "I"] ++ wsX30)
def wsX3_isOn : List Cond := .code yX3_isOn cX3_isOn 2 (some .boolean) :: ([.fieldLink RX3 25 "SpinKernel$Task" "isThere" "Z", .fieldLink RX3 29 "SpinKernel$Task" "core" "I"] ++ wsX30)
def wsX3_isOuter : List Cond := .code yX3_isOuter cX3_isOuter 2 (some .boolean) :: ([.fieldLink RX3 45 "SpinKernel$Task" "count" "I", .fieldLink RX3 11 "SpinKernel$Task" "requests" "[LSpinKernel$Request;", .methodLink RX3 48 yX1_isOuter, .instanceMethod yX1_isOuter, .selects RX1 yX1_isOuter yX1_isOuter, .initialized RX1, .code yX1_isOuter cX1_isOuter 1 (some .boolean), .fieldLink RX1 21 "SpinKernel$Request" "in" "I"] ++ wsX30 ++ wsX10)
def wsX3_greatestAfter : List Cond := .code yX3_greatestAfter cX3_greatestAfter 3 (some .int) :: ([.fieldLink RX3 45 "SpinKernel$Task" "count" "I", .fieldLink RX3 11 "SpinKernel$Task" "requests" "[LSpinKernel$Request;", .fieldLink RX3 62 "SpinKernel$Request" "after" "I", .methodLink RX3 48 yX1_isOuter, .instanceMethod yX1_isOuter, .selects RX1 yX1_isOuter yX1_isOuter, .initialized RX1, .code yX1_isOuter cX1_isOuter 1 (some .boolean), .fieldLink RX1 21 "SpinKernel$Request" "in" "I"] ++ wsX30 ++ wsX10)
def wsX3_hasPlaceFor : List Cond := .code yX3_hasPlaceFor cX3_hasPlaceFor 4 (some .boolean) :: ([.fieldLink RX3 42 "SpinKernel$Task" "work" "I", .fieldLink RX3 11 "SpinKernel$Task" "requests" "[LSpinKernel$Request;", .fieldLink RX3 59 "SpinKernel$Request" "length" "I", .methodLink RX3 52 yX3_greatestAfter, .instanceMethod yX3_greatestAfter, .selects RX3 yX3_greatestAfter yX3_greatestAfter, .initialized RX3, .code yX3_greatestAfter cX3_greatestAfter 3 (some .int), .fieldLink RX3 45 "SpinKernel$Task" "count" "I", .fieldLink RX3 62 "SpinKernel$Request" "after" "I", .methodLink RX3 48 yX1_isOuter, .instanceMethod yX1_isOuter, .selects RX1 yX1_isOuter yX1_isOuter, .initialized RX1, .code yX1_isOuter cX1_isOuter 1 (some .boolean), .fieldLink RX1 21 "SpinKernel$Request" "in" "I", .methodLink RX3 56 yX3_isOuter, .instanceMethod yX3_isOuter, .selects RX3 yX3_isOuter yX3_isOuter, .code yX3_isOuter cX3_isOuter 2 (some .boolean)] ++ wsX30 ++ wsX10)
def wsX3_addRequest : List Cond := .code yX3_addRequest cX3_addRequest 6 (some .int) :: ([.fieldLink RX3 45 "SpinKernel$Task" "count" "I", .fieldLink RX3 11 "SpinKernel$Task" "requests" "[LSpinKernel$Request;", .methodLink RX3 65 yX1_layDown, .instanceMethod yX1_layDown, .selects RX1 yX1_layDown yX1_layDown, .initialized RX1, .code yX1_layDown cX1_layDown 5 none, .fieldLink RX1 9 "SpinKernel$Request" "after" "I", .fieldLink RX1 15 "SpinKernel$Request" "lock" "I", .fieldLink RX1 18 "SpinKernel$Request" "length" "I", .fieldLink RX1 21 "SpinKernel$Request" "in" "I", .fieldLink RX1 24 "SpinKernel$Request" "spinBound" "I"] ++ wsX30 ++ wsX10)
def wsX3_longestStay : List Cond := .code yX3_longestStay cX3_longestStay 3 (some .int) :: ([.fieldLink RX3 45 "SpinKernel$Task" "count" "I", .fieldLink RX3 11 "SpinKernel$Task" "requests" "[LSpinKernel$Request;", .fieldLink RX3 59 "SpinKernel$Request" "length" "I", .fieldLink RX3 69 "SpinKernel$Request" "spinBound" "I", .methodLink RX3 72 Lib.Math.max.name, .static Lib.Math.max.name, .initialized "java/lang/Math", .code Lib.Math.max.name Lib.Math.max.code 2 (some .int), .methodLink RX3 48 yX1_isOuter, .instanceMethod yX1_isOuter, .selects RX1 yX1_isOuter yX1_isOuter, .initialized RX1, .code yX1_isOuter cX1_isOuter 1 (some .boolean), .fieldLink RX1 21 "SpinKernel$Request" "in" "I"] ++ wsX30 ++ wsX10)
def wsX3_beginningsIn : List Cond := .code yX3_beginningsIn cX3_beginningsIn 2 (some .int) :: ([.fieldLink RX3 36 "SpinKernel$Task" "distance" "I"] ++ wsX30)
def wsX3_outerFrom : List Cond := .code yX3_outerFrom cX3_outerFrom 3 (some .int) :: ([.fieldLink RX3 45 "SpinKernel$Task" "count" "I", .fieldLink RX3 11 "SpinKernel$Task" "requests" "[LSpinKernel$Request;", .methodLink RX3 48 yX1_isOuter, .instanceMethod yX1_isOuter, .selects RX1 yX1_isOuter yX1_isOuter, .initialized RX1, .code yX1_isOuter cX1_isOuter 1 (some .boolean), .fieldLink RX1 21 "SpinKernel$Request" "in" "I"] ++ wsX30 ++ wsX10)
def wsX3_startJob_r1 : List Cond := [Cond.fieldLink RX3 45 "SpinKernel$Task" "count" "I", Cond.fieldLink RX3 11 "SpinKernel$Task" "requests" "[LSpinKernel$Request;", Cond.fieldLink RX3 20 "SpinKernel$Task" "job" "LSpinKernel$Job;", Cond.methodLink RX3 78 yX1_startJob, Cond.instanceMethod yX1_startJob, Cond.selects RX1 yX1_startJob yX1_startJob, Cond.initialized RX1, Cond.code yX1_startJob cX1_startJob 1 none, Cond.fieldLink RX1 27 "SpinKernel$Request" "ticksOfNextJob" "I", Cond.fieldLink RX1 18 "SpinKernel$Request" "length" "I", Cond.fieldLink RX1 30 "SpinKernel$Request" "ticksOfJob" "I", Cond.methodLink RX3 81 yX3_outerFrom, Cond.instanceMethod yX3_outerFrom, Cond.selects RX3 yX3_outerFrom yX3_outerFrom, Cond.initialized RX3, Cond.code yX3_outerFrom cX3_outerFrom 3 (some .int), Cond.methodLink RX3 48 yX1_isOuter, Cond.instanceMethod yX1_isOuter, Cond.selects RX1 yX1_isOuter yX1_isOuter, Cond.code yX1_isOuter cX1_isOuter 1 (some .boolean), Cond.fieldLink RX1 21 "SpinKernel$Request" "in" "I", Cond.methodLink RX3 85 yX0_start, Cond.instanceMethod yX0_start, Cond.selects RX0 yX0_start yX0_start]
def wsX3_startJob_r2 : List Cond := [Cond.initialized RX0, Cond.code yX0_start cX0_start 3 none, Cond.fieldLink RX0 15 "SpinKernel$Job" "hasCome" "Z", Cond.fieldLink RX0 19 "SpinKernel$Job" "isOpen" "Z", Cond.fieldLink RX0 22 "SpinKernel$Job" "cameAt" "I", Cond.fieldLink RX0 9 "SpinKernel$Job" "state" "I", Cond.fieldLink RX0 25 "SpinKernel$Job" "workDone" "I", Cond.fieldLink RX0 28 "SpinKernel$Job" "next" "I"]
def wsX3_startJob : List Cond := .code yX3_startJob cX3_startJob 3 none :: ((wsX3_startJob_r1 ++ wsX3_startJob_r2) ++ wsX30 ++ wsX10 ++ wsX00)
def wsX3_endJob : List Cond := .code yX3_endJob cX3_endJob 2 none :: ([.fieldLink RX3 20 "SpinKernel$Task" "job" "LSpinKernel$Job;", .fieldLink RX3 39 "SpinKernel$Task" "deadline" "I", .methodLink RX3 89 yX0_end, .instanceMethod yX0_end, .selects RX0 yX0_end yX0_end, .initialized RX0, .code yX0_end cX0_end 3 none, .fieldLink RX0 19 "SpinKernel$Job" "isOpen" "Z", .fieldLink RX0 31 "SpinKernel$Job" "ended" "I", .fieldLink RX0 22 "SpinKernel$Job" "cameAt" "I", .fieldLink RX0 34 "SpinKernel$Job" "latestResponse" "I", .fieldLink RX0 37 "SpinKernel$Job" "greatestResponse" "I", .methodLink RX0 40 Lib.Math.max.name, .static Lib.Math.max.name, .initialized "java/lang/Math", .code Lib.Math.max.name Lib.Math.max.code 2 (some .int), .fieldLink RX0 46 "SpinKernel$Job" "endedLate" "I"] ++ wsX30 ++ wsX00)
def wsX3_forgetJobs : List Cond := .code yX3_forgetJobs cX3_forgetJobs 2 none :: ([.fieldLink RX3 45 "SpinKernel$Task" "count" "I", .fieldLink RX3 11 "SpinKernel$Task" "requests" "[LSpinKernel$Request;", .fieldLink RX3 20 "SpinKernel$Task" "job" "LSpinKernel$Job;", .methodLink RX3 92 yX1_forgetJobs, .instanceMethod yX1_forgetJobs, .selects RX1 yX1_forgetJobs yX1_forgetJobs, .initialized RX1, .code yX1_forgetJobs cX1_forgetJobs 1 none, .fieldLink RX1 27 "SpinKernel$Request" "ticksOfNextJob" "I", .fieldLink RX1 33 "SpinKernel$Request" "mostSpun" "I", .methodLink RX3 95 yX0_forget, .instanceMethod yX0_forget, .selects RX0 yX0_forget yX0_forget, .initialized RX0, .code yX0_forget cX0_forget 1 none, .fieldLink RX0 15 "SpinKernel$Job" "hasCome" "Z", .fieldLink RX0 31 "SpinKernel$Job" "ended" "I", .fieldLink RX0 46 "SpinKernel$Job" "endedLate" "I", .fieldLink RX0 37 "SpinKernel$Job" "greatestResponse" "I", .fieldLink RX0 34 "SpinKernel$Job" "latestResponse" "I"] ++ wsX30 ++ wsX10 ++ wsX00)
def wsX3_nextRequest : List Cond := .code yX3_nextRequest cX3_nextRequest 1 (some (.object "SpinKernel$Request")) :: ([.fieldLink RX3 11 "SpinKernel$Task" "requests" "[LSpinKernel$Request;", .fieldLink RX3 20 "SpinKernel$Task" "job" "LSpinKernel$Job;", .fieldLink RX3 98 "SpinKernel$Job" "next" "I", .methodLink RX3 101 Lib.Math.min.name, .static Lib.Math.min.name, .initialized "java/lang/Math", .code Lib.Math.min.name Lib.Math.min.code 2 (some .int)] ++ wsX30 ++ wsX00)
def wsX3_hasToAsk : List Cond := .code yX3_hasToAsk cX3_hasToAsk 1 (some .boolean) :: ([.fieldLink RX3 20 "SpinKernel$Task" "job" "LSpinKernel$Job;", .fieldLink RX3 98 "SpinKernel$Job" "next" "I", .fieldLink RX3 45 "SpinKernel$Task" "count" "I", .fieldLink RX3 62 "SpinKernel$Request" "after" "I", .fieldLink RX3 108 "SpinKernel$Job" "workDone" "I", .methodLink RX3 104 yX3_nextRequest, .instanceMethod yX3_nextRequest, .selects RX3 yX3_nextRequest yX3_nextRequest, .initialized RX3, .code yX3_nextRequest cX3_nextRequest 1 (some (.object "SpinKernel$Request")), .fieldLink RX3 11 "SpinKernel$Task" "requests" "[LSpinKernel$Request;", .methodLink RX3 101 Lib.Math.min.name, .static Lib.Math.min.name, .initialized "java/lang/Math", .code Lib.Math.min.name Lib.Math.min.code 2 (some .int)] ++ wsX30 ++ wsX00 ++ wsX10)
def wsX3_startSpinning : List Cond := .code yX3_startSpinning cX3_startSpinning 1 none :: ([.fieldLink RX3 20 "SpinKernel$Task" "job" "LSpinKernel$Job;", .fieldLink RX3 111 "SpinKernel$Job" "state" "I", .fieldLink RX3 114 "SpinKernel$Job" "spinning" "I"] ++ wsX30 ++ wsX00)
def wsX3_spinFor : List Cond := .code yX3_spinFor cX3_spinFor 3 none :: ([.fieldLink RX3 20 "SpinKernel$Task" "job" "LSpinKernel$Job;", .fieldLink RX3 114 "SpinKernel$Job" "spinning" "I", .fieldLink RX3 117 "SpinKernel$Request" "mostSpun" "I", .methodLink RX3 72 Lib.Math.max.name, .static Lib.Math.max.name, .initialized "java/lang/Math", .code Lib.Math.max.name Lib.Math.max.code 2 (some .int), .methodLink RX3 104 yX3_nextRequest, .instanceMethod yX3_nextRequest, .selects RX3 yX3_nextRequest yX3_nextRequest, .initialized RX3, .code yX3_nextRequest cX3_nextRequest 1 (some (.object "SpinKernel$Request")), .fieldLink RX3 11 "SpinKernel$Task" "requests" "[LSpinKernel$Request;", .fieldLink RX3 98 "SpinKernel$Job" "next" "I", .methodLink RX3 101 Lib.Math.min.name, .static Lib.Math.min.name, .code Lib.Math.min.name Lib.Math.min.code 2 (some .int)] ++ wsX30 ++ wsX00 ++ wsX10)
def wsX3_startHolding : List Cond := .code yX3_startHolding cX3_startHolding 1 none :: ([.fieldLink RX3 20 "SpinKernel$Task" "job" "LSpinKernel$Job;", .fieldLink RX3 111 "SpinKernel$Job" "state" "I", .fieldLink RX3 120 "SpinKernel$Request" "ticksOfJob" "I", .fieldLink RX3 123 "SpinKernel$Job" "sectionLeft" "I", .methodLink RX3 104 yX3_nextRequest, .instanceMethod yX3_nextRequest, .selects RX3 yX3_nextRequest yX3_nextRequest, .initialized RX3, .code yX3_nextRequest cX3_nextRequest 1 (some (.object "SpinKernel$Request")), .fieldLink RX3 11 "SpinKernel$Task" "requests" "[LSpinKernel$Request;", .fieldLink RX3 98 "SpinKernel$Job" "next" "I", .methodLink RX3 101 Lib.Math.min.name, .static Lib.Math.min.name, .initialized "java/lang/Math", .code Lib.Math.min.name Lib.Math.min.code 2 (some .int)] ++ wsX30 ++ wsX00 ++ wsX10)
def wsX3_leaveSection : List Cond := .code yX3_leaveSection cX3_leaveSection 1 none :: ([.fieldLink RX3 20 "SpinKernel$Task" "job" "LSpinKernel$Job;", .fieldLink RX3 111 "SpinKernel$Job" "state" "I", .fieldLink RX3 98 "SpinKernel$Job" "next" "I", .methodLink RX3 81 yX3_outerFrom, .instanceMethod yX3_outerFrom, .selects RX3 yX3_outerFrom yX3_outerFrom, .initialized RX3, .code yX3_outerFrom cX3_outerFrom 3 (some .int), .fieldLink RX3 45 "SpinKernel$Task" "count" "I", .fieldLink RX3 11 "SpinKernel$Task" "requests" "[LSpinKernel$Request;", .methodLink RX3 48 yX1_isOuter, .instanceMethod yX1_isOuter, .selects RX1 yX1_isOuter yX1_isOuter, .initialized RX1, .code yX1_isOuter cX1_isOuter 1 (some .boolean), .fieldLink RX1 21 "SpinKernel$Request" "in" "I"] ++ wsX30 ++ wsX00 ++ wsX10)
def wsX3_ticksToChange : List Cond := .code yX3_ticksToChange cX3_ticksToChange 2 (some .int) :: ([.fieldLink RX3 20 "SpinKernel$Task" "job" "LSpinKernel$Job;", .fieldLink RX3 111 "SpinKernel$Job" "state" "I", .fieldLink RX3 123 "SpinKernel$Job" "sectionLeft" "I", .fieldLink RX3 98 "SpinKernel$Job" "next" "I", .fieldLink RX3 45 "SpinKernel$Task" "count" "I", .fieldLink RX3 62 "SpinKernel$Request" "after" "I", .fieldLink RX3 42 "SpinKernel$Task" "work" "I", .fieldLink RX3 108 "SpinKernel$Job" "workDone" "I", .methodLink RX3 104 yX3_nextRequest, .instanceMethod yX3_nextRequest, .selects RX3 yX3_nextRequest yX3_nextRequest, .initialized RX3, .code yX3_nextRequest cX3_nextRequest 1 (some (.object "SpinKernel$Request")), .fieldLink RX3 11 "SpinKernel$Task" "requests" "[LSpinKernel$Request;", .methodLink RX3 101 Lib.Math.min.name, .static Lib.Math.min.name, .initialized "java/lang/Math", .code Lib.Math.min.name Lib.Math.min.code 2 (some .int)] ++ wsX30 ++ wsX00 ++ wsX10)
def wsX3_isAllDone : List Cond := .code yX3_isAllDone cX3_isAllDone 1 (some .boolean) :: ([.fieldLink RX3 20 "SpinKernel$Task" "job" "LSpinKernel$Job;", .fieldLink RX3 111 "SpinKernel$Job" "state" "I", .fieldLink RX3 108 "SpinKernel$Job" "workDone" "I", .fieldLink RX3 42 "SpinKernel$Task" "work" "I", .fieldLink RX3 98 "SpinKernel$Job" "next" "I", .fieldLink RX3 45 "SpinKernel$Task" "count" "I"] ++ wsX30 ++ wsX00)
def wsJ7_fill_53178 : List Cond := .code yJ7_fill_53178 cJ7_fill_53178 4 none :: ([])
def wsX4_init_r1 : List Cond := [Cond.methodLink RX4 1 objectInit, Cond.instanceMethod objectInit, Cond.code objectInit ⟨#[0xb1]⟩ 1 none, Cond.classLink RX4 9 RX3, Cond.fieldLink RX4 11 "SpinKernel" "tasks" "[LSpinKernel$Task;", Cond.classLink RX4 15 RX2, Cond.fieldLink RX4 17 "SpinKernel" "rows" "[LSpinKernel$Row;", Cond.arrayClass .int, Cond.fieldLink RX4 21 "SpinKernel" "leastOfGroup" "[I", Cond.classLink RX4 25 "[[I", Cond.fieldLink RX4 27 "SpinKernel" "longest" "[[I", Cond.fieldLink RX4 30 "SpinKernel" "taskOfCore" "[I", Cond.fieldLink RX4 33 "SpinKernel" "deedOfCore" "[I", Cond.instantiable RX3 10, Cond.initialized RX3, Cond.instantiable RX2 2, Cond.initialized RX2, Cond.methodLink RX4 36 yX3_init, Cond.instanceMethod yX3_init, Cond.code yX3_init cX3_init 2 none, Cond.methodLink RX3 3 objectInit, Cond.classLink RX3 9 RX1, Cond.fieldLink RX3 11 "SpinKernel$Task" "requests" "[LSpinKernel$Request;", Cond.classLink RX3 17 RX0]
def wsX4_init_r2 : List Cond := [Cond.instantiable RX0 12, Cond.initialized RX0, Cond.fieldLink RX3 20 "SpinKernel$Task" "job" "LSpinKernel$Job;", Cond.instantiable RX1 8, Cond.initialized RX1, Cond.instanceMethod yX0_init, Cond.code yX0_init cX0_init 1 none, Cond.methodLink RX0 3 objectInit, Cond.fieldLink RX0 9 "SpinKernel$Job" "state" "I", Cond.instanceMethod yX1_init, Cond.code yX1_init cX1_init 1 none, Cond.methodLink RX1 3 objectInit, Cond.instanceMethod yX2_init, Cond.code yX2_init cX2_init 1 none, Cond.methodLink RX2 3 objectInit, Cond.fieldLink RX2 9 "SpinKernel$Row" "cores" "[I", Cond.methodLink RX4 38 yJ7_fill_53178, Cond.static yJ7_fill_53178, Cond.initialized RJ7, Cond.code yJ7_fill_53178 cJ7_fill_53178 4 none]
def wsX4_init : List Cond := .code yX4_init cX4_init 2 none :: ((wsX4_init_r1 ++ wsX4_init_r2) ++ wsX40 ++ wsX30 ++ wsX20 ++ wsX00 ++ wsX10)
def wsX4_isWithin : List Cond := .code yX4_isWithin cX4_isWithin 3 (some .boolean) :: ([])
def wsX4_isPriorityTaken : List Cond := .code yX4_isPriorityTaken cX4_isPriorityTaken 7 (some .boolean) :: ([.fieldLink RX4 11 "SpinKernel" "tasks" "[LSpinKernel$Task;", .fieldLink RX4 207 "SpinKernel$Task" "priority" "I", .methodLink RX4 203 yX3_isOn, .instanceMethod yX3_isOn, .selects RX3 yX3_isOn yX3_isOn, .initialized RX3, .code yX3_isOn cX3_isOn 2 (some .boolean), .fieldLink RX3 25 "SpinKernel$Task" "isThere" "Z", .fieldLink RX3 29 "SpinKernel$Task" "core" "I"] ++ wsX40 ++ wsX30)
def wsX4_joinGroups : List Cond := .code yX4_joinGroups cX4_joinGroups 6 none :: ([.fieldLink RX4 21 "SpinKernel" "leastOfGroup" "[I", .methodLink RX4 158 Lib.Math.min.name, .static Lib.Math.min.name, .initialized "java/lang/Math", .code Lib.Math.min.name Lib.Math.min.code 2 (some .int), .methodLink RX4 164 Lib.Math.max.name, .static Lib.Math.max.name, .code Lib.Math.max.name Lib.Math.max.code 2 (some .int)] ++ wsX40)
def wsX4_formGroups_r1 : List Cond := [Cond.fieldLink RX4 21 "SpinKernel" "leastOfGroup" "[I", Cond.fieldLink RX4 11 "SpinKernel" "tasks" "[LSpinKernel$Task;", Cond.fieldLink RX4 55 "SpinKernel$Task" "isThere" "Z", Cond.fieldLink RX4 79 "SpinKernel$Task" "count" "I", Cond.fieldLink RX4 199 "SpinKernel$Task" "requests" "[LSpinKernel$Request;", Cond.fieldLink RX4 220 "SpinKernel$Request" "lock" "I", Cond.fieldLink RX4 223 "SpinKernel$Request" "in" "I", Cond.methodLink RX4 138 yX1_isOuter, Cond.instanceMethod yX1_isOuter, Cond.selects RX1 yX1_isOuter yX1_isOuter, Cond.initialized RX1, Cond.code yX1_isOuter cX1_isOuter 1 (some .boolean), Cond.fieldLink RX1 21 "SpinKernel$Request" "in" "I", Cond.methodLink RX4 226 yX4_joinGroups, Cond.instanceMethod yX4_joinGroups, Cond.selects RX4 yX4_joinGroups yX4_joinGroups, Cond.initialized RX4, Cond.code yX4_joinGroups cX4_joinGroups 6 none, Cond.methodLink RX4 158 Lib.Math.min.name, Cond.static Lib.Math.min.name, Cond.initialized "java/lang/Math", Cond.code Lib.Math.min.name Lib.Math.min.code 2 (some .int), Cond.methodLink RX4 164 Lib.Math.max.name, Cond.static Lib.Math.max.name]
def wsX4_formGroups_r2 : List Cond := [Cond.code Lib.Math.max.name Lib.Math.max.code 2 (some .int)]
def wsX4_formGroups : List Cond := .code yX4_formGroups cX4_formGroups 7 none :: ((wsX4_formGroups_r1 ++ wsX4_formGroups_r2) ++ wsX40 ++ wsX30 ++ wsX10)
def wsX4_findLongest : List Cond := .code yX4_findLongest cX4_findLongest 8 none :: ([.fieldLink RX4 27 "SpinKernel" "longest" "[[I", .fieldLink RX4 11 "SpinKernel" "tasks" "[LSpinKernel$Task;", .fieldLink RX4 55 "SpinKernel$Task" "isThere" "Z", .fieldLink RX4 79 "SpinKernel$Task" "count" "I", .fieldLink RX4 199 "SpinKernel$Task" "requests" "[LSpinKernel$Request;", .fieldLink RX4 21 "SpinKernel" "leastOfGroup" "[I", .fieldLink RX4 220 "SpinKernel$Request" "lock" "I", .fieldLink RX4 230 "SpinKernel$Task" "core" "I", .fieldLink RX4 141 "SpinKernel$Request" "length" "I", .methodLink RX4 164 Lib.Math.max.name, .static Lib.Math.max.name, .initialized "java/lang/Math", .code Lib.Math.max.name Lib.Math.max.code 2 (some .int), .methodLink RX4 38 yJ7_fill_53178, .static yJ7_fill_53178, .initialized RJ7, .code yJ7_fill_53178 cJ7_fill_53178 4 none, .methodLink RX4 138 yX1_isOuter, .instanceMethod yX1_isOuter, .selects RX1 yX1_isOuter yX1_isOuter, .initialized RX1, .code yX1_isOuter cX1_isOuter 1 (some .boolean), .fieldLink RX1 21 "SpinKernel$Request" "in" "I"] ++ wsX40 ++ wsX30 ++ wsX10)
def wsX4_longestElsewhere : List Cond := .code yX4_longestElsewhere cX4_longestElsewhere 5 (some .int) :: ([.fieldLink RX4 27 "SpinKernel" "longest" "[[I"] ++ wsX40)
def wsX4_inflate : List Cond := .code yX4_inflate cX4_inflate 4 none :: ([.fieldLink RX4 233 "SpinKernel$Task" "work" "I", .fieldLink RX4 99 "SpinKernel$Task" "inflated" "I", .fieldLink RX4 79 "SpinKernel$Task" "count" "I", .fieldLink RX4 199 "SpinKernel$Task" "requests" "[LSpinKernel$Request;", .fieldLink RX4 230 "SpinKernel$Task" "core" "I", .fieldLink RX4 21 "SpinKernel" "leastOfGroup" "[I", .fieldLink RX4 220 "SpinKernel$Request" "lock" "I", .fieldLink RX4 94 "SpinKernel$Request" "spinBound" "I", .fieldLink RX4 141 "SpinKernel$Request" "length" "I", .methodLink RX4 138 yX1_isOuter, .instanceMethod yX1_isOuter, .selects RX1 yX1_isOuter yX1_isOuter, .initialized RX1, .code yX1_isOuter cX1_isOuter 1 (some .boolean), .fieldLink RX1 21 "SpinKernel$Request" "in" "I", .methodLink RX4 236 yX4_longestElsewhere, .instanceMethod yX4_longestElsewhere, .selects RX4 yX4_longestElsewhere yX4_longestElsewhere, .initialized RX4, .code yX4_longestElsewhere cX4_longestElsewhere 5 (some .int), .fieldLink RX4 27 "SpinKernel" "longest" "[[I"] ++ wsX30 ++ wsX40 ++ wsX10)
def wsX4_measure_r1 : List Cond := [Cond.fieldLink RX4 11 "SpinKernel" "tasks" "[LSpinKernel$Task;", Cond.fieldLink RX4 55 "SpinKernel$Task" "isThere" "Z", Cond.methodLink RX4 210 yX4_formGroups, Cond.instanceMethod yX4_formGroups, Cond.selects RX4 yX4_formGroups yX4_formGroups, Cond.initialized RX4, Cond.code yX4_formGroups cX4_formGroups 7 none, Cond.fieldLink RX4 21 "SpinKernel" "leastOfGroup" "[I", Cond.fieldLink RX4 79 "SpinKernel$Task" "count" "I", Cond.fieldLink RX4 199 "SpinKernel$Task" "requests" "[LSpinKernel$Request;", Cond.fieldLink RX4 220 "SpinKernel$Request" "lock" "I", Cond.fieldLink RX4 223 "SpinKernel$Request" "in" "I", Cond.methodLink RX4 138 yX1_isOuter, Cond.instanceMethod yX1_isOuter, Cond.selects RX1 yX1_isOuter yX1_isOuter, Cond.initialized RX1, Cond.code yX1_isOuter cX1_isOuter 1 (some .boolean), Cond.fieldLink RX1 21 "SpinKernel$Request" "in" "I", Cond.methodLink RX4 226 yX4_joinGroups, Cond.instanceMethod yX4_joinGroups, Cond.selects RX4 yX4_joinGroups yX4_joinGroups, Cond.code yX4_joinGroups cX4_joinGroups 6 none, Cond.methodLink RX4 158 Lib.Math.min.name, Cond.static Lib.Math.min.name]
def wsX4_measure_r2 : List Cond := [Cond.initialized "java/lang/Math", Cond.code Lib.Math.min.name Lib.Math.min.code 2 (some .int), Cond.methodLink RX4 164 Lib.Math.max.name, Cond.static Lib.Math.max.name, Cond.code Lib.Math.max.name Lib.Math.max.code 2 (some .int), Cond.methodLink RX4 213 yX4_findLongest, Cond.instanceMethod yX4_findLongest, Cond.selects RX4 yX4_findLongest yX4_findLongest, Cond.code yX4_findLongest cX4_findLongest 8 none, Cond.fieldLink RX4 27 "SpinKernel" "longest" "[[I", Cond.fieldLink RX4 230 "SpinKernel$Task" "core" "I", Cond.fieldLink RX4 141 "SpinKernel$Request" "length" "I", Cond.methodLink RX4 38 yJ7_fill_53178, Cond.static yJ7_fill_53178, Cond.initialized RJ7, Cond.code yJ7_fill_53178 cJ7_fill_53178 4 none, Cond.methodLink RX4 216 yX4_inflate, Cond.instanceMethod yX4_inflate, Cond.selects RX4 yX4_inflate yX4_inflate, Cond.code yX4_inflate cX4_inflate 4 none, Cond.fieldLink RX4 233 "SpinKernel$Task" "work" "I", Cond.fieldLink RX4 99 "SpinKernel$Task" "inflated" "I", Cond.fieldLink RX4 94 "SpinKernel$Request" "spinBound" "I", Cond.methodLink RX4 236 yX4_longestElsewhere]
def wsX4_measure_r3 : List Cond := [Cond.instanceMethod yX4_longestElsewhere, Cond.selects RX4 yX4_longestElsewhere yX4_longestElsewhere, Cond.code yX4_longestElsewhere cX4_longestElsewhere 5 (some .int)]
def wsX4_measure : List Cond := .code yX4_measure cX4_measure 5 none :: ((wsX4_measure_r1 ++ (wsX4_measure_r2 ++ wsX4_measure_r3)) ++ wsX40 ++ wsX30 ++ wsX10)
def wsX4_task_r1 : List Cond := [Cond.classLink RX4 48 "java/lang/IndexOutOfBoundsException", Cond.initialized "java/lang/IndexOutOfBoundsException", Cond.classLink RX4 58 "java/lang/IllegalStateException", Cond.initialized "java/lang/IllegalStateException", Cond.classLink RX4 65 "java/lang/IllegalArgumentException", Cond.initialized "java/lang/IllegalArgumentException", Cond.fieldLink RX4 51 "SpinKernel" "sealed" "Z", Cond.fieldLink RX4 11 "SpinKernel" "tasks" "[LSpinKernel$Task;", Cond.fieldLink RX4 55 "SpinKernel$Task" "isThere" "Z", Cond.methodLink RX4 44 yX4_isWithin, Cond.static yX4_isWithin, Cond.initialized RX4, Cond.code yX4_isWithin cX4_isWithin 3 (some .boolean), Cond.methodLink RX4 61 yX4_isPriorityTaken, Cond.instanceMethod yX4_isPriorityTaken, Cond.selects RX4 yX4_isPriorityTaken yX4_isPriorityTaken, Cond.code yX4_isPriorityTaken cX4_isPriorityTaken 7 (some .boolean), Cond.fieldLink RX4 207 "SpinKernel$Task" "priority" "I", Cond.methodLink RX4 203 yX3_isOn, Cond.instanceMethod yX3_isOn, Cond.selects RX3 yX3_isOn yX3_isOn, Cond.initialized RX3, Cond.code yX3_isOn cX3_isOn 2 (some .boolean), Cond.fieldLink RX3 25 "SpinKernel$Task" "isThere" "Z"]
def wsX4_task_r2 : List Cond := [Cond.fieldLink RX3 29 "SpinKernel$Task" "core" "I", Cond.methodLink RX4 68 yX3_layDown, Cond.instanceMethod yX3_layDown, Cond.selects RX3 yX3_layDown yX3_layDown, Cond.code yX3_layDown cX3_layDown 6 none, Cond.fieldLink RX3 33 "SpinKernel$Task" "priority" "I", Cond.fieldLink RX3 36 "SpinKernel$Task" "distance" "I", Cond.fieldLink RX3 39 "SpinKernel$Task" "deadline" "I", Cond.fieldLink RX3 42 "SpinKernel$Task" "work" "I", Cond.fieldLink RX3 45 "SpinKernel$Task" "count" "I", Cond.methodLink RX4 72 yX4_measure, Cond.instanceMethod yX4_measure, Cond.selects RX4 yX4_measure yX4_measure, Cond.code yX4_measure cX4_measure 5 none, Cond.methodLink RX4 210 yX4_formGroups, Cond.instanceMethod yX4_formGroups, Cond.selects RX4 yX4_formGroups yX4_formGroups, Cond.code yX4_formGroups cX4_formGroups 7 none, Cond.fieldLink RX4 21 "SpinKernel" "leastOfGroup" "[I", Cond.fieldLink RX4 79 "SpinKernel$Task" "count" "I", Cond.fieldLink RX4 199 "SpinKernel$Task" "requests" "[LSpinKernel$Request;", Cond.fieldLink RX4 220 "SpinKernel$Request" "lock" "I", Cond.fieldLink RX4 223 "SpinKernel$Request" "in" "I", Cond.methodLink RX4 138 yX1_isOuter]
def wsX4_task_r3 : List Cond := [Cond.instanceMethod yX1_isOuter, Cond.selects RX1 yX1_isOuter yX1_isOuter, Cond.initialized RX1, Cond.code yX1_isOuter cX1_isOuter 1 (some .boolean), Cond.fieldLink RX1 21 "SpinKernel$Request" "in" "I", Cond.methodLink RX4 226 yX4_joinGroups, Cond.instanceMethod yX4_joinGroups, Cond.selects RX4 yX4_joinGroups yX4_joinGroups, Cond.code yX4_joinGroups cX4_joinGroups 6 none, Cond.methodLink RX4 158 Lib.Math.min.name, Cond.static Lib.Math.min.name, Cond.initialized "java/lang/Math", Cond.code Lib.Math.min.name Lib.Math.min.code 2 (some .int), Cond.methodLink RX4 164 Lib.Math.max.name, Cond.static Lib.Math.max.name, Cond.code Lib.Math.max.name Lib.Math.max.code 2 (some .int), Cond.methodLink RX4 213 yX4_findLongest, Cond.instanceMethod yX4_findLongest, Cond.selects RX4 yX4_findLongest yX4_findLongest, Cond.code yX4_findLongest cX4_findLongest 8 none, Cond.fieldLink RX4 27 "SpinKernel" "longest" "[[I", Cond.fieldLink RX4 230 "SpinKernel$Task" "core" "I", Cond.fieldLink RX4 141 "SpinKernel$Request" "length" "I", Cond.methodLink RX4 38 yJ7_fill_53178]
def wsX4_task_r4 : List Cond := [Cond.static yJ7_fill_53178, Cond.initialized RJ7, Cond.code yJ7_fill_53178 cJ7_fill_53178 4 none, Cond.methodLink RX4 216 yX4_inflate, Cond.instanceMethod yX4_inflate, Cond.selects RX4 yX4_inflate yX4_inflate, Cond.code yX4_inflate cX4_inflate 4 none, Cond.fieldLink RX4 233 "SpinKernel$Task" "work" "I", Cond.fieldLink RX4 99 "SpinKernel$Task" "inflated" "I", Cond.fieldLink RX4 94 "SpinKernel$Request" "spinBound" "I", Cond.methodLink RX4 236 yX4_longestElsewhere, Cond.instanceMethod yX4_longestElsewhere, Cond.selects RX4 yX4_longestElsewhere yX4_longestElsewhere, Cond.code yX4_longestElsewhere cX4_longestElsewhere 5 (some .int)]
def wsX4_task : List Cond := .code yX4_task cX4_task 9 none :: ((wsX4_task_r1 ++ (wsX4_task_r2 ++ (wsX4_task_r3 ++ wsX4_task_r4))) ++ wsX40 ++ wsX30 ++ wsX10 ++ (vx_at0 RX4 50 "java/lang/IndexOutOfBoundsException" ["java/lang/RuntimeException", "java/lang/Exception"]).filter goodWord ++ (vx_at0 RX4 60 "java/lang/IllegalStateException" ["java/lang/RuntimeException", "java/lang/Exception"]).filter goodWord ++ (vx_at0 RX4 67 "java/lang/IllegalArgumentException" ["java/lang/RuntimeException", "java/lang/Exception"]).filter goodWord)
def wsX4_taskAt : List Cond := .code yX4_taskAt cX4_taskAt 2 (some (.object "SpinKernel$Task")) :: ([.classLink RX4 48 "java/lang/IndexOutOfBoundsException", .initialized "java/lang/IndexOutOfBoundsException", .fieldLink RX4 11 "SpinKernel" "tasks" "[LSpinKernel$Task;", .fieldLink RX4 55 "SpinKernel$Task" "isThere" "Z", .methodLink RX4 44 yX4_isWithin, .static yX4_isWithin, .initialized RX4, .code yX4_isWithin cX4_isWithin 3 (some .boolean)] ++ wsX40 ++ wsX30 ++ (vx_at0 RX4 50 "java/lang/IndexOutOfBoundsException" ["java/lang/RuntimeException", "java/lang/Exception"]).filter goodWord)
def wsX4_request_r1 : List Cond := [Cond.classLink RX4 58 "java/lang/IllegalStateException", Cond.initialized "java/lang/IllegalStateException", Cond.classLink RX4 65 "java/lang/IllegalArgumentException", Cond.initialized "java/lang/IllegalArgumentException", Cond.fieldLink RX4 51 "SpinKernel" "sealed" "Z", Cond.fieldLink RX4 79 "SpinKernel$Task" "count" "I", Cond.methodLink RX4 75 yX4_taskAt, Cond.instanceMethod yX4_taskAt, Cond.selects RX4 yX4_taskAt yX4_taskAt, Cond.initialized RX4, Cond.code yX4_taskAt cX4_taskAt 2 (some (.object "SpinKernel$Task")), Cond.classLink RX4 48 "java/lang/IndexOutOfBoundsException", Cond.initialized "java/lang/IndexOutOfBoundsException", Cond.fieldLink RX4 11 "SpinKernel" "tasks" "[LSpinKernel$Task;", Cond.fieldLink RX4 55 "SpinKernel$Task" "isThere" "Z", Cond.methodLink RX4 44 yX4_isWithin, Cond.static yX4_isWithin, Cond.code yX4_isWithin cX4_isWithin 3 (some .boolean), Cond.methodLink RX4 83 yX3_hasPlaceFor, Cond.instanceMethod yX3_hasPlaceFor, Cond.selects RX3 yX3_hasPlaceFor yX3_hasPlaceFor, Cond.initialized RX3, Cond.code yX3_hasPlaceFor cX3_hasPlaceFor 4 (some .boolean), Cond.fieldLink RX3 42 "SpinKernel$Task" "work" "I"]
def wsX4_request_r2 : List Cond := [Cond.fieldLink RX3 11 "SpinKernel$Task" "requests" "[LSpinKernel$Request;", Cond.fieldLink RX3 59 "SpinKernel$Request" "length" "I", Cond.methodLink RX3 52 yX3_greatestAfter, Cond.instanceMethod yX3_greatestAfter, Cond.selects RX3 yX3_greatestAfter yX3_greatestAfter, Cond.code yX3_greatestAfter cX3_greatestAfter 3 (some .int), Cond.fieldLink RX3 45 "SpinKernel$Task" "count" "I", Cond.fieldLink RX3 62 "SpinKernel$Request" "after" "I", Cond.methodLink RX3 48 yX1_isOuter, Cond.instanceMethod yX1_isOuter, Cond.selects RX1 yX1_isOuter yX1_isOuter, Cond.initialized RX1, Cond.code yX1_isOuter cX1_isOuter 1 (some .boolean), Cond.fieldLink RX1 21 "SpinKernel$Request" "in" "I", Cond.methodLink RX3 56 yX3_isOuter, Cond.instanceMethod yX3_isOuter, Cond.selects RX3 yX3_isOuter yX3_isOuter, Cond.code yX3_isOuter cX3_isOuter 2 (some .boolean), Cond.methodLink RX4 86 yX3_addRequest, Cond.instanceMethod yX3_addRequest, Cond.selects RX3 yX3_addRequest yX3_addRequest, Cond.code yX3_addRequest cX3_addRequest 6 (some .int), Cond.methodLink RX3 65 yX1_layDown, Cond.instanceMethod yX1_layDown]
def wsX4_request_r3 : List Cond := [Cond.selects RX1 yX1_layDown yX1_layDown, Cond.code yX1_layDown cX1_layDown 5 none, Cond.fieldLink RX1 9 "SpinKernel$Request" "after" "I", Cond.fieldLink RX1 15 "SpinKernel$Request" "lock" "I", Cond.fieldLink RX1 18 "SpinKernel$Request" "length" "I", Cond.fieldLink RX1 24 "SpinKernel$Request" "spinBound" "I", Cond.methodLink RX4 72 yX4_measure, Cond.instanceMethod yX4_measure, Cond.selects RX4 yX4_measure yX4_measure, Cond.code yX4_measure cX4_measure 5 none, Cond.methodLink RX4 210 yX4_formGroups, Cond.instanceMethod yX4_formGroups, Cond.selects RX4 yX4_formGroups yX4_formGroups, Cond.code yX4_formGroups cX4_formGroups 7 none, Cond.fieldLink RX4 21 "SpinKernel" "leastOfGroup" "[I", Cond.fieldLink RX4 199 "SpinKernel$Task" "requests" "[LSpinKernel$Request;", Cond.fieldLink RX4 220 "SpinKernel$Request" "lock" "I", Cond.fieldLink RX4 223 "SpinKernel$Request" "in" "I", Cond.methodLink RX4 138 yX1_isOuter, Cond.methodLink RX4 226 yX4_joinGroups, Cond.instanceMethod yX4_joinGroups, Cond.selects RX4 yX4_joinGroups yX4_joinGroups, Cond.code yX4_joinGroups cX4_joinGroups 6 none, Cond.methodLink RX4 158 Lib.Math.min.name]
def wsX4_request_r4 : List Cond := [Cond.static Lib.Math.min.name, Cond.initialized "java/lang/Math", Cond.code Lib.Math.min.name Lib.Math.min.code 2 (some .int), Cond.methodLink RX4 164 Lib.Math.max.name, Cond.static Lib.Math.max.name, Cond.code Lib.Math.max.name Lib.Math.max.code 2 (some .int), Cond.methodLink RX4 213 yX4_findLongest, Cond.instanceMethod yX4_findLongest, Cond.selects RX4 yX4_findLongest yX4_findLongest, Cond.code yX4_findLongest cX4_findLongest 8 none, Cond.fieldLink RX4 27 "SpinKernel" "longest" "[[I", Cond.fieldLink RX4 230 "SpinKernel$Task" "core" "I", Cond.fieldLink RX4 141 "SpinKernel$Request" "length" "I", Cond.methodLink RX4 38 yJ7_fill_53178, Cond.static yJ7_fill_53178, Cond.initialized RJ7, Cond.code yJ7_fill_53178 cJ7_fill_53178 4 none, Cond.methodLink RX4 216 yX4_inflate, Cond.instanceMethod yX4_inflate, Cond.selects RX4 yX4_inflate yX4_inflate, Cond.code yX4_inflate cX4_inflate 4 none, Cond.fieldLink RX4 233 "SpinKernel$Task" "work" "I", Cond.fieldLink RX4 99 "SpinKernel$Task" "inflated" "I", Cond.fieldLink RX4 94 "SpinKernel$Request" "spinBound" "I"]
def wsX4_request_r5 : List Cond := [Cond.methodLink RX4 236 yX4_longestElsewhere, Cond.instanceMethod yX4_longestElsewhere, Cond.selects RX4 yX4_longestElsewhere yX4_longestElsewhere, Cond.code yX4_longestElsewhere cX4_longestElsewhere 5 (some .int)]
def wsX4_request : List Cond := .code yX4_request cX4_request 9 (some .int) :: ((wsX4_request_r1 ++ (wsX4_request_r2 ++ (wsX4_request_r3 ++ (wsX4_request_r4 ++ wsX4_request_r5)))) ++ wsX40 ++ wsX30 ++ wsX10 ++ (vx_at0 RX4 60 "java/lang/IllegalStateException" ["java/lang/RuntimeException", "java/lang/Exception"]).filter goodWord ++ (vx_at0 RX4 67 "java/lang/IllegalArgumentException" ["java/lang/RuntimeException", "java/lang/Exception"]).filter goodWord ++ (vx_at0 RX4 50 "java/lang/IndexOutOfBoundsException" ["java/lang/RuntimeException", "java/lang/Exception"]).filter goodWord)
def wsX4_take_r1 : List Cond := [Cond.classLink RX4 58 "java/lang/IllegalStateException", Cond.initialized "java/lang/IllegalStateException", Cond.fieldLink RX4 51 "SpinKernel" "sealed" "Z", Cond.fieldLink RX4 55 "SpinKernel$Task" "isThere" "Z", Cond.methodLink RX4 75 yX4_taskAt, Cond.instanceMethod yX4_taskAt, Cond.selects RX4 yX4_taskAt yX4_taskAt, Cond.initialized RX4, Cond.code yX4_taskAt cX4_taskAt 2 (some (.object "SpinKernel$Task")), Cond.classLink RX4 48 "java/lang/IndexOutOfBoundsException", Cond.initialized "java/lang/IndexOutOfBoundsException", Cond.fieldLink RX4 11 "SpinKernel" "tasks" "[LSpinKernel$Task;", Cond.methodLink RX4 44 yX4_isWithin, Cond.static yX4_isWithin, Cond.code yX4_isWithin cX4_isWithin 3 (some .boolean), Cond.methodLink RX4 72 yX4_measure, Cond.instanceMethod yX4_measure, Cond.selects RX4 yX4_measure yX4_measure, Cond.code yX4_measure cX4_measure 5 none, Cond.methodLink RX4 210 yX4_formGroups, Cond.instanceMethod yX4_formGroups, Cond.selects RX4 yX4_formGroups yX4_formGroups, Cond.code yX4_formGroups cX4_formGroups 7 none, Cond.fieldLink RX4 21 "SpinKernel" "leastOfGroup" "[I"]
def wsX4_take_r2 : List Cond := [Cond.fieldLink RX4 79 "SpinKernel$Task" "count" "I", Cond.fieldLink RX4 199 "SpinKernel$Task" "requests" "[LSpinKernel$Request;", Cond.fieldLink RX4 220 "SpinKernel$Request" "lock" "I", Cond.fieldLink RX4 223 "SpinKernel$Request" "in" "I", Cond.methodLink RX4 138 yX1_isOuter, Cond.instanceMethod yX1_isOuter, Cond.selects RX1 yX1_isOuter yX1_isOuter, Cond.initialized RX1, Cond.code yX1_isOuter cX1_isOuter 1 (some .boolean), Cond.fieldLink RX1 21 "SpinKernel$Request" "in" "I", Cond.methodLink RX4 226 yX4_joinGroups, Cond.instanceMethod yX4_joinGroups, Cond.selects RX4 yX4_joinGroups yX4_joinGroups, Cond.code yX4_joinGroups cX4_joinGroups 6 none, Cond.methodLink RX4 158 Lib.Math.min.name, Cond.static Lib.Math.min.name, Cond.initialized "java/lang/Math", Cond.code Lib.Math.min.name Lib.Math.min.code 2 (some .int), Cond.methodLink RX4 164 Lib.Math.max.name, Cond.static Lib.Math.max.name, Cond.code Lib.Math.max.name Lib.Math.max.code 2 (some .int), Cond.methodLink RX4 213 yX4_findLongest, Cond.instanceMethod yX4_findLongest, Cond.selects RX4 yX4_findLongest yX4_findLongest]
def wsX4_take_r3 : List Cond := [Cond.code yX4_findLongest cX4_findLongest 8 none, Cond.fieldLink RX4 27 "SpinKernel" "longest" "[[I", Cond.fieldLink RX4 230 "SpinKernel$Task" "core" "I", Cond.fieldLink RX4 141 "SpinKernel$Request" "length" "I", Cond.methodLink RX4 38 yJ7_fill_53178, Cond.static yJ7_fill_53178, Cond.initialized RJ7, Cond.code yJ7_fill_53178 cJ7_fill_53178 4 none, Cond.methodLink RX4 216 yX4_inflate, Cond.instanceMethod yX4_inflate, Cond.selects RX4 yX4_inflate yX4_inflate, Cond.code yX4_inflate cX4_inflate 4 none, Cond.fieldLink RX4 233 "SpinKernel$Task" "work" "I", Cond.fieldLink RX4 99 "SpinKernel$Task" "inflated" "I", Cond.fieldLink RX4 94 "SpinKernel$Request" "spinBound" "I", Cond.methodLink RX4 236 yX4_longestElsewhere, Cond.instanceMethod yX4_longestElsewhere, Cond.selects RX4 yX4_longestElsewhere yX4_longestElsewhere, Cond.code yX4_longestElsewhere cX4_longestElsewhere 5 (some .int)]
def wsX4_take : List Cond := .code yX4_take cX4_take 3 none :: ((wsX4_take_r1 ++ (wsX4_take_r2 ++ wsX4_take_r3)) ++ wsX40 ++ wsX30 ++ wsX10 ++ (vx_at0 RX4 60 "java/lang/IllegalStateException" ["java/lang/RuntimeException", "java/lang/Exception"]).filter goodWord ++ (vx_at0 RX4 50 "java/lang/IndexOutOfBoundsException" ["java/lang/RuntimeException", "java/lang/Exception"]).filter goodWord)
def wsX4_group : List Cond := .code yX4_group cX4_group 2 (some .int) :: ([.classLink RX4 48 "java/lang/IndexOutOfBoundsException", .initialized "java/lang/IndexOutOfBoundsException", .fieldLink RX4 21 "SpinKernel" "leastOfGroup" "[I", .methodLink RX4 44 yX4_isWithin, .static yX4_isWithin, .initialized RX4, .code yX4_isWithin cX4_isWithin 3 (some .boolean)] ++ wsX40 ++ (vx_at0 RX4 50 "java/lang/IndexOutOfBoundsException" ["java/lang/RuntimeException", "java/lang/Exception"]).filter goodWord)
def wsX4_requestAt : List Cond := .code yX4_requestAt cX4_requestAt 2 (some (.object "SpinKernel$Request")) :: ([.classLink RX4 48 "java/lang/IndexOutOfBoundsException", .initialized "java/lang/IndexOutOfBoundsException", .fieldLink RX4 79 "SpinKernel$Task" "count" "I", .fieldLink RX4 199 "SpinKernel$Task" "requests" "[LSpinKernel$Request;", .methodLink RX4 44 yX4_isWithin, .static yX4_isWithin, .initialized RX4, .code yX4_isWithin cX4_isWithin 3 (some .boolean)] ++ wsX30 ++ (vx_at0 RX4 50 "java/lang/IndexOutOfBoundsException" ["java/lang/RuntimeException", "java/lang/Exception"]).filter goodWord)
def wsX4_spin : List Cond := .code yX4_spin cX4_spin 3 (some .int) :: ([.fieldLink RX4 94 "SpinKernel$Request" "spinBound" "I", .methodLink RX4 75 yX4_taskAt, .instanceMethod yX4_taskAt, .selects RX4 yX4_taskAt yX4_taskAt, .initialized RX4, .code yX4_taskAt cX4_taskAt 2 (some (.object "SpinKernel$Task")), .classLink RX4 48 "java/lang/IndexOutOfBoundsException", .initialized "java/lang/IndexOutOfBoundsException", .fieldLink RX4 11 "SpinKernel" "tasks" "[LSpinKernel$Task;", .fieldLink RX4 55 "SpinKernel$Task" "isThere" "Z", .methodLink RX4 44 yX4_isWithin, .static yX4_isWithin, .code yX4_isWithin cX4_isWithin 3 (some .boolean), .methodLink RX4 90 yX4_requestAt, .static yX4_requestAt, .code yX4_requestAt cX4_requestAt 2 (some (.object "SpinKernel$Request")), .fieldLink RX4 79 "SpinKernel$Task" "count" "I", .fieldLink RX4 199 "SpinKernel$Task" "requests" "[LSpinKernel$Request;"] ++ wsX10 ++ wsX40 ++ wsX30 ++ (vx_at0 RX4 50 "java/lang/IndexOutOfBoundsException" ["java/lang/RuntimeException", "java/lang/Exception"]).filter goodWord)
def wsX4_blockingOf_r1 : List Cond := [Cond.fieldLink RX4 11 "SpinKernel" "tasks" "[LSpinKernel$Task;", Cond.fieldLink RX4 230 "SpinKernel$Task" "core" "I", Cond.fieldLink RX4 207 "SpinKernel$Task" "priority" "I", Cond.methodLink RX4 164 Lib.Math.max.name, Cond.static Lib.Math.max.name, Cond.initialized "java/lang/Math", Cond.code Lib.Math.max.name Lib.Math.max.code 2 (some .int), Cond.methodLink RX4 203 yX3_isOn, Cond.instanceMethod yX3_isOn, Cond.selects RX3 yX3_isOn yX3_isOn, Cond.initialized RX3, Cond.code yX3_isOn cX3_isOn 2 (some .boolean), Cond.fieldLink RX3 25 "SpinKernel$Task" "isThere" "Z", Cond.fieldLink RX3 29 "SpinKernel$Task" "core" "I", Cond.methodLink RX4 239 yX3_longestStay, Cond.instanceMethod yX3_longestStay, Cond.selects RX3 yX3_longestStay yX3_longestStay, Cond.code yX3_longestStay cX3_longestStay 3 (some .int), Cond.fieldLink RX3 45 "SpinKernel$Task" "count" "I", Cond.fieldLink RX3 11 "SpinKernel$Task" "requests" "[LSpinKernel$Request;", Cond.fieldLink RX3 59 "SpinKernel$Request" "length" "I", Cond.fieldLink RX3 69 "SpinKernel$Request" "spinBound" "I", Cond.methodLink RX3 72 Lib.Math.max.name, Cond.methodLink RX3 48 yX1_isOuter]
def wsX4_blockingOf_r2 : List Cond := [Cond.instanceMethod yX1_isOuter, Cond.selects RX1 yX1_isOuter yX1_isOuter, Cond.initialized RX1, Cond.code yX1_isOuter cX1_isOuter 1 (some .boolean), Cond.fieldLink RX1 21 "SpinKernel$Request" "in" "I"]
def wsX4_blockingOf : List Cond := .code yX4_blockingOf cX4_blockingOf 7 (some .int) :: ((wsX4_blockingOf_r1 ++ wsX4_blockingOf_r2) ++ wsX40 ++ wsX30 ++ wsX10)
def wsX4_demandAbove : List Cond := .code yX4_demandAbove cX4_demandAbove 8 (some .int) :: ([.fieldLink RX4 11 "SpinKernel" "tasks" "[LSpinKernel$Task;", .fieldLink RX4 230 "SpinKernel$Task" "core" "I", .fieldLink RX4 207 "SpinKernel$Task" "priority" "I", .fieldLink RX4 99 "SpinKernel$Task" "inflated" "I", .methodLink RX4 203 yX3_isOn, .instanceMethod yX3_isOn, .selects RX3 yX3_isOn yX3_isOn, .initialized RX3, .code yX3_isOn cX3_isOn 2 (some .boolean), .fieldLink RX3 25 "SpinKernel$Task" "isThere" "Z", .fieldLink RX3 29 "SpinKernel$Task" "core" "I", .methodLink RX4 246 yX3_beginningsIn, .instanceMethod yX3_beginningsIn, .selects RX3 yX3_beginningsIn yX3_beginningsIn, .code yX3_beginningsIn cX3_beginningsIn 2 (some .int), .fieldLink RX3 36 "SpinKernel$Task" "distance" "I"] ++ wsX40 ++ wsX30)
def wsX4_responseOf_r1 : List Cond := [Cond.fieldLink RX4 99 "SpinKernel$Task" "inflated" "I", Cond.fieldLink RX4 196 "SpinKernel$Task" "deadline" "I", Cond.methodLink RX4 102 yX4_blockingOf, Cond.instanceMethod yX4_blockingOf, Cond.selects RX4 yX4_blockingOf yX4_blockingOf, Cond.initialized RX4, Cond.code yX4_blockingOf cX4_blockingOf 7 (some .int), Cond.fieldLink RX4 11 "SpinKernel" "tasks" "[LSpinKernel$Task;", Cond.fieldLink RX4 230 "SpinKernel$Task" "core" "I", Cond.fieldLink RX4 207 "SpinKernel$Task" "priority" "I", Cond.methodLink RX4 164 Lib.Math.max.name, Cond.static Lib.Math.max.name, Cond.initialized "java/lang/Math", Cond.code Lib.Math.max.name Lib.Math.max.code 2 (some .int), Cond.methodLink RX4 203 yX3_isOn, Cond.instanceMethod yX3_isOn, Cond.selects RX3 yX3_isOn yX3_isOn, Cond.initialized RX3, Cond.code yX3_isOn cX3_isOn 2 (some .boolean), Cond.fieldLink RX3 25 "SpinKernel$Task" "isThere" "Z", Cond.fieldLink RX3 29 "SpinKernel$Task" "core" "I", Cond.methodLink RX4 239 yX3_longestStay, Cond.instanceMethod yX3_longestStay, Cond.selects RX3 yX3_longestStay yX3_longestStay]
def wsX4_responseOf_r2 : List Cond := [Cond.code yX3_longestStay cX3_longestStay 3 (some .int), Cond.fieldLink RX3 45 "SpinKernel$Task" "count" "I", Cond.fieldLink RX3 11 "SpinKernel$Task" "requests" "[LSpinKernel$Request;", Cond.fieldLink RX3 59 "SpinKernel$Request" "length" "I", Cond.fieldLink RX3 69 "SpinKernel$Request" "spinBound" "I", Cond.methodLink RX3 72 Lib.Math.max.name, Cond.methodLink RX3 48 yX1_isOuter, Cond.instanceMethod yX1_isOuter, Cond.selects RX1 yX1_isOuter yX1_isOuter, Cond.initialized RX1, Cond.code yX1_isOuter cX1_isOuter 1 (some .boolean), Cond.fieldLink RX1 21 "SpinKernel$Request" "in" "I", Cond.methodLink RX4 242 yX4_demandAbove, Cond.instanceMethod yX4_demandAbove, Cond.selects RX4 yX4_demandAbove yX4_demandAbove, Cond.code yX4_demandAbove cX4_demandAbove 8 (some .int), Cond.methodLink RX4 246 yX3_beginningsIn, Cond.instanceMethod yX3_beginningsIn, Cond.selects RX3 yX3_beginningsIn yX3_beginningsIn, Cond.code yX3_beginningsIn cX3_beginningsIn 2 (some .int), Cond.fieldLink RX3 36 "SpinKernel$Task" "distance" "I"]
def wsX4_responseOf : List Cond := .code yX4_responseOf cX4_responseOf 6 (some .int) :: ((wsX4_responseOf_r1 ++ wsX4_responseOf_r2) ++ wsX30 ++ wsX40 ++ wsX10)
def wsX4_bound_r1 : List Cond := [Cond.classLink RX4 65 "java/lang/IllegalArgumentException", Cond.initialized "java/lang/IllegalArgumentException", Cond.fieldLink RX4 99 "SpinKernel$Task" "inflated" "I", Cond.methodLink RX4 75 yX4_taskAt, Cond.instanceMethod yX4_taskAt, Cond.selects RX4 yX4_taskAt yX4_taskAt, Cond.initialized RX4, Cond.code yX4_taskAt cX4_taskAt 2 (some (.object "SpinKernel$Task")), Cond.classLink RX4 48 "java/lang/IndexOutOfBoundsException", Cond.initialized "java/lang/IndexOutOfBoundsException", Cond.fieldLink RX4 11 "SpinKernel" "tasks" "[LSpinKernel$Task;", Cond.fieldLink RX4 55 "SpinKernel$Task" "isThere" "Z", Cond.methodLink RX4 44 yX4_isWithin, Cond.static yX4_isWithin, Cond.code yX4_isWithin cX4_isWithin 3 (some .boolean), Cond.methodLink RX4 102 yX4_blockingOf, Cond.instanceMethod yX4_blockingOf, Cond.selects RX4 yX4_blockingOf yX4_blockingOf, Cond.code yX4_blockingOf cX4_blockingOf 7 (some .int), Cond.fieldLink RX4 230 "SpinKernel$Task" "core" "I", Cond.fieldLink RX4 207 "SpinKernel$Task" "priority" "I", Cond.methodLink RX4 164 Lib.Math.max.name, Cond.static Lib.Math.max.name, Cond.initialized "java/lang/Math"]
def wsX4_bound_r2 : List Cond := [Cond.code Lib.Math.max.name Lib.Math.max.code 2 (some .int), Cond.methodLink RX4 203 yX3_isOn, Cond.instanceMethod yX3_isOn, Cond.selects RX3 yX3_isOn yX3_isOn, Cond.initialized RX3, Cond.code yX3_isOn cX3_isOn 2 (some .boolean), Cond.fieldLink RX3 25 "SpinKernel$Task" "isThere" "Z", Cond.fieldLink RX3 29 "SpinKernel$Task" "core" "I", Cond.methodLink RX4 239 yX3_longestStay, Cond.instanceMethod yX3_longestStay, Cond.selects RX3 yX3_longestStay yX3_longestStay, Cond.code yX3_longestStay cX3_longestStay 3 (some .int), Cond.fieldLink RX3 45 "SpinKernel$Task" "count" "I", Cond.fieldLink RX3 11 "SpinKernel$Task" "requests" "[LSpinKernel$Request;", Cond.fieldLink RX3 59 "SpinKernel$Request" "length" "I", Cond.fieldLink RX3 69 "SpinKernel$Request" "spinBound" "I", Cond.methodLink RX3 72 Lib.Math.max.name, Cond.methodLink RX3 48 yX1_isOuter, Cond.instanceMethod yX1_isOuter, Cond.selects RX1 yX1_isOuter yX1_isOuter, Cond.initialized RX1, Cond.code yX1_isOuter cX1_isOuter 1 (some .boolean), Cond.fieldLink RX1 21 "SpinKernel$Request" "in" "I", Cond.methodLink RX4 106 yX4_responseOf]
def wsX4_bound_r3 : List Cond := [Cond.instanceMethod yX4_responseOf, Cond.selects RX4 yX4_responseOf yX4_responseOf, Cond.code yX4_responseOf cX4_responseOf 6 (some .int), Cond.fieldLink RX4 196 "SpinKernel$Task" "deadline" "I", Cond.methodLink RX4 242 yX4_demandAbove, Cond.instanceMethod yX4_demandAbove, Cond.selects RX4 yX4_demandAbove yX4_demandAbove, Cond.code yX4_demandAbove cX4_demandAbove 8 (some .int), Cond.methodLink RX4 246 yX3_beginningsIn, Cond.instanceMethod yX3_beginningsIn, Cond.selects RX3 yX3_beginningsIn yX3_beginningsIn, Cond.code yX3_beginningsIn cX3_beginningsIn 2 (some .int), Cond.fieldLink RX3 36 "SpinKernel$Task" "distance" "I"]
def wsX4_bound : List Cond := .code yX4_bound cX4_bound 4 (some .int) :: ((wsX4_bound_r1 ++ (wsX4_bound_r2 ++ wsX4_bound_r3)) ++ wsX30 ++ wsX40 ++ wsX10 ++ (vx_at0 RX4 67 "java/lang/IllegalArgumentException" ["java/lang/RuntimeException", "java/lang/Exception"]).filter goodWord ++ (vx_at0 RX4 50 "java/lang/IndexOutOfBoundsException" ["java/lang/RuntimeException", "java/lang/Exception"]).filter goodWord)
def wsX4_seal_r1 : List Cond := [Cond.classLink RX4 58 "java/lang/IllegalStateException", Cond.initialized "java/lang/IllegalStateException", Cond.fieldLink RX4 51 "SpinKernel" "sealed" "Z", Cond.fieldLink RX4 11 "SpinKernel" "tasks" "[LSpinKernel$Task;", Cond.fieldLink RX4 55 "SpinKernel$Task" "isThere" "Z", Cond.methodLink RX4 106 yX4_responseOf, Cond.instanceMethod yX4_responseOf, Cond.selects RX4 yX4_responseOf yX4_responseOf, Cond.initialized RX4, Cond.code yX4_responseOf cX4_responseOf 6 (some .int), Cond.fieldLink RX4 99 "SpinKernel$Task" "inflated" "I", Cond.fieldLink RX4 196 "SpinKernel$Task" "deadline" "I", Cond.methodLink RX4 102 yX4_blockingOf, Cond.instanceMethod yX4_blockingOf, Cond.selects RX4 yX4_blockingOf yX4_blockingOf, Cond.code yX4_blockingOf cX4_blockingOf 7 (some .int), Cond.fieldLink RX4 230 "SpinKernel$Task" "core" "I", Cond.fieldLink RX4 207 "SpinKernel$Task" "priority" "I", Cond.methodLink RX4 164 Lib.Math.max.name, Cond.static Lib.Math.max.name, Cond.initialized "java/lang/Math", Cond.code Lib.Math.max.name Lib.Math.max.code 2 (some .int), Cond.methodLink RX4 203 yX3_isOn, Cond.instanceMethod yX3_isOn]
def wsX4_seal_r2 : List Cond := [Cond.selects RX3 yX3_isOn yX3_isOn, Cond.initialized RX3, Cond.code yX3_isOn cX3_isOn 2 (some .boolean), Cond.fieldLink RX3 25 "SpinKernel$Task" "isThere" "Z", Cond.fieldLink RX3 29 "SpinKernel$Task" "core" "I", Cond.methodLink RX4 239 yX3_longestStay, Cond.instanceMethod yX3_longestStay, Cond.selects RX3 yX3_longestStay yX3_longestStay, Cond.code yX3_longestStay cX3_longestStay 3 (some .int), Cond.fieldLink RX3 45 "SpinKernel$Task" "count" "I", Cond.fieldLink RX3 11 "SpinKernel$Task" "requests" "[LSpinKernel$Request;", Cond.fieldLink RX3 59 "SpinKernel$Request" "length" "I", Cond.fieldLink RX3 69 "SpinKernel$Request" "spinBound" "I", Cond.methodLink RX3 72 Lib.Math.max.name, Cond.methodLink RX3 48 yX1_isOuter, Cond.instanceMethod yX1_isOuter, Cond.selects RX1 yX1_isOuter yX1_isOuter, Cond.initialized RX1, Cond.code yX1_isOuter cX1_isOuter 1 (some .boolean), Cond.fieldLink RX1 21 "SpinKernel$Request" "in" "I", Cond.methodLink RX4 242 yX4_demandAbove, Cond.instanceMethod yX4_demandAbove, Cond.selects RX4 yX4_demandAbove yX4_demandAbove, Cond.code yX4_demandAbove cX4_demandAbove 8 (some .int)]
def wsX4_seal_r3 : List Cond := [Cond.methodLink RX4 246 yX3_beginningsIn, Cond.instanceMethod yX3_beginningsIn, Cond.selects RX3 yX3_beginningsIn yX3_beginningsIn, Cond.code yX3_beginningsIn cX3_beginningsIn 2 (some .int), Cond.fieldLink RX3 36 "SpinKernel$Task" "distance" "I"]
def wsX4_seal : List Cond := .code yX4_seal cX4_seal 2 (some .int) :: ((wsX4_seal_r1 ++ (wsX4_seal_r2 ++ wsX4_seal_r3)) ++ wsX40 ++ wsX30 ++ wsX10 ++ (vx_at0 RX4 60 "java/lang/IllegalStateException" ["java/lang/RuntimeException", "java/lang/Exception"]).filter goodWord)
def wsX4_isAnyJobOpen : List Cond := .code yX4_isAnyJobOpen cX4_isAnyJobOpen 5 (some .boolean) :: ([.fieldLink RX4 11 "SpinKernel" "tasks" "[LSpinKernel$Task;", .fieldLink RX4 119 "SpinKernel$Task" "job" "LSpinKernel$Job;", .fieldLink RX4 187 "SpinKernel$Job" "isOpen" "Z"] ++ wsX40 ++ wsX30 ++ wsX00)
def wsX4_unseal_r1 : List Cond := [Cond.classLink RX4 58 "java/lang/IllegalStateException", Cond.initialized "java/lang/IllegalStateException", Cond.fieldLink RX4 51 "SpinKernel" "sealed" "Z", Cond.fieldLink RX4 113 "SpinKernel" "now" "I", Cond.fieldLink RX4 30 "SpinKernel" "taskOfCore" "[I", Cond.fieldLink RX4 33 "SpinKernel" "deedOfCore" "[I", Cond.fieldLink RX4 11 "SpinKernel" "tasks" "[LSpinKernel$Task;", Cond.methodLink RX4 109 yX4_isAnyJobOpen, Cond.instanceMethod yX4_isAnyJobOpen, Cond.selects RX4 yX4_isAnyJobOpen yX4_isAnyJobOpen, Cond.initialized RX4, Cond.code yX4_isAnyJobOpen cX4_isAnyJobOpen 5 (some .boolean), Cond.fieldLink RX4 119 "SpinKernel$Task" "job" "LSpinKernel$Job;", Cond.fieldLink RX4 187 "SpinKernel$Job" "isOpen" "Z", Cond.methodLink RX4 38 yJ7_fill_53178, Cond.static yJ7_fill_53178, Cond.initialized RJ7, Cond.code yJ7_fill_53178 cJ7_fill_53178 4 none, Cond.methodLink RX4 116 yX3_forgetJobs, Cond.instanceMethod yX3_forgetJobs, Cond.selects RX3 yX3_forgetJobs yX3_forgetJobs, Cond.initialized RX3, Cond.code yX3_forgetJobs cX3_forgetJobs 2 none, Cond.fieldLink RX3 45 "SpinKernel$Task" "count" "I"]
def wsX4_unseal_r2 : List Cond := [Cond.fieldLink RX3 11 "SpinKernel$Task" "requests" "[LSpinKernel$Request;", Cond.fieldLink RX3 20 "SpinKernel$Task" "job" "LSpinKernel$Job;", Cond.methodLink RX3 92 yX1_forgetJobs, Cond.instanceMethod yX1_forgetJobs, Cond.selects RX1 yX1_forgetJobs yX1_forgetJobs, Cond.initialized RX1, Cond.code yX1_forgetJobs cX1_forgetJobs 1 none, Cond.fieldLink RX1 27 "SpinKernel$Request" "ticksOfNextJob" "I", Cond.fieldLink RX1 33 "SpinKernel$Request" "mostSpun" "I", Cond.methodLink RX3 95 yX0_forget, Cond.instanceMethod yX0_forget, Cond.selects RX0 yX0_forget yX0_forget, Cond.initialized RX0, Cond.code yX0_forget cX0_forget 1 none, Cond.fieldLink RX0 15 "SpinKernel$Job" "hasCome" "Z", Cond.fieldLink RX0 31 "SpinKernel$Job" "ended" "I", Cond.fieldLink RX0 46 "SpinKernel$Job" "endedLate" "I", Cond.fieldLink RX0 37 "SpinKernel$Job" "greatestResponse" "I", Cond.fieldLink RX0 34 "SpinKernel$Job" "latestResponse" "I"]
def wsX4_unseal : List Cond := .code yX4_unseal cX4_unseal 5 none :: ((wsX4_unseal_r1 ++ wsX4_unseal_r2) ++ wsX40 ++ wsX30 ++ wsX00 ++ wsX10 ++ (vx_at0 RX4 60 "java/lang/IllegalStateException" ["java/lang/RuntimeException", "java/lang/Exception"]).filter goodWord)
def wsX4_arrive_r1 : List Cond := [Cond.classLink RX4 58 "java/lang/IllegalStateException", Cond.initialized "java/lang/IllegalStateException", Cond.fieldLink RX4 51 "SpinKernel" "sealed" "Z", Cond.fieldLink RX4 119 "SpinKernel$Task" "job" "LSpinKernel$Job;", Cond.fieldLink RX4 123 "SpinKernel$Job" "hasCome" "Z", Cond.fieldLink RX4 113 "SpinKernel" "now" "I", Cond.fieldLink RX4 128 "SpinKernel$Job" "cameAt" "I", Cond.fieldLink RX4 131 "SpinKernel$Task" "distance" "I", Cond.methodLink RX4 75 yX4_taskAt, Cond.instanceMethod yX4_taskAt, Cond.selects RX4 yX4_taskAt yX4_taskAt, Cond.initialized RX4, Cond.code yX4_taskAt cX4_taskAt 2 (some (.object "SpinKernel$Task")), Cond.classLink RX4 48 "java/lang/IndexOutOfBoundsException", Cond.initialized "java/lang/IndexOutOfBoundsException", Cond.fieldLink RX4 11 "SpinKernel" "tasks" "[LSpinKernel$Task;", Cond.fieldLink RX4 55 "SpinKernel$Task" "isThere" "Z", Cond.methodLink RX4 44 yX4_isWithin, Cond.static yX4_isWithin, Cond.code yX4_isWithin cX4_isWithin 3 (some .boolean), Cond.methodLink RX4 134 yX3_startJob, Cond.instanceMethod yX3_startJob, Cond.selects RX3 yX3_startJob yX3_startJob, Cond.initialized RX3]
def wsX4_arrive_r2 : List Cond := [Cond.code yX3_startJob cX3_startJob 3 none, Cond.fieldLink RX3 45 "SpinKernel$Task" "count" "I", Cond.fieldLink RX3 11 "SpinKernel$Task" "requests" "[LSpinKernel$Request;", Cond.fieldLink RX3 20 "SpinKernel$Task" "job" "LSpinKernel$Job;", Cond.methodLink RX3 78 yX1_startJob, Cond.instanceMethod yX1_startJob, Cond.selects RX1 yX1_startJob yX1_startJob, Cond.initialized RX1, Cond.code yX1_startJob cX1_startJob 1 none, Cond.fieldLink RX1 27 "SpinKernel$Request" "ticksOfNextJob" "I", Cond.fieldLink RX1 18 "SpinKernel$Request" "length" "I", Cond.fieldLink RX1 30 "SpinKernel$Request" "ticksOfJob" "I", Cond.methodLink RX3 81 yX3_outerFrom, Cond.instanceMethod yX3_outerFrom, Cond.selects RX3 yX3_outerFrom yX3_outerFrom, Cond.code yX3_outerFrom cX3_outerFrom 3 (some .int), Cond.methodLink RX3 48 yX1_isOuter, Cond.instanceMethod yX1_isOuter, Cond.selects RX1 yX1_isOuter yX1_isOuter, Cond.code yX1_isOuter cX1_isOuter 1 (some .boolean), Cond.fieldLink RX1 21 "SpinKernel$Request" "in" "I", Cond.methodLink RX3 85 yX0_start, Cond.instanceMethod yX0_start, Cond.selects RX0 yX0_start yX0_start]
def wsX4_arrive_r3 : List Cond := [Cond.initialized RX0, Cond.code yX0_start cX0_start 3 none, Cond.fieldLink RX0 15 "SpinKernel$Job" "hasCome" "Z", Cond.fieldLink RX0 19 "SpinKernel$Job" "isOpen" "Z", Cond.fieldLink RX0 22 "SpinKernel$Job" "cameAt" "I", Cond.fieldLink RX0 9 "SpinKernel$Job" "state" "I", Cond.fieldLink RX0 25 "SpinKernel$Job" "workDone" "I", Cond.fieldLink RX0 28 "SpinKernel$Job" "next" "I"]
def wsX4_arrive : List Cond := .code yX4_arrive cX4_arrive 3 (some .boolean) :: ((wsX4_arrive_r1 ++ (wsX4_arrive_r2 ++ wsX4_arrive_r3)) ++ wsX40 ++ wsX30 ++ wsX00 ++ wsX10 ++ (vx_at0 RX4 60 "java/lang/IllegalStateException" ["java/lang/RuntimeException", "java/lang/Exception"]).filter goodWord ++ (vx_at0 RX4 50 "java/lang/IndexOutOfBoundsException" ["java/lang/RuntimeException", "java/lang/Exception"]).filter goodWord)
def wsX4_shorten_r1 : List Cond := [Cond.classLink RX4 58 "java/lang/IllegalStateException", Cond.initialized "java/lang/IllegalStateException", Cond.classLink RX4 65 "java/lang/IllegalArgumentException", Cond.initialized "java/lang/IllegalArgumentException", Cond.fieldLink RX4 51 "SpinKernel" "sealed" "Z", Cond.fieldLink RX4 141 "SpinKernel$Request" "length" "I", Cond.fieldLink RX4 144 "SpinKernel$Request" "ticksOfNextJob" "I", Cond.methodLink RX4 75 yX4_taskAt, Cond.instanceMethod yX4_taskAt, Cond.selects RX4 yX4_taskAt yX4_taskAt, Cond.initialized RX4, Cond.code yX4_taskAt cX4_taskAt 2 (some (.object "SpinKernel$Task")), Cond.classLink RX4 48 "java/lang/IndexOutOfBoundsException", Cond.initialized "java/lang/IndexOutOfBoundsException", Cond.fieldLink RX4 11 "SpinKernel" "tasks" "[LSpinKernel$Task;", Cond.fieldLink RX4 55 "SpinKernel$Task" "isThere" "Z", Cond.methodLink RX4 44 yX4_isWithin, Cond.static yX4_isWithin, Cond.code yX4_isWithin cX4_isWithin 3 (some .boolean), Cond.methodLink RX4 90 yX4_requestAt, Cond.static yX4_requestAt, Cond.code yX4_requestAt cX4_requestAt 2 (some (.object "SpinKernel$Request")), Cond.fieldLink RX4 79 "SpinKernel$Task" "count" "I", Cond.fieldLink RX4 199 "SpinKernel$Task" "requests" "[LSpinKernel$Request;"]
def wsX4_shorten_r2 : List Cond := [Cond.methodLink RX4 138 yX1_isOuter, Cond.instanceMethod yX1_isOuter, Cond.selects RX1 yX1_isOuter yX1_isOuter, Cond.initialized RX1, Cond.code yX1_isOuter cX1_isOuter 1 (some .boolean), Cond.fieldLink RX1 21 "SpinKernel$Request" "in" "I"]
def wsX4_shorten : List Cond := .code yX4_shorten cX4_shorten 5 none :: ((wsX4_shorten_r1 ++ wsX4_shorten_r2) ++ wsX40 ++ wsX10 ++ wsX30 ++ (vx_at0 RX4 60 "java/lang/IllegalStateException" ["java/lang/RuntimeException", "java/lang/Exception"]).filter goodWord ++ (vx_at0 RX4 67 "java/lang/IllegalArgumentException" ["java/lang/RuntimeException", "java/lang/Exception"]).filter goodWord ++ (vx_at0 RX4 50 "java/lang/IndexOutOfBoundsException" ["java/lang/RuntimeException", "java/lang/Exception"]).filter goodWord)
def wsX4_isHeldFast : List Cond := .code yX4_isHeldFast cX4_isHeldFast 3 (some .boolean) :: ([.fieldLink RX4 30 "SpinKernel" "taskOfCore" "[I", .fieldLink RX4 11 "SpinKernel" "tasks" "[LSpinKernel$Task;", .fieldLink RX4 119 "SpinKernel$Task" "job" "LSpinKernel$Job;", .fieldLink RX4 258 "SpinKernel$Job" "state" "I"] ++ wsX40 ++ wsX30 ++ wsX00)
def wsX4_mostUrgentOn : List Cond := .code yX4_mostUrgentOn cX4_mostUrgentOn 5 (some .int) :: ([.fieldLink RX4 11 "SpinKernel" "tasks" "[LSpinKernel$Task;", .fieldLink RX4 119 "SpinKernel$Task" "job" "LSpinKernel$Job;", .fieldLink RX4 187 "SpinKernel$Job" "isOpen" "Z", .fieldLink RX4 207 "SpinKernel$Task" "priority" "I", .methodLink RX4 203 yX3_isOn, .instanceMethod yX3_isOn, .selects RX3 yX3_isOn yX3_isOn, .initialized RX3, .code yX3_isOn cX3_isOn 2 (some .boolean), .fieldLink RX3 25 "SpinKernel$Task" "isThere" "Z", .fieldLink RX3 29 "SpinKernel$Task" "core" "I"] ++ wsX40 ++ wsX30 ++ wsX00)
def wsX4_rowOf : List Cond := .code yX4_rowOf cX4_rowOf 2 (some (.object "SpinKernel$Row")) :: ([.fieldLink RX4 17 "SpinKernel" "rows" "[LSpinKernel$Row;", .fieldLink RX4 21 "SpinKernel" "leastOfGroup" "[I"] ++ wsX40)
def wsX4_askIfDue_r1 : List Cond := [Cond.fieldLink RX4 30 "SpinKernel" "taskOfCore" "[I", Cond.fieldLink RX4 11 "SpinKernel" "tasks" "[LSpinKernel$Task;", Cond.fieldLink RX4 220 "SpinKernel$Request" "lock" "I", Cond.methodLink RX4 261 yX3_hasToAsk, Cond.instanceMethod yX3_hasToAsk, Cond.selects RX3 yX3_hasToAsk yX3_hasToAsk, Cond.initialized RX3, Cond.code yX3_hasToAsk cX3_hasToAsk 1 (some .boolean), Cond.fieldLink RX3 20 "SpinKernel$Task" "job" "LSpinKernel$Job;", Cond.fieldLink RX3 98 "SpinKernel$Job" "next" "I", Cond.fieldLink RX3 45 "SpinKernel$Task" "count" "I", Cond.fieldLink RX3 62 "SpinKernel$Request" "after" "I", Cond.fieldLink RX3 108 "SpinKernel$Job" "workDone" "I", Cond.methodLink RX3 104 yX3_nextRequest, Cond.instanceMethod yX3_nextRequest, Cond.selects RX3 yX3_nextRequest yX3_nextRequest, Cond.code yX3_nextRequest cX3_nextRequest 1 (some (.object "SpinKernel$Request")), Cond.fieldLink RX3 11 "SpinKernel$Task" "requests" "[LSpinKernel$Request;", Cond.methodLink RX3 101 Lib.Math.min.name, Cond.static Lib.Math.min.name, Cond.initialized "java/lang/Math", Cond.code Lib.Math.min.name Lib.Math.min.code 2 (some .int), Cond.methodLink RX4 264 yX3_startSpinning, Cond.instanceMethod yX3_startSpinning]
def wsX4_askIfDue_r2 : List Cond := [Cond.selects RX3 yX3_startSpinning yX3_startSpinning, Cond.code yX3_startSpinning cX3_startSpinning 1 none, Cond.fieldLink RX3 111 "SpinKernel$Job" "state" "I", Cond.fieldLink RX3 114 "SpinKernel$Job" "spinning" "I", Cond.methodLink RX4 267 yX3_nextRequest, Cond.methodLink RX4 171 yX4_rowOf, Cond.instanceMethod yX4_rowOf, Cond.selects RX4 yX4_rowOf yX4_rowOf, Cond.initialized RX4, Cond.code yX4_rowOf cX4_rowOf 2 (some (.object "SpinKernel$Row")), Cond.fieldLink RX4 17 "SpinKernel" "rows" "[LSpinKernel$Row;", Cond.fieldLink RX4 21 "SpinKernel" "leastOfGroup" "[I", Cond.methodLink RX4 271 yX2_join, Cond.instanceMethod yX2_join, Cond.selects RX2 yX2_join yX2_join, Cond.initialized RX2, Cond.code yX2_join cX2_join 2 none, Cond.fieldLink RX2 15 "SpinKernel$Row" "size" "I", Cond.fieldLink RX2 9 "SpinKernel$Row" "cores" "[I"]
def wsX4_askIfDue : List Cond := .code yX4_askIfDue cX4_askIfDue 3 none :: ((wsX4_askIfDue_r1 ++ wsX4_askIfDue_r2) ++ wsX40 ++ wsX10 ++ wsX30 ++ wsX00 ++ wsX20)
def wsX4_takeJobs_r1 : List Cond := [Cond.fieldLink RX4 30 "SpinKernel" "taskOfCore" "[I", Cond.methodLink RX4 249 yX4_isHeldFast, Cond.instanceMethod yX4_isHeldFast, Cond.selects RX4 yX4_isHeldFast yX4_isHeldFast, Cond.initialized RX4, Cond.code yX4_isHeldFast cX4_isHeldFast 3 (some .boolean), Cond.fieldLink RX4 11 "SpinKernel" "tasks" "[LSpinKernel$Task;", Cond.fieldLink RX4 119 "SpinKernel$Task" "job" "LSpinKernel$Job;", Cond.fieldLink RX4 258 "SpinKernel$Job" "state" "I", Cond.methodLink RX4 252 yX4_mostUrgentOn, Cond.instanceMethod yX4_mostUrgentOn, Cond.selects RX4 yX4_mostUrgentOn yX4_mostUrgentOn, Cond.code yX4_mostUrgentOn cX4_mostUrgentOn 5 (some .int), Cond.fieldLink RX4 187 "SpinKernel$Job" "isOpen" "Z", Cond.fieldLink RX4 207 "SpinKernel$Task" "priority" "I", Cond.methodLink RX4 203 yX3_isOn, Cond.instanceMethod yX3_isOn, Cond.selects RX3 yX3_isOn yX3_isOn, Cond.initialized RX3, Cond.code yX3_isOn cX3_isOn 2 (some .boolean), Cond.fieldLink RX3 25 "SpinKernel$Task" "isThere" "Z", Cond.fieldLink RX3 29 "SpinKernel$Task" "core" "I", Cond.methodLink RX4 255 yX4_askIfDue, Cond.instanceMethod yX4_askIfDue]
def wsX4_takeJobs_r2 : List Cond := [Cond.selects RX4 yX4_askIfDue yX4_askIfDue, Cond.code yX4_askIfDue cX4_askIfDue 3 none, Cond.fieldLink RX4 220 "SpinKernel$Request" "lock" "I", Cond.methodLink RX4 261 yX3_hasToAsk, Cond.instanceMethod yX3_hasToAsk, Cond.selects RX3 yX3_hasToAsk yX3_hasToAsk, Cond.code yX3_hasToAsk cX3_hasToAsk 1 (some .boolean), Cond.fieldLink RX3 20 "SpinKernel$Task" "job" "LSpinKernel$Job;", Cond.fieldLink RX3 98 "SpinKernel$Job" "next" "I", Cond.fieldLink RX3 45 "SpinKernel$Task" "count" "I", Cond.fieldLink RX3 62 "SpinKernel$Request" "after" "I", Cond.fieldLink RX3 108 "SpinKernel$Job" "workDone" "I", Cond.methodLink RX3 104 yX3_nextRequest, Cond.instanceMethod yX3_nextRequest, Cond.selects RX3 yX3_nextRequest yX3_nextRequest, Cond.code yX3_nextRequest cX3_nextRequest 1 (some (.object "SpinKernel$Request")), Cond.fieldLink RX3 11 "SpinKernel$Task" "requests" "[LSpinKernel$Request;", Cond.methodLink RX3 101 Lib.Math.min.name, Cond.static Lib.Math.min.name, Cond.initialized "java/lang/Math", Cond.code Lib.Math.min.name Lib.Math.min.code 2 (some .int), Cond.methodLink RX4 264 yX3_startSpinning, Cond.instanceMethod yX3_startSpinning, Cond.selects RX3 yX3_startSpinning yX3_startSpinning]
def wsX4_takeJobs_r3 : List Cond := [Cond.code yX3_startSpinning cX3_startSpinning 1 none, Cond.fieldLink RX3 111 "SpinKernel$Job" "state" "I", Cond.fieldLink RX3 114 "SpinKernel$Job" "spinning" "I", Cond.methodLink RX4 267 yX3_nextRequest, Cond.methodLink RX4 171 yX4_rowOf, Cond.instanceMethod yX4_rowOf, Cond.selects RX4 yX4_rowOf yX4_rowOf, Cond.code yX4_rowOf cX4_rowOf 2 (some (.object "SpinKernel$Row")), Cond.fieldLink RX4 17 "SpinKernel" "rows" "[LSpinKernel$Row;", Cond.fieldLink RX4 21 "SpinKernel" "leastOfGroup" "[I", Cond.methodLink RX4 271 yX2_join, Cond.instanceMethod yX2_join, Cond.selects RX2 yX2_join yX2_join, Cond.initialized RX2, Cond.code yX2_join cX2_join 2 none, Cond.fieldLink RX2 15 "SpinKernel$Row" "size" "I", Cond.fieldLink RX2 9 "SpinKernel$Row" "cores" "[I"]
def wsX4_takeJobs : List Cond := .code yX4_takeJobs cX4_takeJobs 2 none :: ((wsX4_takeJobs_r1 ++ (wsX4_takeJobs_r2 ++ wsX4_takeJobs_r3)) ++ wsX40 ++ wsX30 ++ wsX00 ++ wsX10 ++ wsX20)
def wsX4_letFirstsHold_r1 : List Cond := [Cond.fieldLink RX4 17 "SpinKernel" "rows" "[LSpinKernel$Row;", Cond.fieldLink RX4 30 "SpinKernel" "taskOfCore" "[I", Cond.fieldLink RX4 11 "SpinKernel" "tasks" "[LSpinKernel$Task;", Cond.fieldLink RX4 119 "SpinKernel$Task" "job" "LSpinKernel$Job;", Cond.fieldLink RX4 258 "SpinKernel$Job" "state" "I", Cond.methodLink RX4 175 yX2_coreAt, Cond.instanceMethod yX2_coreAt, Cond.selects RX2 yX2_coreAt yX2_coreAt, Cond.initialized RX2, Cond.code yX2_coreAt cX2_coreAt 2 (some .int), Cond.fieldLink RX2 15 "SpinKernel$Row" "size" "I", Cond.fieldLink RX2 9 "SpinKernel$Row" "cores" "[I", Cond.methodLink RX4 274 yX3_startHolding, Cond.instanceMethod yX3_startHolding, Cond.selects RX3 yX3_startHolding yX3_startHolding, Cond.initialized RX3, Cond.code yX3_startHolding cX3_startHolding 1 none, Cond.fieldLink RX3 20 "SpinKernel$Task" "job" "LSpinKernel$Job;", Cond.fieldLink RX3 111 "SpinKernel$Job" "state" "I", Cond.fieldLink RX3 120 "SpinKernel$Request" "ticksOfJob" "I", Cond.fieldLink RX3 123 "SpinKernel$Job" "sectionLeft" "I", Cond.methodLink RX3 104 yX3_nextRequest, Cond.instanceMethod yX3_nextRequest, Cond.selects RX3 yX3_nextRequest yX3_nextRequest]
def wsX4_letFirstsHold_r2 : List Cond := [Cond.code yX3_nextRequest cX3_nextRequest 1 (some (.object "SpinKernel$Request")), Cond.fieldLink RX3 11 "SpinKernel$Task" "requests" "[LSpinKernel$Request;", Cond.fieldLink RX3 98 "SpinKernel$Job" "next" "I", Cond.methodLink RX3 101 Lib.Math.min.name, Cond.static Lib.Math.min.name, Cond.initialized "java/lang/Math", Cond.code Lib.Math.min.name Lib.Math.min.code 2 (some .int)]
def wsX4_letFirstsHold : List Cond := .code yX4_letFirstsHold cX4_letFirstsHold 7 none :: ((wsX4_letFirstsHold_r1 ++ wsX4_letFirstsHold_r2) ++ wsX40 ++ wsX30 ++ wsX00 ++ wsX20 ++ wsX10)
def wsX4_ticksAlike_r1 : List Cond := [Cond.constant RX4 147 (100000), Cond.fieldLink RX4 30 "SpinKernel" "taskOfCore" "[I", Cond.fieldLink RX4 11 "SpinKernel" "tasks" "[LSpinKernel$Task;", Cond.fieldLink RX4 119 "SpinKernel$Task" "job" "LSpinKernel$Job;", Cond.fieldLink RX4 258 "SpinKernel$Job" "state" "I", Cond.methodLink RX4 158 Lib.Math.min.name, Cond.static Lib.Math.min.name, Cond.initialized "java/lang/Math", Cond.code Lib.Math.min.name Lib.Math.min.code 2 (some .int), Cond.methodLink RX4 277 yX3_ticksToChange, Cond.instanceMethod yX3_ticksToChange, Cond.selects RX3 yX3_ticksToChange yX3_ticksToChange, Cond.initialized RX3, Cond.code yX3_ticksToChange cX3_ticksToChange 2 (some .int), Cond.fieldLink RX3 20 "SpinKernel$Task" "job" "LSpinKernel$Job;", Cond.fieldLink RX3 111 "SpinKernel$Job" "state" "I", Cond.fieldLink RX3 123 "SpinKernel$Job" "sectionLeft" "I", Cond.fieldLink RX3 98 "SpinKernel$Job" "next" "I", Cond.fieldLink RX3 45 "SpinKernel$Task" "count" "I", Cond.fieldLink RX3 62 "SpinKernel$Request" "after" "I", Cond.fieldLink RX3 42 "SpinKernel$Task" "work" "I", Cond.fieldLink RX3 108 "SpinKernel$Job" "workDone" "I", Cond.methodLink RX3 104 yX3_nextRequest, Cond.instanceMethod yX3_nextRequest]
def wsX4_ticksAlike_r2 : List Cond := [Cond.selects RX3 yX3_nextRequest yX3_nextRequest, Cond.code yX3_nextRequest cX3_nextRequest 1 (some (.object "SpinKernel$Request")), Cond.fieldLink RX3 11 "SpinKernel$Task" "requests" "[LSpinKernel$Request;", Cond.methodLink RX3 101 Lib.Math.min.name]
def wsX4_ticksAlike : List Cond := .code yX4_ticksAlike cX4_ticksAlike 4 (some .int) :: ((wsX4_ticksAlike_r1 ++ wsX4_ticksAlike_r2) ++ wsX40 ++ wsX30 ++ wsX00 ++ wsX10)
def wsX4_holdFor_r1 : List Cond := [Cond.fieldLink RX4 119 "SpinKernel$Task" "job" "LSpinKernel$Job;", Cond.fieldLink RX4 300 "SpinKernel$Job" "sectionLeft" "I", Cond.fieldLink RX4 220 "SpinKernel$Request" "lock" "I", Cond.methodLink RX4 267 yX3_nextRequest, Cond.instanceMethod yX3_nextRequest, Cond.selects RX3 yX3_nextRequest yX3_nextRequest, Cond.initialized RX3, Cond.code yX3_nextRequest cX3_nextRequest 1 (some (.object "SpinKernel$Request")), Cond.fieldLink RX3 11 "SpinKernel$Task" "requests" "[LSpinKernel$Request;", Cond.fieldLink RX3 20 "SpinKernel$Task" "job" "LSpinKernel$Job;", Cond.fieldLink RX3 98 "SpinKernel$Job" "next" "I", Cond.methodLink RX3 101 Lib.Math.min.name, Cond.static Lib.Math.min.name, Cond.initialized "java/lang/Math", Cond.code Lib.Math.min.name Lib.Math.min.code 2 (some .int), Cond.methodLink RX4 171 yX4_rowOf, Cond.instanceMethod yX4_rowOf, Cond.selects RX4 yX4_rowOf yX4_rowOf, Cond.initialized RX4, Cond.code yX4_rowOf cX4_rowOf 2 (some (.object "SpinKernel$Row")), Cond.fieldLink RX4 17 "SpinKernel" "rows" "[LSpinKernel$Row;", Cond.fieldLink RX4 21 "SpinKernel" "leastOfGroup" "[I", Cond.methodLink RX4 303 yX2_dropFirst, Cond.instanceMethod yX2_dropFirst]
def wsX4_holdFor_r2 : List Cond := [Cond.selects RX2 yX2_dropFirst yX2_dropFirst, Cond.initialized RX2, Cond.code yX2_dropFirst cX2_dropFirst 2 none, Cond.fieldLink RX2 15 "SpinKernel$Row" "size" "I", Cond.fieldLink RX2 9 "SpinKernel$Row" "cores" "[I", Cond.methodLink RX2 19 Lib.Math.max.name, Cond.static Lib.Math.max.name, Cond.code Lib.Math.max.name Lib.Math.max.code 2 (some .int), Cond.methodLink RX4 306 yX3_leaveSection, Cond.instanceMethod yX3_leaveSection, Cond.selects RX3 yX3_leaveSection yX3_leaveSection, Cond.code yX3_leaveSection cX3_leaveSection 1 none, Cond.fieldLink RX3 111 "SpinKernel$Job" "state" "I", Cond.methodLink RX3 81 yX3_outerFrom, Cond.instanceMethod yX3_outerFrom, Cond.selects RX3 yX3_outerFrom yX3_outerFrom, Cond.code yX3_outerFrom cX3_outerFrom 3 (some .int), Cond.fieldLink RX3 45 "SpinKernel$Task" "count" "I", Cond.methodLink RX3 48 yX1_isOuter, Cond.instanceMethod yX1_isOuter, Cond.selects RX1 yX1_isOuter yX1_isOuter, Cond.initialized RX1, Cond.code yX1_isOuter cX1_isOuter 1 (some .boolean), Cond.fieldLink RX1 21 "SpinKernel$Request" "in" "I"]
def wsX4_holdFor : List Cond := .code yX4_holdFor cX4_holdFor 3 none :: ((wsX4_holdFor_r1 ++ wsX4_holdFor_r2) ++ wsX30 ++ wsX00 ++ wsX10 ++ wsX40 ++ wsX20)
def wsX4_workOnJob_r1 : List Cond := [Cond.fieldLink RX4 119 "SpinKernel$Task" "job" "LSpinKernel$Job;", Cond.fieldLink RX4 258 "SpinKernel$Job" "state" "I", Cond.fieldLink RX4 287 "SpinKernel$Job" "workDone" "I", Cond.fieldLink RX4 113 "SpinKernel" "now" "I", Cond.methodLink RX4 284 yX3_spinFor, Cond.instanceMethod yX3_spinFor, Cond.selects RX3 yX3_spinFor yX3_spinFor, Cond.initialized RX3, Cond.code yX3_spinFor cX3_spinFor 3 none, Cond.fieldLink RX3 20 "SpinKernel$Task" "job" "LSpinKernel$Job;", Cond.fieldLink RX3 114 "SpinKernel$Job" "spinning" "I", Cond.fieldLink RX3 117 "SpinKernel$Request" "mostSpun" "I", Cond.methodLink RX3 72 Lib.Math.max.name, Cond.static Lib.Math.max.name, Cond.initialized "java/lang/Math", Cond.code Lib.Math.max.name Lib.Math.max.code 2 (some .int), Cond.methodLink RX3 104 yX3_nextRequest, Cond.instanceMethod yX3_nextRequest, Cond.selects RX3 yX3_nextRequest yX3_nextRequest, Cond.code yX3_nextRequest cX3_nextRequest 1 (some (.object "SpinKernel$Request")), Cond.fieldLink RX3 11 "SpinKernel$Task" "requests" "[LSpinKernel$Request;", Cond.fieldLink RX3 98 "SpinKernel$Job" "next" "I", Cond.methodLink RX3 101 Lib.Math.min.name, Cond.static Lib.Math.min.name]
def wsX4_workOnJob_r2 : List Cond := [Cond.code Lib.Math.min.name Lib.Math.min.code 2 (some .int), Cond.methodLink RX4 290 yX4_holdFor, Cond.instanceMethod yX4_holdFor, Cond.selects RX4 yX4_holdFor yX4_holdFor, Cond.initialized RX4, Cond.code yX4_holdFor cX4_holdFor 3 none, Cond.fieldLink RX4 300 "SpinKernel$Job" "sectionLeft" "I", Cond.fieldLink RX4 220 "SpinKernel$Request" "lock" "I", Cond.methodLink RX4 267 yX3_nextRequest, Cond.methodLink RX4 171 yX4_rowOf, Cond.instanceMethod yX4_rowOf, Cond.selects RX4 yX4_rowOf yX4_rowOf, Cond.code yX4_rowOf cX4_rowOf 2 (some (.object "SpinKernel$Row")), Cond.fieldLink RX4 17 "SpinKernel" "rows" "[LSpinKernel$Row;", Cond.fieldLink RX4 21 "SpinKernel" "leastOfGroup" "[I", Cond.methodLink RX4 303 yX2_dropFirst, Cond.instanceMethod yX2_dropFirst, Cond.selects RX2 yX2_dropFirst yX2_dropFirst, Cond.initialized RX2, Cond.code yX2_dropFirst cX2_dropFirst 2 none, Cond.fieldLink RX2 15 "SpinKernel$Row" "size" "I", Cond.fieldLink RX2 9 "SpinKernel$Row" "cores" "[I", Cond.methodLink RX2 19 Lib.Math.max.name, Cond.methodLink RX4 306 yX3_leaveSection]
def wsX4_workOnJob_r3 : List Cond := [Cond.instanceMethod yX3_leaveSection, Cond.selects RX3 yX3_leaveSection yX3_leaveSection, Cond.code yX3_leaveSection cX3_leaveSection 1 none, Cond.fieldLink RX3 111 "SpinKernel$Job" "state" "I", Cond.methodLink RX3 81 yX3_outerFrom, Cond.instanceMethod yX3_outerFrom, Cond.selects RX3 yX3_outerFrom yX3_outerFrom, Cond.code yX3_outerFrom cX3_outerFrom 3 (some .int), Cond.fieldLink RX3 45 "SpinKernel$Task" "count" "I", Cond.methodLink RX3 48 yX1_isOuter, Cond.instanceMethod yX1_isOuter, Cond.selects RX1 yX1_isOuter yX1_isOuter, Cond.initialized RX1, Cond.code yX1_isOuter cX1_isOuter 1 (some .boolean), Cond.fieldLink RX1 21 "SpinKernel$Request" "in" "I", Cond.methodLink RX4 294 yX3_isAllDone, Cond.instanceMethod yX3_isAllDone, Cond.selects RX3 yX3_isAllDone yX3_isAllDone, Cond.code yX3_isAllDone cX3_isAllDone 1 (some .boolean), Cond.fieldLink RX3 108 "SpinKernel$Job" "workDone" "I", Cond.fieldLink RX3 42 "SpinKernel$Task" "work" "I", Cond.methodLink RX4 297 yX3_endJob, Cond.instanceMethod yX3_endJob, Cond.selects RX3 yX3_endJob yX3_endJob]
def wsX4_workOnJob_r4 : List Cond := [Cond.code yX3_endJob cX3_endJob 2 none, Cond.fieldLink RX3 39 "SpinKernel$Task" "deadline" "I", Cond.methodLink RX3 89 yX0_end, Cond.instanceMethod yX0_end, Cond.selects RX0 yX0_end yX0_end, Cond.initialized RX0, Cond.code yX0_end cX0_end 3 none, Cond.fieldLink RX0 19 "SpinKernel$Job" "isOpen" "Z", Cond.fieldLink RX0 31 "SpinKernel$Job" "ended" "I", Cond.fieldLink RX0 22 "SpinKernel$Job" "cameAt" "I", Cond.fieldLink RX0 34 "SpinKernel$Job" "latestResponse" "I", Cond.fieldLink RX0 37 "SpinKernel$Job" "greatestResponse" "I", Cond.methodLink RX0 40 Lib.Math.max.name, Cond.fieldLink RX0 46 "SpinKernel$Job" "endedLate" "I"]
def wsX4_workOnJob : List Cond := .code yX4_workOnJob cX4_workOnJob 3 (some .boolean) :: ((wsX4_workOnJob_r1 ++ (wsX4_workOnJob_r2 ++ (wsX4_workOnJob_r3 ++ wsX4_workOnJob_r4))) ++ wsX30 ++ wsX00 ++ wsX40 ++ wsX10 ++ wsX20)
def wsX4_workOn_r1 : List Cond := [Cond.fieldLink RX4 30 "SpinKernel" "taskOfCore" "[I", Cond.fieldLink RX4 33 "SpinKernel" "deedOfCore" "[I", Cond.fieldLink RX4 11 "SpinKernel" "tasks" "[LSpinKernel$Task;", Cond.fieldLink RX4 119 "SpinKernel$Task" "job" "LSpinKernel$Job;", Cond.fieldLink RX4 258 "SpinKernel$Job" "state" "I", Cond.methodLink RX4 280 yX4_workOnJob, Cond.instanceMethod yX4_workOnJob, Cond.selects RX4 yX4_workOnJob yX4_workOnJob, Cond.initialized RX4, Cond.code yX4_workOnJob cX4_workOnJob 3 (some .boolean), Cond.fieldLink RX4 287 "SpinKernel$Job" "workDone" "I", Cond.fieldLink RX4 113 "SpinKernel" "now" "I", Cond.methodLink RX4 284 yX3_spinFor, Cond.instanceMethod yX3_spinFor, Cond.selects RX3 yX3_spinFor yX3_spinFor, Cond.initialized RX3, Cond.code yX3_spinFor cX3_spinFor 3 none, Cond.fieldLink RX3 20 "SpinKernel$Task" "job" "LSpinKernel$Job;", Cond.fieldLink RX3 114 "SpinKernel$Job" "spinning" "I", Cond.fieldLink RX3 117 "SpinKernel$Request" "mostSpun" "I", Cond.methodLink RX3 72 Lib.Math.max.name, Cond.static Lib.Math.max.name, Cond.initialized "java/lang/Math", Cond.code Lib.Math.max.name Lib.Math.max.code 2 (some .int)]
def wsX4_workOn_r2 : List Cond := [Cond.methodLink RX3 104 yX3_nextRequest, Cond.instanceMethod yX3_nextRequest, Cond.selects RX3 yX3_nextRequest yX3_nextRequest, Cond.code yX3_nextRequest cX3_nextRequest 1 (some (.object "SpinKernel$Request")), Cond.fieldLink RX3 11 "SpinKernel$Task" "requests" "[LSpinKernel$Request;", Cond.fieldLink RX3 98 "SpinKernel$Job" "next" "I", Cond.methodLink RX3 101 Lib.Math.min.name, Cond.static Lib.Math.min.name, Cond.code Lib.Math.min.name Lib.Math.min.code 2 (some .int), Cond.methodLink RX4 290 yX4_holdFor, Cond.instanceMethod yX4_holdFor, Cond.selects RX4 yX4_holdFor yX4_holdFor, Cond.code yX4_holdFor cX4_holdFor 3 none, Cond.fieldLink RX4 300 "SpinKernel$Job" "sectionLeft" "I", Cond.fieldLink RX4 220 "SpinKernel$Request" "lock" "I", Cond.methodLink RX4 267 yX3_nextRequest, Cond.methodLink RX4 171 yX4_rowOf, Cond.instanceMethod yX4_rowOf, Cond.selects RX4 yX4_rowOf yX4_rowOf, Cond.code yX4_rowOf cX4_rowOf 2 (some (.object "SpinKernel$Row")), Cond.fieldLink RX4 17 "SpinKernel" "rows" "[LSpinKernel$Row;", Cond.fieldLink RX4 21 "SpinKernel" "leastOfGroup" "[I", Cond.methodLink RX4 303 yX2_dropFirst, Cond.instanceMethod yX2_dropFirst]
def wsX4_workOn_r3 : List Cond := [Cond.selects RX2 yX2_dropFirst yX2_dropFirst, Cond.initialized RX2, Cond.code yX2_dropFirst cX2_dropFirst 2 none, Cond.fieldLink RX2 15 "SpinKernel$Row" "size" "I", Cond.fieldLink RX2 9 "SpinKernel$Row" "cores" "[I", Cond.methodLink RX2 19 Lib.Math.max.name, Cond.methodLink RX4 306 yX3_leaveSection, Cond.instanceMethod yX3_leaveSection, Cond.selects RX3 yX3_leaveSection yX3_leaveSection, Cond.code yX3_leaveSection cX3_leaveSection 1 none, Cond.fieldLink RX3 111 "SpinKernel$Job" "state" "I", Cond.methodLink RX3 81 yX3_outerFrom, Cond.instanceMethod yX3_outerFrom, Cond.selects RX3 yX3_outerFrom yX3_outerFrom, Cond.code yX3_outerFrom cX3_outerFrom 3 (some .int), Cond.fieldLink RX3 45 "SpinKernel$Task" "count" "I", Cond.methodLink RX3 48 yX1_isOuter, Cond.instanceMethod yX1_isOuter, Cond.selects RX1 yX1_isOuter yX1_isOuter, Cond.initialized RX1, Cond.code yX1_isOuter cX1_isOuter 1 (some .boolean), Cond.fieldLink RX1 21 "SpinKernel$Request" "in" "I", Cond.methodLink RX4 294 yX3_isAllDone, Cond.instanceMethod yX3_isAllDone]
def wsX4_workOn_r4 : List Cond := [Cond.selects RX3 yX3_isAllDone yX3_isAllDone, Cond.code yX3_isAllDone cX3_isAllDone 1 (some .boolean), Cond.fieldLink RX3 108 "SpinKernel$Job" "workDone" "I", Cond.fieldLink RX3 42 "SpinKernel$Task" "work" "I", Cond.methodLink RX4 297 yX3_endJob, Cond.instanceMethod yX3_endJob, Cond.selects RX3 yX3_endJob yX3_endJob, Cond.code yX3_endJob cX3_endJob 2 none, Cond.fieldLink RX3 39 "SpinKernel$Task" "deadline" "I", Cond.methodLink RX3 89 yX0_end, Cond.instanceMethod yX0_end, Cond.selects RX0 yX0_end yX0_end, Cond.initialized RX0, Cond.code yX0_end cX0_end 3 none, Cond.fieldLink RX0 19 "SpinKernel$Job" "isOpen" "Z", Cond.fieldLink RX0 31 "SpinKernel$Job" "ended" "I", Cond.fieldLink RX0 22 "SpinKernel$Job" "cameAt" "I", Cond.fieldLink RX0 34 "SpinKernel$Job" "latestResponse" "I", Cond.fieldLink RX0 37 "SpinKernel$Job" "greatestResponse" "I", Cond.methodLink RX0 40 Lib.Math.max.name, Cond.fieldLink RX0 46 "SpinKernel$Job" "endedLate" "I"]
def wsX4_workOn : List Cond := .code yX4_workOn cX4_workOn 5 (some .int) :: ((wsX4_workOn_r1 ++ (wsX4_workOn_r2 ++ (wsX4_workOn_r3 ++ wsX4_workOn_r4))) ++ wsX40 ++ wsX30 ++ wsX00 ++ wsX10 ++ wsX20)
def wsX4_tick_r1 : List Cond := [Cond.classLink RX4 58 "java/lang/IllegalStateException", Cond.initialized "java/lang/IllegalStateException", Cond.classLink RX4 65 "java/lang/IllegalArgumentException", Cond.initialized "java/lang/IllegalArgumentException", Cond.fieldLink RX4 51 "SpinKernel" "sealed" "Z", Cond.constant RX4 147 (100000), Cond.methodLink RX4 158 Lib.Math.min.name, Cond.static Lib.Math.min.name, Cond.initialized "java/lang/Math", Cond.code Lib.Math.min.name Lib.Math.min.code 2 (some .int), Cond.methodLink RX4 164 Lib.Math.max.name, Cond.static Lib.Math.max.name, Cond.code Lib.Math.max.name Lib.Math.max.code 2 (some .int), Cond.fieldLink RX4 113 "SpinKernel" "now" "I", Cond.methodLink RX4 44 yX4_isWithin, Cond.static yX4_isWithin, Cond.initialized RX4, Cond.code yX4_isWithin cX4_isWithin 3 (some .boolean), Cond.methodLink RX4 148 yX4_takeJobs, Cond.instanceMethod yX4_takeJobs, Cond.selects RX4 yX4_takeJobs yX4_takeJobs, Cond.code yX4_takeJobs cX4_takeJobs 2 none, Cond.fieldLink RX4 30 "SpinKernel" "taskOfCore" "[I", Cond.methodLink RX4 249 yX4_isHeldFast]
def wsX4_tick_r2 : List Cond := [Cond.instanceMethod yX4_isHeldFast, Cond.selects RX4 yX4_isHeldFast yX4_isHeldFast, Cond.code yX4_isHeldFast cX4_isHeldFast 3 (some .boolean), Cond.fieldLink RX4 11 "SpinKernel" "tasks" "[LSpinKernel$Task;", Cond.fieldLink RX4 119 "SpinKernel$Task" "job" "LSpinKernel$Job;", Cond.fieldLink RX4 258 "SpinKernel$Job" "state" "I", Cond.methodLink RX4 252 yX4_mostUrgentOn, Cond.instanceMethod yX4_mostUrgentOn, Cond.selects RX4 yX4_mostUrgentOn yX4_mostUrgentOn, Cond.code yX4_mostUrgentOn cX4_mostUrgentOn 5 (some .int), Cond.fieldLink RX4 187 "SpinKernel$Job" "isOpen" "Z", Cond.fieldLink RX4 207 "SpinKernel$Task" "priority" "I", Cond.methodLink RX4 203 yX3_isOn, Cond.instanceMethod yX3_isOn, Cond.selects RX3 yX3_isOn yX3_isOn, Cond.initialized RX3, Cond.code yX3_isOn cX3_isOn 2 (some .boolean), Cond.fieldLink RX3 25 "SpinKernel$Task" "isThere" "Z", Cond.fieldLink RX3 29 "SpinKernel$Task" "core" "I", Cond.methodLink RX4 255 yX4_askIfDue, Cond.instanceMethod yX4_askIfDue, Cond.selects RX4 yX4_askIfDue yX4_askIfDue, Cond.code yX4_askIfDue cX4_askIfDue 3 none, Cond.fieldLink RX4 220 "SpinKernel$Request" "lock" "I"]
def wsX4_tick_r3 : List Cond := [Cond.methodLink RX4 261 yX3_hasToAsk, Cond.instanceMethod yX3_hasToAsk, Cond.selects RX3 yX3_hasToAsk yX3_hasToAsk, Cond.code yX3_hasToAsk cX3_hasToAsk 1 (some .boolean), Cond.fieldLink RX3 20 "SpinKernel$Task" "job" "LSpinKernel$Job;", Cond.fieldLink RX3 98 "SpinKernel$Job" "next" "I", Cond.fieldLink RX3 45 "SpinKernel$Task" "count" "I", Cond.fieldLink RX3 62 "SpinKernel$Request" "after" "I", Cond.fieldLink RX3 108 "SpinKernel$Job" "workDone" "I", Cond.methodLink RX3 104 yX3_nextRequest, Cond.instanceMethod yX3_nextRequest, Cond.selects RX3 yX3_nextRequest yX3_nextRequest, Cond.code yX3_nextRequest cX3_nextRequest 1 (some (.object "SpinKernel$Request")), Cond.fieldLink RX3 11 "SpinKernel$Task" "requests" "[LSpinKernel$Request;", Cond.methodLink RX3 101 Lib.Math.min.name, Cond.methodLink RX4 264 yX3_startSpinning, Cond.instanceMethod yX3_startSpinning, Cond.selects RX3 yX3_startSpinning yX3_startSpinning, Cond.code yX3_startSpinning cX3_startSpinning 1 none, Cond.fieldLink RX3 111 "SpinKernel$Job" "state" "I", Cond.fieldLink RX3 114 "SpinKernel$Job" "spinning" "I", Cond.methodLink RX4 267 yX3_nextRequest, Cond.methodLink RX4 171 yX4_rowOf, Cond.instanceMethod yX4_rowOf]
def wsX4_tick_r4 : List Cond := [Cond.selects RX4 yX4_rowOf yX4_rowOf, Cond.code yX4_rowOf cX4_rowOf 2 (some (.object "SpinKernel$Row")), Cond.fieldLink RX4 17 "SpinKernel" "rows" "[LSpinKernel$Row;", Cond.fieldLink RX4 21 "SpinKernel" "leastOfGroup" "[I", Cond.methodLink RX4 271 yX2_join, Cond.instanceMethod yX2_join, Cond.selects RX2 yX2_join yX2_join, Cond.initialized RX2, Cond.code yX2_join cX2_join 2 none, Cond.fieldLink RX2 15 "SpinKernel$Row" "size" "I", Cond.fieldLink RX2 9 "SpinKernel$Row" "cores" "[I", Cond.methodLink RX4 151 yX4_letFirstsHold, Cond.instanceMethod yX4_letFirstsHold, Cond.selects RX4 yX4_letFirstsHold yX4_letFirstsHold, Cond.code yX4_letFirstsHold cX4_letFirstsHold 7 none, Cond.methodLink RX4 175 yX2_coreAt, Cond.instanceMethod yX2_coreAt, Cond.selects RX2 yX2_coreAt yX2_coreAt, Cond.code yX2_coreAt cX2_coreAt 2 (some .int), Cond.methodLink RX4 274 yX3_startHolding, Cond.instanceMethod yX3_startHolding, Cond.selects RX3 yX3_startHolding yX3_startHolding, Cond.code yX3_startHolding cX3_startHolding 1 none, Cond.fieldLink RX3 120 "SpinKernel$Request" "ticksOfJob" "I"]
def wsX4_tick_r5 : List Cond := [Cond.fieldLink RX3 123 "SpinKernel$Job" "sectionLeft" "I", Cond.methodLink RX4 154 yX4_ticksAlike, Cond.instanceMethod yX4_ticksAlike, Cond.selects RX4 yX4_ticksAlike yX4_ticksAlike, Cond.code yX4_ticksAlike cX4_ticksAlike 4 (some .int), Cond.methodLink RX4 277 yX3_ticksToChange, Cond.instanceMethod yX3_ticksToChange, Cond.selects RX3 yX3_ticksToChange yX3_ticksToChange, Cond.code yX3_ticksToChange cX3_ticksToChange 2 (some .int), Cond.fieldLink RX3 42 "SpinKernel$Task" "work" "I", Cond.methodLink RX4 167 yX4_workOn, Cond.instanceMethod yX4_workOn, Cond.selects RX4 yX4_workOn yX4_workOn, Cond.code yX4_workOn cX4_workOn 5 (some .int), Cond.fieldLink RX4 33 "SpinKernel" "deedOfCore" "[I", Cond.methodLink RX4 280 yX4_workOnJob, Cond.instanceMethod yX4_workOnJob, Cond.selects RX4 yX4_workOnJob yX4_workOnJob, Cond.code yX4_workOnJob cX4_workOnJob 3 (some .boolean), Cond.fieldLink RX4 287 "SpinKernel$Job" "workDone" "I", Cond.methodLink RX4 284 yX3_spinFor, Cond.instanceMethod yX3_spinFor, Cond.selects RX3 yX3_spinFor yX3_spinFor, Cond.code yX3_spinFor cX3_spinFor 3 none]
def wsX4_tick_r6 : List Cond := [Cond.fieldLink RX3 117 "SpinKernel$Request" "mostSpun" "I", Cond.methodLink RX3 72 Lib.Math.max.name, Cond.methodLink RX4 290 yX4_holdFor, Cond.instanceMethod yX4_holdFor, Cond.selects RX4 yX4_holdFor yX4_holdFor, Cond.code yX4_holdFor cX4_holdFor 3 none, Cond.fieldLink RX4 300 "SpinKernel$Job" "sectionLeft" "I", Cond.methodLink RX4 303 yX2_dropFirst, Cond.instanceMethod yX2_dropFirst, Cond.selects RX2 yX2_dropFirst yX2_dropFirst, Cond.code yX2_dropFirst cX2_dropFirst 2 none, Cond.methodLink RX2 19 Lib.Math.max.name, Cond.methodLink RX4 306 yX3_leaveSection, Cond.instanceMethod yX3_leaveSection, Cond.selects RX3 yX3_leaveSection yX3_leaveSection, Cond.code yX3_leaveSection cX3_leaveSection 1 none, Cond.methodLink RX3 81 yX3_outerFrom, Cond.instanceMethod yX3_outerFrom, Cond.selects RX3 yX3_outerFrom yX3_outerFrom, Cond.code yX3_outerFrom cX3_outerFrom 3 (some .int), Cond.methodLink RX3 48 yX1_isOuter, Cond.instanceMethod yX1_isOuter, Cond.selects RX1 yX1_isOuter yX1_isOuter, Cond.initialized RX1]
def wsX4_tick_r7 : List Cond := [Cond.code yX1_isOuter cX1_isOuter 1 (some .boolean), Cond.fieldLink RX1 21 "SpinKernel$Request" "in" "I", Cond.methodLink RX4 294 yX3_isAllDone, Cond.instanceMethod yX3_isAllDone, Cond.selects RX3 yX3_isAllDone yX3_isAllDone, Cond.code yX3_isAllDone cX3_isAllDone 1 (some .boolean), Cond.methodLink RX4 297 yX3_endJob, Cond.instanceMethod yX3_endJob, Cond.selects RX3 yX3_endJob yX3_endJob, Cond.code yX3_endJob cX3_endJob 2 none, Cond.fieldLink RX3 39 "SpinKernel$Task" "deadline" "I", Cond.methodLink RX3 89 yX0_end, Cond.instanceMethod yX0_end, Cond.selects RX0 yX0_end yX0_end, Cond.initialized RX0, Cond.code yX0_end cX0_end 3 none, Cond.fieldLink RX0 19 "SpinKernel$Job" "isOpen" "Z", Cond.fieldLink RX0 31 "SpinKernel$Job" "ended" "I", Cond.fieldLink RX0 22 "SpinKernel$Job" "cameAt" "I", Cond.fieldLink RX0 34 "SpinKernel$Job" "latestResponse" "I", Cond.fieldLink RX0 37 "SpinKernel$Job" "greatestResponse" "I", Cond.methodLink RX0 40 Lib.Math.max.name, Cond.fieldLink RX0 46 "SpinKernel$Job" "endedLate" "I"]
def wsX4_tick : List Cond := .code yX4_tick cX4_tick 5 (some .int) :: ((wsX4_tick_r1 ++ (wsX4_tick_r2 ++ (wsX4_tick_r3 ++ (wsX4_tick_r4 ++ (wsX4_tick_r5 ++ (wsX4_tick_r6 ++ wsX4_tick_r7)))))) ++ wsX40 ++ wsX30 ++ wsX00 ++ wsX10 ++ wsX20 ++ (vx_at0 RX4 60 "java/lang/IllegalStateException" ["java/lang/RuntimeException", "java/lang/Exception"]).filter goodWord ++ (vx_at0 RX4 67 "java/lang/IllegalArgumentException" ["java/lang/RuntimeException", "java/lang/Exception"]).filter goodWord)
def wsX4_core : List Cond := .code yX4_core cX4_core 3 (some .int) :: ([.classLink RX4 48 "java/lang/IndexOutOfBoundsException", .initialized "java/lang/IndexOutOfBoundsException", .classLink RX4 65 "java/lang/IllegalArgumentException", .initialized "java/lang/IllegalArgumentException", .fieldLink RX4 30 "SpinKernel" "taskOfCore" "[I", .fieldLink RX4 33 "SpinKernel" "deedOfCore" "[I", .methodLink RX4 44 yX4_isWithin, .static yX4_isWithin, .initialized RX4, .code yX4_isWithin cX4_isWithin 3 (some .boolean)] ++ wsX40 ++ (vx_at0 RX4 50 "java/lang/IndexOutOfBoundsException" ["java/lang/RuntimeException", "java/lang/Exception"]).filter goodWord ++ (vx_at0 RX4 67 "java/lang/IllegalArgumentException" ["java/lang/RuntimeException", "java/lang/Exception"]).filter goodWord)
def wsX4_row : List Cond := .code yX4_row cX4_row 3 (some .int) :: ([.classLink RX4 48 "java/lang/IndexOutOfBoundsException", .initialized "java/lang/IndexOutOfBoundsException", .methodLink RX4 44 yX4_isWithin, .static yX4_isWithin, .initialized RX4, .code yX4_isWithin cX4_isWithin 3 (some .boolean), .methodLink RX4 171 yX4_rowOf, .instanceMethod yX4_rowOf, .selects RX4 yX4_rowOf yX4_rowOf, .code yX4_rowOf cX4_rowOf 2 (some (.object "SpinKernel$Row")), .fieldLink RX4 17 "SpinKernel" "rows" "[LSpinKernel$Row;", .fieldLink RX4 21 "SpinKernel" "leastOfGroup" "[I", .methodLink RX4 175 yX2_coreAt, .instanceMethod yX2_coreAt, .selects RX2 yX2_coreAt yX2_coreAt, .initialized RX2, .code yX2_coreAt cX2_coreAt 2 (some .int), .fieldLink RX2 15 "SpinKernel$Row" "size" "I", .fieldLink RX2 9 "SpinKernel$Row" "cores" "[I"] ++ wsX40 ++ wsX20 ++ (vx_at0 RX4 50 "java/lang/IndexOutOfBoundsException" ["java/lang/RuntimeException", "java/lang/Exception"]).filter goodWord)
def wsX4_jobs : List Cond := .code yX4_jobs cX4_jobs 4 (some .int) :: ([.classLink RX4 65 "java/lang/IllegalArgumentException", .initialized "java/lang/IllegalArgumentException", .fieldLink RX4 119 "SpinKernel$Task" "job" "LSpinKernel$Job;", .fieldLink RX4 178 "SpinKernel$Job" "ended" "I", .fieldLink RX4 181 "SpinKernel$Job" "greatestResponse" "I", .fieldLink RX4 184 "SpinKernel$Job" "latestResponse" "I", .fieldLink RX4 187 "SpinKernel$Job" "isOpen" "Z", .methodLink RX4 75 yX4_taskAt, .instanceMethod yX4_taskAt, .selects RX4 yX4_taskAt yX4_taskAt, .initialized RX4, .code yX4_taskAt cX4_taskAt 2 (some (.object "SpinKernel$Task")), .classLink RX4 48 "java/lang/IndexOutOfBoundsException", .initialized "java/lang/IndexOutOfBoundsException", .fieldLink RX4 11 "SpinKernel" "tasks" "[LSpinKernel$Task;", .fieldLink RX4 55 "SpinKernel$Task" "isThere" "Z", .methodLink RX4 44 yX4_isWithin, .static yX4_isWithin, .code yX4_isWithin cX4_isWithin 3 (some .boolean)] ++ wsX30 ++ wsX00 ++ wsX40 ++ (vx_at0 RX4 67 "java/lang/IllegalArgumentException" ["java/lang/RuntimeException", "java/lang/Exception"]).filter goodWord ++ (vx_at0 RX4 50 "java/lang/IndexOutOfBoundsException" ["java/lang/RuntimeException", "java/lang/Exception"]).filter goodWord)
def wsX4_spun : List Cond := .code yX4_spun cX4_spun 3 (some .int) :: ([.fieldLink RX4 190 "SpinKernel$Request" "mostSpun" "I", .methodLink RX4 75 yX4_taskAt, .instanceMethod yX4_taskAt, .selects RX4 yX4_taskAt yX4_taskAt, .initialized RX4, .code yX4_taskAt cX4_taskAt 2 (some (.object "SpinKernel$Task")), .classLink RX4 48 "java/lang/IndexOutOfBoundsException", .initialized "java/lang/IndexOutOfBoundsException", .fieldLink RX4 11 "SpinKernel" "tasks" "[LSpinKernel$Task;", .fieldLink RX4 55 "SpinKernel$Task" "isThere" "Z", .methodLink RX4 44 yX4_isWithin, .static yX4_isWithin, .code yX4_isWithin cX4_isWithin 3 (some .boolean), .methodLink RX4 90 yX4_requestAt, .static yX4_requestAt, .code yX4_requestAt cX4_requestAt 2 (some (.object "SpinKernel$Request")), .fieldLink RX4 79 "SpinKernel$Task" "count" "I", .fieldLink RX4 199 "SpinKernel$Task" "requests" "[LSpinKernel$Request;"] ++ wsX10 ++ wsX40 ++ wsX30 ++ (vx_at0 RX4 50 "java/lang/IndexOutOfBoundsException" ["java/lang/RuntimeException", "java/lang/Exception"]).filter goodWord)
def wsX4_late : List Cond := .code yX4_late cX4_late 6 (some .int) :: ([.fieldLink RX4 11 "SpinKernel" "tasks" "[LSpinKernel$Task;", .fieldLink RX4 119 "SpinKernel$Task" "job" "LSpinKernel$Job;", .fieldLink RX4 193 "SpinKernel$Job" "endedLate" "I", .fieldLink RX4 187 "SpinKernel$Job" "isOpen" "Z", .fieldLink RX4 113 "SpinKernel" "now" "I", .fieldLink RX4 128 "SpinKernel$Job" "cameAt" "I", .fieldLink RX4 196 "SpinKernel$Task" "deadline" "I"] ++ wsX40 ++ wsX30 ++ wsX00)
def wsX5_forget : List Cond := .code yX5_forget cX5_forget 2 none :: ([.fieldLink RX5 158 "SpinKernelModel" "now" "I", .fieldLink RX5 161 "SpinKernelModel" "behind" "I", .fieldLink RX5 43 "SpinKernelModel" "open" "[Z", .fieldLink RX5 47 "SpinKernelModel" "came" "[Z", .fieldLink RX5 71 "SpinKernelModel" "ended" "[I", .fieldLink RX5 74 "SpinKernelModel" "greatest" "[I", .fieldLink RX5 77 "SpinKernelModel" "latest" "[I", .fieldLink RX5 80 "SpinKernelModel" "spuns" "[I", .fieldLink RX5 68 "SpinKernelModel" "coming" "[I", .fieldLink RX5 34 "SpinKernelModel" "lengths" "[I", .fieldLink RX5 83 "SpinKernelModel" "at" "[I", .fieldLink RX5 86 "SpinKernelModel" "state" "[I", .fieldLink RX5 89 "SpinKernelModel" "lastTask" "[I", .fieldLink RX5 92 "SpinKernelModel" "lastState" "[I", .fieldLink RX5 98 "SpinKernelModel" "many" "[I"] ++ wsX50)
def wsX5_init_r1 : List Cond := [Cond.methodLink RX5 1 objectInit, Cond.instanceMethod objectInit, Cond.code objectInit ⟨#[0xb1]⟩ 1 none, Cond.arrayClass .int, Cond.fieldLink RX5 7 "SpinKernelModel" "cores" "[I", Cond.fieldLink RX5 13 "SpinKernelModel" "priorities" "[I", Cond.fieldLink RX5 16 "SpinKernelModel" "distances" "[I", Cond.fieldLink RX5 19 "SpinKernelModel" "deadlines" "[I", Cond.fieldLink RX5 22 "SpinKernelModel" "works" "[I", Cond.fieldLink RX5 25 "SpinKernelModel" "counts" "[I", Cond.fieldLink RX5 28 "SpinKernelModel" "afters" "[I", Cond.fieldLink RX5 31 "SpinKernelModel" "locks" "[I", Cond.fieldLink RX5 34 "SpinKernelModel" "lengths" "[I", Cond.fieldLink RX5 37 "SpinKernelModel" "ins" "[I", Cond.fieldLink RX5 40 "SpinKernelModel" "groups" "[I", Cond.arrayClass .boolean, Cond.fieldLink RX5 43 "SpinKernelModel" "open" "[Z", Cond.fieldLink RX5 47 "SpinKernelModel" "came" "[Z", Cond.fieldLink RX5 50 "SpinKernelModel" "times" "[I", Cond.fieldLink RX5 53 "SpinKernelModel" "done" "[I", Cond.fieldLink RX5 56 "SpinKernelModel" "nexts" "[I", Cond.fieldLink RX5 59 "SpinKernelModel" "left" "[I", Cond.fieldLink RX5 62 "SpinKernelModel" "spinning" "[I", Cond.fieldLink RX5 65 "SpinKernelModel" "mine" "[I"]
def wsX5_init_r2 : List Cond := [Cond.fieldLink RX5 68 "SpinKernelModel" "coming" "[I", Cond.fieldLink RX5 71 "SpinKernelModel" "ended" "[I", Cond.fieldLink RX5 74 "SpinKernelModel" "greatest" "[I", Cond.fieldLink RX5 77 "SpinKernelModel" "latest" "[I", Cond.fieldLink RX5 80 "SpinKernelModel" "spuns" "[I", Cond.fieldLink RX5 83 "SpinKernelModel" "at" "[I", Cond.fieldLink RX5 86 "SpinKernelModel" "state" "[I", Cond.fieldLink RX5 89 "SpinKernelModel" "lastTask" "[I", Cond.fieldLink RX5 92 "SpinKernelModel" "lastState" "[I", Cond.fieldLink RX5 95 "SpinKernelModel" "rows" "[I", Cond.fieldLink RX5 98 "SpinKernelModel" "many" "[I", Cond.methodLink RX5 101 yX5_forget, Cond.instanceMethod yX5_forget, Cond.selects RX5 yX5_forget yX5_forget, Cond.initialized RX5, Cond.code yX5_forget cX5_forget 2 none, Cond.fieldLink RX5 158 "SpinKernelModel" "now" "I", Cond.fieldLink RX5 161 "SpinKernelModel" "behind" "I"]
def wsX5_init : List Cond := .code yX5_init cX5_init 2 none :: ((wsX5_init_r1 ++ wsX5_init_r2) ++ wsX50)
def wsX5_thrown : List Cond := .code yX5_thrown cX5_thrown 1 (some .int) :: ([.fieldLink RX5 104 "SpinKernelModel" "thrown" "I"] ++ wsX50)
def wsX5_refused : List Cond := .code yX5_refused cX5_refused 4 (some .boolean) :: ([.fieldLink RX5 104 "SpinKernelModel" "thrown" "I"] ++ wsX50)
def wsX5_isTask : List Cond := .code yX5_isTask cX5_isTask 2 (some .boolean) :: ([.fieldLink RX5 7 "SpinKernelModel" "cores" "[I"] ++ wsX50)
def wsX5_isRequest : List Cond := .code yX5_isRequest cX5_isRequest 3 (some .boolean) :: ([.fieldLink RX5 25 "SpinKernelModel" "counts" "[I", .methodLink RX5 108 yX5_isTask, .instanceMethod yX5_isTask, .selects RX5 yX5_isTask yX5_isTask, .initialized RX5, .code yX5_isTask cX5_isTask 2 (some .boolean), .fieldLink RX5 7 "SpinKernelModel" "cores" "[I"] ++ wsX50)
def wsX5_within : List Cond := .code yX5_within cX5_within 3 (some .boolean) :: ([])
def wsX5_hasPriority : List Cond := .code yX5_hasPriority cX5_hasPriority 4 (some .boolean) :: ([.fieldLink RX5 7 "SpinKernelModel" "cores" "[I", .fieldLink RX5 13 "SpinKernelModel" "priorities" "[I"] ++ wsX50)
def wsX5_task : List Cond := .code yX5_task cX5_task 10 none :: ([.fieldLink RX5 116 "SpinKernelModel" "sealed" "Z", .fieldLink RX5 7 "SpinKernelModel" "cores" "[I", .fieldLink RX5 13 "SpinKernelModel" "priorities" "[I", .fieldLink RX5 16 "SpinKernelModel" "distances" "[I", .fieldLink RX5 19 "SpinKernelModel" "deadlines" "[I", .fieldLink RX5 22 "SpinKernelModel" "works" "[I", .fieldLink RX5 25 "SpinKernelModel" "counts" "[I", .methodLink RX5 112 yX5_within, .static yX5_within, .initialized RX5, .code yX5_within cX5_within 3 (some .boolean), .methodLink RX5 120 yX5_hasPriority, .instanceMethod yX5_hasPriority, .selects RX5 yX5_hasPriority yX5_hasPriority, .code yX5_hasPriority cX5_hasPriority 4 (some .boolean), .methodLink RX5 124 yX5_refused, .instanceMethod yX5_refused, .selects RX5 yX5_refused yX5_refused, .code yX5_refused cX5_refused 4 (some .boolean), .fieldLink RX5 104 "SpinKernelModel" "thrown" "I"] ++ wsX50)
def wsX5_outerBefore : List Cond := .code yX5_outerBefore cX5_outerBefore 3 (some .int) :: ([.fieldLink RX5 25 "SpinKernelModel" "counts" "[I", .fieldLink RX5 37 "SpinKernelModel" "ins" "[I"] ++ wsX50)
def wsX5_mayBe : List Cond := .code yX5_mayBe cX5_mayBe 7 (some .boolean) :: ([.fieldLink RX5 22 "SpinKernelModel" "works" "[I", .fieldLink RX5 28 "SpinKernelModel" "afters" "[I", .fieldLink RX5 37 "SpinKernelModel" "ins" "[I", .fieldLink RX5 34 "SpinKernelModel" "lengths" "[I", .methodLink RX5 112 yX5_within, .static yX5_within, .initialized RX5, .code yX5_within cX5_within 3 (some .boolean), .methodLink RX5 128 yX5_outerBefore, .instanceMethod yX5_outerBefore, .selects RX5 yX5_outerBefore yX5_outerBefore, .code yX5_outerBefore cX5_outerBefore 3 (some .int), .fieldLink RX5 25 "SpinKernelModel" "counts" "[I", .methodLink RX5 132 yX5_isRequest, .instanceMethod yX5_isRequest, .selects RX5 yX5_isRequest yX5_isRequest, .code yX5_isRequest cX5_isRequest 3 (some .boolean), .methodLink RX5 108 yX5_isTask, .instanceMethod yX5_isTask, .selects RX5 yX5_isTask yX5_isTask, .code yX5_isTask cX5_isTask 2 (some .boolean), .fieldLink RX5 7 "SpinKernelModel" "cores" "[I"] ++ wsX50)
def wsX5_request_r1 : List Cond := [Cond.fieldLink RX5 116 "SpinKernelModel" "sealed" "Z", Cond.fieldLink RX5 25 "SpinKernelModel" "counts" "[I", Cond.fieldLink RX5 28 "SpinKernelModel" "afters" "[I", Cond.fieldLink RX5 31 "SpinKernelModel" "locks" "[I", Cond.fieldLink RX5 34 "SpinKernelModel" "lengths" "[I", Cond.fieldLink RX5 37 "SpinKernelModel" "ins" "[I", Cond.fieldLink RX5 68 "SpinKernelModel" "coming" "[I", Cond.methodLink RX5 108 yX5_isTask, Cond.instanceMethod yX5_isTask, Cond.selects RX5 yX5_isTask yX5_isTask, Cond.initialized RX5, Cond.code yX5_isTask cX5_isTask 2 (some .boolean), Cond.fieldLink RX5 7 "SpinKernelModel" "cores" "[I", Cond.methodLink RX5 135 yX5_mayBe, Cond.instanceMethod yX5_mayBe, Cond.selects RX5 yX5_mayBe yX5_mayBe, Cond.code yX5_mayBe cX5_mayBe 7 (some .boolean), Cond.fieldLink RX5 22 "SpinKernelModel" "works" "[I", Cond.methodLink RX5 112 yX5_within, Cond.static yX5_within, Cond.code yX5_within cX5_within 3 (some .boolean), Cond.methodLink RX5 128 yX5_outerBefore, Cond.instanceMethod yX5_outerBefore, Cond.selects RX5 yX5_outerBefore yX5_outerBefore]
def wsX5_request_r2 : List Cond := [Cond.code yX5_outerBefore cX5_outerBefore 3 (some .int), Cond.methodLink RX5 132 yX5_isRequest, Cond.instanceMethod yX5_isRequest, Cond.selects RX5 yX5_isRequest yX5_isRequest, Cond.code yX5_isRequest cX5_isRequest 3 (some .boolean), Cond.methodLink RX5 124 yX5_refused, Cond.instanceMethod yX5_refused, Cond.selects RX5 yX5_refused yX5_refused, Cond.code yX5_refused cX5_refused 4 (some .boolean), Cond.fieldLink RX5 104 "SpinKernelModel" "thrown" "I"]
def wsX5_request : List Cond := .code yX5_request cX5_request 9 (some .int) :: ((wsX5_request_r1 ++ wsX5_request_r2) ++ wsX50)
def wsX5_take : List Cond := .code yX5_take cX5_take 2 none :: ([.fieldLink RX5 116 "SpinKernelModel" "sealed" "Z", .fieldLink RX5 7 "SpinKernelModel" "cores" "[I", .fieldLink RX5 25 "SpinKernelModel" "counts" "[I", .methodLink RX5 108 yX5_isTask, .instanceMethod yX5_isTask, .selects RX5 yX5_isTask yX5_isTask, .initialized RX5, .code yX5_isTask cX5_isTask 2 (some .boolean), .methodLink RX5 124 yX5_refused, .instanceMethod yX5_refused, .selects RX5 yX5_refused yX5_refused, .code yX5_refused cX5_refused 4 (some .boolean), .fieldLink RX5 104 "SpinKernelModel" "thrown" "I"] ++ wsX50)
def wsX5_findGroups : List Cond := .code yX5_findGroups cX5_findGroups 8 none :: ([.fieldLink RX5 40 "SpinKernelModel" "groups" "[I", .fieldLink RX5 25 "SpinKernelModel" "counts" "[I", .fieldLink RX5 37 "SpinKernelModel" "ins" "[I", .fieldLink RX5 31 "SpinKernelModel" "locks" "[I"] ++ wsX50)
def wsX5_group : List Cond := .code yX5_group cX5_group 2 (some .int) :: ([.fieldLink RX5 40 "SpinKernelModel" "groups" "[I", .methodLink RX5 112 yX5_within, .static yX5_within, .initialized RX5, .code yX5_within cX5_within 3 (some .boolean), .methodLink RX5 124 yX5_refused, .instanceMethod yX5_refused, .selects RX5 yX5_refused yX5_refused, .code yX5_refused cX5_refused 4 (some .boolean), .fieldLink RX5 104 "SpinKernelModel" "thrown" "I", .methodLink RX5 139 yX5_findGroups, .instanceMethod yX5_findGroups, .selects RX5 yX5_findGroups yX5_findGroups, .code yX5_findGroups cX5_findGroups 8 none, .fieldLink RX5 25 "SpinKernelModel" "counts" "[I", .fieldLink RX5 37 "SpinKernelModel" "ins" "[I", .fieldLink RX5 31 "SpinKernelModel" "locks" "[I"] ++ wsX50)
def wsX5_isOuter : List Cond := .code yX5_isOuter cX5_isOuter 3 (some .boolean) :: ([.fieldLink RX5 37 "SpinKernelModel" "ins" "[I"] ++ wsX50)
def wsX5_spinOf : List Cond := .code yX5_spinOf cX5_spinOf 9 (some .int) :: ([.fieldLink RX5 25 "SpinKernelModel" "counts" "[I", .fieldLink RX5 7 "SpinKernelModel" "cores" "[I", .fieldLink RX5 40 "SpinKernelModel" "groups" "[I", .fieldLink RX5 31 "SpinKernelModel" "locks" "[I", .fieldLink RX5 34 "SpinKernelModel" "lengths" "[I", .methodLink RX5 142 yX5_isOuter, .instanceMethod yX5_isOuter, .selects RX5 yX5_isOuter yX5_isOuter, .initialized RX5, .code yX5_isOuter cX5_isOuter 3 (some .boolean), .fieldLink RX5 37 "SpinKernelModel" "ins" "[I"] ++ wsX50)
def wsX5_spin_r1 : List Cond := [Cond.methodLink RX5 132 yX5_isRequest, Cond.instanceMethod yX5_isRequest, Cond.selects RX5 yX5_isRequest yX5_isRequest, Cond.initialized RX5, Cond.code yX5_isRequest cX5_isRequest 3 (some .boolean), Cond.fieldLink RX5 25 "SpinKernelModel" "counts" "[I", Cond.methodLink RX5 108 yX5_isTask, Cond.instanceMethod yX5_isTask, Cond.selects RX5 yX5_isTask yX5_isTask, Cond.code yX5_isTask cX5_isTask 2 (some .boolean), Cond.fieldLink RX5 7 "SpinKernelModel" "cores" "[I", Cond.methodLink RX5 124 yX5_refused, Cond.instanceMethod yX5_refused, Cond.selects RX5 yX5_refused yX5_refused, Cond.code yX5_refused cX5_refused 4 (some .boolean), Cond.fieldLink RX5 104 "SpinKernelModel" "thrown" "I", Cond.methodLink RX5 139 yX5_findGroups, Cond.instanceMethod yX5_findGroups, Cond.selects RX5 yX5_findGroups yX5_findGroups, Cond.code yX5_findGroups cX5_findGroups 8 none, Cond.fieldLink RX5 40 "SpinKernelModel" "groups" "[I", Cond.fieldLink RX5 37 "SpinKernelModel" "ins" "[I", Cond.fieldLink RX5 31 "SpinKernelModel" "locks" "[I", Cond.methodLink RX5 142 yX5_isOuter]
def wsX5_spin_r2 : List Cond := [Cond.instanceMethod yX5_isOuter, Cond.selects RX5 yX5_isOuter yX5_isOuter, Cond.code yX5_isOuter cX5_isOuter 3 (some .boolean), Cond.methodLink RX5 145 yX5_spinOf, Cond.instanceMethod yX5_spinOf, Cond.selects RX5 yX5_spinOf yX5_spinOf, Cond.code yX5_spinOf cX5_spinOf 9 (some .int), Cond.fieldLink RX5 34 "SpinKernelModel" "lengths" "[I"]
def wsX5_spin : List Cond := .code yX5_spin cX5_spin 3 (some .int) :: ((wsX5_spin_r1 ++ wsX5_spin_r2) ++ wsX50)
def wsX5_inflated : List Cond := .code yX5_inflated cX5_inflated 4 (some .int) :: ([.fieldLink RX5 22 "SpinKernelModel" "works" "[I", .fieldLink RX5 25 "SpinKernelModel" "counts" "[I", .fieldLink RX5 34 "SpinKernelModel" "lengths" "[I", .methodLink RX5 142 yX5_isOuter, .instanceMethod yX5_isOuter, .selects RX5 yX5_isOuter yX5_isOuter, .initialized RX5, .code yX5_isOuter cX5_isOuter 3 (some .boolean), .fieldLink RX5 37 "SpinKernelModel" "ins" "[I", .methodLink RX5 145 yX5_spinOf, .instanceMethod yX5_spinOf, .selects RX5 yX5_spinOf yX5_spinOf, .code yX5_spinOf cX5_spinOf 9 (some .int), .fieldLink RX5 7 "SpinKernelModel" "cores" "[I", .fieldLink RX5 40 "SpinKernelModel" "groups" "[I", .fieldLink RX5 31 "SpinKernelModel" "locks" "[I"] ++ wsX50)
def wsX5_blocking : List Cond := .code yX5_blocking cX5_blocking 6 (some .int) :: ([.fieldLink RX5 25 "SpinKernelModel" "counts" "[I", .fieldLink RX5 7 "SpinKernelModel" "cores" "[I", .fieldLink RX5 13 "SpinKernelModel" "priorities" "[I", .fieldLink RX5 34 "SpinKernelModel" "lengths" "[I", .methodLink RX5 142 yX5_isOuter, .instanceMethod yX5_isOuter, .selects RX5 yX5_isOuter yX5_isOuter, .initialized RX5, .code yX5_isOuter cX5_isOuter 3 (some .boolean), .fieldLink RX5 37 "SpinKernelModel" "ins" "[I", .methodLink RX5 145 yX5_spinOf, .instanceMethod yX5_spinOf, .selects RX5 yX5_spinOf yX5_spinOf, .code yX5_spinOf cX5_spinOf 9 (some .int), .fieldLink RX5 40 "SpinKernelModel" "groups" "[I", .fieldLink RX5 31 "SpinKernelModel" "locks" "[I"] ++ wsX50)
def wsX5_responseOf_r1 : List Cond := [Cond.fieldLink RX5 19 "SpinKernelModel" "deadlines" "[I", Cond.fieldLink RX5 7 "SpinKernelModel" "cores" "[I", Cond.fieldLink RX5 13 "SpinKernelModel" "priorities" "[I", Cond.fieldLink RX5 16 "SpinKernelModel" "distances" "[I", Cond.methodLink RX5 149 yX5_inflated, Cond.instanceMethod yX5_inflated, Cond.selects RX5 yX5_inflated yX5_inflated, Cond.initialized RX5, Cond.code yX5_inflated cX5_inflated 4 (some .int), Cond.fieldLink RX5 22 "SpinKernelModel" "works" "[I", Cond.fieldLink RX5 25 "SpinKernelModel" "counts" "[I", Cond.fieldLink RX5 34 "SpinKernelModel" "lengths" "[I", Cond.methodLink RX5 142 yX5_isOuter, Cond.instanceMethod yX5_isOuter, Cond.selects RX5 yX5_isOuter yX5_isOuter, Cond.code yX5_isOuter cX5_isOuter 3 (some .boolean), Cond.fieldLink RX5 37 "SpinKernelModel" "ins" "[I", Cond.methodLink RX5 145 yX5_spinOf, Cond.instanceMethod yX5_spinOf, Cond.selects RX5 yX5_spinOf yX5_spinOf, Cond.code yX5_spinOf cX5_spinOf 9 (some .int), Cond.fieldLink RX5 40 "SpinKernelModel" "groups" "[I", Cond.fieldLink RX5 31 "SpinKernelModel" "locks" "[I", Cond.methodLink RX5 152 yX5_blocking]
def wsX5_responseOf_r2 : List Cond := [Cond.instanceMethod yX5_blocking, Cond.selects RX5 yX5_blocking yX5_blocking, Cond.code yX5_blocking cX5_blocking 6 (some .int)]
def wsX5_responseOf : List Cond := .code yX5_responseOf cX5_responseOf 7 (some .int) :: ((wsX5_responseOf_r1 ++ wsX5_responseOf_r2) ++ wsX50)
def wsX5_bound_r1 : List Cond := [Cond.methodLink RX5 108 yX5_isTask, Cond.instanceMethod yX5_isTask, Cond.selects RX5 yX5_isTask yX5_isTask, Cond.initialized RX5, Cond.code yX5_isTask cX5_isTask 2 (some .boolean), Cond.fieldLink RX5 7 "SpinKernelModel" "cores" "[I", Cond.methodLink RX5 112 yX5_within, Cond.static yX5_within, Cond.code yX5_within cX5_within 3 (some .boolean), Cond.methodLink RX5 124 yX5_refused, Cond.instanceMethod yX5_refused, Cond.selects RX5 yX5_refused yX5_refused, Cond.code yX5_refused cX5_refused 4 (some .boolean), Cond.fieldLink RX5 104 "SpinKernelModel" "thrown" "I", Cond.methodLink RX5 139 yX5_findGroups, Cond.instanceMethod yX5_findGroups, Cond.selects RX5 yX5_findGroups yX5_findGroups, Cond.code yX5_findGroups cX5_findGroups 8 none, Cond.fieldLink RX5 40 "SpinKernelModel" "groups" "[I", Cond.fieldLink RX5 25 "SpinKernelModel" "counts" "[I", Cond.fieldLink RX5 37 "SpinKernelModel" "ins" "[I", Cond.fieldLink RX5 31 "SpinKernelModel" "locks" "[I", Cond.methodLink RX5 149 yX5_inflated, Cond.instanceMethod yX5_inflated]
def wsX5_bound_r2 : List Cond := [Cond.selects RX5 yX5_inflated yX5_inflated, Cond.code yX5_inflated cX5_inflated 4 (some .int), Cond.fieldLink RX5 22 "SpinKernelModel" "works" "[I", Cond.fieldLink RX5 34 "SpinKernelModel" "lengths" "[I", Cond.methodLink RX5 142 yX5_isOuter, Cond.instanceMethod yX5_isOuter, Cond.selects RX5 yX5_isOuter yX5_isOuter, Cond.code yX5_isOuter cX5_isOuter 3 (some .boolean), Cond.methodLink RX5 145 yX5_spinOf, Cond.instanceMethod yX5_spinOf, Cond.selects RX5 yX5_spinOf yX5_spinOf, Cond.code yX5_spinOf cX5_spinOf 9 (some .int), Cond.methodLink RX5 152 yX5_blocking, Cond.instanceMethod yX5_blocking, Cond.selects RX5 yX5_blocking yX5_blocking, Cond.code yX5_blocking cX5_blocking 6 (some .int), Cond.fieldLink RX5 13 "SpinKernelModel" "priorities" "[I", Cond.methodLink RX5 155 yX5_responseOf, Cond.instanceMethod yX5_responseOf, Cond.selects RX5 yX5_responseOf yX5_responseOf, Cond.code yX5_responseOf cX5_responseOf 7 (some .int), Cond.fieldLink RX5 19 "SpinKernelModel" "deadlines" "[I", Cond.fieldLink RX5 16 "SpinKernelModel" "distances" "[I"]
def wsX5_bound : List Cond := .code yX5_bound cX5_bound 3 (some .int) :: ((wsX5_bound_r1 ++ wsX5_bound_r2) ++ wsX50)
def wsX5_seal_r1 : List Cond := [Cond.fieldLink RX5 116 "SpinKernelModel" "sealed" "Z", Cond.fieldLink RX5 7 "SpinKernelModel" "cores" "[I", Cond.methodLink RX5 124 yX5_refused, Cond.instanceMethod yX5_refused, Cond.selects RX5 yX5_refused yX5_refused, Cond.initialized RX5, Cond.code yX5_refused cX5_refused 4 (some .boolean), Cond.fieldLink RX5 104 "SpinKernelModel" "thrown" "I", Cond.methodLink RX5 139 yX5_findGroups, Cond.instanceMethod yX5_findGroups, Cond.selects RX5 yX5_findGroups yX5_findGroups, Cond.code yX5_findGroups cX5_findGroups 8 none, Cond.fieldLink RX5 40 "SpinKernelModel" "groups" "[I", Cond.fieldLink RX5 25 "SpinKernelModel" "counts" "[I", Cond.fieldLink RX5 37 "SpinKernelModel" "ins" "[I", Cond.fieldLink RX5 31 "SpinKernelModel" "locks" "[I", Cond.methodLink RX5 155 yX5_responseOf, Cond.instanceMethod yX5_responseOf, Cond.selects RX5 yX5_responseOf yX5_responseOf, Cond.code yX5_responseOf cX5_responseOf 7 (some .int), Cond.fieldLink RX5 19 "SpinKernelModel" "deadlines" "[I", Cond.fieldLink RX5 13 "SpinKernelModel" "priorities" "[I", Cond.fieldLink RX5 16 "SpinKernelModel" "distances" "[I", Cond.methodLink RX5 149 yX5_inflated]
def wsX5_seal_r2 : List Cond := [Cond.instanceMethod yX5_inflated, Cond.selects RX5 yX5_inflated yX5_inflated, Cond.code yX5_inflated cX5_inflated 4 (some .int), Cond.fieldLink RX5 22 "SpinKernelModel" "works" "[I", Cond.fieldLink RX5 34 "SpinKernelModel" "lengths" "[I", Cond.methodLink RX5 142 yX5_isOuter, Cond.instanceMethod yX5_isOuter, Cond.selects RX5 yX5_isOuter yX5_isOuter, Cond.code yX5_isOuter cX5_isOuter 3 (some .boolean), Cond.methodLink RX5 145 yX5_spinOf, Cond.instanceMethod yX5_spinOf, Cond.selects RX5 yX5_spinOf yX5_spinOf, Cond.code yX5_spinOf cX5_spinOf 9 (some .int), Cond.methodLink RX5 152 yX5_blocking, Cond.instanceMethod yX5_blocking, Cond.selects RX5 yX5_blocking yX5_blocking, Cond.code yX5_blocking cX5_blocking 6 (some .int), Cond.methodLink RX5 101 yX5_forget, Cond.instanceMethod yX5_forget, Cond.selects RX5 yX5_forget yX5_forget, Cond.code yX5_forget cX5_forget 2 none, Cond.fieldLink RX5 158 "SpinKernelModel" "now" "I", Cond.fieldLink RX5 161 "SpinKernelModel" "behind" "I", Cond.fieldLink RX5 43 "SpinKernelModel" "open" "[Z"]
def wsX5_seal_r3 : List Cond := [Cond.fieldLink RX5 47 "SpinKernelModel" "came" "[Z", Cond.fieldLink RX5 71 "SpinKernelModel" "ended" "[I", Cond.fieldLink RX5 74 "SpinKernelModel" "greatest" "[I", Cond.fieldLink RX5 77 "SpinKernelModel" "latest" "[I", Cond.fieldLink RX5 80 "SpinKernelModel" "spuns" "[I", Cond.fieldLink RX5 68 "SpinKernelModel" "coming" "[I", Cond.fieldLink RX5 83 "SpinKernelModel" "at" "[I", Cond.fieldLink RX5 86 "SpinKernelModel" "state" "[I", Cond.fieldLink RX5 89 "SpinKernelModel" "lastTask" "[I", Cond.fieldLink RX5 92 "SpinKernelModel" "lastState" "[I", Cond.fieldLink RX5 98 "SpinKernelModel" "many" "[I"]
def wsX5_seal : List Cond := .code yX5_seal cX5_seal 2 (some .int) :: ((wsX5_seal_r1 ++ (wsX5_seal_r2 ++ wsX5_seal_r3)) ++ wsX50)
def wsX5_hasOpen : List Cond := .code yX5_hasOpen cX5_hasOpen 3 (some .boolean) :: ([.fieldLink RX5 43 "SpinKernelModel" "open" "[Z"] ++ wsX50)
def wsX5_unseal_r1 : List Cond := [Cond.fieldLink RX5 116 "SpinKernelModel" "sealed" "Z", Cond.methodLink RX5 164 yX5_hasOpen, Cond.instanceMethod yX5_hasOpen, Cond.selects RX5 yX5_hasOpen yX5_hasOpen, Cond.initialized RX5, Cond.code yX5_hasOpen cX5_hasOpen 3 (some .boolean), Cond.fieldLink RX5 43 "SpinKernelModel" "open" "[Z", Cond.methodLink RX5 124 yX5_refused, Cond.instanceMethod yX5_refused, Cond.selects RX5 yX5_refused yX5_refused, Cond.code yX5_refused cX5_refused 4 (some .boolean), Cond.fieldLink RX5 104 "SpinKernelModel" "thrown" "I", Cond.methodLink RX5 101 yX5_forget, Cond.instanceMethod yX5_forget, Cond.selects RX5 yX5_forget yX5_forget, Cond.code yX5_forget cX5_forget 2 none, Cond.fieldLink RX5 158 "SpinKernelModel" "now" "I", Cond.fieldLink RX5 161 "SpinKernelModel" "behind" "I", Cond.fieldLink RX5 47 "SpinKernelModel" "came" "[Z", Cond.fieldLink RX5 71 "SpinKernelModel" "ended" "[I", Cond.fieldLink RX5 74 "SpinKernelModel" "greatest" "[I", Cond.fieldLink RX5 77 "SpinKernelModel" "latest" "[I", Cond.fieldLink RX5 80 "SpinKernelModel" "spuns" "[I", Cond.fieldLink RX5 68 "SpinKernelModel" "coming" "[I"]
def wsX5_unseal_r2 : List Cond := [Cond.fieldLink RX5 34 "SpinKernelModel" "lengths" "[I", Cond.fieldLink RX5 83 "SpinKernelModel" "at" "[I", Cond.fieldLink RX5 86 "SpinKernelModel" "state" "[I", Cond.fieldLink RX5 89 "SpinKernelModel" "lastTask" "[I", Cond.fieldLink RX5 92 "SpinKernelModel" "lastState" "[I", Cond.fieldLink RX5 98 "SpinKernelModel" "many" "[I"]
def wsX5_unseal : List Cond := .code yX5_unseal cX5_unseal 1 none :: ((wsX5_unseal_r1 ++ wsX5_unseal_r2) ++ wsX50)
def wsX5_goToNext : List Cond := .code yX5_goToNext cX5_goToNext 3 none :: ([.fieldLink RX5 56 "SpinKernelModel" "nexts" "[I", .fieldLink RX5 25 "SpinKernelModel" "counts" "[I", .methodLink RX5 142 yX5_isOuter, .instanceMethod yX5_isOuter, .selects RX5 yX5_isOuter yX5_isOuter, .initialized RX5, .code yX5_isOuter cX5_isOuter 3 (some .boolean), .fieldLink RX5 37 "SpinKernelModel" "ins" "[I"] ++ wsX50)
def wsX5_arrive_r1 : List Cond := [Cond.fieldLink RX5 116 "SpinKernelModel" "sealed" "Z", Cond.fieldLink RX5 47 "SpinKernelModel" "came" "[Z", Cond.fieldLink RX5 158 "SpinKernelModel" "now" "I", Cond.fieldLink RX5 50 "SpinKernelModel" "times" "[I", Cond.fieldLink RX5 16 "SpinKernelModel" "distances" "[I", Cond.fieldLink RX5 43 "SpinKernelModel" "open" "[Z", Cond.fieldLink RX5 53 "SpinKernelModel" "done" "[I", Cond.fieldLink RX5 56 "SpinKernelModel" "nexts" "[I", Cond.fieldLink RX5 25 "SpinKernelModel" "counts" "[I", Cond.fieldLink RX5 65 "SpinKernelModel" "mine" "[I", Cond.fieldLink RX5 68 "SpinKernelModel" "coming" "[I", Cond.fieldLink RX5 34 "SpinKernelModel" "lengths" "[I", Cond.methodLink RX5 108 yX5_isTask, Cond.instanceMethod yX5_isTask, Cond.selects RX5 yX5_isTask yX5_isTask, Cond.initialized RX5, Cond.code yX5_isTask cX5_isTask 2 (some .boolean), Cond.fieldLink RX5 7 "SpinKernelModel" "cores" "[I", Cond.methodLink RX5 124 yX5_refused, Cond.instanceMethod yX5_refused, Cond.selects RX5 yX5_refused yX5_refused, Cond.code yX5_refused cX5_refused 4 (some .boolean), Cond.fieldLink RX5 104 "SpinKernelModel" "thrown" "I", Cond.methodLink RX5 168 yX5_goToNext]
def wsX5_arrive_r2 : List Cond := [Cond.instanceMethod yX5_goToNext, Cond.selects RX5 yX5_goToNext yX5_goToNext, Cond.code yX5_goToNext cX5_goToNext 3 none, Cond.methodLink RX5 142 yX5_isOuter, Cond.instanceMethod yX5_isOuter, Cond.selects RX5 yX5_isOuter yX5_isOuter, Cond.code yX5_isOuter cX5_isOuter 3 (some .boolean), Cond.fieldLink RX5 37 "SpinKernelModel" "ins" "[I"]
def wsX5_arrive : List Cond := .code yX5_arrive cX5_arrive 3 (some .boolean) :: ((wsX5_arrive_r1 ++ wsX5_arrive_r2) ++ wsX50)
def wsX5_shorten_r1 : List Cond := [Cond.fieldLink RX5 116 "SpinKernelModel" "sealed" "Z", Cond.fieldLink RX5 34 "SpinKernelModel" "lengths" "[I", Cond.fieldLink RX5 68 "SpinKernelModel" "coming" "[I", Cond.methodLink RX5 132 yX5_isRequest, Cond.instanceMethod yX5_isRequest, Cond.selects RX5 yX5_isRequest yX5_isRequest, Cond.initialized RX5, Cond.code yX5_isRequest cX5_isRequest 3 (some .boolean), Cond.fieldLink RX5 25 "SpinKernelModel" "counts" "[I", Cond.methodLink RX5 108 yX5_isTask, Cond.instanceMethod yX5_isTask, Cond.selects RX5 yX5_isTask yX5_isTask, Cond.code yX5_isTask cX5_isTask 2 (some .boolean), Cond.fieldLink RX5 7 "SpinKernelModel" "cores" "[I", Cond.methodLink RX5 142 yX5_isOuter, Cond.instanceMethod yX5_isOuter, Cond.selects RX5 yX5_isOuter yX5_isOuter, Cond.code yX5_isOuter cX5_isOuter 3 (some .boolean), Cond.fieldLink RX5 37 "SpinKernelModel" "ins" "[I", Cond.methodLink RX5 112 yX5_within, Cond.static yX5_within, Cond.code yX5_within cX5_within 3 (some .boolean), Cond.methodLink RX5 124 yX5_refused, Cond.instanceMethod yX5_refused]
def wsX5_shorten_r2 : List Cond := [Cond.selects RX5 yX5_refused yX5_refused, Cond.code yX5_refused cX5_refused 4 (some .boolean), Cond.fieldLink RX5 104 "SpinKernelModel" "thrown" "I"]
def wsX5_shorten : List Cond := .code yX5_shorten cX5_shorten 4 none :: ((wsX5_shorten_r1 ++ wsX5_shorten_r2) ++ wsX50)
def wsX5_groupOf : List Cond := .code yX5_groupOf cX5_groupOf 2 (some .int) :: ([.fieldLink RX5 40 "SpinKernelModel" "groups" "[I", .fieldLink RX5 31 "SpinKernelModel" "locks" "[I", .fieldLink RX5 56 "SpinKernelModel" "nexts" "[I"] ++ wsX50)
def wsX5_choose : List Cond := .code yX5_choose cX5_choose 4 none :: ([.fieldLink RX5 86 "SpinKernelModel" "state" "[I", .fieldLink RX5 83 "SpinKernelModel" "at" "[I", .fieldLink RX5 43 "SpinKernelModel" "open" "[Z", .fieldLink RX5 7 "SpinKernelModel" "cores" "[I", .fieldLink RX5 13 "SpinKernelModel" "priorities" "[I", .fieldLink RX5 56 "SpinKernelModel" "nexts" "[I", .fieldLink RX5 25 "SpinKernelModel" "counts" "[I", .fieldLink RX5 53 "SpinKernelModel" "done" "[I", .fieldLink RX5 28 "SpinKernelModel" "afters" "[I", .fieldLink RX5 95 "SpinKernelModel" "rows" "[I", .fieldLink RX5 98 "SpinKernelModel" "many" "[I", .fieldLink RX5 62 "SpinKernelModel" "spinning" "[I", .fieldLink RX5 59 "SpinKernelModel" "left" "[I", .fieldLink RX5 65 "SpinKernelModel" "mine" "[I", .methodLink RX5 172 yX5_groupOf, .instanceMethod yX5_groupOf, .selects RX5 yX5_groupOf yX5_groupOf, .initialized RX5, .code yX5_groupOf cX5_groupOf 2 (some .int), .fieldLink RX5 40 "SpinKernelModel" "groups" "[I", .fieldLink RX5 31 "SpinKernelModel" "locks" "[I"] ++ wsX50)
def wsX5_leave : List Cond := .code yX5_leave cX5_leave 4 none :: ([.fieldLink RX5 98 "SpinKernelModel" "many" "[I", .fieldLink RX5 95 "SpinKernelModel" "rows" "[I", .fieldLink RX5 86 "SpinKernelModel" "state" "[I"] ++ wsX50)
def wsX5_end : List Cond := .code yX5_end cX5_end 2 none :: ([.fieldLink RX5 43 "SpinKernelModel" "open" "[Z", .fieldLink RX5 71 "SpinKernelModel" "ended" "[I", .fieldLink RX5 77 "SpinKernelModel" "latest" "[I", .fieldLink RX5 158 "SpinKernelModel" "now" "I", .fieldLink RX5 50 "SpinKernelModel" "times" "[I", .fieldLink RX5 74 "SpinKernelModel" "greatest" "[I", .fieldLink RX5 19 "SpinKernelModel" "deadlines" "[I", .fieldLink RX5 161 "SpinKernelModel" "behind" "I"] ++ wsX50)
def wsX5_goOn_r1 : List Cond := [Cond.fieldLink RX5 83 "SpinKernelModel" "at" "[I", Cond.fieldLink RX5 89 "SpinKernelModel" "lastTask" "[I", Cond.fieldLink RX5 92 "SpinKernelModel" "lastState" "[I", Cond.fieldLink RX5 86 "SpinKernelModel" "state" "[I", Cond.fieldLink RX5 53 "SpinKernelModel" "done" "[I", Cond.fieldLink RX5 62 "SpinKernelModel" "spinning" "[I", Cond.fieldLink RX5 56 "SpinKernelModel" "nexts" "[I", Cond.fieldLink RX5 80 "SpinKernelModel" "spuns" "[I", Cond.fieldLink RX5 59 "SpinKernelModel" "left" "[I", Cond.fieldLink RX5 22 "SpinKernelModel" "works" "[I", Cond.fieldLink RX5 25 "SpinKernelModel" "counts" "[I", Cond.methodLink RX5 172 yX5_groupOf, Cond.instanceMethod yX5_groupOf, Cond.selects RX5 yX5_groupOf yX5_groupOf, Cond.initialized RX5, Cond.code yX5_groupOf cX5_groupOf 2 (some .int), Cond.fieldLink RX5 40 "SpinKernelModel" "groups" "[I", Cond.fieldLink RX5 31 "SpinKernelModel" "locks" "[I", Cond.methodLink RX5 175 yX5_leave, Cond.instanceMethod yX5_leave, Cond.selects RX5 yX5_leave yX5_leave, Cond.code yX5_leave cX5_leave 4 none, Cond.fieldLink RX5 98 "SpinKernelModel" "many" "[I", Cond.fieldLink RX5 95 "SpinKernelModel" "rows" "[I"]
def wsX5_goOn_r2 : List Cond := [Cond.methodLink RX5 168 yX5_goToNext, Cond.instanceMethod yX5_goToNext, Cond.selects RX5 yX5_goToNext yX5_goToNext, Cond.code yX5_goToNext cX5_goToNext 3 none, Cond.methodLink RX5 142 yX5_isOuter, Cond.instanceMethod yX5_isOuter, Cond.selects RX5 yX5_isOuter yX5_isOuter, Cond.code yX5_isOuter cX5_isOuter 3 (some .boolean), Cond.fieldLink RX5 37 "SpinKernelModel" "ins" "[I", Cond.methodLink RX5 179 yX5_end, Cond.instanceMethod yX5_end, Cond.selects RX5 yX5_end yX5_end, Cond.code yX5_end cX5_end 2 none, Cond.fieldLink RX5 43 "SpinKernelModel" "open" "[Z", Cond.fieldLink RX5 71 "SpinKernelModel" "ended" "[I", Cond.fieldLink RX5 77 "SpinKernelModel" "latest" "[I", Cond.fieldLink RX5 158 "SpinKernelModel" "now" "I", Cond.fieldLink RX5 50 "SpinKernelModel" "times" "[I", Cond.fieldLink RX5 74 "SpinKernelModel" "greatest" "[I", Cond.fieldLink RX5 19 "SpinKernelModel" "deadlines" "[I", Cond.fieldLink RX5 161 "SpinKernelModel" "behind" "I"]
def wsX5_goOn : List Cond := .code yX5_goOn cX5_goOn 4 (some .int) :: ((wsX5_goOn_r1 ++ wsX5_goOn_r2) ++ wsX50)
def wsX5_tick_r1 : List Cond := [Cond.fieldLink RX5 116 "SpinKernelModel" "sealed" "Z", Cond.constant RX5 182 (100000), Cond.fieldLink RX5 98 "SpinKernelModel" "many" "[I", Cond.fieldLink RX5 86 "SpinKernelModel" "state" "[I", Cond.fieldLink RX5 95 "SpinKernelModel" "rows" "[I", Cond.fieldLink RX5 158 "SpinKernelModel" "now" "I", Cond.fieldLink RX5 89 "SpinKernelModel" "lastTask" "[I", Cond.fieldLink RX5 92 "SpinKernelModel" "lastState" "[I", Cond.fieldLink RX5 83 "SpinKernelModel" "at" "[I", Cond.methodLink RX5 112 yX5_within, Cond.static yX5_within, Cond.initialized RX5, Cond.code yX5_within cX5_within 3 (some .boolean), Cond.methodLink RX5 124 yX5_refused, Cond.instanceMethod yX5_refused, Cond.selects RX5 yX5_refused yX5_refused, Cond.code yX5_refused cX5_refused 4 (some .boolean), Cond.fieldLink RX5 104 "SpinKernelModel" "thrown" "I", Cond.methodLink RX5 183 yX5_choose, Cond.instanceMethod yX5_choose, Cond.selects RX5 yX5_choose yX5_choose, Cond.code yX5_choose cX5_choose 4 none, Cond.fieldLink RX5 43 "SpinKernelModel" "open" "[Z", Cond.fieldLink RX5 7 "SpinKernelModel" "cores" "[I"]
def wsX5_tick_r2 : List Cond := [Cond.fieldLink RX5 13 "SpinKernelModel" "priorities" "[I", Cond.fieldLink RX5 56 "SpinKernelModel" "nexts" "[I", Cond.fieldLink RX5 25 "SpinKernelModel" "counts" "[I", Cond.fieldLink RX5 53 "SpinKernelModel" "done" "[I", Cond.fieldLink RX5 28 "SpinKernelModel" "afters" "[I", Cond.fieldLink RX5 62 "SpinKernelModel" "spinning" "[I", Cond.fieldLink RX5 59 "SpinKernelModel" "left" "[I", Cond.fieldLink RX5 65 "SpinKernelModel" "mine" "[I", Cond.methodLink RX5 172 yX5_groupOf, Cond.instanceMethod yX5_groupOf, Cond.selects RX5 yX5_groupOf yX5_groupOf, Cond.code yX5_groupOf cX5_groupOf 2 (some .int), Cond.fieldLink RX5 40 "SpinKernelModel" "groups" "[I", Cond.fieldLink RX5 31 "SpinKernelModel" "locks" "[I", Cond.methodLink RX5 186 yX5_goOn, Cond.instanceMethod yX5_goOn, Cond.selects RX5 yX5_goOn yX5_goOn, Cond.code yX5_goOn cX5_goOn 4 (some .int), Cond.fieldLink RX5 80 "SpinKernelModel" "spuns" "[I", Cond.fieldLink RX5 22 "SpinKernelModel" "works" "[I", Cond.methodLink RX5 175 yX5_leave, Cond.instanceMethod yX5_leave, Cond.selects RX5 yX5_leave yX5_leave, Cond.code yX5_leave cX5_leave 4 none]
def wsX5_tick_r3 : List Cond := [Cond.methodLink RX5 168 yX5_goToNext, Cond.instanceMethod yX5_goToNext, Cond.selects RX5 yX5_goToNext yX5_goToNext, Cond.code yX5_goToNext cX5_goToNext 3 none, Cond.methodLink RX5 142 yX5_isOuter, Cond.instanceMethod yX5_isOuter, Cond.selects RX5 yX5_isOuter yX5_isOuter, Cond.code yX5_isOuter cX5_isOuter 3 (some .boolean), Cond.fieldLink RX5 37 "SpinKernelModel" "ins" "[I", Cond.methodLink RX5 179 yX5_end, Cond.instanceMethod yX5_end, Cond.selects RX5 yX5_end yX5_end, Cond.code yX5_end cX5_end 2 none, Cond.fieldLink RX5 71 "SpinKernelModel" "ended" "[I", Cond.fieldLink RX5 77 "SpinKernelModel" "latest" "[I", Cond.fieldLink RX5 50 "SpinKernelModel" "times" "[I", Cond.fieldLink RX5 74 "SpinKernelModel" "greatest" "[I", Cond.fieldLink RX5 19 "SpinKernelModel" "deadlines" "[I", Cond.fieldLink RX5 161 "SpinKernelModel" "behind" "I", Cond.methodLink RX5 164 yX5_hasOpen, Cond.instanceMethod yX5_hasOpen, Cond.selects RX5 yX5_hasOpen yX5_hasOpen, Cond.code yX5_hasOpen cX5_hasOpen 3 (some .boolean)]
def wsX5_tick : List Cond := .code yX5_tick cX5_tick 6 (some .int) :: ((wsX5_tick_r1 ++ (wsX5_tick_r2 ++ wsX5_tick_r3)) ++ wsX50)
def wsX5_core : List Cond := .code yX5_core cX5_core 3 (some .int) :: ([.fieldLink RX5 89 "SpinKernelModel" "lastTask" "[I", .fieldLink RX5 92 "SpinKernelModel" "lastState" "[I", .methodLink RX5 112 yX5_within, .static yX5_within, .initialized RX5, .code yX5_within cX5_within 3 (some .boolean), .methodLink RX5 124 yX5_refused, .instanceMethod yX5_refused, .selects RX5 yX5_refused yX5_refused, .code yX5_refused cX5_refused 4 (some .boolean), .fieldLink RX5 104 "SpinKernelModel" "thrown" "I"] ++ wsX50)
def wsX5_row : List Cond := .code yX5_row cX5_row 4 (some .int) :: ([.fieldLink RX5 40 "SpinKernelModel" "groups" "[I", .fieldLink RX5 98 "SpinKernelModel" "many" "[I", .fieldLink RX5 95 "SpinKernelModel" "rows" "[I", .methodLink RX5 112 yX5_within, .static yX5_within, .initialized RX5, .code yX5_within cX5_within 3 (some .boolean), .methodLink RX5 124 yX5_refused, .instanceMethod yX5_refused, .selects RX5 yX5_refused yX5_refused, .code yX5_refused cX5_refused 4 (some .boolean), .fieldLink RX5 104 "SpinKernelModel" "thrown" "I", .methodLink RX5 139 yX5_findGroups, .instanceMethod yX5_findGroups, .selects RX5 yX5_findGroups yX5_findGroups, .code yX5_findGroups cX5_findGroups 8 none, .fieldLink RX5 25 "SpinKernelModel" "counts" "[I", .fieldLink RX5 37 "SpinKernelModel" "ins" "[I", .fieldLink RX5 31 "SpinKernelModel" "locks" "[I"] ++ wsX50)
def wsX5_jobs : List Cond := .code yX5_jobs cX5_jobs 3 (some .int) :: ([.fieldLink RX5 71 "SpinKernelModel" "ended" "[I", .fieldLink RX5 74 "SpinKernelModel" "greatest" "[I", .fieldLink RX5 77 "SpinKernelModel" "latest" "[I", .fieldLink RX5 43 "SpinKernelModel" "open" "[Z", .methodLink RX5 108 yX5_isTask, .instanceMethod yX5_isTask, .selects RX5 yX5_isTask yX5_isTask, .initialized RX5, .code yX5_isTask cX5_isTask 2 (some .boolean), .fieldLink RX5 7 "SpinKernelModel" "cores" "[I", .methodLink RX5 112 yX5_within, .static yX5_within, .code yX5_within cX5_within 3 (some .boolean), .methodLink RX5 124 yX5_refused, .instanceMethod yX5_refused, .selects RX5 yX5_refused yX5_refused, .code yX5_refused cX5_refused 4 (some .boolean), .fieldLink RX5 104 "SpinKernelModel" "thrown" "I"] ++ wsX50)
def wsX5_spun : List Cond := .code yX5_spun cX5_spun 3 (some .int) :: ([.fieldLink RX5 80 "SpinKernelModel" "spuns" "[I", .methodLink RX5 132 yX5_isRequest, .instanceMethod yX5_isRequest, .selects RX5 yX5_isRequest yX5_isRequest, .initialized RX5, .code yX5_isRequest cX5_isRequest 3 (some .boolean), .fieldLink RX5 25 "SpinKernelModel" "counts" "[I", .methodLink RX5 108 yX5_isTask, .instanceMethod yX5_isTask, .selects RX5 yX5_isTask yX5_isTask, .code yX5_isTask cX5_isTask 2 (some .boolean), .fieldLink RX5 7 "SpinKernelModel" "cores" "[I", .methodLink RX5 124 yX5_refused, .instanceMethod yX5_refused, .selects RX5 yX5_refused yX5_refused, .code yX5_refused cX5_refused 4 (some .boolean), .fieldLink RX5 104 "SpinKernelModel" "thrown" "I"] ++ wsX50)
def wsX5_late : List Cond := .code yX5_late cX5_late 3 (some .int) :: ([.fieldLink RX5 104 "SpinKernelModel" "thrown" "I", .fieldLink RX5 161 "SpinKernelModel" "behind" "I", .fieldLink RX5 43 "SpinKernelModel" "open" "[Z", .fieldLink RX5 158 "SpinKernelModel" "now" "I", .fieldLink RX5 50 "SpinKernelModel" "times" "[I", .fieldLink RX5 19 "SpinKernelModel" "deadlines" "[I"] ++ wsX50)
def wsJ9_max_7cf53 : List Cond := .code yJ9_max_7cf53 cJ9_max_7cf53 2 (some .int) :: ([])
def wsJ9_min_7cf53 : List Cond := .code yJ9_min_7cf53 cJ9_min_7cf53 2 (some .int) :: ([])
abbrev vwCl : List vw_C := [(RX0, TX0, 12), (RX1, TX1, 8), (RX2, TX2, 2), (RX3, TX3, 10), (RX4, TX4, 8), (RX5, TX5, 34)]
end
section
/-! THE WORLD: every cell that the class, the reference and the law hold, by kind and two indices; a state is the ints of the cells' slots. Written by wip/whole/mkstate.py. -/
abbrev ks_S : Type := Nat → Nat → Nat → Nat → Int32
abbrev ks_A : Type := Nat → Nat → Nat → Nat
def ks_up (σ : ks_S) (k i j z : Nat) (v : Int32) : ks_S := fun k' i' j' z' => if k' = k ∧ i' = i ∧ j' = j ∧ z' = z then v else σ k' i' j' z'
theorem ks_up_c (σ : ks_S) (k i j z : Nat) (v : Int32) : ks_up σ k i j z v k i j = upd (σ k i j) z v := by
  funext z'
  simp [ks_up, upd]
theorem ks_up_ne (σ : ks_S) {k i j k' i' j' : Nat} (z : Nat) (v : Int32) (h : ¬ (k' = k ∧ i' = i ∧ j' = j)) : ks_up σ k i j z v k' i' j' = σ k' i' j' := by
  funext z'
  simp only [ks_up]
  rw [if_neg]
  intro q
  exact h ⟨q.1, q.2.1, q.2.2.1⟩
def ks_in (x : Int32) (n : Nat) : Bool := decide (0 ≤ x.toInt) && decide (x.toInt < n)
theorem ks_in_vp {x : Int32} {n : Nat} (h : ks_in x n = true) : vp_in x n := by
  simp only [ks_in, Bool.and_eq_true, decide_eq_true_eq] at h
  exact vp_in_iff.mpr h
theorem ks_in_lt {x : Int32} {n : Nat} (h : ks_in x n = true) : x.toNatClampNeg < n := by
  simp only [ks_in, Bool.and_eq_true, decide_eq_true_eq] at h
  have hc : x.toNatClampNeg = x.toInt.toNat := rfl
  omega
abbrev ks_r (f : Nat → Nat) : (Nat → Int32) ⊕ (Nat → Int64) ⊕ (Nat → UInt32) ⊕ (Nat → UInt64) ⊕ (Nat → Option Nat) := .inr (.inr (.inr (.inr (fun n => some (f n)))))
def ks_c (cy : Nat → ClassId) (ad : ks_A) (o : Int64) (k i j : Nat) (c : Nat → Int32) : va_E :=
  if k = 0 then .inr (4, [.ref (ad 1 0 0), .ref (ad 2 0 0), .ref (ad 3 0 0), .ref (ad 4 0 0), .ref (ad 6 0 0), .ref (ad 7 0 0), .int (c 6), .int (c 7)])
  else if k = 1 then .inl (cy 3, 16, ks_r (fun n => ad 8 n 0))
  else if k = 2 then .inl (cy 4, 8, ks_r (fun n => ad 12 n 0))
  else if k = 3 then .inl (cy 0, 8, .inl c)
  else if k = 4 then .inl (cy 6, 4, ks_r (fun n => ad 5 n 0))
  else if k = 5 then .inl (cy 0, 8, .inl c)
  else if k = 6 then .inl (cy 0, 4, .inl c)
  else if k = 7 then .inl (cy 0, 4, .inl c)
  else if k = 8 then .inr (3, [.int (c 0), .int (c 1), .int (c 2), .int (c 3), .int (c 4), .int (c 5), .int (c 6), .int (c 7), .ref (ad 10 i 0), .ref (ad 9 i 0)])
  else if k = 9 then .inr (0, [.int (c 0), .int (c 1), .int (c 2), .int (c 3), .int (c 4), .int (c 5), .int (c 6), .int (c 7), .int (c 8), .int (c 9), .int (c 10), .int (c 11)])
  else if k = 10 then .inl (cy 5, 6, ks_r (fun n => ad 11 i n))
  else if k = 11 then .inr (1, [.int (c 0), .int (c 1), .int (c 2), .int (c 3), .int (c 4), .int (c 5), .int (c 6), .int (c 7)])
  else if k = 12 then .inr (2, [.ref (ad 13 i 0), .int (c 1)])
  else if k = 13 then .inl (cy 0, 4, .inl c)
  else if k = 14 then .inr (5, [.int (c 0), .ref (ad 15 0 0), .ref (ad 16 0 0), .ref (ad 17 0 0), .ref (ad 18 0 0), .ref (ad 19 0 0), .ref (ad 20 0 0), .ref (ad 21 0 0), .ref (ad 22 0 0), .ref (ad 23 0 0), .ref (ad 24 0 0), .ref (ad 25 0 0), .int (c 12), .int (c 13), .ref (ad 26 0 0), .ref (ad 27 0 0), .ref (ad 28 0 0), .ref (ad 29 0 0), .ref (ad 30 0 0), .ref (ad 31 0 0), .ref (ad 32 0 0), .ref (ad 33 0 0), .ref (ad 34 0 0), .ref (ad 35 0 0), .ref (ad 36 0 0), .ref (ad 37 0 0), .ref (ad 38 0 0), .int (c 27), .ref (ad 39 0 0), .ref (ad 40 0 0), .ref (ad 41 0 0), .ref (ad 42 0 0), .ref (ad 43 0 0), .ref (ad 44 0 0)])
  else if k = 15 then .inl (cy 0, 16, .inl c)
  else if k = 16 then .inl (cy 0, 16, .inl c)
  else if k = 17 then .inl (cy 0, 16, .inl c)
  else if k = 18 then .inl (cy 0, 16, .inl c)
  else if k = 19 then .inl (cy 0, 16, .inl c)
  else if k = 20 then .inl (cy 0, 16, .inl c)
  else if k = 21 then .inl (cy 0, 96, .inl c)
  else if k = 22 then .inl (cy 0, 96, .inl c)
  else if k = 23 then .inl (cy 0, 96, .inl c)
  else if k = 24 then .inl (cy 0, 96, .inl c)
  else if k = 25 then .inl (cy 0, 8, .inl c)
  else if k = 26 then .inl (cy 1, 16, .inl c)
  else if k = 27 then .inl (cy 1, 16, .inl c)
  else if k = 28 then .inl (cy 0, 16, .inl c)
  else if k = 29 then .inl (cy 0, 16, .inl c)
  else if k = 30 then .inl (cy 0, 16, .inl c)
  else if k = 31 then .inl (cy 0, 16, .inl c)
  else if k = 32 then .inl (cy 0, 16, .inl c)
  else if k = 33 then .inl (cy 0, 96, .inl c)
  else if k = 34 then .inl (cy 0, 96, .inl c)
  else if k = 35 then .inl (cy 0, 16, .inl c)
  else if k = 36 then .inl (cy 0, 16, .inl c)
  else if k = 37 then .inl (cy 0, 16, .inl c)
  else if k = 38 then .inl (cy 0, 96, .inl c)
  else if k = 39 then .inl (cy 0, 4, .inl c)
  else if k = 40 then .inl (cy 0, 4, .inl c)
  else if k = 41 then .inl (cy 0, 4, .inl c)
  else if k = 42 then .inl (cy 0, 4, .inl c)
  else if k = 43 then .inl (cy 0, 32, .inl c)
  else if k = 44 then .inl (cy 0, 8, .inl c)
  else if k = 45 then .inl (cy 2, 1, .inr (.inl (fun _ => o)))
  else .inl (cy 0, 0, .inl c)
def ks_n1 (k : Nat) : Nat := if k = 5 then 4 else if k = 8 then 16 else if k = 9 then 16 else if k = 10 then 16 else if k = 11 then 16 else if k = 12 then 8 else if k = 13 then 8 else 1
def ks_n2 (k : Nat) : Nat := if k = 11 then 6 else 1
def ks_v (k i j : Nat) : Prop := k < 46 ∧ i < ks_n1 k ∧ j < ks_n2 k
theorem ks_v0 {i j : Nat} : ks_v 0 0 0 := ⟨by decide, by decide, by decide⟩
theorem ks_v1 {i j : Nat} : ks_v 1 0 0 := ⟨by decide, by decide, by decide⟩
theorem ks_v2 {i j : Nat} : ks_v 2 0 0 := ⟨by decide, by decide, by decide⟩
theorem ks_v3 {i j : Nat} : ks_v 3 0 0 := ⟨by decide, by decide, by decide⟩
theorem ks_v4 {i j : Nat} : ks_v 4 0 0 := ⟨by decide, by decide, by decide⟩
theorem ks_v5 {i j : Nat} (hi : i < 4) : ks_v 5 i 0 := ⟨by decide, hi, by decide⟩
theorem ks_v6 {i j : Nat} : ks_v 6 0 0 := ⟨by decide, by decide, by decide⟩
theorem ks_v7 {i j : Nat} : ks_v 7 0 0 := ⟨by decide, by decide, by decide⟩
theorem ks_v8 {i j : Nat} (hi : i < 16) : ks_v 8 i 0 := ⟨by decide, hi, by decide⟩
theorem ks_v9 {i j : Nat} (hi : i < 16) : ks_v 9 i 0 := ⟨by decide, hi, by decide⟩
theorem ks_v10 {i j : Nat} (hi : i < 16) : ks_v 10 i 0 := ⟨by decide, hi, by decide⟩
theorem ks_v11 {i j : Nat} (hi : i < 16) (hj : j < 6) : ks_v 11 i j := ⟨by decide, hi, hj⟩
theorem ks_v12 {i j : Nat} (hi : i < 8) : ks_v 12 i 0 := ⟨by decide, hi, by decide⟩
theorem ks_v13 {i j : Nat} (hi : i < 8) : ks_v 13 i 0 := ⟨by decide, hi, by decide⟩
theorem ks_v14 {i j : Nat} : ks_v 14 0 0 := ⟨by decide, by decide, by decide⟩
theorem ks_v15 {i j : Nat} : ks_v 15 0 0 := ⟨by decide, by decide, by decide⟩
theorem ks_v16 {i j : Nat} : ks_v 16 0 0 := ⟨by decide, by decide, by decide⟩
theorem ks_v17 {i j : Nat} : ks_v 17 0 0 := ⟨by decide, by decide, by decide⟩
theorem ks_v18 {i j : Nat} : ks_v 18 0 0 := ⟨by decide, by decide, by decide⟩
theorem ks_v19 {i j : Nat} : ks_v 19 0 0 := ⟨by decide, by decide, by decide⟩
theorem ks_v20 {i j : Nat} : ks_v 20 0 0 := ⟨by decide, by decide, by decide⟩
theorem ks_v21 {i j : Nat} : ks_v 21 0 0 := ⟨by decide, by decide, by decide⟩
theorem ks_v22 {i j : Nat} : ks_v 22 0 0 := ⟨by decide, by decide, by decide⟩
theorem ks_v23 {i j : Nat} : ks_v 23 0 0 := ⟨by decide, by decide, by decide⟩
theorem ks_v24 {i j : Nat} : ks_v 24 0 0 := ⟨by decide, by decide, by decide⟩
theorem ks_v25 {i j : Nat} : ks_v 25 0 0 := ⟨by decide, by decide, by decide⟩
theorem ks_v26 {i j : Nat} : ks_v 26 0 0 := ⟨by decide, by decide, by decide⟩
theorem ks_v27 {i j : Nat} : ks_v 27 0 0 := ⟨by decide, by decide, by decide⟩
theorem ks_v28 {i j : Nat} : ks_v 28 0 0 := ⟨by decide, by decide, by decide⟩
theorem ks_v29 {i j : Nat} : ks_v 29 0 0 := ⟨by decide, by decide, by decide⟩
theorem ks_v30 {i j : Nat} : ks_v 30 0 0 := ⟨by decide, by decide, by decide⟩
theorem ks_v31 {i j : Nat} : ks_v 31 0 0 := ⟨by decide, by decide, by decide⟩
theorem ks_v32 {i j : Nat} : ks_v 32 0 0 := ⟨by decide, by decide, by decide⟩
theorem ks_v33 {i j : Nat} : ks_v 33 0 0 := ⟨by decide, by decide, by decide⟩
theorem ks_v34 {i j : Nat} : ks_v 34 0 0 := ⟨by decide, by decide, by decide⟩
theorem ks_v35 {i j : Nat} : ks_v 35 0 0 := ⟨by decide, by decide, by decide⟩
theorem ks_v36 {i j : Nat} : ks_v 36 0 0 := ⟨by decide, by decide, by decide⟩
theorem ks_v37 {i j : Nat} : ks_v 37 0 0 := ⟨by decide, by decide, by decide⟩
theorem ks_v38 {i j : Nat} : ks_v 38 0 0 := ⟨by decide, by decide, by decide⟩
theorem ks_v39 {i j : Nat} : ks_v 39 0 0 := ⟨by decide, by decide, by decide⟩
theorem ks_v40 {i j : Nat} : ks_v 40 0 0 := ⟨by decide, by decide, by decide⟩
theorem ks_v41 {i j : Nat} : ks_v 41 0 0 := ⟨by decide, by decide, by decide⟩
theorem ks_v42 {i j : Nat} : ks_v 42 0 0 := ⟨by decide, by decide, by decide⟩
theorem ks_v43 {i j : Nat} : ks_v 43 0 0 := ⟨by decide, by decide, by decide⟩
theorem ks_v44 {i j : Nat} : ks_v 44 0 0 := ⟨by decide, by decide, by decide⟩
theorem ks_v45 {i j : Nat} : ks_v 45 0 0 := ⟨by decide, by decide, by decide⟩
theorem ks_c0 (cy : Nat → ClassId) (ad : ks_A) (o : Int64) (i j : Nat) (c : Nat → Int32) : ks_c cy ad o 0 i j c = .inr (4, [.ref (ad 1 0 0), .ref (ad 2 0 0), .ref (ad 3 0 0), .ref (ad 4 0 0), .ref (ad 6 0 0), .ref (ad 7 0 0), .int (c 6), .int (c 7)]) := rfl
theorem ks_c1 (cy : Nat → ClassId) (ad : ks_A) (o : Int64) (i j : Nat) (c : Nat → Int32) : ks_c cy ad o 1 i j c = .inl (cy 3, 16, ks_r (fun n => ad 8 n 0)) := rfl
theorem ks_c2 (cy : Nat → ClassId) (ad : ks_A) (o : Int64) (i j : Nat) (c : Nat → Int32) : ks_c cy ad o 2 i j c = .inl (cy 4, 8, ks_r (fun n => ad 12 n 0)) := rfl
theorem ks_c3 (cy : Nat → ClassId) (ad : ks_A) (o : Int64) (i j : Nat) (c : Nat → Int32) : ks_c cy ad o 3 i j c = .inl (cy 0, 8, .inl c) := rfl
theorem ks_c4 (cy : Nat → ClassId) (ad : ks_A) (o : Int64) (i j : Nat) (c : Nat → Int32) : ks_c cy ad o 4 i j c = .inl (cy 6, 4, ks_r (fun n => ad 5 n 0)) := rfl
theorem ks_c5 (cy : Nat → ClassId) (ad : ks_A) (o : Int64) (i j : Nat) (c : Nat → Int32) : ks_c cy ad o 5 i j c = .inl (cy 0, 8, .inl c) := rfl
theorem ks_c6 (cy : Nat → ClassId) (ad : ks_A) (o : Int64) (i j : Nat) (c : Nat → Int32) : ks_c cy ad o 6 i j c = .inl (cy 0, 4, .inl c) := rfl
theorem ks_c7 (cy : Nat → ClassId) (ad : ks_A) (o : Int64) (i j : Nat) (c : Nat → Int32) : ks_c cy ad o 7 i j c = .inl (cy 0, 4, .inl c) := rfl
theorem ks_c8 (cy : Nat → ClassId) (ad : ks_A) (o : Int64) (i j : Nat) (c : Nat → Int32) : ks_c cy ad o 8 i j c = .inr (3, [.int (c 0), .int (c 1), .int (c 2), .int (c 3), .int (c 4), .int (c 5), .int (c 6), .int (c 7), .ref (ad 10 i 0), .ref (ad 9 i 0)]) := rfl
theorem ks_c9 (cy : Nat → ClassId) (ad : ks_A) (o : Int64) (i j : Nat) (c : Nat → Int32) : ks_c cy ad o 9 i j c = .inr (0, [.int (c 0), .int (c 1), .int (c 2), .int (c 3), .int (c 4), .int (c 5), .int (c 6), .int (c 7), .int (c 8), .int (c 9), .int (c 10), .int (c 11)]) := rfl
theorem ks_c10 (cy : Nat → ClassId) (ad : ks_A) (o : Int64) (i j : Nat) (c : Nat → Int32) : ks_c cy ad o 10 i j c = .inl (cy 5, 6, ks_r (fun n => ad 11 i n)) := rfl
theorem ks_c11 (cy : Nat → ClassId) (ad : ks_A) (o : Int64) (i j : Nat) (c : Nat → Int32) : ks_c cy ad o 11 i j c = .inr (1, [.int (c 0), .int (c 1), .int (c 2), .int (c 3), .int (c 4), .int (c 5), .int (c 6), .int (c 7)]) := rfl
theorem ks_c12 (cy : Nat → ClassId) (ad : ks_A) (o : Int64) (i j : Nat) (c : Nat → Int32) : ks_c cy ad o 12 i j c = .inr (2, [.ref (ad 13 i 0), .int (c 1)]) := rfl
theorem ks_c13 (cy : Nat → ClassId) (ad : ks_A) (o : Int64) (i j : Nat) (c : Nat → Int32) : ks_c cy ad o 13 i j c = .inl (cy 0, 4, .inl c) := rfl
theorem ks_c14 (cy : Nat → ClassId) (ad : ks_A) (o : Int64) (i j : Nat) (c : Nat → Int32) : ks_c cy ad o 14 i j c = .inr (5, [.int (c 0), .ref (ad 15 0 0), .ref (ad 16 0 0), .ref (ad 17 0 0), .ref (ad 18 0 0), .ref (ad 19 0 0), .ref (ad 20 0 0), .ref (ad 21 0 0), .ref (ad 22 0 0), .ref (ad 23 0 0), .ref (ad 24 0 0), .ref (ad 25 0 0), .int (c 12), .int (c 13), .ref (ad 26 0 0), .ref (ad 27 0 0), .ref (ad 28 0 0), .ref (ad 29 0 0), .ref (ad 30 0 0), .ref (ad 31 0 0), .ref (ad 32 0 0), .ref (ad 33 0 0), .ref (ad 34 0 0), .ref (ad 35 0 0), .ref (ad 36 0 0), .ref (ad 37 0 0), .ref (ad 38 0 0), .int (c 27), .ref (ad 39 0 0), .ref (ad 40 0 0), .ref (ad 41 0 0), .ref (ad 42 0 0), .ref (ad 43 0 0), .ref (ad 44 0 0)]) := rfl
theorem ks_c15 (cy : Nat → ClassId) (ad : ks_A) (o : Int64) (i j : Nat) (c : Nat → Int32) : ks_c cy ad o 15 i j c = .inl (cy 0, 16, .inl c) := rfl
theorem ks_c16 (cy : Nat → ClassId) (ad : ks_A) (o : Int64) (i j : Nat) (c : Nat → Int32) : ks_c cy ad o 16 i j c = .inl (cy 0, 16, .inl c) := rfl
theorem ks_c17 (cy : Nat → ClassId) (ad : ks_A) (o : Int64) (i j : Nat) (c : Nat → Int32) : ks_c cy ad o 17 i j c = .inl (cy 0, 16, .inl c) := rfl
theorem ks_c18 (cy : Nat → ClassId) (ad : ks_A) (o : Int64) (i j : Nat) (c : Nat → Int32) : ks_c cy ad o 18 i j c = .inl (cy 0, 16, .inl c) := rfl
theorem ks_c19 (cy : Nat → ClassId) (ad : ks_A) (o : Int64) (i j : Nat) (c : Nat → Int32) : ks_c cy ad o 19 i j c = .inl (cy 0, 16, .inl c) := rfl
theorem ks_c20 (cy : Nat → ClassId) (ad : ks_A) (o : Int64) (i j : Nat) (c : Nat → Int32) : ks_c cy ad o 20 i j c = .inl (cy 0, 16, .inl c) := rfl
theorem ks_c21 (cy : Nat → ClassId) (ad : ks_A) (o : Int64) (i j : Nat) (c : Nat → Int32) : ks_c cy ad o 21 i j c = .inl (cy 0, 96, .inl c) := rfl
theorem ks_c22 (cy : Nat → ClassId) (ad : ks_A) (o : Int64) (i j : Nat) (c : Nat → Int32) : ks_c cy ad o 22 i j c = .inl (cy 0, 96, .inl c) := rfl
theorem ks_c23 (cy : Nat → ClassId) (ad : ks_A) (o : Int64) (i j : Nat) (c : Nat → Int32) : ks_c cy ad o 23 i j c = .inl (cy 0, 96, .inl c) := rfl
theorem ks_c24 (cy : Nat → ClassId) (ad : ks_A) (o : Int64) (i j : Nat) (c : Nat → Int32) : ks_c cy ad o 24 i j c = .inl (cy 0, 96, .inl c) := rfl
theorem ks_c25 (cy : Nat → ClassId) (ad : ks_A) (o : Int64) (i j : Nat) (c : Nat → Int32) : ks_c cy ad o 25 i j c = .inl (cy 0, 8, .inl c) := rfl
theorem ks_c26 (cy : Nat → ClassId) (ad : ks_A) (o : Int64) (i j : Nat) (c : Nat → Int32) : ks_c cy ad o 26 i j c = .inl (cy 1, 16, .inl c) := rfl
theorem ks_c27 (cy : Nat → ClassId) (ad : ks_A) (o : Int64) (i j : Nat) (c : Nat → Int32) : ks_c cy ad o 27 i j c = .inl (cy 1, 16, .inl c) := rfl
theorem ks_c28 (cy : Nat → ClassId) (ad : ks_A) (o : Int64) (i j : Nat) (c : Nat → Int32) : ks_c cy ad o 28 i j c = .inl (cy 0, 16, .inl c) := rfl
theorem ks_c29 (cy : Nat → ClassId) (ad : ks_A) (o : Int64) (i j : Nat) (c : Nat → Int32) : ks_c cy ad o 29 i j c = .inl (cy 0, 16, .inl c) := rfl
theorem ks_c30 (cy : Nat → ClassId) (ad : ks_A) (o : Int64) (i j : Nat) (c : Nat → Int32) : ks_c cy ad o 30 i j c = .inl (cy 0, 16, .inl c) := rfl
theorem ks_c31 (cy : Nat → ClassId) (ad : ks_A) (o : Int64) (i j : Nat) (c : Nat → Int32) : ks_c cy ad o 31 i j c = .inl (cy 0, 16, .inl c) := rfl
theorem ks_c32 (cy : Nat → ClassId) (ad : ks_A) (o : Int64) (i j : Nat) (c : Nat → Int32) : ks_c cy ad o 32 i j c = .inl (cy 0, 16, .inl c) := rfl
theorem ks_c33 (cy : Nat → ClassId) (ad : ks_A) (o : Int64) (i j : Nat) (c : Nat → Int32) : ks_c cy ad o 33 i j c = .inl (cy 0, 96, .inl c) := rfl
theorem ks_c34 (cy : Nat → ClassId) (ad : ks_A) (o : Int64) (i j : Nat) (c : Nat → Int32) : ks_c cy ad o 34 i j c = .inl (cy 0, 96, .inl c) := rfl
theorem ks_c35 (cy : Nat → ClassId) (ad : ks_A) (o : Int64) (i j : Nat) (c : Nat → Int32) : ks_c cy ad o 35 i j c = .inl (cy 0, 16, .inl c) := rfl
theorem ks_c36 (cy : Nat → ClassId) (ad : ks_A) (o : Int64) (i j : Nat) (c : Nat → Int32) : ks_c cy ad o 36 i j c = .inl (cy 0, 16, .inl c) := rfl
theorem ks_c37 (cy : Nat → ClassId) (ad : ks_A) (o : Int64) (i j : Nat) (c : Nat → Int32) : ks_c cy ad o 37 i j c = .inl (cy 0, 16, .inl c) := rfl
theorem ks_c38 (cy : Nat → ClassId) (ad : ks_A) (o : Int64) (i j : Nat) (c : Nat → Int32) : ks_c cy ad o 38 i j c = .inl (cy 0, 96, .inl c) := rfl
theorem ks_c39 (cy : Nat → ClassId) (ad : ks_A) (o : Int64) (i j : Nat) (c : Nat → Int32) : ks_c cy ad o 39 i j c = .inl (cy 0, 4, .inl c) := rfl
theorem ks_c40 (cy : Nat → ClassId) (ad : ks_A) (o : Int64) (i j : Nat) (c : Nat → Int32) : ks_c cy ad o 40 i j c = .inl (cy 0, 4, .inl c) := rfl
theorem ks_c41 (cy : Nat → ClassId) (ad : ks_A) (o : Int64) (i j : Nat) (c : Nat → Int32) : ks_c cy ad o 41 i j c = .inl (cy 0, 4, .inl c) := rfl
theorem ks_c42 (cy : Nat → ClassId) (ad : ks_A) (o : Int64) (i j : Nat) (c : Nat → Int32) : ks_c cy ad o 42 i j c = .inl (cy 0, 4, .inl c) := rfl
theorem ks_c43 (cy : Nat → ClassId) (ad : ks_A) (o : Int64) (i j : Nat) (c : Nat → Int32) : ks_c cy ad o 43 i j c = .inl (cy 0, 32, .inl c) := rfl
theorem ks_c44 (cy : Nat → ClassId) (ad : ks_A) (o : Int64) (i j : Nat) (c : Nat → Int32) : ks_c cy ad o 44 i j c = .inl (cy 0, 8, .inl c) := rfl
theorem ks_c45 (cy : Nat → ClassId) (ad : ks_A) (o : Int64) (i j : Nat) (c : Nat → Int32) : ks_c cy ad o 45 i j c = .inl (cy 2, 1, .inr (.inl (fun _ => o))) := rfl
theorem ks_c0s6 (cy : Nat → ClassId) (ad : ks_A) (o : Int64) (i j : Nat) (c : Nat → Int32) (v : Int32) : ks_c cy ad o 0 i j (upd c 6 v) = .inr (4, ([.ref (ad 1 0 0), .ref (ad 2 0 0), .ref (ad 3 0 0), .ref (ad 4 0 0), .ref (ad 6 0 0), .ref (ad 7 0 0), .int (c 6), .int (c 7)] : List Value).set 6 (.int v)) := rfl
theorem ks_c0s7 (cy : Nat → ClassId) (ad : ks_A) (o : Int64) (i j : Nat) (c : Nat → Int32) (v : Int32) : ks_c cy ad o 0 i j (upd c 7 v) = .inr (4, ([.ref (ad 1 0 0), .ref (ad 2 0 0), .ref (ad 3 0 0), .ref (ad 4 0 0), .ref (ad 6 0 0), .ref (ad 7 0 0), .int (c 6), .int (c 7)] : List Value).set 7 (.int v)) := rfl
theorem ks_c8s0 (cy : Nat → ClassId) (ad : ks_A) (o : Int64) (i j : Nat) (c : Nat → Int32) (v : Int32) : ks_c cy ad o 8 i j (upd c 0 v) = .inr (3, ([.int (c 0), .int (c 1), .int (c 2), .int (c 3), .int (c 4), .int (c 5), .int (c 6), .int (c 7), .ref (ad 10 i 0), .ref (ad 9 i 0)] : List Value).set 0 (.int v)) := rfl
theorem ks_c8s1 (cy : Nat → ClassId) (ad : ks_A) (o : Int64) (i j : Nat) (c : Nat → Int32) (v : Int32) : ks_c cy ad o 8 i j (upd c 1 v) = .inr (3, ([.int (c 0), .int (c 1), .int (c 2), .int (c 3), .int (c 4), .int (c 5), .int (c 6), .int (c 7), .ref (ad 10 i 0), .ref (ad 9 i 0)] : List Value).set 1 (.int v)) := rfl
theorem ks_c8s2 (cy : Nat → ClassId) (ad : ks_A) (o : Int64) (i j : Nat) (c : Nat → Int32) (v : Int32) : ks_c cy ad o 8 i j (upd c 2 v) = .inr (3, ([.int (c 0), .int (c 1), .int (c 2), .int (c 3), .int (c 4), .int (c 5), .int (c 6), .int (c 7), .ref (ad 10 i 0), .ref (ad 9 i 0)] : List Value).set 2 (.int v)) := rfl
theorem ks_c8s3 (cy : Nat → ClassId) (ad : ks_A) (o : Int64) (i j : Nat) (c : Nat → Int32) (v : Int32) : ks_c cy ad o 8 i j (upd c 3 v) = .inr (3, ([.int (c 0), .int (c 1), .int (c 2), .int (c 3), .int (c 4), .int (c 5), .int (c 6), .int (c 7), .ref (ad 10 i 0), .ref (ad 9 i 0)] : List Value).set 3 (.int v)) := rfl
theorem ks_c8s4 (cy : Nat → ClassId) (ad : ks_A) (o : Int64) (i j : Nat) (c : Nat → Int32) (v : Int32) : ks_c cy ad o 8 i j (upd c 4 v) = .inr (3, ([.int (c 0), .int (c 1), .int (c 2), .int (c 3), .int (c 4), .int (c 5), .int (c 6), .int (c 7), .ref (ad 10 i 0), .ref (ad 9 i 0)] : List Value).set 4 (.int v)) := rfl
theorem ks_c8s5 (cy : Nat → ClassId) (ad : ks_A) (o : Int64) (i j : Nat) (c : Nat → Int32) (v : Int32) : ks_c cy ad o 8 i j (upd c 5 v) = .inr (3, ([.int (c 0), .int (c 1), .int (c 2), .int (c 3), .int (c 4), .int (c 5), .int (c 6), .int (c 7), .ref (ad 10 i 0), .ref (ad 9 i 0)] : List Value).set 5 (.int v)) := rfl
theorem ks_c8s6 (cy : Nat → ClassId) (ad : ks_A) (o : Int64) (i j : Nat) (c : Nat → Int32) (v : Int32) : ks_c cy ad o 8 i j (upd c 6 v) = .inr (3, ([.int (c 0), .int (c 1), .int (c 2), .int (c 3), .int (c 4), .int (c 5), .int (c 6), .int (c 7), .ref (ad 10 i 0), .ref (ad 9 i 0)] : List Value).set 6 (.int v)) := rfl
theorem ks_c8s7 (cy : Nat → ClassId) (ad : ks_A) (o : Int64) (i j : Nat) (c : Nat → Int32) (v : Int32) : ks_c cy ad o 8 i j (upd c 7 v) = .inr (3, ([.int (c 0), .int (c 1), .int (c 2), .int (c 3), .int (c 4), .int (c 5), .int (c 6), .int (c 7), .ref (ad 10 i 0), .ref (ad 9 i 0)] : List Value).set 7 (.int v)) := rfl
theorem ks_c9s0 (cy : Nat → ClassId) (ad : ks_A) (o : Int64) (i j : Nat) (c : Nat → Int32) (v : Int32) : ks_c cy ad o 9 i j (upd c 0 v) = .inr (0, ([.int (c 0), .int (c 1), .int (c 2), .int (c 3), .int (c 4), .int (c 5), .int (c 6), .int (c 7), .int (c 8), .int (c 9), .int (c 10), .int (c 11)] : List Value).set 0 (.int v)) := rfl
theorem ks_c9s1 (cy : Nat → ClassId) (ad : ks_A) (o : Int64) (i j : Nat) (c : Nat → Int32) (v : Int32) : ks_c cy ad o 9 i j (upd c 1 v) = .inr (0, ([.int (c 0), .int (c 1), .int (c 2), .int (c 3), .int (c 4), .int (c 5), .int (c 6), .int (c 7), .int (c 8), .int (c 9), .int (c 10), .int (c 11)] : List Value).set 1 (.int v)) := rfl
theorem ks_c9s2 (cy : Nat → ClassId) (ad : ks_A) (o : Int64) (i j : Nat) (c : Nat → Int32) (v : Int32) : ks_c cy ad o 9 i j (upd c 2 v) = .inr (0, ([.int (c 0), .int (c 1), .int (c 2), .int (c 3), .int (c 4), .int (c 5), .int (c 6), .int (c 7), .int (c 8), .int (c 9), .int (c 10), .int (c 11)] : List Value).set 2 (.int v)) := rfl
theorem ks_c9s3 (cy : Nat → ClassId) (ad : ks_A) (o : Int64) (i j : Nat) (c : Nat → Int32) (v : Int32) : ks_c cy ad o 9 i j (upd c 3 v) = .inr (0, ([.int (c 0), .int (c 1), .int (c 2), .int (c 3), .int (c 4), .int (c 5), .int (c 6), .int (c 7), .int (c 8), .int (c 9), .int (c 10), .int (c 11)] : List Value).set 3 (.int v)) := rfl
theorem ks_c9s4 (cy : Nat → ClassId) (ad : ks_A) (o : Int64) (i j : Nat) (c : Nat → Int32) (v : Int32) : ks_c cy ad o 9 i j (upd c 4 v) = .inr (0, ([.int (c 0), .int (c 1), .int (c 2), .int (c 3), .int (c 4), .int (c 5), .int (c 6), .int (c 7), .int (c 8), .int (c 9), .int (c 10), .int (c 11)] : List Value).set 4 (.int v)) := rfl
theorem ks_c9s5 (cy : Nat → ClassId) (ad : ks_A) (o : Int64) (i j : Nat) (c : Nat → Int32) (v : Int32) : ks_c cy ad o 9 i j (upd c 5 v) = .inr (0, ([.int (c 0), .int (c 1), .int (c 2), .int (c 3), .int (c 4), .int (c 5), .int (c 6), .int (c 7), .int (c 8), .int (c 9), .int (c 10), .int (c 11)] : List Value).set 5 (.int v)) := rfl
theorem ks_c9s6 (cy : Nat → ClassId) (ad : ks_A) (o : Int64) (i j : Nat) (c : Nat → Int32) (v : Int32) : ks_c cy ad o 9 i j (upd c 6 v) = .inr (0, ([.int (c 0), .int (c 1), .int (c 2), .int (c 3), .int (c 4), .int (c 5), .int (c 6), .int (c 7), .int (c 8), .int (c 9), .int (c 10), .int (c 11)] : List Value).set 6 (.int v)) := rfl
theorem ks_c9s7 (cy : Nat → ClassId) (ad : ks_A) (o : Int64) (i j : Nat) (c : Nat → Int32) (v : Int32) : ks_c cy ad o 9 i j (upd c 7 v) = .inr (0, ([.int (c 0), .int (c 1), .int (c 2), .int (c 3), .int (c 4), .int (c 5), .int (c 6), .int (c 7), .int (c 8), .int (c 9), .int (c 10), .int (c 11)] : List Value).set 7 (.int v)) := rfl
theorem ks_c9s8 (cy : Nat → ClassId) (ad : ks_A) (o : Int64) (i j : Nat) (c : Nat → Int32) (v : Int32) : ks_c cy ad o 9 i j (upd c 8 v) = .inr (0, ([.int (c 0), .int (c 1), .int (c 2), .int (c 3), .int (c 4), .int (c 5), .int (c 6), .int (c 7), .int (c 8), .int (c 9), .int (c 10), .int (c 11)] : List Value).set 8 (.int v)) := rfl
theorem ks_c9s9 (cy : Nat → ClassId) (ad : ks_A) (o : Int64) (i j : Nat) (c : Nat → Int32) (v : Int32) : ks_c cy ad o 9 i j (upd c 9 v) = .inr (0, ([.int (c 0), .int (c 1), .int (c 2), .int (c 3), .int (c 4), .int (c 5), .int (c 6), .int (c 7), .int (c 8), .int (c 9), .int (c 10), .int (c 11)] : List Value).set 9 (.int v)) := rfl
theorem ks_c9s10 (cy : Nat → ClassId) (ad : ks_A) (o : Int64) (i j : Nat) (c : Nat → Int32) (v : Int32) : ks_c cy ad o 9 i j (upd c 10 v) = .inr (0, ([.int (c 0), .int (c 1), .int (c 2), .int (c 3), .int (c 4), .int (c 5), .int (c 6), .int (c 7), .int (c 8), .int (c 9), .int (c 10), .int (c 11)] : List Value).set 10 (.int v)) := rfl
theorem ks_c9s11 (cy : Nat → ClassId) (ad : ks_A) (o : Int64) (i j : Nat) (c : Nat → Int32) (v : Int32) : ks_c cy ad o 9 i j (upd c 11 v) = .inr (0, ([.int (c 0), .int (c 1), .int (c 2), .int (c 3), .int (c 4), .int (c 5), .int (c 6), .int (c 7), .int (c 8), .int (c 9), .int (c 10), .int (c 11)] : List Value).set 11 (.int v)) := rfl
theorem ks_c11s0 (cy : Nat → ClassId) (ad : ks_A) (o : Int64) (i j : Nat) (c : Nat → Int32) (v : Int32) : ks_c cy ad o 11 i j (upd c 0 v) = .inr (1, ([.int (c 0), .int (c 1), .int (c 2), .int (c 3), .int (c 4), .int (c 5), .int (c 6), .int (c 7)] : List Value).set 0 (.int v)) := rfl
theorem ks_c11s1 (cy : Nat → ClassId) (ad : ks_A) (o : Int64) (i j : Nat) (c : Nat → Int32) (v : Int32) : ks_c cy ad o 11 i j (upd c 1 v) = .inr (1, ([.int (c 0), .int (c 1), .int (c 2), .int (c 3), .int (c 4), .int (c 5), .int (c 6), .int (c 7)] : List Value).set 1 (.int v)) := rfl
theorem ks_c11s2 (cy : Nat → ClassId) (ad : ks_A) (o : Int64) (i j : Nat) (c : Nat → Int32) (v : Int32) : ks_c cy ad o 11 i j (upd c 2 v) = .inr (1, ([.int (c 0), .int (c 1), .int (c 2), .int (c 3), .int (c 4), .int (c 5), .int (c 6), .int (c 7)] : List Value).set 2 (.int v)) := rfl
theorem ks_c11s3 (cy : Nat → ClassId) (ad : ks_A) (o : Int64) (i j : Nat) (c : Nat → Int32) (v : Int32) : ks_c cy ad o 11 i j (upd c 3 v) = .inr (1, ([.int (c 0), .int (c 1), .int (c 2), .int (c 3), .int (c 4), .int (c 5), .int (c 6), .int (c 7)] : List Value).set 3 (.int v)) := rfl
theorem ks_c11s4 (cy : Nat → ClassId) (ad : ks_A) (o : Int64) (i j : Nat) (c : Nat → Int32) (v : Int32) : ks_c cy ad o 11 i j (upd c 4 v) = .inr (1, ([.int (c 0), .int (c 1), .int (c 2), .int (c 3), .int (c 4), .int (c 5), .int (c 6), .int (c 7)] : List Value).set 4 (.int v)) := rfl
theorem ks_c11s5 (cy : Nat → ClassId) (ad : ks_A) (o : Int64) (i j : Nat) (c : Nat → Int32) (v : Int32) : ks_c cy ad o 11 i j (upd c 5 v) = .inr (1, ([.int (c 0), .int (c 1), .int (c 2), .int (c 3), .int (c 4), .int (c 5), .int (c 6), .int (c 7)] : List Value).set 5 (.int v)) := rfl
theorem ks_c11s6 (cy : Nat → ClassId) (ad : ks_A) (o : Int64) (i j : Nat) (c : Nat → Int32) (v : Int32) : ks_c cy ad o 11 i j (upd c 6 v) = .inr (1, ([.int (c 0), .int (c 1), .int (c 2), .int (c 3), .int (c 4), .int (c 5), .int (c 6), .int (c 7)] : List Value).set 6 (.int v)) := rfl
theorem ks_c11s7 (cy : Nat → ClassId) (ad : ks_A) (o : Int64) (i j : Nat) (c : Nat → Int32) (v : Int32) : ks_c cy ad o 11 i j (upd c 7 v) = .inr (1, ([.int (c 0), .int (c 1), .int (c 2), .int (c 3), .int (c 4), .int (c 5), .int (c 6), .int (c 7)] : List Value).set 7 (.int v)) := rfl
theorem ks_c12s1 (cy : Nat → ClassId) (ad : ks_A) (o : Int64) (i j : Nat) (c : Nat → Int32) (v : Int32) : ks_c cy ad o 12 i j (upd c 1 v) = .inr (2, ([.ref (ad 13 i 0), .int (c 1)] : List Value).set 1 (.int v)) := rfl
theorem ks_c14s0 (cy : Nat → ClassId) (ad : ks_A) (o : Int64) (i j : Nat) (c : Nat → Int32) (v : Int32) : ks_c cy ad o 14 i j (upd c 0 v) = .inr (5, ([.int (c 0), .ref (ad 15 0 0), .ref (ad 16 0 0), .ref (ad 17 0 0), .ref (ad 18 0 0), .ref (ad 19 0 0), .ref (ad 20 0 0), .ref (ad 21 0 0), .ref (ad 22 0 0), .ref (ad 23 0 0), .ref (ad 24 0 0), .ref (ad 25 0 0), .int (c 12), .int (c 13), .ref (ad 26 0 0), .ref (ad 27 0 0), .ref (ad 28 0 0), .ref (ad 29 0 0), .ref (ad 30 0 0), .ref (ad 31 0 0), .ref (ad 32 0 0), .ref (ad 33 0 0), .ref (ad 34 0 0), .ref (ad 35 0 0), .ref (ad 36 0 0), .ref (ad 37 0 0), .ref (ad 38 0 0), .int (c 27), .ref (ad 39 0 0), .ref (ad 40 0 0), .ref (ad 41 0 0), .ref (ad 42 0 0), .ref (ad 43 0 0), .ref (ad 44 0 0)] : List Value).set 0 (.int v)) := rfl
theorem ks_c14s12 (cy : Nat → ClassId) (ad : ks_A) (o : Int64) (i j : Nat) (c : Nat → Int32) (v : Int32) : ks_c cy ad o 14 i j (upd c 12 v) = .inr (5, ([.int (c 0), .ref (ad 15 0 0), .ref (ad 16 0 0), .ref (ad 17 0 0), .ref (ad 18 0 0), .ref (ad 19 0 0), .ref (ad 20 0 0), .ref (ad 21 0 0), .ref (ad 22 0 0), .ref (ad 23 0 0), .ref (ad 24 0 0), .ref (ad 25 0 0), .int (c 12), .int (c 13), .ref (ad 26 0 0), .ref (ad 27 0 0), .ref (ad 28 0 0), .ref (ad 29 0 0), .ref (ad 30 0 0), .ref (ad 31 0 0), .ref (ad 32 0 0), .ref (ad 33 0 0), .ref (ad 34 0 0), .ref (ad 35 0 0), .ref (ad 36 0 0), .ref (ad 37 0 0), .ref (ad 38 0 0), .int (c 27), .ref (ad 39 0 0), .ref (ad 40 0 0), .ref (ad 41 0 0), .ref (ad 42 0 0), .ref (ad 43 0 0), .ref (ad 44 0 0)] : List Value).set 12 (.int v)) := rfl
theorem ks_c14s13 (cy : Nat → ClassId) (ad : ks_A) (o : Int64) (i j : Nat) (c : Nat → Int32) (v : Int32) : ks_c cy ad o 14 i j (upd c 13 v) = .inr (5, ([.int (c 0), .ref (ad 15 0 0), .ref (ad 16 0 0), .ref (ad 17 0 0), .ref (ad 18 0 0), .ref (ad 19 0 0), .ref (ad 20 0 0), .ref (ad 21 0 0), .ref (ad 22 0 0), .ref (ad 23 0 0), .ref (ad 24 0 0), .ref (ad 25 0 0), .int (c 12), .int (c 13), .ref (ad 26 0 0), .ref (ad 27 0 0), .ref (ad 28 0 0), .ref (ad 29 0 0), .ref (ad 30 0 0), .ref (ad 31 0 0), .ref (ad 32 0 0), .ref (ad 33 0 0), .ref (ad 34 0 0), .ref (ad 35 0 0), .ref (ad 36 0 0), .ref (ad 37 0 0), .ref (ad 38 0 0), .int (c 27), .ref (ad 39 0 0), .ref (ad 40 0 0), .ref (ad 41 0 0), .ref (ad 42 0 0), .ref (ad 43 0 0), .ref (ad 44 0 0)] : List Value).set 13 (.int v)) := rfl
theorem ks_c14s27 (cy : Nat → ClassId) (ad : ks_A) (o : Int64) (i j : Nat) (c : Nat → Int32) (v : Int32) : ks_c cy ad o 14 i j (upd c 27 v) = .inr (5, ([.int (c 0), .ref (ad 15 0 0), .ref (ad 16 0 0), .ref (ad 17 0 0), .ref (ad 18 0 0), .ref (ad 19 0 0), .ref (ad 20 0 0), .ref (ad 21 0 0), .ref (ad 22 0 0), .ref (ad 23 0 0), .ref (ad 24 0 0), .ref (ad 25 0 0), .int (c 12), .int (c 13), .ref (ad 26 0 0), .ref (ad 27 0 0), .ref (ad 28 0 0), .ref (ad 29 0 0), .ref (ad 30 0 0), .ref (ad 31 0 0), .ref (ad 32 0 0), .ref (ad 33 0 0), .ref (ad 34 0 0), .ref (ad 35 0 0), .ref (ad 36 0 0), .ref (ad 37 0 0), .ref (ad 38 0 0), .int (c 27), .ref (ad 39 0 0), .ref (ad 40 0 0), .ref (ad 41 0 0), .ref (ad 42 0 0), .ref (ad 43 0 0), .ref (ad 44 0 0)] : List Value).set 27 (.int v)) := rfl
abbrev ks_t (cy : Nat → ClassId) : List (ClassId × FieldType) := [(cy 0, .int), (cy 1, .boolean), (cy 2, .long), (cy 3, .object RX3), (cy 4, .object RX2), (cy 5, .object RX1), (cy 6, .array .int)]
def ks_W (D : va_G) (cy : Nat → ClassId) (ad : ks_A) (σ : ks_S) (o : Int64) (H : Heap) : Prop := ∀ k i j, ks_v k i j → va_at D vwCl (ad k i j, ks_c cy ad o k i j (σ k i j)) H
def ks_G (ad : ks_A) (n0 : Nat) : Prop := (∀ k i j, ks_v k i j → n0 ≤ ad k i j) ∧ ∀ k i j k' i' j', ks_v k i j → ks_v k' i' j' → ad k i j = ad k' i' j' → k' = k ∧ i' = i ∧ j' = j
abbrev ks_F (n0 : Nat) : Nat → Prop := fun q => n0 ≤ q
/-- the world in a state of the machine -/
def ks_U (D : va_G) (cy : Nat → ClassId) (ad : ks_A) (n0 : Nat) (σ : ks_S) (o : Int64) (U : State) : Prop := n0 ≤ U.heap.size ∧ ks_W D cy ad σ o U.heap ∧ va_K D vwCl (ks_t cy) U ∧ vx_Zq Bundle.tN "UNASSIGNED_STACK" Bundle.steD (ks_F n0) U U.heap ∧ vx_Zq Bundle.tN "SUPPRESSED_SENTINEL" Bundle.listD (ks_F n0) U U.heap
theorem ks_P1 {D : va_G} {cy : Nat → ClassId} {ad : ks_A} {σ : ks_S} {o : Int64} {H : Heap} (hW : ks_W D cy ad σ o H) {k i j : Nat} (hv : ks_v k i j) {E : va_E} (hc : ks_c cy ad o k i j (σ k i j) = E) : va_P D vwCl [(ad k i j, E)] H := by
  intro n q hq
  match n, hq with
  | 0, hq => cases hq; rw [← hc]; exact hW k i j hv
  | n + 1, hq => simp at hq
theorem ks_W.put {D : va_G} {cy : Nat → ClassId} {ad : ks_A} {n0 : Nat} {σ : ks_S} {o : Int64} {H H1 : Heap} (hG : ks_G ad n0) (hW : ks_W D cy ad σ o H) {k i j : Nat} (hv : ks_v k i j) {z : Nat} {v : Int32}
    (h1 : va_at D vwCl (ad k i j, ks_c cy ad o k i j (upd (σ k i j) z v)) H1) (h2 : ∀ q : Nat, q ≠ ad k i j → H1[q]? = H[q]?) : ks_W D cy ad (ks_up σ k i j z v) o H1 := by
  intro k' i' j' hv'
  by_cases h : k' = k ∧ i' = i ∧ j' = j
  · obtain ⟨rfl, rfl, rfl⟩ := h
    rw [ks_up_c]
    exact h1
  · rw [ks_up_ne σ z v h]
    exact (hW k' i' j' hv').kept (h2 _ fun q => h (hG.2 k i j k' i' j' hv hv' q.symm))
theorem ks_W.out {D : va_G} {cy : Nat → ClassId} {ad : ks_A} {n0 : Nat} {σ : ks_S} {o v : Int64} {H H1 : Heap} (hG : ks_G ad n0) (hW : ks_W D cy ad σ o H)
    (h1 : va_at D vwCl (ad 45 0 0, ks_c cy ad v 45 0 0 (σ 45 0 0)) H1) (h2 : ∀ q : Nat, q ≠ ad 45 0 0 → H1[q]? = H[q]?) : ks_W D cy ad σ v H1 := by
  intro k' i' j' hv'
  by_cases h : k' = 45 ∧ i' = 0 ∧ j' = 0
  · obtain ⟨rfl, rfl, rfl⟩ := h
    exact h1
  · have hne : ad k' i' j' ≠ ad 45 0 0 := fun q => h (hG.2 45 0 0 k' i' j' (by exact ks_v45 (i := 0) (j := 0)) hv' q.symm)
    have hk : k' ≠ 45 := fun q => by
      subst q
      obtain ⟨-, a1, a2⟩ := hv'
      have b1 : i' < 1 := a1
      have b2 : j' < 1 := a2
      exact h ⟨rfl, by omega, by omega⟩
    have he : ks_c cy ad v k' i' j' (σ k' i' j') = ks_c cy ad o k' i' j' (σ k' i' j') := by
      unfold ks_c
      simp only [hk, if_false]
    rw [he]
    exact (hW k' i' j' hv').kept (h2 _ hne)
section KSR
variable {p : Program} {l : Launch} {e : Env} {R : Room} {s : State} {m : MethodId} {args : Array Value} {below : List Frame} {meth : Method} {c : Code} {H : Heap} {locs : List Loc} {cells slots : Nat} {Q : State → Prop}
variable {cc : ByteArray} {pc : Nat} {ls : Array Slot} {rest : List Value} {D : va_G} {H0 : Heap} {cy : Nat → ClassId} {ad : ks_A} {n0 : Nat} {σ : ks_S} {o : Int64} {k i j : Nat}
theorem ks_put (hexec : p.tables.exec = Jvm.exec) (hb : c.code = cc) {own C : String} {T : u_T} {N ci index : Nat} {Ts : List Cond} (hts : ∀ w ∈ Ts, w.before args s = true) (hin : ∀ w ∈ u_ws C T N, w ∈ Ts) (ty0 : Nat → FieldType) (hty : ∀ k, k < N → parseFieldDescriptor (T k).2.2.1 = some (ty0 k)) (hnm : ∀ a, a < N → ∀ b, b < N → a ≠ b → (T a).2.1 ≠ (T b).2.1) (hown : s.vm.findClass own = some m.cls) (hK : va_K D vwCl (ks_t cy) s) (hG : ks_G ad n0) (hW : ks_W D cy ad σ o H) (hS0 : va_S (ks_F n0) H0 H locs) (hv : ks_v k i j) (z : Nat) {v : Int32} {fs : List Value} (hc : ks_c cy ad o k i j (σ k i j) = .inr (ci, fs)) (hc' : ks_c cy ad o k i j (upd (σ k i j) z v) = .inr (ci, fs.set z (.int v))) (hcl : vwCl[ci]? = some (C, T, N)) (hk : z < N) (hlink : (Cond.fieldLink own index (T z).1 (T z).2.1 (T z).2.2.1).before args s = true) (hfin : (T z).2.2.2 = false) {ty : FieldType} (hd : parseFieldDescriptor (T z).2.2.1 = some ty) (hn : narrow ty (.int v) = .int v) (hfit : fits ty (.int v) = true) (hl : z < fs.length)
    (hdg : decode cc pc = .ok (.putfield index, 3)) (kk : ∀ (H1 : Heap) (locs1 : List Loc), ks_W D cy ad (ks_up σ k i j z v) o H1 → va_S (ks_F n0) H0 H1 locs1 → W p l e R s m args below meth c H1 locs1 cells slots Q (F0 m (pc + 3) ls rest)) : W p l e R s m args below meth c H locs cells slots Q (F0 m pc ls (.int v :: .ref (ad k i j) :: rest)) := by
  have hap := va_apart (own := own) hts hin ty0 hty hnm hK hcl
  have h0 := hW k i j hv
  rw [hc] at h0
  obtain ⟨r, h1, cell, q1, q2, q3, q4⟩ := h0
  have hr : r = (C, T, N) := Option.some.inj (h1.symm.trans hcl)
  subst hr
  obtain ⟨hS, hfc, kC, hkC, hkind⟩ := hK.1 ci _ hcl
  obtain ⟨cf, kf, fi, f, hi, hsl⟩ := hS z hk
  have hlay := hts _ (hin _ (u_in_lay hk))
  unfold u_lay at hlay
  rw [if_neg (by rw [hfin]; decide)] at hlay
  have hst := (u_facts hfc hkC (u_lays hts hin hk) hi).1
  have h6 := u_store hfc hkC hkind hlay hi hd hn hfit
  refine W.putK hexec hb (f := f) ⟨hown, hlink, ⟨_, _, _, hi⟩, hst⟩ (by rw [q2]; exact h6) q1 q3 (by rw [hsl]; exact k2_hasslot (q4 z hk)) rfl rfl hdg fun H' e1 e2 e3 => ?_
  rw [hsl] at e1 ⊢
  refine kk H' _ (hW.put hG hv ?_ e3) (hS0.put e2 e3 (hG.1 k i j hv))
  rw [hc']
  exact ⟨_, hcl, t_OB.to (V := updV (vp_V fs) z (.int v)) ⟨_, e1, q2, q3, t_set q4 hap hk (.int v)⟩ (fun j _ => vp_updV_set hl (.int v) j)⟩
theorem ks_iast (hexec : p.tables.exec = Jvm.exec) (hb : c.code = cc) (hK : va_K D vwCl (ks_t cy) s) (hG : ks_G ad n0) (hW : ks_W D cy ad σ o H) (hS0 : va_S (ks_F n0) H0 H locs) (hv : ks_v k i j) {n : Nat} (hc : ∀ c, ks_c cy ad o k i j c = .inl (cy 0, n, .inl c)) {x y : Int32} (hin : ks_in x n = true) (hdg : decode cc pc = .ok (.iastore, 1))
    (kk : ∀ (H1 : Heap) (locs1 : List Loc), ks_W D cy ad (ks_up σ k i j x.toNatClampNeg y) o H1 → va_S (ks_F n0) H0 H1 locs1 → W p l e R s m args below meth c H1 locs1 cells slots Q (F0 m (pc + 1) ls rest)) : W p l e R s m args below meth c H locs cells slots Q (F0 m pc ls (.int y :: .int x :: .ref (ad k i j) :: rest)) := by
  have h0 := hW k i j hv
  rw [hc] at h0
  have h0' : H[ad k i j]? = some (vp_cell (cy 0) (n, .inl (σ k i j))) := h0
  refine W.iast hexec hb h0' ((hK.2 0 _ rfl).1 n (fun j' => .int (σ k i j j'))) (fun q => by cases q) (by show ¬ (x < 0 ∨ (arrV _ _ _).slots.size ≤ _); rw [arrV_size]; exact ks_in_vp hin) rfl rfl hdg fun H1 e z oq => ?_
  refine kk H1 _ (hW.put hG hv ?_ oq) (hS0.put z oq (hG.1 k i j hv))
  rw [hc]
  show H1[ad k i j]? = some (vp_cell _ _)
  rw [e]
  rw [vp_cell_i, vp_cell_i, arrV_store]
  congr 2
  funext q
  by_cases hq : q = x.toNatClampNeg
  · subst hq
    simp [updV, upd]
  · simp [updV, upd, hq]
theorem ks_zast (hexec : p.tables.exec = Jvm.exec) (hb : c.code = cc) (hK : va_K D vwCl (ks_t cy) s) (hG : ks_G ad n0) (hW : ks_W D cy ad σ o H) (hS0 : va_S (ks_F n0) H0 H locs) (hv : ks_v k i j) {n : Nat} (hc : ∀ c, ks_c cy ad o k i j c = .inl (cy 1, n, .inl c)) {x y : Int32} (hin : ks_in x n = true) (hy : vp_nar .boolean y = y) (hdg : decode cc pc = .ok (.bastore, 1))
    (kk : ∀ (H1 : Heap) (locs1 : List Loc), ks_W D cy ad (ks_up σ k i j x.toNatClampNeg y) o H1 → va_S (ks_F n0) H0 H1 locs1 → W p l e R s m args below meth c H1 locs1 cells slots Q (F0 m (pc + 1) ls rest)) : W p l e R s m args below meth c H locs cells slots Q (F0 m pc ls (.int y :: .int x :: .ref (ad k i j) :: rest)) := by
  have h0 := hW k i j hv
  rw [hc] at h0
  have h0' : H[ad k i j]? = some (vp_cell (cy 1) (n, .inl (σ k i j))) := h0
  refine W.zast hexec hb h0' ((hK.2 1 _ rfl).1 n (fun j' => .int (σ k i j j'))) (fun q => by cases q) (by show ¬ (x < 0 ∨ (arrV _ _ _).slots.size ≤ _); rw [arrV_size]; exact ks_in_vp hin) rfl rfl hdg fun H1 e z oq => ?_
  refine kk H1 _ (hW.put hG hv ?_ oq) (hS0.put z oq (hG.1 k i j hv))
  rw [hc]
  show H1[ad k i j]? = some (vp_cell _ _)
  rw [e]
  rw [vp_cell_i, vp_cell_i, arrV_store]
  congr 2
  funext q
  by_cases hq : q = x.toNatClampNeg
  · subst hq
    simp only [updV, upd, if_true]
    rw [show narrow .boolean (.int y) = .int (vp_nar .boolean y) from rfl, hy]
  · simp [updV, upd, hq]
theorem ks_iald (hexec : p.tables.exec = Jvm.exec) (hb : c.code = cc) (hK : va_K D vwCl (ks_t cy) s) (hW : ks_W D cy ad σ o H) (hv : ks_v k i j) {n : Nat} (hc : ks_c cy ad o k i j (σ k i j) = .inl (cy 0, n, .inl (σ k i j))) {x : Int32} (hin : ks_in x n = true) (hdg : decode cc pc = .ok (.iaload, 1))
    (kk : W p l e R s m args below meth c H locs cells slots Q (F0 m (pc + 1) ls (.int (σ k i j x.toNatClampNeg) :: rest))) : W p l e R s m args below meth c H locs cells slots Q (F0 m pc ls (.int x :: .ref (ad k i j) :: rest)) :=
  va_iald hexec hb hK (ks_P1 hW hv hc) 0 0 rfl rfl (ks_in_vp hin) hdg kk
theorem ks_zald (hexec : p.tables.exec = Jvm.exec) (hb : c.code = cc) (hK : va_K D vwCl (ks_t cy) s) (hW : ks_W D cy ad σ o H) (hv : ks_v k i j) {n : Nat} (hc : ks_c cy ad o k i j (σ k i j) = .inl (cy 1, n, .inl (σ k i j))) {x : Int32} (hin : ks_in x n = true) (hdg : decode cc pc = .ok (.baload, 1))
    (kk : W p l e R s m args below meth c H locs cells slots Q (F0 m (pc + 1) ls (.int (σ k i j x.toNatClampNeg) :: rest))) : W p l e R s m args below meth c H locs cells slots Q (F0 m pc ls (.int x :: .ref (ad k i j) :: rest)) :=
  va_zald hexec hb hK (ks_P1 hW hv hc) 0 1 rfl rfl (ks_in_vp hin) hdg kk
theorem ks_aald (hexec : p.tables.exec = Jvm.exec) (hb : c.code = cc) (hK : va_K D vwCl (ks_t cy) s) (hW : ks_W D cy ad σ o H) (hv : ks_v k i j) (t0 : Nat) {n : Nat} {f : Nat → Nat} {cA : ClassId} {ty : FieldType} (hc : ks_c cy ad o k i j (σ k i j) = .inl (cA, n, ks_r f)) (ht : (ks_t cy)[t0]? = some (cA, ty)) (hty : ty.isReference = true) {x : Int32} (hin : ks_in x n = true) (hdg : decode cc pc = .ok (.aaload, 1))
    (kk : W p l e R s m args below meth c H locs cells slots Q (F0 m (pc + 1) ls (.ref (f x.toNatClampNeg) :: rest))) : W p l e R s m args below meth c H locs cells slots Q (F0 m pc ls (.int x :: .ref (ad k i j) :: rest)) := by
  have h0 := hW k i j hv
  rw [hc] at h0
  have h0' : H[ad k i j]? = some (arrV cA n (fun j' => va_rf (some (f j')))) := h0
  have hlt := ks_in_lt hin
  exact W.aald (v := .ref (f x.toNatClampNeg)) (ty := ty) hexec hb h0' ((hK.2 t0 _ ht).1 n (fun j' => va_rf (some (f j')))) hty (fun q => by cases q) (by rw [arrV_size]; exact ks_in_vp hin) (by rw [arrV_read _ _ hlt]; rfl) rfl rfl hdg kk
theorem ks_alen (hexec : p.tables.exec = Jvm.exec) (hb : c.code = cc) (hK : va_K D vwCl (ks_t cy) s) (hW : ks_W D cy ad σ o H) (hv : ks_v k i j) (t0 : Nat) {cA : ClassId} {x : vp_A} {ty : FieldType} (hc : ks_c cy ad o k i j (σ k i j) = .inl (cA, x)) (ht : (ks_t cy)[t0]? = some (cA, ty)) {v : Int32} (hv' : Int32.ofNat x.1 = v) (hdg : decode cc pc = .ok (.arraylength, 1))
    (kk : W p l e R s m args below meth c H locs cells slots Q (F0 m (pc + 1) ls (.int v :: rest))) : W p l e R s m args below meth c H locs cells slots Q (F0 m pc ls (.ref (ad k i j) :: rest)) :=
  va_alen hexec hb hK (ks_P1 hW hv hc) 0 t0 rfl ht hv' hdg kk
end KSR
/-- the world as a callee's start, and as a call leaves it -/
theorem ks_U.moved {D : va_G} {cy : Nat → ClassId} {ad : ks_A} {n0 : Nat} {σ : ks_S} {o : Int64} {u U : State} (hvm : u.vm.Alike U.vm) (hh : U.heap = u.heap) (h : ks_U D cy ad n0 σ o u) : ks_U D cy ad n0 σ o U := by
  obtain ⟨h1, h2, h3, h4, h5⟩ := h
  refine ⟨by rw [hh]; exact h1, by rw [hh]; exact h2, va_K.moved hvm h3, ?_, ?_⟩
  · rw [hh]; exact vx_Zq.moved hvm h4
  · rw [hh]; exact vx_Zq.moved hvm h5
theorem ks_U.blind {D : va_G} {cy : Nat → ClassId} {ad : ks_A} {n0 : Nat} {σ : ks_S} {o : Int64} {av : List Value} : FrameBlind (va_Pc av (ks_U D cy ad n0 σ o)) := fun a U g mk q => ⟨q.1, ks_U.moved (u := U) (U := U.calling g mk a) (Vm.Alike.refl U.vm) rfl q.2⟩
/-- what a walk holds: the method's start, and the world where it now is -/
theorem ks_U.now {D : va_G} {cy : Nat → ClassId} {ad : ks_A} {n0 : Nat} {σ σ' : ks_S} {o o' : Int64} {s t : State} {H : Heap} {locs : List Loc} (h : ks_U D cy ad n0 σ o s) (hS : va_S (ks_F n0) s.heap H locs) (hW : ks_W D cy ad σ' o' H) (hvm : s.vm.Alike t.vm) (ht : t.heap = H) : ks_U D cy ad n0 σ' o' t := by
  obtain ⟨h1, h2, h3, h4, h5⟩ := h
  refine ⟨by rw [ht]; exact Nat.le_trans h1 hS.1, by rw [ht]; exact hW, va_K.moved hvm h3, ?_, ?_⟩
  · rw [ht]; exact vx_Zq.moved hvm (h4.kept hS.2.1)
  · rw [ht]; exact vx_Zq.moved hvm (h5.kept hS.2.1)
theorem ks_U.W {D : va_G} {cy : Nat → ClassId} {ad : ks_A} {n0 : Nat} {σ : ks_S} {o : Int64} {t : State} {H : Heap} (h : ks_U D cy ad n0 σ o t) (ht : t.heap = H) : ks_W D cy ad σ o H := by
  subst ht
  exact h.2.1
theorem ks_recv {D : va_G} {cy : Nat → ClassId} {ad : ks_A} {σ : ks_S} {o : Int64} {s : State} {H : Heap} (hK : va_K D vwCl (ks_t cy) s) (hW : ks_W D cy ad σ o H) {k i j ci : Nat} {fs : List Value} {q : vw_C} (hv : ks_v k i j) (hc : ks_c cy ad o k i j (σ k i j) = .inr (ci, fs)) (hcl : vwCl[ci]? = some q) : ∃ cell : Cell, H[ad k i j]? = some cell ∧ cell.vm.isStatics = false ∧ s.vm.findClass q.1 = some cell.cls :=
  va_recv hK (ks_P1 hW hv hc) (q0 := 0) hcl rfl
end
section
/-! Rows that every walk uses: the shallow functions' guards, what a method owes, its returns, its calls. -/
theorem ks_bind {α β : Type} {x : Option α} {g : α → Option β} {out : β} (h : x.bind g = some out) : ∃ q, x = some q ∧ g q = some out := Option.bind_eq_some_iff.mp h
theorem ks_guard {α : Type} {c : Prop} [Decidable c] {x : Option α} {out : α} (h : (if c then x else none) = some out) : c ∧ x = some out := by
  by_cases hc : c
  · rw [if_pos hc] at h
    exact ⟨hc, h⟩
  · rw [if_neg hc] at h
    exact absurd h (by simp)
abbrev ks_Rm (f c z w : Nat) : Room := { frames := f, cells := c, slots := z, locals := w }
/-- what a walk stands on: the machine, the method, its words, the world at its start -/
def ks_M (p : Program) (s : State) (m : MethodId) (args : Array Value) (meth : Method) (c : Code) (D : va_G) (cy : Nat → ClassId) (ad : ks_A) (n0 : Nat) (σ0 : ks_S) (o : Int64) (ws : List Cond) (cc : ByteArray) (own : String) (nL : Nat) (ret : Option FieldType) : Prop :=
  p.tables.exec = Jvm.exec ∧ c.code = cc ∧ c.maxLocals = nL ∧ meth.sig.returnType = ret ∧ s.vm.findClass own = some m.cls ∧ (∀ w ∈ ws, w.before args s = true) ∧ meth.locks = false ∧ ks_G ad n0 ∧ ks_U D cy ad n0 σ0 o s
def ks_Qi (D : va_G) (cy : Nat → ClassId) (ad : ks_A) (n0 : Nat) (o : Int64) (out : Int32 × ks_S) : Array Value → State → Outcome → State → Prop := va_Qi (fun (r : Int32) (u : ks_S) => r = out.1 ∧ u = out.2) (fun u t => ks_U D cy ad n0 u o t) (ks_F n0)
def ks_Qv (D : va_G) (cy : Nat → ClassId) (ad : ks_A) (n0 : Nat) (o : Int64) (out : ks_S) : Array Value → State → Outcome → State → Prop := va_Qv (fun (u : ks_S) => u = out) (fun u t => ks_U D cy ad n0 u o t) (ks_F n0)
def ks_Qr (D : va_G) (cy : Nat → ClassId) (ad : ks_A) (n0 : Nat) (o : Int64) (k : Nat) (out : (Nat × Nat) × ks_S) : Array Value → State → Outcome → State → Prop := va_Qr (fun (u : ks_S) => u = out.2 ∧ ks_v k out.1.1 out.1.2) (fun u a t => a = ad k out.1.1 out.1.2 ∧ ks_U D cy ad n0 u o t) (ks_F n0)
/-- an exception's class by its number -/
def ks_E (n : Nat) : String := if n = 0 then "java/lang/IndexOutOfBoundsException" else if n = 1 then "java/lang/IllegalStateException" else "java/lang/IllegalArgumentException"
/-- of a method that may throw: what it answers, and what it throws -/
def ks_Yi (D : va_G) (cy : Nat → ClassId) (ad : ks_A) (n0 : Nat) (o : Int64) (out : (Nat ⊕ Int32) × ks_S) : Array Value → State → Outcome → State → Prop := va_Qi (fun (r : Int32) (u : ks_S) => out = (.inr r, u)) (fun u t => ks_U D cy ad n0 u o t) (ks_F n0)
def ks_Yv (D : va_G) (cy : Nat → ClassId) (ad : ks_A) (n0 : Nat) (o : Int64) (out : (Nat ⊕ Unit) × ks_S) : Array Value → State → Outcome → State → Prop := va_Qv (fun (u : ks_S) => out = (.inr (), u)) (fun u t => ks_U D cy ad n0 u o t) (ks_F n0)
def ks_Yr (D : va_G) (cy : Nat → ClassId) (ad : ks_A) (n0 : Nat) (o : Int64) (k : Nat) (out : (Nat ⊕ (Nat × Nat)) × ks_S) : Array Value → State → Outcome → State → Prop := va_Qr (fun (u : ks_S) => ∃ i j, out = (.inr (i, j), u) ∧ ks_v k i j) (fun u a t => (∀ i j, out.1 = .inr (i, j) → a = ad k i j) ∧ ks_U D cy ad n0 u o t) (ks_F n0)
def ks_X {α : Type} (D : va_G) (cy : Nat → ClassId) (ad : ks_A) (n0 : Nat) (o : Int64) (out : (Nat ⊕ α) × ks_S) : String → State → State → Prop := vx_X (fun (u : ks_S) => ∃ n, out = (.inl n, u)) (fun E u t => (∀ n, out.1 = .inl n → E = ks_E n) ∧ ks_U D cy ad n0 u o t) (ks_F n0)
section KSW
variable {p : Program} {l : Launch} {e : Env} {R : Room} {s : State} {m : MethodId} {args : Array Value} {below : List Frame} {meth : Method} {c : Code} {H : Heap} {locs : List Loc} {cells slots : Nat} {Q : State → Prop}
variable {cc : ByteArray} {pc : Nat} {ls : Array Slot} {rest st0 : List Value} {D : va_G} {cy : Nat → ClassId} {ad : ks_A} {n0 : Nat} {σ0 σ : ks_S} {o : Int64} {ws : List Cond} {own : String} {nL : Nat} {a : Array Value}
theorem ks_iret {x : Int32} {out : Int32 × ks_S} (C : ks_M p s m args meth c D cy ad n0 σ0 o ws cc own nL (some .int)) (hf : some (x, σ) = some out) (hW : ks_W D cy ad σ o H) (hS : va_S (ks_F n0) s.heap H locs) (hdg : decode cc pc = .ok (.ireturn, 1)) : W p l e R s m args below meth c H locs cells slots (MQ below (ks_Qi D cy ad n0 o out) args s cells slots (ks_F n0)) (F0 m pc ls [.int x]) := by
  obtain ⟨hx, hb, -, hr, -, -, hlocks, -, hU⟩ := C
  cases hf
  exact W.iret (v := x) hx hb hr (fun t ht hWm => ⟨⟨x, σ, rfl, ⟨rfl, rfl⟩, hU.now hS hW hWm.alike ht⟩, hS.F ht⟩) hS.2.2 hdg
theorem ks_zret {x : Int32} {out : Int32 × ks_S} (C : ks_M p s m args meth c D cy ad n0 σ0 o ws cc own nL (some .boolean)) (hn : narrow .boolean (.int x) = .int x) (hf : some (x, σ) = some out) (hW : ks_W D cy ad σ o H) (hS : va_S (ks_F n0) s.heap H locs) (hdg : decode cc pc = .ok (.ireturn, 1)) : W p l e R s m args below meth c H locs cells slots (MQ below (ks_Qi D cy ad n0 o out) args s cells slots (ks_F n0)) (F0 m pc ls [.int x]) := by
  obtain ⟨hx, hb, -, hr, -, -, hlocks, -, hU⟩ := C
  cases hf
  exact W.zret (v := x) hx hb hr hn (fun t ht hWm => ⟨⟨x, σ, rfl, ⟨rfl, rfl⟩, hU.now hS hW hWm.alike ht⟩, hS.F ht⟩) hS.2.2 hdg
theorem ks_vret {out : ks_S} (C : ks_M p s m args meth c D cy ad n0 σ0 o ws cc own nL none) (hf : some σ = some out) (hW : ks_W D cy ad σ o H) (hS : va_S (ks_F n0) s.heap H locs) (hdg : decode cc pc = .ok (.return_, 1)) : W p l e R s m args below meth c H locs cells slots (MQ below (ks_Qv D cy ad n0 o out) args s cells slots (ks_F n0)) (F0 m pc ls []) := by
  obtain ⟨hx, hb, -, hr, -, -, hlocks, -, hU⟩ := C
  cases hf
  exact W.vret hx hb hr (fun t ht hWm => ⟨⟨σ, rfl, rfl, hU.now hS hW hWm.alike ht⟩, hS.F ht⟩) hS.2.2 hdg
theorem ks_aret {k i j : Nat} {nm : String} {out : (Nat × Nat) × ks_S} (C : ks_M p s m args meth c D cy ad n0 σ0 o ws cc own nL (some (.object nm))) (hv : ks_v k i j) (hf : some ((i, j), σ) = some out) (hW : ks_W D cy ad σ o H) (hS : va_S (ks_F n0) s.heap H locs) (hdg : decode cc pc = .ok (.areturn, 1)) : W p l e R s m args below meth c H locs cells slots (MQ below (ks_Qr D cy ad n0 o k out) args s cells slots (ks_F n0)) (F0 m pc ls [.ref (ad k i j)]) := by
  obtain ⟨hx, hb, -, hr, -, -, hlocks, -, hU⟩ := C
  cases hf
  exact W.aret (v := .ref (ad k i j)) hx hb hr (Or.inl ⟨_, rfl⟩) (Or.inr ⟨_, rfl⟩) (fun t ht hWm => ⟨⟨σ, ad k i j, rfl, ⟨rfl, hv⟩, rfl, hU.now hS hW hWm.alike ht⟩, hS.F ht⟩) hS.2.2 hdg
/-- the same for a method that may throw -/
theorem ks_yiret {x : Int32} {mc ms : Nat} {out : (Nat ⊕ Int32) × ks_S} (hc : cells ≤ mc) (hz : slots ≤ ms) (C : ks_M p s m args meth c D cy ad n0 σ0 o ws cc own nL (some .int)) (hf : some (.inr x, σ) = some out) (hW : ks_W D cy ad σ o H) (hS : va_S (ks_F n0) s.heap H locs) (hdg : decode cc pc = .ok (.ireturn, 1)) : W p l e R s m args below meth c H locs cells slots (vx_MQ below (ks_Yi D cy ad n0 o out) (ks_X D cy ad n0 o out) args s mc ms (ks_F n0)) (F0 m pc ls [.int x]) := by
  obtain ⟨hx, hb, -, hr, -, -, hlocks, -, hU⟩ := C
  cases hf
  refine W.widen (k := mc) (n := ms) hc hz ?_
  exact vx_ret (W.iret (v := x) hx hb hr (fun t ht hWm => ⟨⟨x, σ, rfl, rfl, hU.now hS hW hWm.alike ht⟩, hS.F ht⟩) hS.2.2 hdg)
theorem ks_yzret {x : Int32} {mc ms : Nat} {out : (Nat ⊕ Int32) × ks_S} (hc : cells ≤ mc) (hz : slots ≤ ms) (C : ks_M p s m args meth c D cy ad n0 σ0 o ws cc own nL (some .boolean)) (hn : narrow .boolean (.int x) = .int x) (hf : some (.inr x, σ) = some out) (hW : ks_W D cy ad σ o H) (hS : va_S (ks_F n0) s.heap H locs) (hdg : decode cc pc = .ok (.ireturn, 1)) : W p l e R s m args below meth c H locs cells slots (vx_MQ below (ks_Yi D cy ad n0 o out) (ks_X D cy ad n0 o out) args s mc ms (ks_F n0)) (F0 m pc ls [.int x]) := by
  obtain ⟨hx, hb, -, hr, -, -, hlocks, -, hU⟩ := C
  cases hf
  refine W.widen (k := mc) (n := ms) hc hz ?_
  exact vx_ret (W.zret (v := x) hx hb hr hn (fun t ht hWm => ⟨⟨x, σ, rfl, rfl, hU.now hS hW hWm.alike ht⟩, hS.F ht⟩) hS.2.2 hdg)
theorem ks_yvret {mc ms : Nat} {out : (Nat ⊕ Unit) × ks_S} (hc : cells ≤ mc) (hz : slots ≤ ms) (C : ks_M p s m args meth c D cy ad n0 σ0 o ws cc own nL none) (hf : some (.inr (), σ) = some out) (hW : ks_W D cy ad σ o H) (hS : va_S (ks_F n0) s.heap H locs) (hdg : decode cc pc = .ok (.return_, 1)) : W p l e R s m args below meth c H locs cells slots (vx_MQ below (ks_Yv D cy ad n0 o out) (ks_X D cy ad n0 o out) args s mc ms (ks_F n0)) (F0 m pc ls []) := by
  obtain ⟨hx, hb, -, hr, -, -, hlocks, -, hU⟩ := C
  cases hf
  refine W.widen (k := mc) (n := ms) hc hz ?_
  exact vx_ret (W.vret hx hb hr (fun t ht hWm => ⟨⟨σ, rfl, rfl, hU.now hS hW hWm.alike ht⟩, hS.F ht⟩) hS.2.2 hdg)
theorem ks_yaret {k i j : Nat} {nm : String} {mc ms : Nat} {out : (Nat ⊕ (Nat × Nat)) × ks_S} (hc : cells ≤ mc) (hz : slots ≤ ms) (C : ks_M p s m args meth c D cy ad n0 σ0 o ws cc own nL (some (.object nm))) (hv : ks_v k i j) (hf : some (.inr (i, j), σ) = some out) (hW : ks_W D cy ad σ o H) (hS : va_S (ks_F n0) s.heap H locs) (hdg : decode cc pc = .ok (.areturn, 1)) : W p l e R s m args below meth c H locs cells slots (vx_MQ below (ks_Yr D cy ad n0 o k out) (ks_X D cy ad n0 o out) args s mc ms (ks_F n0)) (F0 m pc ls [.ref (ad k i j)]) := by
  obtain ⟨hx, hb, -, hr, -, -, hlocks, -, hU⟩ := C
  cases hf
  refine W.widen (k := mc) (n := ms) hc hz ?_
  exact vx_ret (W.aret (v := .ref (ad k i j)) hx hb hr (Or.inl ⟨_, rfl⟩) (Or.inr ⟨_, rfl⟩) (fun t ht hWm => ⟨⟨σ, ad k i j, rfl, ⟨i, j, rfl, hv⟩, (fun i' j' q => by cases q; rfl), hU.now hS hW hWm.alike ht⟩, hS.F ht⟩) hS.2.2 hdg)
/-- behind a call -/
theorem ks_calli {x : Int32} {σ1 : ks_S} (hr : va_Run p l e R s m args below meth c H locs cells slots 0 0 (F0 m pc ls st0) rest (ks_Qi D cy ad n0 o (x, σ1) a) (ks_F n0)) (hS : va_S (ks_F n0) s.heap H locs)
    (kk : ∀ (H1 : Heap) (locs1 : List Loc), ks_W D cy ad σ1 o H1 → va_S (ks_F n0) s.heap H1 locs1 → W p l e R s m args below meth c H1 locs1 cells slots Q (F0 m (pc + 3) ls (.int x :: rest))) : W p l e R s m args below meth c H locs cells slots Q (F0 m pc ls st0) := by
  refine va_calli hr hS (fun q _ h => h) (fun q h => h) (fun r u t H1 locs1 ht hvm hw hB hz1 hk1 hS1 => ?_)
  obtain ⟨rfl, rfl⟩ : r = x ∧ u = σ1 := hw
  exact kk H1 locs1 (hB.W ht) hS1
theorem ks_callv {σ1 : ks_S} (hr : va_Run p l e R s m args below meth c H locs cells slots 0 0 (F0 m pc ls st0) rest (ks_Qv D cy ad n0 o σ1 a) (ks_F n0)) (hS : va_S (ks_F n0) s.heap H locs)
    (kk : ∀ (H1 : Heap) (locs1 : List Loc), ks_W D cy ad σ1 o H1 → va_S (ks_F n0) s.heap H1 locs1 → W p l e R s m args below meth c H1 locs1 cells slots Q (F0 m (pc + 3) ls rest)) : W p l e R s m args below meth c H locs cells slots Q (F0 m pc ls st0) := by
  refine va_callv hr hS (fun q _ h => h) (fun q h => h) (fun u t H1 locs1 ht hvm hw hB hz1 hk1 hS1 => ?_)
  have hw' : u = σ1 := hw
  subst hw'
  exact kk H1 locs1 (hB.W ht) hS1
theorem ks_callr {k i j : Nat} {σ1 : ks_S} (hr : va_Run p l e R s m args below meth c H locs cells slots 0 0 (F0 m pc ls st0) rest (ks_Qr D cy ad n0 o k ((i, j), σ1) a) (ks_F n0)) (hS : va_S (ks_F n0) s.heap H locs)
    (kk : ∀ (H1 : Heap) (locs1 : List Loc), ks_v k i j → ks_W D cy ad σ1 o H1 → va_S (ks_F n0) s.heap H1 locs1 → W p l e R s m args below meth c H1 locs1 cells slots Q (F0 m (pc + 3) ls (.ref (ad k i j) :: rest))) : W p l e R s m args below meth c H locs cells slots Q (F0 m pc ls st0) := by
  refine va_callr hr hS (fun q _ h => h) (fun q h => h) (fun u ra t H1 locs1 ht hvm hw hB hz1 hk1 hS1 => ?_)
  obtain ⟨h1, h2⟩ : u = σ1 ∧ ks_v k i j := hw
  obtain ⟨h3, h4⟩ : ra = ad k i j ∧ ks_U D cy ad n0 u o t := hB
  subst h1; subst h3
  exact kk H1 locs1 h2 (h4.W ht) hS1
end KSW
end
