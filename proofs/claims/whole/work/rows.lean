section
-- ===== PART A: goes FIRST, ahead of the names: the tables' words, and 'selects' of the private methods out of them =====
/-- a private method of a class that the tables say can be made, by its rows of tables_1 -/
def lw_okq (q : MethodName × Nat) : Prop := (q.1.cls ≠ "java/lang/invoke/MethodHandle" ∧ q.1.cls ≠ "java/lang/invoke/VarHandle") ∧ Cond.instantiable q.1.cls q.2 ∈ tables_1 ∧ Cond.privateMethod q.1 ∈ tables_1 ∧ Cond.instanceMethod q.1 ∈ tables_1
theorem lw_p0 : lw_okq (⟨"java/lang/Throwable", "fillInStackTrace", "(I)Ljava/lang/Throwable;"⟩, 6) := ⟨⟨by decide +kernel, by decide +kernel⟩, List.mem_of_getElem? (i := 270) (by decide +kernel), List.mem_of_getElem? (i := 268) (by decide +kernel), List.mem_of_getElem? (i := 269) (by decide +kernel)⟩
theorem lw_p1 : lw_okq (⟨"SpinKernel", "isPriorityTaken", "(II)Z"⟩, 8) := ⟨⟨by decide +kernel, by decide +kernel⟩, List.mem_of_getElem? (i := 16) (by decide +kernel), List.mem_of_getElem? (i := 310) (by decide +kernel), List.mem_of_getElem? (i := 311) (by decide +kernel)⟩
theorem lw_p2 : lw_okq (⟨"SpinKernel", "measure", "()V"⟩, 8) := ⟨⟨by decide +kernel, by decide +kernel⟩, List.mem_of_getElem? (i := 16) (by decide +kernel), List.mem_of_getElem? (i := 337) (by decide +kernel), List.mem_of_getElem? (i := 338) (by decide +kernel)⟩
theorem lw_p3 : lw_okq (⟨"SpinKernel", "formGroups", "()V"⟩, 8) := ⟨⟨by decide +kernel, by decide +kernel⟩, List.mem_of_getElem? (i := 16) (by decide +kernel), List.mem_of_getElem? (i := 341) (by decide +kernel), List.mem_of_getElem? (i := 342) (by decide +kernel)⟩
theorem lw_p4 : lw_okq (⟨"SpinKernel", "joinGroups", "(II)V"⟩, 8) := ⟨⟨by decide +kernel, by decide +kernel⟩, List.mem_of_getElem? (i := 16) (by decide +kernel), List.mem_of_getElem? (i := 349) (by decide +kernel), List.mem_of_getElem? (i := 350) (by decide +kernel)⟩
theorem lw_p5 : lw_okq (⟨"SpinKernel", "findLongest", "()V"⟩, 8) := ⟨⟨by decide +kernel, by decide +kernel⟩, List.mem_of_getElem? (i := 16) (by decide +kernel), List.mem_of_getElem? (i := 359) (by decide +kernel), List.mem_of_getElem? (i := 360) (by decide +kernel)⟩
theorem lw_p6 : lw_okq (⟨"SpinKernel", "inflate", "(LSpinKernel$Task;)V"⟩, 8) := ⟨⟨by decide +kernel, by decide +kernel⟩, List.mem_of_getElem? (i := 16) (by decide +kernel), List.mem_of_getElem? (i := 363) (by decide +kernel), List.mem_of_getElem? (i := 364) (by decide +kernel)⟩
theorem lw_p7 : lw_okq (⟨"SpinKernel", "longestElsewhere", "(II)I"⟩, 8) := ⟨⟨by decide +kernel, by decide +kernel⟩, List.mem_of_getElem? (i := 16) (by decide +kernel), List.mem_of_getElem? (i := 367) (by decide +kernel), List.mem_of_getElem? (i := 368) (by decide +kernel)⟩
theorem lw_p8 : lw_okq (⟨"SpinKernel", "taskAt", "(I)LSpinKernel$Task;"⟩, 8) := ⟨⟨by decide +kernel, by decide +kernel⟩, List.mem_of_getElem? (i := 16) (by decide +kernel), List.mem_of_getElem? (i := 378) (by decide +kernel), List.mem_of_getElem? (i := 379) (by decide +kernel)⟩
theorem lw_p9 : lw_okq (⟨"SpinKernel", "blockingOf", "(LSpinKernel$Task;)I"⟩, 8) := ⟨⟨by decide +kernel, by decide +kernel⟩, List.mem_of_getElem? (i := 16) (by decide +kernel), List.mem_of_getElem? (i := 434) (by decide +kernel), List.mem_of_getElem? (i := 435) (by decide +kernel)⟩
theorem lw_p10 : lw_okq (⟨"SpinKernel", "responseOf", "(LSpinKernel$Task;)I"⟩, 8) := ⟨⟨by decide +kernel, by decide +kernel⟩, List.mem_of_getElem? (i := 16) (by decide +kernel), List.mem_of_getElem? (i := 443) (by decide +kernel), List.mem_of_getElem? (i := 444) (by decide +kernel)⟩
theorem lw_p11 : lw_okq (⟨"SpinKernel", "demandAbove", "(LSpinKernel$Task;I)I"⟩, 8) := ⟨⟨by decide +kernel, by decide +kernel⟩, List.mem_of_getElem? (i := 16) (by decide +kernel), List.mem_of_getElem? (i := 447) (by decide +kernel), List.mem_of_getElem? (i := 448) (by decide +kernel)⟩
theorem lw_p12 : lw_okq (⟨"SpinKernel", "isAnyJobOpen", "()Z"⟩, 8) := ⟨⟨by decide +kernel, by decide +kernel⟩, List.mem_of_getElem? (i := 16) (by decide +kernel), List.mem_of_getElem? (i := 469) (by decide +kernel), List.mem_of_getElem? (i := 470) (by decide +kernel)⟩
theorem lw_p13 : lw_okq (⟨"SpinKernel", "takeJobs", "()V"⟩, 8) := ⟨⟨by decide +kernel, by decide +kernel⟩, List.mem_of_getElem? (i := 16) (by decide +kernel), List.mem_of_getElem? (i := 523) (by decide +kernel), List.mem_of_getElem? (i := 524) (by decide +kernel)⟩
theorem lw_p14 : lw_okq (⟨"SpinKernel", "isHeldFast", "(I)Z"⟩, 8) := ⟨⟨by decide +kernel, by decide +kernel⟩, List.mem_of_getElem? (i := 16) (by decide +kernel), List.mem_of_getElem? (i := 527) (by decide +kernel), List.mem_of_getElem? (i := 528) (by decide +kernel)⟩
theorem lw_p15 : lw_okq (⟨"SpinKernel", "mostUrgentOn", "(I)I"⟩, 8) := ⟨⟨by decide +kernel, by decide +kernel⟩, List.mem_of_getElem? (i := 16) (by decide +kernel), List.mem_of_getElem? (i := 531) (by decide +kernel), List.mem_of_getElem? (i := 532) (by decide +kernel)⟩
def lw_privs_1 : List (MethodName × Nat) := [(⟨"java/lang/Throwable", "fillInStackTrace", "(I)Ljava/lang/Throwable;"⟩, 6), (⟨"SpinKernel", "isPriorityTaken", "(II)Z"⟩, 8), (⟨"SpinKernel", "measure", "()V"⟩, 8), (⟨"SpinKernel", "formGroups", "()V"⟩, 8), (⟨"SpinKernel", "joinGroups", "(II)V"⟩, 8), (⟨"SpinKernel", "findLongest", "()V"⟩, 8), (⟨"SpinKernel", "inflate", "(LSpinKernel$Task;)V"⟩, 8), (⟨"SpinKernel", "longestElsewhere", "(II)I"⟩, 8), (⟨"SpinKernel", "taskAt", "(I)LSpinKernel$Task;"⟩, 8), (⟨"SpinKernel", "blockingOf", "(LSpinKernel$Task;)I"⟩, 8), (⟨"SpinKernel", "responseOf", "(LSpinKernel$Task;)I"⟩, 8), (⟨"SpinKernel", "demandAbove", "(LSpinKernel$Task;I)I"⟩, 8), (⟨"SpinKernel", "isAnyJobOpen", "()Z"⟩, 8), (⟨"SpinKernel", "takeJobs", "()V"⟩, 8), (⟨"SpinKernel", "isHeldFast", "(I)Z"⟩, 8), (⟨"SpinKernel", "mostUrgentOn", "(I)I"⟩, 8)]
theorem lw_r1 : ∀ q ∈ lw_privs_1, lw_okq q := List.forall_mem_cons.mpr ⟨lw_p0, List.forall_mem_cons.mpr ⟨lw_p1, List.forall_mem_cons.mpr ⟨lw_p2, List.forall_mem_cons.mpr ⟨lw_p3, List.forall_mem_cons.mpr ⟨lw_p4, List.forall_mem_cons.mpr ⟨lw_p5, List.forall_mem_cons.mpr ⟨lw_p6, List.forall_mem_cons.mpr ⟨lw_p7, List.forall_mem_cons.mpr ⟨lw_p8, List.forall_mem_cons.mpr ⟨lw_p9, List.forall_mem_cons.mpr ⟨lw_p10, List.forall_mem_cons.mpr ⟨lw_p11, List.forall_mem_cons.mpr ⟨lw_p12, List.forall_mem_cons.mpr ⟨lw_p13, List.forall_mem_cons.mpr ⟨lw_p14, List.forall_mem_cons.mpr ⟨lw_p15, fun _ h => absurd h List.not_mem_nil⟩⟩⟩⟩⟩⟩⟩⟩⟩⟩⟩⟩⟩⟩⟩⟩
theorem lw_p16 : lw_okq (⟨"SpinKernel", "askIfDue", "(I)V"⟩, 8) := ⟨⟨by decide +kernel, by decide +kernel⟩, List.mem_of_getElem? (i := 16) (by decide +kernel), List.mem_of_getElem? (i := 535) (by decide +kernel), List.mem_of_getElem? (i := 536) (by decide +kernel)⟩
theorem lw_p17 : lw_okq (⟨"SpinKernel", "rowOf", "(I)LSpinKernel$Row;"⟩, 8) := ⟨⟨by decide +kernel, by decide +kernel⟩, List.mem_of_getElem? (i := 16) (by decide +kernel), List.mem_of_getElem? (i := 553) (by decide +kernel), List.mem_of_getElem? (i := 554) (by decide +kernel)⟩
theorem lw_p18 : lw_okq (⟨"SpinKernel", "letFirstsHold", "()V"⟩, 8) := ⟨⟨by decide +kernel, by decide +kernel⟩, List.mem_of_getElem? (i := 16) (by decide +kernel), List.mem_of_getElem? (i := 561) (by decide +kernel), List.mem_of_getElem? (i := 562) (by decide +kernel)⟩
theorem lw_p19 : lw_okq (⟨"SpinKernel", "ticksAlike", "()I"⟩, 8) := ⟨⟨by decide +kernel, by decide +kernel⟩, List.mem_of_getElem? (i := 16) (by decide +kernel), List.mem_of_getElem? (i := 573) (by decide +kernel), List.mem_of_getElem? (i := 574) (by decide +kernel)⟩
theorem lw_p20 : lw_okq (⟨"SpinKernel", "workOn", "(I)I"⟩, 8) := ⟨⟨by decide +kernel, by decide +kernel⟩, List.mem_of_getElem? (i := 16) (by decide +kernel), List.mem_of_getElem? (i := 581) (by decide +kernel), List.mem_of_getElem? (i := 582) (by decide +kernel)⟩
theorem lw_p21 : lw_okq (⟨"SpinKernel", "workOnJob", "(LSpinKernel$Task;I)Z"⟩, 8) := ⟨⟨by decide +kernel, by decide +kernel⟩, List.mem_of_getElem? (i := 16) (by decide +kernel), List.mem_of_getElem? (i := 585) (by decide +kernel), List.mem_of_getElem? (i := 586) (by decide +kernel)⟩
theorem lw_p22 : lw_okq (⟨"SpinKernel", "holdFor", "(LSpinKernel$Task;I)V"⟩, 8) := ⟨⟨by decide +kernel, by decide +kernel⟩, List.mem_of_getElem? (i := 16) (by decide +kernel), List.mem_of_getElem? (i := 593) (by decide +kernel), List.mem_of_getElem? (i := 594) (by decide +kernel)⟩
theorem lw_p23 : lw_okq (⟨"SpinKernelModel", "forget", "()V"⟩, 34) := ⟨⟨by decide +kernel, by decide +kernel⟩, List.mem_of_getElem? (i := 647) (by decide +kernel), List.mem_of_getElem? (i := 653) (by decide +kernel), List.mem_of_getElem? (i := 654) (by decide +kernel)⟩
theorem lw_p24 : lw_okq (⟨"SpinKernelModel", "hasPriority", "(II)Z"⟩, 34) := ⟨⟨by decide +kernel, by decide +kernel⟩, List.mem_of_getElem? (i := 647) (by decide +kernel), List.mem_of_getElem? (i := 772) (by decide +kernel), List.mem_of_getElem? (i := 773) (by decide +kernel)⟩
theorem lw_p25 : lw_okq (⟨"SpinKernelModel", "refused", "(ZZZ)Z"⟩, 34) := ⟨⟨by decide +kernel, by decide +kernel⟩, List.mem_of_getElem? (i := 647) (by decide +kernel), List.mem_of_getElem? (i := 776) (by decide +kernel), List.mem_of_getElem? (i := 777) (by decide +kernel)⟩
theorem lw_p26 : lw_okq (⟨"SpinKernelModel", "isTask", "(I)Z"⟩, 34) := ⟨⟨by decide +kernel, by decide +kernel⟩, List.mem_of_getElem? (i := 647) (by decide +kernel), List.mem_of_getElem? (i := 784) (by decide +kernel), List.mem_of_getElem? (i := 785) (by decide +kernel)⟩
theorem lw_p27 : lw_okq (⟨"SpinKernelModel", "mayBe", "(IIIII)Z"⟩, 34) := ⟨⟨by decide +kernel, by decide +kernel⟩, List.mem_of_getElem? (i := 647) (by decide +kernel), List.mem_of_getElem? (i := 788) (by decide +kernel), List.mem_of_getElem? (i := 789) (by decide +kernel)⟩
theorem lw_p28 : lw_okq (⟨"SpinKernelModel", "outerBefore", "(I)I"⟩, 34) := ⟨⟨by decide +kernel, by decide +kernel⟩, List.mem_of_getElem? (i := 647) (by decide +kernel), List.mem_of_getElem? (i := 792) (by decide +kernel), List.mem_of_getElem? (i := 793) (by decide +kernel)⟩
theorem lw_p29 : lw_okq (⟨"SpinKernelModel", "isRequest", "(II)Z"⟩, 34) := ⟨⟨by decide +kernel, by decide +kernel⟩, List.mem_of_getElem? (i := 647) (by decide +kernel), List.mem_of_getElem? (i := 796) (by decide +kernel), List.mem_of_getElem? (i := 797) (by decide +kernel)⟩
theorem lw_p30 : lw_okq (⟨"SpinKernelModel", "findGroups", "()V"⟩, 34) := ⟨⟨by decide +kernel, by decide +kernel⟩, List.mem_of_getElem? (i := 647) (by decide +kernel), List.mem_of_getElem? (i := 808) (by decide +kernel), List.mem_of_getElem? (i := 809) (by decide +kernel)⟩
theorem lw_p31 : lw_okq (⟨"SpinKernelModel", "isOuter", "(II)Z"⟩, 34) := ⟨⟨by decide +kernel, by decide +kernel⟩, List.mem_of_getElem? (i := 647) (by decide +kernel), List.mem_of_getElem? (i := 816) (by decide +kernel), List.mem_of_getElem? (i := 817) (by decide +kernel)⟩
def lw_privs_2 : List (MethodName × Nat) := [(⟨"SpinKernel", "askIfDue", "(I)V"⟩, 8), (⟨"SpinKernel", "rowOf", "(I)LSpinKernel$Row;"⟩, 8), (⟨"SpinKernel", "letFirstsHold", "()V"⟩, 8), (⟨"SpinKernel", "ticksAlike", "()I"⟩, 8), (⟨"SpinKernel", "workOn", "(I)I"⟩, 8), (⟨"SpinKernel", "workOnJob", "(LSpinKernel$Task;I)Z"⟩, 8), (⟨"SpinKernel", "holdFor", "(LSpinKernel$Task;I)V"⟩, 8), (⟨"SpinKernelModel", "forget", "()V"⟩, 34), (⟨"SpinKernelModel", "hasPriority", "(II)Z"⟩, 34), (⟨"SpinKernelModel", "refused", "(ZZZ)Z"⟩, 34), (⟨"SpinKernelModel", "isTask", "(I)Z"⟩, 34), (⟨"SpinKernelModel", "mayBe", "(IIIII)Z"⟩, 34), (⟨"SpinKernelModel", "outerBefore", "(I)I"⟩, 34), (⟨"SpinKernelModel", "isRequest", "(II)Z"⟩, 34), (⟨"SpinKernelModel", "findGroups", "()V"⟩, 34), (⟨"SpinKernelModel", "isOuter", "(II)Z"⟩, 34)]
theorem lw_r2 : ∀ q ∈ lw_privs_2, lw_okq q := List.forall_mem_cons.mpr ⟨lw_p16, List.forall_mem_cons.mpr ⟨lw_p17, List.forall_mem_cons.mpr ⟨lw_p18, List.forall_mem_cons.mpr ⟨lw_p19, List.forall_mem_cons.mpr ⟨lw_p20, List.forall_mem_cons.mpr ⟨lw_p21, List.forall_mem_cons.mpr ⟨lw_p22, List.forall_mem_cons.mpr ⟨lw_p23, List.forall_mem_cons.mpr ⟨lw_p24, List.forall_mem_cons.mpr ⟨lw_p25, List.forall_mem_cons.mpr ⟨lw_p26, List.forall_mem_cons.mpr ⟨lw_p27, List.forall_mem_cons.mpr ⟨lw_p28, List.forall_mem_cons.mpr ⟨lw_p29, List.forall_mem_cons.mpr ⟨lw_p30, List.forall_mem_cons.mpr ⟨lw_p31, fun _ h => absurd h List.not_mem_nil⟩⟩⟩⟩⟩⟩⟩⟩⟩⟩⟩⟩⟩⟩⟩⟩
theorem lw_p32 : lw_okq (⟨"SpinKernelModel", "spinOf", "(II)I"⟩, 34) := ⟨⟨by decide +kernel, by decide +kernel⟩, List.mem_of_getElem? (i := 647) (by decide +kernel), List.mem_of_getElem? (i := 820) (by decide +kernel), List.mem_of_getElem? (i := 821) (by decide +kernel)⟩
theorem lw_p33 : lw_okq (⟨"SpinKernelModel", "inflated", "(I)I"⟩, 34) := ⟨⟨by decide +kernel, by decide +kernel⟩, List.mem_of_getElem? (i := 647) (by decide +kernel), List.mem_of_getElem? (i := 828) (by decide +kernel), List.mem_of_getElem? (i := 829) (by decide +kernel)⟩
theorem lw_p34 : lw_okq (⟨"SpinKernelModel", "blocking", "(I)I"⟩, 34) := ⟨⟨by decide +kernel, by decide +kernel⟩, List.mem_of_getElem? (i := 647) (by decide +kernel), List.mem_of_getElem? (i := 832) (by decide +kernel), List.mem_of_getElem? (i := 833) (by decide +kernel)⟩
theorem lw_p35 : lw_okq (⟨"SpinKernelModel", "responseOf", "(I)I"⟩, 34) := ⟨⟨by decide +kernel, by decide +kernel⟩, List.mem_of_getElem? (i := 647) (by decide +kernel), List.mem_of_getElem? (i := 836) (by decide +kernel), List.mem_of_getElem? (i := 837) (by decide +kernel)⟩
theorem lw_p36 : lw_okq (⟨"SpinKernelModel", "hasOpen", "()Z"⟩, 34) := ⟨⟨by decide +kernel, by decide +kernel⟩, List.mem_of_getElem? (i := 647) (by decide +kernel), List.mem_of_getElem? (i := 848) (by decide +kernel), List.mem_of_getElem? (i := 849) (by decide +kernel)⟩
theorem lw_p37 : lw_okq (⟨"SpinKernelModel", "goToNext", "(I)V"⟩, 34) := ⟨⟨by decide +kernel, by decide +kernel⟩, List.mem_of_getElem? (i := 647) (by decide +kernel), List.mem_of_getElem? (i := 856) (by decide +kernel), List.mem_of_getElem? (i := 857) (by decide +kernel)⟩
theorem lw_p38 : lw_okq (⟨"SpinKernelModel", "choose", "(I)V"⟩, 34) := ⟨⟨by decide +kernel, by decide +kernel⟩, List.mem_of_getElem? (i := 647) (by decide +kernel), List.mem_of_getElem? (i := 869) (by decide +kernel), List.mem_of_getElem? (i := 870) (by decide +kernel)⟩
theorem lw_p39 : lw_okq (⟨"SpinKernelModel", "groupOf", "(I)I"⟩, 34) := ⟨⟨by decide +kernel, by decide +kernel⟩, List.mem_of_getElem? (i := 647) (by decide +kernel), List.mem_of_getElem? (i := 873) (by decide +kernel), List.mem_of_getElem? (i := 874) (by decide +kernel)⟩
theorem lw_p40 : lw_okq (⟨"SpinKernelModel", "goOn", "(I)I"⟩, 34) := ⟨⟨by decide +kernel, by decide +kernel⟩, List.mem_of_getElem? (i := 647) (by decide +kernel), List.mem_of_getElem? (i := 877) (by decide +kernel), List.mem_of_getElem? (i := 878) (by decide +kernel)⟩
theorem lw_p41 : lw_okq (⟨"SpinKernelModel", "leave", "(II)V"⟩, 34) := ⟨⟨by decide +kernel, by decide +kernel⟩, List.mem_of_getElem? (i := 647) (by decide +kernel), List.mem_of_getElem? (i := 881) (by decide +kernel), List.mem_of_getElem? (i := 882) (by decide +kernel)⟩
theorem lw_p42 : lw_okq (⟨"SpinKernelModel", "end", "(I)V"⟩, 34) := ⟨⟨by decide +kernel, by decide +kernel⟩, List.mem_of_getElem? (i := 647) (by decide +kernel), List.mem_of_getElem? (i := 885) (by decide +kernel), List.mem_of_getElem? (i := 886) (by decide +kernel)⟩
def lw_privs_3 : List (MethodName × Nat) := [(⟨"SpinKernelModel", "spinOf", "(II)I"⟩, 34), (⟨"SpinKernelModel", "inflated", "(I)I"⟩, 34), (⟨"SpinKernelModel", "blocking", "(I)I"⟩, 34), (⟨"SpinKernelModel", "responseOf", "(I)I"⟩, 34), (⟨"SpinKernelModel", "hasOpen", "()Z"⟩, 34), (⟨"SpinKernelModel", "goToNext", "(I)V"⟩, 34), (⟨"SpinKernelModel", "choose", "(I)V"⟩, 34), (⟨"SpinKernelModel", "groupOf", "(I)I"⟩, 34), (⟨"SpinKernelModel", "goOn", "(I)I"⟩, 34), (⟨"SpinKernelModel", "leave", "(II)V"⟩, 34), (⟨"SpinKernelModel", "end", "(I)V"⟩, 34)]
theorem lw_r3 : ∀ q ∈ lw_privs_3, lw_okq q := List.forall_mem_cons.mpr ⟨lw_p32, List.forall_mem_cons.mpr ⟨lw_p33, List.forall_mem_cons.mpr ⟨lw_p34, List.forall_mem_cons.mpr ⟨lw_p35, List.forall_mem_cons.mpr ⟨lw_p36, List.forall_mem_cons.mpr ⟨lw_p37, List.forall_mem_cons.mpr ⟨lw_p38, List.forall_mem_cons.mpr ⟨lw_p39, List.forall_mem_cons.mpr ⟨lw_p40, List.forall_mem_cons.mpr ⟨lw_p41, List.forall_mem_cons.mpr ⟨lw_p42, fun _ h => absurd h List.not_mem_nil⟩⟩⟩⟩⟩⟩⟩⟩⟩⟩⟩
def lw_privs : List (MethodName × Nat) := lw_privs_1 ++ (lw_privs_2 ++ (lw_privs_3))
def lw_tbl : List Cond := k2_sels lw_privs ++ tables_1
theorem lw_privs_ok : ∀ q ∈ lw_privs, lw_okq q := by
  show ∀ q ∈ lw_privs_1 ++ (lw_privs_2 ++ (lw_privs_3)), lw_okq q
  exact List.forall_mem_append.mpr ⟨lw_r1, List.forall_mem_append.mpr ⟨lw_r2, lw_r3⟩⟩
/-! ===== BEGIN words of one list among another's, by their places ===== -/
theorem goodIn_r {big : List Cond} (ws : List Cond) (ps : List Nat) (hp : ws = ps.filterMap (fun i => big[i]?)) (h : ws.all goodWord = true) : GoodIn big ws := by
  intro w hw
  have h1 := List.all_eq_true.mp h w hw
  rw [hp] at hw
  obtain ⟨i, -, hi⟩ := List.mem_filterMap.mp hw
  have hm : w ∈ big := by first | exact List.mem_of_getElem? hi | exact List.getElem?_mem hi
  exact ⟨hm, good_of_word h1⟩
theorem goodIn_app {big a b : List Cond} (ha : GoodIn big a) (hb : GoodIn big b) : GoodIn big (a ++ b) := fun w h => (List.mem_append.mp h).elim (ha w) (hb w)
theorem goodIn_ca {big a b : List Cond} {c : Cond} (ha : GoodIn big (c :: a)) (hb : GoodIn big b) : GoodIn big (c :: (a ++ b)) := fun w h => (List.mem_cons.mp h).elim (fun e => ha w (List.mem_cons.mpr (Or.inl e))) (fun h => (List.mem_append.mp h).elim (fun h => ha w (List.mem_cons.mpr (Or.inr h))) (hb w))
theorem goodIn_sub {big ws : List Cond} (hm : ∀ w ∈ ws, w ∈ big) (h : ws.all goodWord = true) : GoodIn big ws := fun w hw => ⟨hm w hw, good_of_word (List.all_eq_true.mp h w hw)⟩
/-! ===== END ===== -/


/-! ===== BEGIN exceptions that leave a method, and their catching by the caller (launches without stack traces) ===== -/
section VXA
/-! The laws vx_back, vx_callV, vx_callS, vx_callSW, vx_throw0, vx_throwS follow proofs of the library, with one case more: JvmDerived/Free/Laws.lean (Back.of_free), Shelf42/LK1.lean (callV, callS), Shelf/KitTraced.lean (throwNew0V, throwNewS). -/
/-- where a method has thrown q: the class by its name, the cell, what was written, the world -/
def vx_T (XC : String → State → State → Prop) (st : State) (q : Addr) (t : State) (mc ms : Nat) (free : Addr → Prop) : Prop :=
  ∃ (E : String) (ce : Cell) (L : List Loc), XC E st t ∧ t.heap[q]? = some ce ∧ ce.vm = .none ∧ st.vm.findClass E = some ce.cls ∧ st.WarmedH t.vm ∧ st.sameButNew ({ t with vm := st.vm } : State) L mc ms ∧ ∀ z ∈ L, free z.base
def vx_Q (Qc : Array Value → State → Outcome → State → Prop) (XC : String → State → State → Prop) (mc ms : Nat) (free : Addr → Prop) : Array Value → State → Outcome → State → Prop := fun a st o t =>
  (Qc a st o t ∧ ∃ L, FrameEnd st o t L mc ms ∧ ∀ q ∈ L, free q.base) ∨ ∃ q, o = .threw q ∧ vx_T XC st q t mc ms free
/-- a callee that returns or throws -/
def vx_Met (l : Launch) (y : MethodName) (ws : List Cond) (rm : Room) (Pc : Array Value → State → Prop) (Qc : Array Value → State → Outcome → State → Prop) (XC : String → State → State → Prop) (mc ms : Nat) (free : Addr → Prop) : Prop :=
  MetFree l y (headSpec ws rm) Pc (fun _ _ _ _ _ => True) (vx_Q Qc XC mc ms free)
def vx_Post (XC : String → State → State → Prop) (mc ms : Nat) (free : Addr → Prop) : Pt → Array Value → Addr → Pt → Prop := fun A a q B =>
  ∃ (g : JFrame) (mk : MethodId) (t : State) (L : List Loc) (E : String) (ce : Cell), B.U.heap = t.heap ∧ B.U.vm = t.vm ∧ XC E (A.U.calling g mk a) t ∧ t.heap[q]? = some ce ∧ ce.vm = .none ∧ A.U.vm.findClass E = some ce.cls ∧ B.locs = A.locs ++ L ∧ (∀ z ∈ L, free z.base) ∧ B.cells = A.cells + mc ∧ B.slots = A.slots + ms
def vx_Back (l : Launch) (R : Room) (p : Program) (e : Env) (below : List Frame) (s : State) (sargs : Array Value) (y : MethodName) (len W9 : Nat)
    (Pre : Pt → Array Value → Prop) (Post : Pt → Array Value → Option Value → Pt → Prop) (PostX : Pt → Array Value → Addr → Pt → Prop) : Prop :=
  ∀ (m : MethodId) (meth : Method) (c : Code) (A : Pt) (g : JFrame) (ig : Instr) (mk : MethodId) (a : Array Value),
    Stand p l e R s m sargs below meth c A.U A.locs A.cells A.slots → g.method = m → g.locals.size = c.maxLocals → decode c.code g.pc = .ok (ig, len) →
    2 * g.monitorRoom + (g.stack.map fun v => v.category).sum ≤ W9 → A.U.methodNamed? y = some mk → Pre A a →
    (∃ (v : Option Value) (B : Pt), Stand p l e R s m sargs below meth c B.U B.locs B.cells B.slots ∧ Post A a v B ∧
      Steps p.tables e below (doInvoke e (A.U.setTop g) [] mk a).1 (B.U.setTop { g with pc := g.pc + len, stack := v.toList ++ g.stack })) ∨
    (∃ (q : Addr) (B : Pt), Stand p l e R s m sargs below meth c B.U B.locs B.cells B.slots ∧ PostX A a q B ∧
      Steps p.tables e below (doInvoke e (A.U.setTop g) [] mk a).1 ((B.U.setTop g).pushFrame (.throwing q)))
section Payer
variable {l : Launch} {R : Room} {p : Program} {e : Env} {below : List Frame} {s : State} {sargs : Array Value} {y : MethodName} {len W9 : Nat}
theorem vx_back {ws : List Cond} {rm : Room} {Pc : Array Value → State → Prop} {Qc : Array Value → State → Outcome → State → Prop} {XC : String → State → State → Prop} {mc ms : Nat} {free : Addr → Prop} {bytes : ByteArray} {maxL : Nat} {ret : Option FieldType}
    (hM : vx_Met l y ws rm Pc Qc XC mc ms free) (hblind : FrameBlind Pc) (hrc : rm.cells = mc) (hrs : rm.slots = ms)
    (hframes : rm.frames + 1 ≤ R.frames) (hlocals : W9 + (maxL + 11) + rm.locals ≤ R.locals)
    (hws : ∀ w ∈ ws, ∀ a' U, s.WarmedH U.vm → w.before a' U = true) (hcode : Cond.code y bytes maxL ret ∈ ws) (hinit : ∀ a' U, s.WarmedH U.vm → (Cond.initialized y.cls).before a' U = true) :
    vx_Back l R p e below s sargs y len W9 (PreOf R mc ms Pc) (PostOf Qc mc ms free) (vx_Post XC mc ms free) := by
  intro m meth c A g ig mk a X hg hsize hdg hW hn hp
  have h1 : (headSpec ws rm).pre.before a A.U = true := atoms_intro fun w hw => hws w hw _ _ X.warmed
  have h2 : (Cond.code y bytes maxL ret).before a A.U = true := hws _ hcode _ _ X.warmed
  have h3 : (Cond.initialized y.cls).before a A.U = true := hinit _ _ X.warmed
  have h4 : A.cells + (headSpec ws rm).room.cells ≤ R.cells := by rw [show (headSpec ws rm).room.cells = mc from hrc]; exact hp.1
  have h5 : A.slots + (headSpec ws rm).room.slots ≤ R.slots := by rw [show (headSpec ws rm).room.slots = ms from hrs]; exact hp.2.1
  have hPc : Pc a (A.U.calling g mk a) := hblind _ _ _ _ hp.2.2
  obtain ⟨U, Ls, c0, s0⟩ := A
  dsimp only [Pt.U, Pt.locs, Pt.cells, Pt.slots] at h1 h2 h3 h4 h5 X hn hPc ⊢
  obtain ⟨methY, cY, hmY, hcY, -, hlY, -, -, -, -⟩ := Cond.code_spec hn h2
  obtain ⟨kY, hkY, -⟩ := className_of_methodNamed hn
  have hinitY : kY.init = .initialized := Cond.initialized_spec (findClass_of_methodNamed hn) hkY h3
  have h : At U g.method c below := by rw [hg]; exact X.here
  have hlocals9 : W9 + (maxL + 11) + (headSpec ws rm).room.locals ≤ R.locals := hlocals
  have happ : (headSpec ws rm).appliesLoose y e.platform (U.calling g mk a) = true :=
    Spec.appliesLoose_calling (g := g) h hdg hn hkY hinitY
      (X.room_calling (g := g) (R' := (headSpec ws rm).room) hsize hmY hcY hframes (by rw [hlY]; omega) h4 h5) h1
  obtain ⟨mid, hmid⟩ := h.above
  have hfr : (U.setTop g).frames = (.java g :: mid) ++ below := by rw [State.frames_setTop' g h.top, hmid]; rfl
  obtain ⟨o, s₂, hsteps, -, hend, hq⟩ := Steps.callFree hM p X.admits X.cas X.clock (acts := []) hfr happ hPc trivial
  have hq' : vx_Q Qc XC mc ms free a (U.calling g mk a) o s₂ := hq
  rw [State.frames_setTop' g h.top] at hend
  obtain ⟨g₀, hg0⟩ := Option.isSome_iff_exists.mp h.top
  obtain ⟨r, hr⟩ := State.topJava?_eq_some.mp hg0
  have hr' : (({ U with heap := s₂.heap, slotsUsed := s₂.slotsUsed } : State).setVm s₂.vm).frames = .java g₀ :: r := hr
  rcases hq' with ⟨hqc, L, hfe, hL⟩ | ⟨q, rfl, E, ce, L, hx, hce, hcv, hcl, hW₂, hsm, hL⟩
  · obtain ⟨⟨v, rfl⟩, hW₂, e2, q2, q3, q4, q5, q6⟩ := id hfe
    have e3 : s₂ = ({ (U.calling g mk a).setFrames s₂.frames with heap := s₂.heap, slotsUsed := s₂.slotsUsed } : State).setVm s₂.vm := by
      have : s₂ = ({ s₂ with vm := (U.calling g mk a).vm } : State).setVm s₂.vm := rfl
      rw [e2] at this
      exact this
    obtain ⟨c₂, i₂, len₂, hc₂, hd₂, hf₂⟩ := hend
    have hW' : U.WarmedH s₂.vm := hW₂
    have hcc : c₂ = c := by
      have h1 : s₂.code? g.method = U.code? g.method := by
        rw [State.code?_eq, State.code?_eq, hW'.alike.method?]
      exact Option.some.inj (hc₂.symm.trans (h1.trans h.code))
    subst hcc
    have hlen : len₂ = len := by rw [hdg] at hd₂; cases hd₂; rfl
    subst hlen
    have hs₂ : s₂ = (({ U with heap := s₂.heap, slotsUsed := s₂.slotsUsed } : State).setVm s₂.vm).setTop { g with pc := g.pc + len₂, stack := v.toList ++ g.stack } := by
      refine e3.trans ?_
      rw [hf₂, State.calling_eq h.top, State.setFrames_setFrames, State.setTop_of_frames _ hr', hr]
      rfl
    have hsame : U.sameButNew ({ U with heap := s₂.heap, slotsUsed := s₂.slotsUsed } : State) L mc ms := by
      refine ⟨?_, q2, q3, q4, q5, q6⟩
      obtain ⟨t, ht, -⟩ := State.frames_cons hr
      show ({ U with heap := s₂.heap, slotsUsed := s₂.slotsUsed } : State) = { U.setFrames U.frames with heap := s₂.heap, slotsUsed := s₂.slotsUsed }
      rw [State.setFrames_self ht]
    subst hg
    refine Or.inl ⟨v, ⟨(({ U with heap := s₂.heap, slotsUsed := s₂.slotsUsed } : State).setVm s₂.vm), Ls ++ L, c0 + mc, s0 + ms⟩,
      ⟨X.admits, X.cas, X.clock, X.frames, X.room, X.hears, X.method, X.code, (X.here.setHeapUsed s₂.heap s₂.slotsUsed).setVm hW'.alike, X.tail, State.WarmedH.trans X.warmed hW', X.limits, X.bytes, X.same.trans (hsame.setVm s.vm)⟩,
      ⟨g, mk, s₂, L, rfl, rfl, hqc, rfl, hL, rfl, rfl⟩, ?_⟩
    show Steps p.tables e below _ ((({ U with heap := s₂.heap, slotsUsed := s₂.slotsUsed } : State).setVm s₂.vm).setTop { g with pc := g.pc + len₂, stack := v.toList ++ g.stack })
    rw [← hs₂]
    exact hsteps
  · obtain ⟨e2, q2, q3, q4, q5, q6⟩ := id hsm
    have e3 : s₂ = ({ (U.calling g mk a).setFrames s₂.frames with heap := s₂.heap, slotsUsed := s₂.slotsUsed } : State).setVm s₂.vm := by
      have : s₂ = ({ s₂ with vm := (U.calling g mk a).vm } : State).setVm s₂.vm := rfl
      rw [e2] at this
      exact this
    have hf₂ : s₂.frames = .throwing q :: .java g :: U.frames.tail := hend
    have hW' : U.WarmedH s₂.vm := hW₂
    have hs₂ : s₂ = ((({ U with heap := s₂.heap, slotsUsed := s₂.slotsUsed } : State).setVm s₂.vm).setTop g).pushFrame (.throwing q) := by
      refine e3.trans ?_
      rw [hf₂, State.calling_eq h.top, State.setFrames_setFrames, State.pushFrame, State.frames_setTop _ hr', State.setTop_of_frames _ hr', State.setFrames_setFrames, hr]
      rfl
    have hsame : U.sameButNew ({ U with heap := s₂.heap, slotsUsed := s₂.slotsUsed } : State) L mc ms := by
      refine ⟨?_, q2, q3, q4, q5, q6⟩
      obtain ⟨t, ht, -⟩ := State.frames_cons hr
      show ({ U with heap := s₂.heap, slotsUsed := s₂.slotsUsed } : State) = { U.setFrames U.frames with heap := s₂.heap, slotsUsed := s₂.slotsUsed }
      rw [State.setFrames_self ht]
    subst hg
    refine Or.inr ⟨q, ⟨(({ U with heap := s₂.heap, slotsUsed := s₂.slotsUsed } : State).setVm s₂.vm), Ls ++ L, c0 + mc, s0 + ms⟩,
      ⟨X.admits, X.cas, X.clock, X.frames, X.room, X.hears, X.method, X.code, (X.here.setHeapUsed s₂.heap s₂.slotsUsed).setVm hW'.alike, X.tail, State.WarmedH.trans X.warmed hW', X.limits, X.bytes, X.same.trans (hsame.setVm s.vm)⟩,
      ⟨g, mk, s₂, L, E, ce, rfl, rfl, hx, hce, hcv, hcl, rfl, hL, rfl, rfl⟩, ?_⟩
    show Steps p.tables e below _ (((({ U with heap := s₂.heap, slotsUsed := s₂.slotsUsed } : State).setVm s₂.vm).setTop g).pushFrame (.throwing q))
    rw [← hs₂]
    exact hsteps
end Payer
section Calls
variable {p : Program} {l : Launch} {e : Env} {R : Room} {s : State} {m : MethodId} {args : Array Value} {below : List Frame} {meth : Method} {c : Code} {T : State} {locs : List Loc} {cells slots : Nat}
theorem vx_callV (X : Stand p l e R s m args below meth c T locs cells slots) (hexec : p.tables.exec = Jvm.exec) {own C : String} {index : Nat} {y : MethodName} {bytes : ByteArray} {maxL : Nat} {ret : Option FieldType}
    (hown : s.vm.findClass own = some m.cls) (hlink : (Cond.methodLink own index y).before args s = true) (hinst : (Cond.instanceMethod y).before args s = true) (hsel : (Cond.selects C y y).before args s = true)
    (hcode : (Cond.code y bytes maxL ret).before args s = true) (hy : y.cls ≠ "java/lang/invoke/MethodHandle" ∧ y.cls ≠ "java/lang/invoke/VarHandle")
    {W9 : Nat} {Pre : Pt → Array Value → Prop} {Post : Pt → Array Value → Option Value → Pt → Prop} {PostX : Pt → Array Value → Addr → Pt → Prop} (hK : vx_Back l R p e below s args y 3 W9 Pre Post PostX)
    {b : Addr} {cellB : Cell} (hcell : T.heap[b]? = some cellB) (hobj : cellB.vm.isStatics = false) (hcls : s.vm.findClass C = some cellB.cls)
    {g : JFrame} (hg : g.method = m) (hsize : g.locals.size = c.maxLocals) {argsL rest : List Value} (hlen : ∀ sig, parseMethodDescriptor y.desc = some sig → argsL.length = sig.parameters.length)
    (hstack : g.stack = argsL.reverse ++ .ref b :: rest) (hW : 2 * g.monitorRoom + (rest.map fun v => v.category).sum ≤ W9) (hdg : decode c.code g.pc = .ok (.invokevirtual index, 3))
    (hpre : ∀ vm₁, s.WarmedH vm₁ → Pre ⟨T.setVm vm₁, locs, cells, slots⟩ (Value.ref b :: argsL).toArray) :
    (∃ (v : Option Value) (vm₁ : Vm) (B : Pt), s.WarmedH vm₁ ∧ Stand p l e R s m args below meth c B.U B.locs B.cells B.slots ∧ Post ⟨T.setVm vm₁, locs, cells, slots⟩ (Value.ref b :: argsL).toArray v B ∧
      ∀ target, Steps p.tables e below (B.U.setTop { g with pc := g.pc + 3, stack := v.toList ++ rest }) target → Steps p.tables e below (T.setTop g) target) ∨
    (∃ (q : Addr) (vm₁ : Vm) (B : Pt), s.WarmedH vm₁ ∧ Stand p l e R s m args below meth c B.U B.locs B.cells B.slots ∧ PostX ⟨T.setVm vm₁, locs, cells, slots⟩ (Value.ref b :: argsL).toArray q B ∧
      Steps p.tables e below (T.setTop g) ((B.U.setTop { g with stack := rest }).pushFrame (.throwing q))) := by
  obtain ⟨mk, methM, hnamed, hmethM, hstM, habM⟩ := Cond.instanceMethod_spec hinst
  obtain ⟨methM', cM, hmethM', -, -, -, -, -, -, hsigM⟩ := Cond.code_spec hnamed hcode
  cases hmethM.symm.trans hmethM'
  obtain ⟨c2, r2, m2, q1, q2, q3, q4, kP, hkP, hkPi⟩ := Cond.selects_spec hsel
  cases hcls.symm.trans q1
  cases (State.methodFound?_of_named hnamed hy).symm.trans q2
  cases hnamed.symm.trans q3
  have hselP : selectMethod e.platform s.vm cellB.cls mk = .method mk := by rw [Launch.admits_selectMethod X.admits]; exact q4
  obtain ⟨vm₁, X₁, hstep₁⟩ := X.invokevirtual hexec hown hlink hnamed hmethM hstM hkP hkPi hy (a := b) (cell := cellB) hcell
    (fun z h => by rw [h] at hobj; cases hobj) hselP hmethM habM hkP hkPi (g := g) hg (argsL := argsL) (rest := rest) (hlen _ hsigM) hstack hdg
  rcases hK m meth c ⟨T.setVm vm₁, locs, cells, slots⟩ { g with stack := rest } (.invokevirtual index) mk (Value.ref b :: argsL).toArray X₁ hg hsize hdg hW (X₁.named hnamed) (hpre vm₁ X₁.warmed) with ⟨v, B, X', hpost, hsteps⟩ | ⟨q, B, X', hpost, hsteps⟩
  · exact Or.inl ⟨v, vm₁, B, X₁.warmed, X', hpost, fun target h => hstep₁ _ fun acts => by rw [doInvoke_state]; exact hsteps.trans h⟩
  · exact Or.inr ⟨q, vm₁, B, X₁.warmed, X', hpost, hstep₁ _ fun acts => by rw [doInvoke_state]; exact hsteps⟩
theorem vx_callS (X : Stand p l e R s m args below meth c T locs cells slots) (hexec : p.tables.exec = Jvm.exec) {own : String} {index : Nat} {y : MethodName} {bytes : ByteArray} {maxL : Nat} {ret : Option FieldType}
    (hown : s.vm.findClass own = some m.cls) (hlink : (Cond.methodLink own index y).before args s = true) (hstat : (Cond.static y).before args s = true) (hinit : (Cond.initialized y.cls).before args s = true)
    (hcode : (Cond.code y bytes maxL ret).before args s = true) (hy : y.cls ≠ "java/lang/invoke/MethodHandle" ∧ y.cls ≠ "java/lang/invoke/VarHandle")
    {W9 : Nat} {Pre : Pt → Array Value → Prop} {Post : Pt → Array Value → Option Value → Pt → Prop} {PostX : Pt → Array Value → Addr → Pt → Prop} (hK : vx_Back l R p e below s args y 3 W9 Pre Post PostX)
    {g : JFrame} (hg : g.method = m) (hsize : g.locals.size = c.maxLocals) {argsL rest : List Value} (hlen : ∀ sig, parseMethodDescriptor y.desc = some sig → argsL.length = sig.parameters.length)
    (hstack : g.stack = argsL.reverse ++ rest) (hW : 2 * g.monitorRoom + (rest.map fun v => v.category).sum ≤ W9) (hdg : decode c.code g.pc = .ok (.invokestatic index, 3))
    (hpre : ∀ vm₁, s.WarmedH vm₁ → Pre ⟨T.setVm vm₁, locs, cells, slots⟩ argsL.toArray) :
    (∃ (v : Option Value) (vm₁ : Vm) (B : Pt), s.WarmedH vm₁ ∧ Stand p l e R s m args below meth c B.U B.locs B.cells B.slots ∧ Post ⟨T.setVm vm₁, locs, cells, slots⟩ argsL.toArray v B ∧
      ∀ target, Steps p.tables e below (B.U.setTop { g with pc := g.pc + 3, stack := v.toList ++ rest }) target → Steps p.tables e below (T.setTop g) target) ∨
    (∃ (q : Addr) (vm₁ : Vm) (B : Pt), s.WarmedH vm₁ ∧ Stand p l e R s m args below meth c B.U B.locs B.cells B.slots ∧ PostX ⟨T.setVm vm₁, locs, cells, slots⟩ argsL.toArray q B ∧
      Steps p.tables e below (T.setTop g) ((B.U.setTop { g with stack := rest }).pushFrame (.throwing q))) := by
  obtain ⟨mk, hnamed⟩ := Cond.code_named hcode
  obtain ⟨methM, cM, hmethM, -, -, -, -, -, -, hsigM⟩ := Cond.code_spec hnamed hcode
  have hstatic : methM.isStatic = true := Cond.static_spec hnamed hmethM hstat
  obtain ⟨kP, hkP, -⟩ := className_of_methodNamed hnamed
  have hinitP : kP.init = .initialized := Cond.initialized_spec (findClass_of_methodNamed hnamed) hkP hinit
  obtain ⟨vm₁, X₁, hstep₁⟩ := X.invokestatic hexec hown hlink hnamed hmethM hstatic hkP hinitP hy (g := g) hg (argsL := argsL) (rest := rest) (hlen _ hsigM) hstack hdg
  rcases hK m meth c ⟨T.setVm vm₁, locs, cells, slots⟩ { g with stack := rest } (.invokestatic index) mk argsL.toArray X₁ hg hsize hdg hW (X₁.named hnamed) (hpre vm₁ X₁.warmed) with ⟨v, B, X', hpost, hsteps⟩ | ⟨q, B, X', hpost, hsteps⟩
  · exact Or.inl ⟨v, vm₁, B, X₁.warmed, X', hpost, fun target h => hstep₁ _ fun acts => by rw [doInvoke_state]; exact hsteps.trans h⟩
  · exact Or.inr ⟨q, vm₁, B, X₁.warmed, X', hpost, hstep₁ _ fun acts => by rw [doInvoke_state]; exact hsteps⟩
end Calls
theorem vx_cls {s : State} {T : State} {vm₁ : Vm} {E : String} {k : ClassId} (hW : s.WarmedH vm₁) (h : (T.setVm vm₁).vm.findClass E = some k) : s.vm.findClass E = some k := by
  have h1 : vm₁.findClass E = some k := h
  rw [hW.alike.findClass] at h1
  exact h1
/-- the method's frame g, with q thrown over it -/
def vx_W (p : Program) (l : Launch) (e : Env) (R : Room) (s : State) (m : MethodId) (args : Array Value) (below : List Frame) (meth : Method) (c : Code) (H : Heap) (locs : List Loc) (cells slots : Nat) (Q : State → Prop) (g : JFrame) (q : Addr) : Prop :=
  ∀ T : State, T.heap = H → Stand p l e R s m args below meth c T locs cells slots → ∃ t, Steps p.tables e below ((T.setTop g).pushFrame (.throwing q)) t ∧ Q t
def vx_Run (p : Program) (l : Launch) (e : Env) (R : Room) (s : State) (m : MethodId) (args : Array Value) (below : List Frame) (meth : Method) (c : Code) (H : Heap) (locs : List Loc) (cells slots mc ms : Nat) (g : JFrame) (rest : List Value) (Qa : State → Outcome → State → Prop) (XC : String → State → State → Prop) (free : Addr → Prop) : Prop :=
  ∀ T : State, T.heap = H → Stand p l e R s m args below meth c T locs cells slots →
    (∃ (v : Option Value) (st₀ t T' : State) (L : List Loc), st₀.heap = H ∧ Stand p l e R s m args below meth c T' (locs ++ L) (cells + mc) (slots + ms) ∧ (∀ q ∈ L, free q.base) ∧ T'.heap = t.heap ∧ T'.vm = t.vm ∧ Qa st₀ (.returned v) t ∧
      Goes p e below T g T' { g with pc := g.pc + 3, stack := v.toList ++ rest }) ∨
    (∃ (q : Addr) (st₀ t T' : State) (L : List Loc) (E : String) (ce : Cell), st₀.heap = H ∧ Stand p l e R s m args below meth c T' (locs ++ L) (cells + mc) (slots + ms) ∧ (∀ z ∈ L, free z.base) ∧ T'.heap = t.heap ∧ T'.vm = t.vm ∧ XC E st₀ t ∧ t.heap[q]? = some ce ∧ ce.vm = .none ∧ s.vm.findClass E = some ce.cls ∧
      Steps p.tables e below (T.setTop g) ((T'.setTop { g with stack := rest }).pushFrame (.throwing q)))
def vx_X {S : Type} (px : S → Prop) (B : String → S → State → Prop) (A : Nat → Prop) : String → State → State → Prop := fun E st t => ∃ u : S, px u ∧ B E u t ∧ va_F A st t
section Runs
variable {p : Program} {l : Launch} {e : Env} {R : Room} {s : State} {m : MethodId} {args : Array Value} {below : List Frame} {meth : Method} {c : Code} {H : Heap} {locs : List Loc} {cells slots : Nat}
variable {y : MethodName} {bytes cc : ByteArray} {maxL nL mc ms n index : Nat} {ret : Option FieldType} {ws : List Cond} {rm : Room} {Pc : Array Value → State → Prop} {Qc : Array Value → State → Outcome → State → Prop} {XC : String → State → State → Prop} {free : Addr → Prop} {Ts : List Cond} {own C : String} {b : Addr} {As rest : List Value} {g : JFrame}
theorem vx_callBack (cb : CallB R s args own index y bytes maxL ret ws rm mc ms n) (hM : vx_Met l y ws rm Pc Qc XC mc ms free) (hbl : FrameBlind Pc) : vx_Back l R p e below s args y 3 8 (PreOf R mc ms Pc) (PostOf Qc mc ms free) (vx_Post XC mc ms free) := by
  obtain ⟨hrc, hrs, hfr, hlo, hws, hcw, -, hini, -⟩ := cb
  exact vx_back (bytes := bytes) (maxL := maxL) (ret := ret) hM hbl hrc hrs hfr hlo hws hcw (fun a' U hW => word_at hW (Or.inl (by first | rfl | simp [Cond.onTables, Cond.keeps, Cond.steady])) hini)
theorem vx_runV (S : CallFix p m c cc nL s args Ts own) (hM : vx_Met l y ws rm Pc Qc XC mc ms free) (cw : CallW R s args own C index y bytes maxL ret ws rm mc ms n) (hp : PreV s H C b Pc As)
    (hg : g.method = m) (hn : As.length = n) (hsize : g.locals.size = nL) (hstack : g.stack = As.reverse ++ .ref b :: rest) (hW : 2 * g.monitorRoom + (rest.map fun v => v.category).sum ≤ 8) (hdg : decode cc g.pc = .ok (.invokevirtual index, 3)) (hf : cells + mc ≤ R.cells ∧ slots + ms ≤ R.slots) :
    vx_Run p l e R s m args below meth c H locs cells slots mc ms g rest (Qc (Value.ref b :: As).toArray) XC free := by
  have hK : vx_Back l R p e below s args y 3 8 (PreOf R mc ms Pc) (PostOf Qc mc ms free) (vx_Post XC mc ms free) := vx_callBack cw.1 hM hp.1
  obtain ⟨⟨-, -, -, -, -, -, hcode, -, hy, hlen, hl⟩, hin, hse⟩ := cw
  obtain ⟨hx, hb, hml, ho, -⟩ := S
  obtain ⟨-, ⟨cellB, hcB, hoB, hclB⟩, hPc⟩ := hp
  intro T hT X
  rcases vx_callV X hx (C := C) (bytes := bytes) (maxL := maxL) (ret := ret) ho hl hin hse hcode hy hK (by rw [hT]; exact hcB) hoB hclB hg (hsize.trans hml.symm) (argsL := As) (rest := rest) (fun sig h => hn.trans (hlen sig h)) hstack hW (by rw [hb]; exact hdg)
    (fun vm₁ hW₁ => ⟨hf.1, hf.2, hPc (T.setVm vm₁) hT hW₁⟩) with ⟨v, vm₁, ⟨U', l2, c2, s2⟩, hW₁, X', ⟨g', mk, t, L, e1, e2, hq, h1, hL, h2, h3⟩, st⟩ | ⟨q, vm₁, ⟨U', l2, c2, s2⟩, hW₁, X', ⟨g', mk, t, L, E, ce, e1, e2, hq, hce, hcv, hcl, h1, hL, h2, h3⟩, st⟩
  · dsimp only [Pt.U, Pt.locs, Pt.cells, Pt.slots] at X' e1 e2 h1 h2 h3 st
    subst h1; subst h2; subst h3
    exact Or.inl ⟨v, (T.setVm vm₁).calling g' mk (Value.ref b :: As).toArray, t, U', L, hT, X', hL, e1, e2, hq, st⟩
  · dsimp only [Pt.U, Pt.locs, Pt.cells, Pt.slots] at X' e1 e2 h1 h2 h3 st hcl
    subst h1; subst h2; subst h3
    exact Or.inr ⟨q, (T.setVm vm₁).calling g' mk (Value.ref b :: As).toArray, t, U', L, E, ce, hT, X', hL, e1, e2, hq, hce, hcv, vx_cls hW₁ hcl, st⟩
theorem vx_runS (S : CallFix p m c cc nL s args Ts own) (hM : vx_Met l y ws rm Pc Qc XC mc ms free) (cw : CallB R s args own index y bytes maxL ret ws rm mc ms n ∧ (Cond.static y).before args s = true) (hp : PreS s H Pc As)
    (hg : g.method = m) (hn : As.length = n) (hsize : g.locals.size = nL) (hstack : g.stack = As.reverse ++ rest) (hW : 2 * g.monitorRoom + (rest.map fun v => v.category).sum ≤ 8) (hdg : decode cc g.pc = .ok (.invokestatic index, 3)) (hf : cells + mc ≤ R.cells ∧ slots + ms ≤ R.slots) :
    vx_Run p l e R s m args below meth c H locs cells slots mc ms g rest (Qc As.toArray) XC free := by
  have hK : vx_Back l R p e below s args y 3 8 (PreOf R mc ms Pc) (PostOf Qc mc ms free) (vx_Post XC mc ms free) := vx_callBack cw.1 hM hp.1
  obtain ⟨⟨-, -, -, -, -, -, hcode, hini, hy, hlen, hl⟩, hstt⟩ := cw
  obtain ⟨hx, hb, hml, ho, -⟩ := S
  intro T hT X
  rcases vx_callS X hx (bytes := bytes) (maxL := maxL) (ret := ret) ho hl hstt hini hcode hy hK hg (hsize.trans hml.symm) (argsL := As) (rest := rest) (fun sig h => hn.trans (hlen sig h)) hstack hW (by rw [hb]; exact hdg)
    (fun vm₁ hW₁ => ⟨hf.1, hf.2, hp.2 (T.setVm vm₁) hT hW₁⟩) with ⟨v, vm₁, ⟨U', l2, c2, s2⟩, hW₁, X', ⟨g', mk, t, L, e1, e2, hq, h1, hL, h2, h3⟩, st⟩ | ⟨q, vm₁, ⟨U', l2, c2, s2⟩, hW₁, X', ⟨g', mk, t, L, E, ce, e1, e2, hq, hce, hcv, hcl, h1, hL, h2, h3⟩, st⟩
  · dsimp only [Pt.U, Pt.locs, Pt.cells, Pt.slots] at X' e1 e2 h1 h2 h3 st
    subst h1; subst h2; subst h3
    exact Or.inl ⟨v, (T.setVm vm₁).calling g' mk As.toArray, t, U', L, hT, X', hL, e1, e2, hq, st⟩
  · dsimp only [Pt.U, Pt.locs, Pt.cells, Pt.slots] at X' e1 e2 h1 h2 h3 st hcl
    subst h1; subst h2; subst h3
    exact Or.inr ⟨q, (T.setVm vm₁).calling g' mk As.toArray, t, U', L, E, ce, hT, X', hL, e1, e2, hq, hce, hcv, vx_cls hW₁ hcl, st⟩
end Runs
section Rows
variable {p : Program} {l : Launch} {e : Env} {R : Room} {s : State} {m : MethodId} {args : Array Value} {below : List Frame} {meth : Method} {c : Code} {H : Heap} {locs : List Loc} {cells slots : Nat} {Q : State → Prop}
variable {mc ms : Nat} {free : Addr → Prop} {A0 A1 : Nat → Prop} {H0 : Heap} {a : Array Value} {pc : Nat} {ls : Array Slot} {st0 rest : List Value}
theorem vx_keep {st₀ t T' : State} {L : List Loc} (h0 : st₀.heap = H) (e1 : T'.heap = t.heap) (hS : va_S A0 H0 H locs) (hA : ∀ q, q < H.size → A1 q → A0 q) (hf : ∀ q, free q → A0 q) (hL : ∀ q ∈ L, free q.base) (hF : va_F A1 st₀ t) :
    H.size ≤ T'.heap.size ∧ (∀ q : Nat, q < H.size → ¬ A1 q → T'.heap[q]? = H[q]?) ∧ va_S A0 H0 T'.heap (locs ++ L) := by
  obtain ⟨hz, hk⟩ := hF
  rw [h0] at hz hk
  exact ⟨by rw [e1]; exact hz, fun q h1 h2 => by rw [e1]; exact hk q h1 h2,
    ⟨Nat.le_trans hS.1 (by rw [e1]; exact hz), fun q h1 h2 => by rw [e1, hk q (Nat.lt_of_lt_of_le h1 hS.1) (fun z => h2 (hA q (Nat.lt_of_lt_of_le h1 hS.1) z))]; exact hS.2.1 q h1 h2, fun q hq => by
      rcases List.mem_append.mp hq with h | h
      · exact hS.2.2 q h
      · exact hf _ (hL q h)⟩⟩
theorem vx_calli {S SX : Type} {post : Int32 → S → Prop} {px : SX → Prop} {B : S → State → Prop} {BX : String → SX → State → Prop} {AX : Nat → Prop} (hr : vx_Run p l e R s m args below meth c H locs cells slots mc ms (F0 m pc ls st0) rest (va_Qi post B A1 a) (vx_X px BX AX) free) (hS : va_S A0 H0 H locs) (hA : ∀ q, q < H.size → A1 q → A0 q) (hf : ∀ q, free q → A0 q) (hAX : ∀ q, q < H.size → AX q → A0 q)
    (kx : ∀ (E : String) (ce : Cell) (q9 : Addr) (u : SX) (t : State) (H1 : Heap) (locs1 : List Loc), t.heap = H1 → s.vm.Alike t.vm → px u → BX E u t → H.size ≤ H1.size → (∀ q : Nat, q < H.size → ¬ AX q → H1[q]? = H[q]?) → va_S A0 H0 H1 locs1 → H1[q9]? = some ce → ce.vm = .none → s.vm.findClass E = some ce.cls → vx_W p l e R s m args below meth c H1 locs1 (cells + mc) (slots + ms) Q (F0 m pc ls rest) q9)
    (kk : ∀ (r : Int32) (u : S) (t : State) (H1 : Heap) (locs1 : List Loc), t.heap = H1 → s.vm.Alike t.vm → post r u → B u t → H.size ≤ H1.size → (∀ q : Nat, q < H.size → ¬ A1 q → H1[q]? = H[q]?) → va_S A0 H0 H1 locs1 → W p l e R s m args below meth c H1 locs1 (cells + mc) (slots + ms) Q (F0 m (pc + 3) ls (.int r :: rest))) : W p l e R s m args below meth c H locs cells slots Q (F0 m pc ls st0) := by
  intro T hT X
  rcases hr T hT X with ⟨v, st₀, t, T', L, h0, X', hL, e1, e2, ⟨⟨r, u, hv, hp, hb⟩, hF⟩, st⟩ | ⟨q, st₀, t, T', L, E, ce, h0, X', hL, e1, e2, ⟨u, hp, hb, hF⟩, hce, hcv, hcl, st⟩
  · cases hv
    obtain ⟨k1, k2, k3⟩ := vx_keep h0 e1 hS hA hf hL hF
    obtain ⟨t2, a1, b1⟩ := kk r u t T'.heap (locs ++ L) e1.symm (by rw [← e2]; exact X'.warmed.alike) hp hb k1 k2 k3 T' rfl X'
    exact ⟨t2, st t2 a1, b1⟩
  · obtain ⟨k1, k2, k3⟩ := vx_keep h0 e1 hS hAX hf hL hF
    obtain ⟨t2, a1, b1⟩ := kx E ce q u t T'.heap (locs ++ L) e1.symm (by rw [← e2]; exact X'.warmed.alike) hp hb k1 k2 k3 (by rw [e1]; exact hce) hcv hcl T' rfl X'
    exact ⟨t2, st.trans a1, b1⟩
theorem vx_calll {S SX : Type} {post : Int64 → S → Prop} {px : SX → Prop} {B : S → State → Prop} {BX : String → SX → State → Prop} {AX : Nat → Prop} (hr : vx_Run p l e R s m args below meth c H locs cells slots mc ms (F0 m pc ls st0) rest (va_Ql post B A1 a) (vx_X px BX AX) free) (hS : va_S A0 H0 H locs) (hA : ∀ q, q < H.size → A1 q → A0 q) (hf : ∀ q, free q → A0 q) (hAX : ∀ q, q < H.size → AX q → A0 q)
    (kx : ∀ (E : String) (ce : Cell) (q9 : Addr) (u : SX) (t : State) (H1 : Heap) (locs1 : List Loc), t.heap = H1 → s.vm.Alike t.vm → px u → BX E u t → H.size ≤ H1.size → (∀ q : Nat, q < H.size → ¬ AX q → H1[q]? = H[q]?) → va_S A0 H0 H1 locs1 → H1[q9]? = some ce → ce.vm = .none → s.vm.findClass E = some ce.cls → vx_W p l e R s m args below meth c H1 locs1 (cells + mc) (slots + ms) Q (F0 m pc ls rest) q9)
    (kk : ∀ (r : Int64) (u : S) (t : State) (H1 : Heap) (locs1 : List Loc), t.heap = H1 → s.vm.Alike t.vm → post r u → B u t → H.size ≤ H1.size → (∀ q : Nat, q < H.size → ¬ A1 q → H1[q]? = H[q]?) → va_S A0 H0 H1 locs1 → W p l e R s m args below meth c H1 locs1 (cells + mc) (slots + ms) Q (F0 m (pc + 3) ls (.long r :: rest))) : W p l e R s m args below meth c H locs cells slots Q (F0 m pc ls st0) := by
  intro T hT X
  rcases hr T hT X with ⟨v, st₀, t, T', L, h0, X', hL, e1, e2, ⟨⟨r, u, hv, hp, hb⟩, hF⟩, st⟩ | ⟨q, st₀, t, T', L, E, ce, h0, X', hL, e1, e2, ⟨u, hp, hb, hF⟩, hce, hcv, hcl, st⟩
  · cases hv
    obtain ⟨k1, k2, k3⟩ := vx_keep h0 e1 hS hA hf hL hF
    obtain ⟨t2, a1, b1⟩ := kk r u t T'.heap (locs ++ L) e1.symm (by rw [← e2]; exact X'.warmed.alike) hp hb k1 k2 k3 T' rfl X'
    exact ⟨t2, st t2 a1, b1⟩
  · obtain ⟨k1, k2, k3⟩ := vx_keep h0 e1 hS hAX hf hL hF
    obtain ⟨t2, a1, b1⟩ := kx E ce q u t T'.heap (locs ++ L) e1.symm (by rw [← e2]; exact X'.warmed.alike) hp hb k1 k2 k3 (by rw [e1]; exact hce) hcv hcl T' rfl X'
    exact ⟨t2, st.trans a1, b1⟩
theorem vx_callf {S SX : Type} {post : UInt32 → S → Prop} {px : SX → Prop} {B : S → State → Prop} {BX : String → SX → State → Prop} {AX : Nat → Prop} (hr : vx_Run p l e R s m args below meth c H locs cells slots mc ms (F0 m pc ls st0) rest (va_Qf post B A1 a) (vx_X px BX AX) free) (hS : va_S A0 H0 H locs) (hA : ∀ q, q < H.size → A1 q → A0 q) (hf : ∀ q, free q → A0 q) (hAX : ∀ q, q < H.size → AX q → A0 q)
    (kx : ∀ (E : String) (ce : Cell) (q9 : Addr) (u : SX) (t : State) (H1 : Heap) (locs1 : List Loc), t.heap = H1 → s.vm.Alike t.vm → px u → BX E u t → H.size ≤ H1.size → (∀ q : Nat, q < H.size → ¬ AX q → H1[q]? = H[q]?) → va_S A0 H0 H1 locs1 → H1[q9]? = some ce → ce.vm = .none → s.vm.findClass E = some ce.cls → vx_W p l e R s m args below meth c H1 locs1 (cells + mc) (slots + ms) Q (F0 m pc ls rest) q9)
    (kk : ∀ (r : UInt32) (u : S) (t : State) (H1 : Heap) (locs1 : List Loc), t.heap = H1 → s.vm.Alike t.vm → post r u → B u t → H.size ≤ H1.size → (∀ q : Nat, q < H.size → ¬ A1 q → H1[q]? = H[q]?) → va_S A0 H0 H1 locs1 → W p l e R s m args below meth c H1 locs1 (cells + mc) (slots + ms) Q (F0 m (pc + 3) ls (.float r :: rest))) : W p l e R s m args below meth c H locs cells slots Q (F0 m pc ls st0) := by
  intro T hT X
  rcases hr T hT X with ⟨v, st₀, t, T', L, h0, X', hL, e1, e2, ⟨⟨r, u, hv, hp, hb⟩, hF⟩, st⟩ | ⟨q, st₀, t, T', L, E, ce, h0, X', hL, e1, e2, ⟨u, hp, hb, hF⟩, hce, hcv, hcl, st⟩
  · cases hv
    obtain ⟨k1, k2, k3⟩ := vx_keep h0 e1 hS hA hf hL hF
    obtain ⟨t2, a1, b1⟩ := kk r u t T'.heap (locs ++ L) e1.symm (by rw [← e2]; exact X'.warmed.alike) hp hb k1 k2 k3 T' rfl X'
    exact ⟨t2, st t2 a1, b1⟩
  · obtain ⟨k1, k2, k3⟩ := vx_keep h0 e1 hS hAX hf hL hF
    obtain ⟨t2, a1, b1⟩ := kx E ce q u t T'.heap (locs ++ L) e1.symm (by rw [← e2]; exact X'.warmed.alike) hp hb k1 k2 k3 (by rw [e1]; exact hce) hcv hcl T' rfl X'
    exact ⟨t2, st.trans a1, b1⟩
theorem vx_calld {S SX : Type} {post : UInt64 → S → Prop} {px : SX → Prop} {B : S → State → Prop} {BX : String → SX → State → Prop} {AX : Nat → Prop} (hr : vx_Run p l e R s m args below meth c H locs cells slots mc ms (F0 m pc ls st0) rest (va_Qd post B A1 a) (vx_X px BX AX) free) (hS : va_S A0 H0 H locs) (hA : ∀ q, q < H.size → A1 q → A0 q) (hf : ∀ q, free q → A0 q) (hAX : ∀ q, q < H.size → AX q → A0 q)
    (kx : ∀ (E : String) (ce : Cell) (q9 : Addr) (u : SX) (t : State) (H1 : Heap) (locs1 : List Loc), t.heap = H1 → s.vm.Alike t.vm → px u → BX E u t → H.size ≤ H1.size → (∀ q : Nat, q < H.size → ¬ AX q → H1[q]? = H[q]?) → va_S A0 H0 H1 locs1 → H1[q9]? = some ce → ce.vm = .none → s.vm.findClass E = some ce.cls → vx_W p l e R s m args below meth c H1 locs1 (cells + mc) (slots + ms) Q (F0 m pc ls rest) q9)
    (kk : ∀ (r : UInt64) (u : S) (t : State) (H1 : Heap) (locs1 : List Loc), t.heap = H1 → s.vm.Alike t.vm → post r u → B u t → H.size ≤ H1.size → (∀ q : Nat, q < H.size → ¬ A1 q → H1[q]? = H[q]?) → va_S A0 H0 H1 locs1 → W p l e R s m args below meth c H1 locs1 (cells + mc) (slots + ms) Q (F0 m (pc + 3) ls (.double r :: rest))) : W p l e R s m args below meth c H locs cells slots Q (F0 m pc ls st0) := by
  intro T hT X
  rcases hr T hT X with ⟨v, st₀, t, T', L, h0, X', hL, e1, e2, ⟨⟨r, u, hv, hp, hb⟩, hF⟩, st⟩ | ⟨q, st₀, t, T', L, E, ce, h0, X', hL, e1, e2, ⟨u, hp, hb, hF⟩, hce, hcv, hcl, st⟩
  · cases hv
    obtain ⟨k1, k2, k3⟩ := vx_keep h0 e1 hS hA hf hL hF
    obtain ⟨t2, a1, b1⟩ := kk r u t T'.heap (locs ++ L) e1.symm (by rw [← e2]; exact X'.warmed.alike) hp hb k1 k2 k3 T' rfl X'
    exact ⟨t2, st t2 a1, b1⟩
  · obtain ⟨k1, k2, k3⟩ := vx_keep h0 e1 hS hAX hf hL hF
    obtain ⟨t2, a1, b1⟩ := kx E ce q u t T'.heap (locs ++ L) e1.symm (by rw [← e2]; exact X'.warmed.alike) hp hb k1 k2 k3 (by rw [e1]; exact hce) hcv hcl T' rfl X'
    exact ⟨t2, st.trans a1, b1⟩
theorem vx_callv {S SX : Type} {post : S → Prop} {px : SX → Prop} {B : S → State → Prop} {BX : String → SX → State → Prop} {AX : Nat → Prop} (hr : vx_Run p l e R s m args below meth c H locs cells slots mc ms (F0 m pc ls st0) rest (va_Qv post B A1 a) (vx_X px BX AX) free) (hS : va_S A0 H0 H locs) (hA : ∀ q, q < H.size → A1 q → A0 q) (hf : ∀ q, free q → A0 q) (hAX : ∀ q, q < H.size → AX q → A0 q)
    (kx : ∀ (E : String) (ce : Cell) (q9 : Addr) (u : SX) (t : State) (H1 : Heap) (locs1 : List Loc), t.heap = H1 → s.vm.Alike t.vm → px u → BX E u t → H.size ≤ H1.size → (∀ q : Nat, q < H.size → ¬ AX q → H1[q]? = H[q]?) → va_S A0 H0 H1 locs1 → H1[q9]? = some ce → ce.vm = .none → s.vm.findClass E = some ce.cls → vx_W p l e R s m args below meth c H1 locs1 (cells + mc) (slots + ms) Q (F0 m pc ls rest) q9)
    (kk : ∀ (u : S) (t : State) (H1 : Heap) (locs1 : List Loc), t.heap = H1 → s.vm.Alike t.vm → post u → B u t → H.size ≤ H1.size → (∀ q : Nat, q < H.size → ¬ A1 q → H1[q]? = H[q]?) → va_S A0 H0 H1 locs1 → W p l e R s m args below meth c H1 locs1 (cells + mc) (slots + ms) Q (F0 m (pc + 3) ls (rest))) : W p l e R s m args below meth c H locs cells slots Q (F0 m pc ls st0) := by
  intro T hT X
  rcases hr T hT X with ⟨v, st₀, t, T', L, h0, X', hL, e1, e2, ⟨⟨u, hv, hp, hb⟩, hF⟩, st⟩ | ⟨q, st₀, t, T', L, E, ce, h0, X', hL, e1, e2, ⟨u, hp, hb, hF⟩, hce, hcv, hcl, st⟩
  · cases hv
    obtain ⟨k1, k2, k3⟩ := vx_keep h0 e1 hS hA hf hL hF
    obtain ⟨t2, a1, b1⟩ := kk u t T'.heap (locs ++ L) e1.symm (by rw [← e2]; exact X'.warmed.alike) hp hb k1 k2 k3 T' rfl X'
    exact ⟨t2, st t2 a1, b1⟩
  · obtain ⟨k1, k2, k3⟩ := vx_keep h0 e1 hS hAX hf hL hF
    obtain ⟨t2, a1, b1⟩ := kx E ce q u t T'.heap (locs ++ L) e1.symm (by rw [← e2]; exact X'.warmed.alike) hp hb k1 k2 k3 (by rw [e1]; exact hce) hcv hcl T' rfl X'
    exact ⟨t2, st.trans a1, b1⟩
end Rows
section Ends
variable {p : Program} {l : Launch} {e : Env} {R : Room} {s : State} {m : MethodId} {args : Array Value} {below : List Frame} {meth : Method} {c : Code} {H : Heap} {locs : List Loc} {cells slots : Nat} {Q : State → Prop}
variable {mc ms : Nat} {free : Addr → Prop} {A0 A1 : Nat → Prop} {H0 : Heap} {a : Array Value} {ls : Array Slot} {st0 rest : List Value}
variable {Qc : Array Value → State → Outcome → State → Prop} {XC : String → State → State → Prop}
/-- what a body that may throw owes at its end -/
def vx_MQ (below : List Frame) (Qc : Array Value → State → Outcome → State → Prop) (XC : String → State → State → Prop) (a : Array Value) (s : State) (mc ms : Nat) (free : Addr → Prop) : State → Prop := fun t =>
  ∃ o, t.status = .running ∧ Ended t below o ∧ vx_Q Qc XC mc ms free a s o t
theorem vx_ret {g : JFrame} {mc ms : Nat} (k : W p l e R s m args below meth c H locs cells slots (MQ below Qc args s mc ms free) g) : W p l e R s m args below meth c H locs cells slots (vx_MQ below Qc XC args s mc ms free) g := by
  intro T hT X
  obtain ⟨t, a1, o, b1, b2, b3, b4⟩ := k T hT X
  exact ⟨t, a1, o, b1, b2, Or.inl ⟨b3, b4⟩⟩
/-- not caught here: it goes on to the caller -/
theorem vx_widen {g : JFrame} {q : Addr} {k n : Nat} (h1 : cells ≤ k) (h2 : slots ≤ n) (kk : vx_W p l e R s m args below meth c H locs k n Q g q) : vx_W p l e R s m args below meth c H locs cells slots Q g q := fun T hT X => kk T hT (stand_widen X h1 h2)
theorem vx_out {pc : Nat} {E : String} {ce : Cell} {q : Addr} {mc ms : Nat} (hout : ∀ x ∈ c.exceptionTable.toList, covers x pc = false) (hlocks : meth.locks = false) (hcell : H[q]? = some ce) (hv : ce.vm = .none) (hcl : s.vm.findClass E = some ce.cls)
    (hx : ∀ t : State, t.heap = H → s.vm.Alike t.vm → XC E s t) (hf : ∀ z ∈ locs, free z.base) (hc : cells ≤ mc) (hs : slots ≤ ms) :
    vx_W p l e R s m args below meth c H locs cells slots (vx_MQ below Qc XC args s mc ms free) (F0 m pc ls rest) q := by
  intro T hT X
  obtain ⟨st1, hrun, hend, hW, hsm⟩ := X.leaveThrown q (g := F0 m pc ls rest) rfl rfl rfl hout hlocks
  have hcell9 : (T.setFrames (.throwing q :: below)).heap[q]? = some ce := by
    show T.heap[q]? = some ce
    rw [hT]; exact hcell
  exact ⟨_, st1, .threw q, hrun, hend, Or.inr ⟨q, rfl, E, ce, locs, hx _ hT hW.alike, hcell9, hv, hcl, hW, hsm.mono hc hs, hf⟩⟩
theorem vx_frame {U : State} {k n : Nat} (h : s.sameButNew ({ U with vm := s.vm } : State) locs k n) : s.heap.size ≤ U.heap.size ∧ ∀ q : Nat, q < s.heap.size → (∀ z ∈ locs, z.base ≠ q) → U.heap[q]? = s.heap[q]? := by
  obtain ⟨-, h2, -, -, -, h6⟩ := h
  refine ⟨h2, fun q hq hz => ?_⟩
  obtain ⟨c9, e1, e2, e3, e4⟩ := h6 q _ (Array.getElem?_eq_getElem hq)
  have hs : c9.slots = (s.heap[q]).slots := Array.ext_getElem? fun i => e4 i fun hm => hz _ hm rfl
  have h9 : c9 = s.heap[q] := by
    rw [hs] at e2
    exact e2
  have e5 : U.heap[q]? = some c9 := e1
  rw [e5, h9, Array.getElem?_eq_getElem hq]
/-- the words of a throw but the four that speak of the heap -/
def vx_no (w : Cond) : Bool := decide (w ≠ .isRef (.static Bundle.tN "UNASSIGNED_STACK" Bundle.steD)) && decide (w ≠ .isRef (.static Bundle.tN "SUPPRESSED_SENTINEL" Bundle.listD)) && decide (w ≠ .laysStatic Bundle.tN "UNASSIGNED_STACK" Bundle.steD) && decide (w ≠ .laysStatic Bundle.tN "SUPPRESSED_SENTINEL" Bundle.listD)
def vx_at0 (own : String) (ic : Nat) (X : String) (names : List String) : List Cond := (Bundle.ownAtoms0 own ic X names).filter vx_no
def vx_atS (own : String) (ic : Nat) (X : String) (names : List String) : List Cond := (Bundle.ownAtoms own ic X names).filter vx_no
/-- a word that the tables alone decide, or a good one -/
def vx_ot (w : Cond) : Bool := w.onTables || goodWord w
theorem vx_ot_at {args a' : Array Value} {s U : State} {w : Cond} (hW : s.WarmedH U.vm) (hvm : s.vm = U.vm) (hg : vx_ot w = true) (h : w.before args s = true) : w.before a' U = true := by
  simp only [vx_ot, Bool.or_eq_true] at hg
  rcases hg with hg | hg
  · exact va_tabs hg hvm h
  · exact word_at hW (good_of_word hg) h
/-- a list's words: the good ones out of the method's own list, the others by premises of their own -/
theorem vx_hat {args : Array Value} {s : State} {L B : List Cond} (h1 : ∀ w ∈ L.filter goodWord, w.before args s = true) (h2 : ∀ w ∈ L.filter (fun w => !goodWord w), w ∈ B) (h3 : ∀ w ∈ B, w.before args s = true) : ∀ w ∈ L, w.before args s = true := by
  intro w hw
  by_cases g : goodWord w = true
  · exact h1 w (List.mem_filter.mpr ⟨hw, g⟩)
  · refine h3 w (h2 w (List.mem_filter.mpr ⟨hw, ?_⟩))
    show (!goodWord w) = true
    cases hgw : goodWord w
    · rfl
    · exact absurd hgw g
theorem vx_c {args : Array Value} {s : State} {w : Cond} {B : List Cond} (h : w.before args s = true) (t : ∀ w ∈ B, w.before args s = true) : ∀ w' ∈ w :: B, w'.before args s = true := fun w' h' => (List.mem_cons.mp h').elim (fun e => by rw [e]; exact h) (t w')
theorem vx_n {args : Array Value} {s : State} : ∀ w ∈ ([] : List Cond), w.before args s = true := fun _ h => nomatch h
theorem vx_own {args : Array Value} {s : State} {L : List Cond} (h1 : ∀ w ∈ L.filter vx_no, w.before args s = true)
    (hU : (Cond.isRef (.static Bundle.tN "UNASSIGNED_STACK" Bundle.steD)).before args s = true) (hN : (Cond.isRef (.static Bundle.tN "SUPPRESSED_SENTINEL" Bundle.listD)).before args s = true)
    (lU : (Cond.laysStatic Bundle.tN "UNASSIGNED_STACK" Bundle.steD).before args s = true) (lN : (Cond.laysStatic Bundle.tN "SUPPRESSED_SENTINEL" Bundle.listD).before args s = true) : ∀ w ∈ L, w.before args s = true := by
  intro w hw
  by_cases e1 : w = .isRef (.static Bundle.tN "UNASSIGNED_STACK" Bundle.steD)
  · rw [e1]; exact hU
  · by_cases e2 : w = .isRef (.static Bundle.tN "SUPPRESSED_SENTINEL" Bundle.listD)
    · rw [e2]; exact hN
    · by_cases e3 : w = .laysStatic Bundle.tN "UNASSIGNED_STACK" Bundle.steD
      · rw [e3]; exact lU
      · by_cases e4 : w = .laysStatic Bundle.tN "SUPPRESSED_SENTINEL" Bundle.listD
        · rw [e4]; exact lN
        · exact h1 w (List.mem_filter.mpr ⟨hw, by unfold vx_no; rw [decide_eq_true e1, decide_eq_true e2, decide_eq_true e3, decide_eq_true e4]; rfl⟩)
/-- where a static field lies, its class's statics cell in H -/
def vx_L (C n d : String) (A : Nat → Prop) (U : State) (H : Heap) : Prop := ∃ (c : ClassId) (k : Class) (i : Nat) (f : Field) (a : Nat) (cell : Cell), U.vm.findClass C = some c ∧ U.fieldFound? C n d = some (c, k, i, f) ∧ f.isStatic = true ∧ k.statics = some a ∧ H[a]? = some cell ∧ cell.vm.isStatics = true ∧ cell.cls = c ∧ f.slot < cell.slots.size ∧ k.staticTypes[f.slot]? = some f.type ∧ ¬ A a
theorem vx_L.moved {C n d : String} {A : Nat → Prop} {u U : State} {H : Heap} (hvm : u.vm.Alike U.vm) (h : vx_L C n d A u H) : vx_L C n d A U H := by
  obtain ⟨c, k, i, f, a, cell, h1, h2, h3, h4, h5, h6, h7, h8, h9, h10⟩ := h
  obtain ⟨k', hi', he⟩ := State.fieldFound?_setVm hvm h2
  exact ⟨c, k', i, f, a, cell, by rw [hvm.findClass]; exact h1, hi', h3, by rw [he]; exact h4, h5, h6, h7, h8, by rw [he]; exact h9, h10⟩
theorem vx_L.kept {C n d : String} {A : Nat → Prop} {U : State} {H H1 : Heap} (h : vx_L C n d A U H) (hq : ∀ a : Nat, a < H.size → ¬ A a → H1[a]? = H[a]?) : vx_L C n d A U H1 := by
  obtain ⟨c, k, i, f, a, cell, h1, h2, h3, h4, h5, h6, h7, h8, h9, h10⟩ := h
  exact ⟨c, k, i, f, a, cell, h1, h2, h3, h4, by rw [hq a (Array.getElem?_eq_some_iff.mp h5).1 h10]; exact h5, h6, h7, h8, h9, h10⟩
theorem vx_L.narrow {C n d : String} {A B : Nat → Prop} {U : State} {H : Heap} (h : vx_L C n d A U H) (hAB : ∀ q, B q → A q) : vx_L C n d B U H := by
  obtain ⟨c, k, i, f, a, cell, h1, h2, h3, h4, h5, h6, h7, h8, h9, h10⟩ := h
  exact ⟨c, k, i, f, a, cell, h1, h2, h3, h4, h5, h6, h7, h8, h9, fun z => h10 (hAB _ z)⟩
theorem vx_L.word {C n d : String} {A : Nat → Prop} {s : State} {args : Array Value} (h : vx_L C n d A s s.heap) : (Cond.laysStatic C n d).before args s = true := by
  obtain ⟨c, k, i, f, a, cell, h1, h2, h3, h4, h5, h6, h7, h8, h9, -⟩ := h
  show (Cond.laysStatic C n d).holds args s none s [] = true
  exact Cond.laysStatic_of h1 h2 h3 h4 h5 h6 h7 h8 h9
/-- .. and what it holds: null or some reference -/
def vx_Zq (C n d : String) (A : Nat → Prop) (U : State) (H : Heap) : Prop := va_Zq C n d A U H ∧ vx_L C n d A U H
theorem vx_Zq.moved {C n d : String} {A : Nat → Prop} {u U : State} {H : Heap} (hvm : u.vm.Alike U.vm) (h : vx_Zq C n d A u H) : vx_Zq C n d A U H := ⟨va_Zq.moved hvm h.1, vx_L.moved hvm h.2⟩
theorem vx_Zq.kept {C n d : String} {A : Nat → Prop} {U : State} {H H1 : Heap} (h : vx_Zq C n d A U H) (hq : ∀ a : Nat, a < H.size → ¬ A a → H1[a]? = H[a]?) : vx_Zq C n d A U H1 := ⟨va_Zq.kept h.1 hq, vx_L.kept h.2 hq⟩
theorem vx_Zq.narrow {C n d : String} {A B : Nat → Prop} {U : State} {H : Heap} (h : vx_Zq C n d A U H) (hAB : ∀ q, B q → A q) : vx_Zq C n d B U H := ⟨va_Zq.narrow h.1 hAB, vx_L.narrow h.2 hAB⟩
theorem vx_Zqof {args : Array Value} {s : State} {C n d : String} {A : Nat → Prop} (hl : (Cond.laysStatic C n d).before args s = true) (hini : (Cond.initialized C).before args s = true) (h : (Cond.isRef (.static C n d)).before args s = true) (hA : ∀ a : Nat, a < s.heap.size → ¬ A a) : vx_Zq C n d A s s.heap := by
  refine ⟨va_Zqof hl hini h hA, ?_⟩
  obtain ⟨c, k, i, f, a, cell, h1, h2, h3, h4, h5, h6, h7, h8, h9⟩ := Cond.laysStatic_spec hl
  exact ⟨c, k, i, f, a, cell, h1, h2, h3, h4, h5, h6, h7, h8, h9, hA a (Array.getElem?_eq_some_iff.mp h5).1⟩
theorem vx_isRef {C n d : String} {v : Value} {A : Nat → Prop} {s : State} {args : Array Value} (h : va_Z C n d v A s s.heap) (hv : v.isRef = true) : (Cond.isRef (.static C n d)).before args s = true := by
  obtain ⟨cf, kf, fi, f, a, cell, h1, h2, h3, h4, h5, h6, h7, -⟩ := h
  have he : (Term.static C n d).eval args s none [] s = some v := by
    simp [Term.eval, State.fieldNamed?, h1, h2, h4, h5, h6, h7]
  simp only [Cond.before, Cond.holds, Cond.value, he]
  cases v <;> simp_all [Value.isRef]
theorem vx_isRefq {C n d : String} {A : Nat → Prop} {s : State} {args : Array Value} (h : va_Zq C n d A s s.heap) : (Cond.isRef (.static C n d)).before args s = true := by
  rcases h with h | ⟨t, h⟩
  · exact vx_isRef h rfl
  · exact vx_isRef h rfl
/-- the same frame, seen from here: as if the method were called anew in this heap -/
theorem vx_rebase {T : State} (X : Stand p l e R s m args below meth c T locs cells slots) {R' : Room} (hf : R'.frames ≤ R.frames) (hl : R'.locals ≤ R.locals) (hc : cells + R'.cells ≤ R.cells) (hs : slots + R'.slots ≤ R.slots) :
    Stand p l e R' ((T.setVm s.vm).setFrames (.invoking m args :: below)) m args below meth c T [] 0 0 := by
  have htop : (T.setVm s.vm).topJava?.isSome := X.here.top
  have hF : ((T.setVm s.vm).setFrames (.invoking m args :: below)).frames = .invoking m args :: below := State.frames_setFrames _ (State.cur_lt_of_top htop)
  obtain ⟨g₀, hg0⟩ := Option.isSome_iff_exists.mp htop
  obtain ⟨r, hr⟩ := State.topJava?_eq_some.mp hg0
  have hl9 : e.platform.stackLimits (T.setVm s.vm).me = e.platform.stackLimits s.me := X.limits
  have hb9 : (T.setVm s.vm).me.stackBytes = s.me.stackBytes := X.bytes
  refine ⟨X.admits, X.cas, X.clock, hF, ?_, X.hears, X.method, X.code, X.here, X.tail, X.warmed, ?_, ?_, ?_⟩
  · have h := X.room
    have hU : ((T.setVm s.vm).setFrames (.invoking m args :: below)).localsInUse = s.localsInUse := by
      rw [State.localsInUse_invoking hF (meth := meth) (c := c) X.method X.code, State.localsInUse_invoking X.frames X.method X.code]
    simp only [State.hasRoom, Bool.and_eq_true, decide_eq_true_eq] at h ⊢
    obtain ⟨⟨⟨⟨h1, h2, h3, h4, h5, h6⟩, h7⟩, h8⟩, h9⟩ := h
    rw [X.frames, List.length_cons] at h2 h3
    have q1 := X.heapSize
    have q2 := X.used
    simp only [hF, hU, List.length_cons, State.stackLimits_setFrames, State.stackBytes_setFrames, hl9, hb9]
    refine ⟨⟨⟨⟨by omega, by omega, by omega, by omega, by omega, h6⟩, ?_⟩, ?_⟩, X.book⟩
    · show T.heap.size + R'.cells ≤ e.platform.maxCells
      omega
    · show T.slotsUsed + R'.slots ≤ e.platform.maxSlots
      omega
  · rw [State.stackLimits_setFrames]; rfl
  · rw [State.stackBytes_setFrames]; rfl
  · refine ⟨?_, Nat.le_refl _, Nat.le_refl _, ?_, ?_, fun a c9 h9 => ⟨c9, h9, rfl, rfl, fun _ _ => rfl⟩⟩
    · obtain ⟨t, ht, -⟩ := State.frames_cons hr
      show T.setVm s.vm = { ((T.setVm s.vm).setFrames (.invoking m args :: below)).setFrames (T.setVm s.vm).frames with heap := T.heap, slotsUsed := T.slotsUsed }
      rw [State.setFrames_setFrames, State.setFrames_self ht]
      rfl
    · show T.slotsUsed = T.slotsUsed + ((T.heap.toList.drop T.heap.size).map (·.slots.size)).sum
      rw [List.drop_eq_nil_of_le (Nat.le_of_eq Array.length_toList)]
      rfl
    · show ((T.heap.toList.drop T.heap.size).map (·.slots.size)).sum ≤ 0
      rw [List.drop_eq_nil_of_le (Nat.le_of_eq Array.length_toList)]
      exact Nat.le_refl _
/-- 'throw new E()': new; dup; invokespecial; athrow -/
theorem vx_throw0 {cc : ByteArray} {pc : Nat} (hexec : p.tables.exec = Jvm.exec) (hb : c.code = cc) (hl : l.stackTraces = false) {own cls : String} {names : List String} {ik ic mc ms : Nat} {A : Nat → Prop}
    (hown : s.vm.findClass own = some m.cls) (hcls : Bundle.fit cls = true) (hnames : ∀ n ∈ names, Bundle.fit n = true)
    (hk : (Cond.classLink own ik cls).before args s = true) (hini : (Cond.initialized cls).before args s = true) (hat : ∀ w ∈ vx_at0 own ic cls names, w.before args s = true)
    (hgood : ∀ w ∈ Cond.classLink own ik cls :: Cond.initialized cls :: vx_at0 own ic cls names, vx_ot w = true)
    (hU : vx_Zq Bundle.tN "UNASSIGNED_STACK" Bundle.steD A s s.heap) (hN : vx_Zq Bundle.tN "SUPPRESSED_SENTINEL" Bundle.listD A s s.heap) (hS : va_S A s.heap H locs) (hsize : ls.size = c.maxLocals)
    (d0 : decode cc pc = .ok (.new ik, 3)) (d3 : decode cc (pc + 3) = .ok (.dup, 1)) (d4 : decode cc (pc + 4) = .ok (.invokespecial ic, 3)) (d7 : decode cc (pc + 7) = .ok (.athrow, 1))
    (hout : ∀ x ∈ c.exceptionTable.toList, covers x (pc + 7) = false)
    (hRframes : names.length + 3 < R.frames) (hRlocals : (rest.map fun v => v.category).sum + (13 * (names.length + 1) + 42) ≤ R.locals) (hRcells : cells + 1 ≤ R.cells) (hRslots : slots + 6 ≤ R.slots) (hlocks : meth.locks = false)
    (hx : ∀ t : State, s.vm.Alike t.vm → H.size ≤ t.heap.size → (∀ q : Nat, q < H.size → t.heap[q]? = H[q]?) → XC cls s t)
    (hf : ∀ z ∈ locs, free z.base) (hc : cells + 1 ≤ mc) (hs : slots + 6 ≤ ms) :
    W p l e R s m args below meth c H locs cells slots (vx_MQ below Qc XC args s mc ms free) (F0 m pc ls rest) := by
  intro T hT X
  have htr : e.platform.stackTraces = false := (show e.platform.stackTraces = l.stackTraces by rw [X.admits.platform]).trans hl
  have Y := vx_rebase X (R' := { frames := R.frames, locals := R.locals, cells := 1, slots := 6 }) (Nat.le_refl _) (Nat.le_refl _) hRcells hRslots
  obtain ⟨s', hA⟩ : ∃ z, z = (T.setVm s.vm).setFrames (.invoking m args :: below) := ⟨_, rfl⟩
  rw [← hA] at Y
  have hvm : s'.vm = s.vm := by rw [hA]; rfl
  have hhp : s'.heap = H := by rw [hA]; exact hT
  have hW0 : s.WarmedH s'.vm := by rw [hvm]; exact State.WarmedH.refl s
  have hat' : ∀ w ∈ vx_at0 own ic cls names, w.before args s' = true := fun w hw => vx_ot_at hW0 hvm.symm (hgood w (List.mem_cons_of_mem _ (List.mem_cons_of_mem _ hw))) (hat w hw)
  have hk' : (Cond.classLink own ik cls).before args s' = true := vx_ot_at hW0 hvm.symm (hgood _ List.mem_cons_self) hk
  have hini' : (Cond.initialized cls).before args s' = true := vx_ot_at hW0 hvm.symm (hgood _ (List.mem_cons_of_mem _ List.mem_cons_self)) hini
  have hU' : vx_Zq Bundle.tN "UNASSIGNED_STACK" Bundle.steD A s' s'.heap := by rw [hhp]; exact vx_Zq.moved hW0.alike (hU.kept hS.2.1)
  have hN' : vx_Zq Bundle.tN "SUPPRESSED_SENTINEL" Bundle.listD A s' s'.heap := by rw [hhp]; exact vx_Zq.moved hW0.alike (hN.kept hS.2.1)
  have h : ∀ w ∈ Bundle.ownAtoms0 own ic cls names, w.before args s' = true := vx_own hat' (vx_isRefq hU'.1) (vx_isRefq hN'.1) hU'.2.word hN'.2.word
  have hown' : s'.vm.findClass own = some m.cls := by rw [hvm]; exact hown
  have hins : (Cond.instantiable cls 6).before args s' = true := h _ (by simp [Bundle.ownAtoms0])
  obtain ⟨vm₁, cX, kX, hfX, hkX, -, -, X₁, st1⟩ := Y.newCold hexec (own := own) (C := cls) (index := ik) (n := 6) hown' hk' hins hini'
    (g := F0 m pc ls rest) rfl (by rw [hb]; exact d0) (Nat.le_refl _) (Nat.le_refl _)
  generalize hT1 : (T.setVm vm₁).pushCell { cls := cX, slots := kX.instanceTypes.map defaultValue, vm := .none } = T1 at X₁ st1
  have hcat : (Value.ref T.heap.size).category = 1 := rfl
  have hcellA : T1.heap[T.heap.size]? = some (freshCell cX kX) := by rw [← hT1]; exact State.heap_pushCell_size _ _
  have d3' : decode c.code (pc + 3) = .ok (.dup, 1) := by rw [hb]; exact d3
  obtain ⟨U, hsteps, hrun, hend, hW, hsame, ce, hce, hO⟩ := X₁.ctorThrow0 hexec htr (own := own) (cls := cls) (names := names) (ic := ic) hown' hcls hnames h (fun x hx => nomatch hx) hfX hkX hcellA (by rw [hhp, hT]; exact Nat.le_refl _)
    (g := { method := m, pc := pc + 4, locals := ls, stack := .ref T.heap.size :: .ref T.heap.size :: rest, locked := none }) rfl hsize rfl rfl (rest := rest) rfl
    (by rw [hb]; exact d4) (by rw [hb]; exact d7) hout hRframes (by simp only [List.map_cons, List.sum_cons, hcat]; omega) hlocks
  obtain ⟨f1, f2⟩ := vx_frame hsame
  rw [hhp] at f1 f2
  have hWs : s.WarmedH U.vm := State.WarmedH.trans hW0 hW
  have hcl : s.vm.findClass cls = some ce.cls := by
    have h9 := hO.cls
    rw [hvm] at h9
    exact h9
  have hall : s.sameButNew ({ U with vm := s.vm } : State) locs mc ms := by
    subst hA
    obtain ⟨e1, e2⟩ := hsame
    rw [State.setFrames_setFrames] at e1
    have h2 : (T.setVm s.vm).sameButNew ({ U with vm := s.vm } : State) [] (0 + 1) (0 + 6) := ⟨e1, e2⟩
    have h3 := X.same.trans h2
    rw [List.append_nil] at h3
    exact h3.mono hc hs
  refine ⟨U, ?_, .threw T.heap.size, hrun, hend, Or.inr ⟨T.heap.size, rfl, cls, ce, locs, hx U hWs.alike f1 (fun q hq => f2 q hq (fun z hz => nomatch hz)), hce, hO.vm, hcl, hWs, hall, hf⟩⟩
  refine st1 _ ?_
  show Steps p.tables e below (T1.setTop { method := m, pc := pc + 3, locals := ls, stack := .ref T.heap.size :: rest, locked := none }) _
  jvm_step X₁.here [X₁.here.top, hexec, d3', Value.category]
  exact hsteps
/-- 'throw new E("text")': new; dup; ldc; invokespecial; athrow -/
theorem vx_throwS {cc : ByteArray} {pc : Nat} (hexec : p.tables.exec = Jvm.exec) (hb : c.code = cc) (hl : l.stackTraces = false) {own cls text : String} {names : List String} {ik is ic mc ms sa : Nat} {A : Nat → Prop}
    (hown : s.vm.findClass own = some m.cls) (hcls : Bundle.fit cls = true) (hnames : ∀ n ∈ names, Bundle.fit n = true)
    (hk : (Cond.classLink own ik cls).before args s = true) (hini : (Cond.initialized cls).before args s = true) (hstr : vk_R own is text sa s) (hat : ∀ w ∈ vx_atS own ic cls names, w.before args s = true)
    (hgood : ∀ w ∈ Cond.classLink own ik cls :: Cond.initialized cls :: vx_atS own ic cls names, vx_ot w = true)
    (hU : vx_Zq Bundle.tN "UNASSIGNED_STACK" Bundle.steD A s s.heap) (hN : vx_Zq Bundle.tN "SUPPRESSED_SENTINEL" Bundle.listD A s s.heap) (hS : va_S A s.heap H locs) (hsize : ls.size = c.maxLocals)
    (d0 : decode cc pc = .ok (.new ik, 3)) (d3 : decode cc (pc + 3) = .ok (.dup, 1)) (d4 : decode cc (pc + 4) = .ok (.ldc is, 2)) (d6 : decode cc (pc + 6) = .ok (.invokespecial ic, 3)) (d9 : decode cc (pc + 9) = .ok (.athrow, 1))
    (hout : ∀ x ∈ c.exceptionTable.toList, covers x (pc + 9) = false)
    (hRframes : names.length + 3 < R.frames) (hRlocals : (rest.map fun v => v.category).sum + (13 * (names.length + 1) + 43) ≤ R.locals) (hRcells : cells + 1 ≤ R.cells) (hRslots : slots + 6 ≤ R.slots) (hlocks : meth.locks = false)
    (hx : ∀ t : State, s.vm.Alike t.vm → H.size ≤ t.heap.size → (∀ q : Nat, q < H.size → t.heap[q]? = H[q]?) → XC cls s t)
    (hf : ∀ z ∈ locs, free z.base) (hc : cells + 1 ≤ mc) (hs : slots + 6 ≤ ms) :
    W p l e R s m args below meth c H locs cells slots (vx_MQ below Qc XC args s mc ms free) (F0 m pc ls rest) := by
  intro T hT X
  have htr : e.platform.stackTraces = false := (show e.platform.stackTraces = l.stackTraces by rw [X.admits.platform]).trans hl
  have Y := vx_rebase X (R' := { frames := R.frames, locals := R.locals, cells := 1, slots := 6 }) (Nat.le_refl _) (Nat.le_refl _) hRcells hRslots
  obtain ⟨s', hA⟩ : ∃ z, z = (T.setVm s.vm).setFrames (.invoking m args :: below) := ⟨_, rfl⟩
  rw [← hA] at Y
  have hvm : s'.vm = s.vm := by rw [hA]; rfl
  have hhp : s'.heap = H := by rw [hA]; exact hT
  have hW0 : s.WarmedH s'.vm := by rw [hvm]; exact State.WarmedH.refl s
  have hat' : ∀ w ∈ vx_atS own ic cls names, w.before args s' = true := fun w hw => vx_ot_at hW0 hvm.symm (hgood w (List.mem_cons_of_mem _ (List.mem_cons_of_mem _ hw))) (hat w hw)
  have hk' : (Cond.classLink own ik cls).before args s' = true := vx_ot_at hW0 hvm.symm (hgood _ List.mem_cons_self) hk
  have hini' : (Cond.initialized cls).before args s' = true := vx_ot_at hW0 hvm.symm (hgood _ (List.mem_cons_of_mem _ List.mem_cons_self)) hini
  have hU' : vx_Zq Bundle.tN "UNASSIGNED_STACK" Bundle.steD A s' s'.heap := by rw [hhp]; exact vx_Zq.moved hW0.alike (hU.kept hS.2.1)
  have hN' : vx_Zq Bundle.tN "SUPPRESSED_SENTINEL" Bundle.listD A s' s'.heap := by rw [hhp]; exact vx_Zq.moved hW0.alike (hN.kept hS.2.1)
  have h : ∀ w ∈ Bundle.ownAtoms own ic cls names, w.before args s' = true := vx_own hat' (vx_isRefq hU'.1) (vx_isRefq hN'.1) hU'.2.word hN'.2.word
  have hown' : s'.vm.findClass own = some m.cls := by rw [hvm]; exact hown
  have hins : (Cond.instantiable cls 6).before args s' = true := h _ (by simp [Bundle.ownAtoms])
  obtain ⟨vm₁, cX, kX, hfX, hkX, -, -, X₁, st1⟩ := Y.newCold hexec (own := own) (C := cls) (index := ik) (n := 6) hown' hk' hins hini'
    (g := F0 m pc ls rest) rfl (by rw [hb]; exact d0) (Nat.le_refl _) (Nat.le_refl _)
  generalize hT1 : (T.setVm vm₁).pushCell { cls := cX, slots := kX.instanceTypes.map defaultValue, vm := .none } = T1 at X₁ st1
  have hcat : (Value.ref T.heap.size).category = 1 := rfl
  have hcellA : T1.heap[T.heap.size]? = some (freshCell cX kX) := by rw [← hT1]; exact State.heap_pushCell_size _ _
  have d3' : decode c.code (pc + 3) = .ok (.dup, 1) := by rw [hb]; exact d3
  have d4' : decode c.code (pc + 4) = .ok (.ldc is, 2) := by rw [hb]; exact d4
  have hstr' : vk_R own is text sa s' := vk_R.warm hW0 hstr
  obtain ⟨U, hsteps, hrun, hend, hW, hsame, ce, hce, hO⟩ := X₁.ctorThrowS hexec htr (own := own) (cls := cls) (names := names) (ic := ic) hown' hcls hnames h (fun x hx => nomatch hx) hfX hkX hcellA (by rw [hhp, hT]; exact Nat.le_refl _) (msg := .ref sa) rfl
    (g := { method := m, pc := pc + 6, locals := ls, stack := .ref sa :: .ref T.heap.size :: .ref T.heap.size :: rest, locked := none }) rfl hsize rfl rfl (rest := rest) rfl
    (by rw [hb]; exact d6) (by rw [hb]; exact d9) hout hRframes (by simp only [List.map_cons, List.sum_cons, hcat]; omega) hlocks
  obtain ⟨f1, f2⟩ := vx_frame hsame
  rw [hhp] at f1 f2
  have hWs : s.WarmedH U.vm := State.WarmedH.trans hW0 hW
  have hcl : s.vm.findClass cls = some ce.cls := by
    have h9 := hO.cls
    rw [hvm] at h9
    exact h9
  have hall : s.sameButNew ({ U with vm := s.vm } : State) locs mc ms := by
    subst hA
    obtain ⟨e1, e2⟩ := hsame
    rw [State.setFrames_setFrames] at e1
    have h2 : (T.setVm s.vm).sameButNew ({ U with vm := s.vm } : State) [] (0 + 1) (0 + 6) := ⟨e1, e2⟩
    have h3 := X.same.trans h2
    rw [List.append_nil] at h3
    exact h3.mono hc hs
  refine ⟨U, ?_, .threw T.heap.size, hrun, hend, Or.inr ⟨T.heap.size, rfl, cls, ce, locs, hx U hWs.alike f1 (fun q hq => f2 q hq (fun z hz => nomatch hz)), hce, hO.vm, hcl, hWs, hall, hf⟩⟩
  refine st1 _ ?_
  show Steps p.tables e below (T1.setTop { method := m, pc := pc + 3, locals := ls, stack := .ref T.heap.size :: rest, locked := none }) _
  jvm_step X₁.here [X₁.here.top, hexec, d3', Value.category]
  exact X₁.ldcString hexec (own := own) (text := text) (index := is) (a := sa) hown' hstr'.1 hstr'.2
    (g := { method := m, pc := pc + 4, locals := ls, stack := .ref T.heap.size :: .ref T.heap.size :: rest, locked := none }) rfl d4' _ hsteps
/-- 'throw new E("text")', the text by a wide index -/
theorem vx_throwSW {cc : ByteArray} {pc : Nat} (hexec : p.tables.exec = Jvm.exec) (hb : c.code = cc) (hl : l.stackTraces = false) {own cls text : String} {names : List String} {ik is ic mc ms sa : Nat} {A : Nat → Prop}
    (hown : s.vm.findClass own = some m.cls) (hcls : Bundle.fit cls = true) (hnames : ∀ n ∈ names, Bundle.fit n = true)
    (hk : (Cond.classLink own ik cls).before args s = true) (hini : (Cond.initialized cls).before args s = true) (hstr : vk_R own is text sa s) (hat : ∀ w ∈ vx_atS own ic cls names, w.before args s = true)
    (hgood : ∀ w ∈ Cond.classLink own ik cls :: Cond.initialized cls :: vx_atS own ic cls names, vx_ot w = true)
    (hU : vx_Zq Bundle.tN "UNASSIGNED_STACK" Bundle.steD A s s.heap) (hN : vx_Zq Bundle.tN "SUPPRESSED_SENTINEL" Bundle.listD A s s.heap) (hS : va_S A s.heap H locs) (hsize : ls.size = c.maxLocals)
    (d0 : decode cc pc = .ok (.new ik, 3)) (d3 : decode cc (pc + 3) = .ok (.dup, 1)) (d4 : decode cc (pc + 4) = .ok (.ldc_w is, 3)) (d7 : decode cc (pc + 7) = .ok (.invokespecial ic, 3)) (d10 : decode cc (pc + 10) = .ok (.athrow, 1))
    (hout : ∀ x ∈ c.exceptionTable.toList, covers x (pc + 10) = false)
    (hRframes : names.length + 3 < R.frames) (hRlocals : (rest.map fun v => v.category).sum + (13 * (names.length + 1) + 43) ≤ R.locals) (hRcells : cells + 1 ≤ R.cells) (hRslots : slots + 6 ≤ R.slots) (hlocks : meth.locks = false)
    (hx : ∀ t : State, s.vm.Alike t.vm → H.size ≤ t.heap.size → (∀ q : Nat, q < H.size → t.heap[q]? = H[q]?) → XC cls s t)
    (hf : ∀ z ∈ locs, free z.base) (hc : cells + 1 ≤ mc) (hs : slots + 6 ≤ ms) :
    W p l e R s m args below meth c H locs cells slots (vx_MQ below Qc XC args s mc ms free) (F0 m pc ls rest) := by
  intro T hT X
  have htr : e.platform.stackTraces = false := (show e.platform.stackTraces = l.stackTraces by rw [X.admits.platform]).trans hl
  have Y := vx_rebase X (R' := { frames := R.frames, locals := R.locals, cells := 1, slots := 6 }) (Nat.le_refl _) (Nat.le_refl _) hRcells hRslots
  obtain ⟨s', hA⟩ : ∃ z, z = (T.setVm s.vm).setFrames (.invoking m args :: below) := ⟨_, rfl⟩
  rw [← hA] at Y
  have hvm : s'.vm = s.vm := by rw [hA]; rfl
  have hhp : s'.heap = H := by rw [hA]; exact hT
  have hW0 : s.WarmedH s'.vm := by rw [hvm]; exact State.WarmedH.refl s
  have hat' : ∀ w ∈ vx_atS own ic cls names, w.before args s' = true := fun w hw => vx_ot_at hW0 hvm.symm (hgood w (List.mem_cons_of_mem _ (List.mem_cons_of_mem _ hw))) (hat w hw)
  have hk' : (Cond.classLink own ik cls).before args s' = true := vx_ot_at hW0 hvm.symm (hgood _ List.mem_cons_self) hk
  have hini' : (Cond.initialized cls).before args s' = true := vx_ot_at hW0 hvm.symm (hgood _ (List.mem_cons_of_mem _ List.mem_cons_self)) hini
  have hU' : vx_Zq Bundle.tN "UNASSIGNED_STACK" Bundle.steD A s' s'.heap := by rw [hhp]; exact vx_Zq.moved hW0.alike (hU.kept hS.2.1)
  have hN' : vx_Zq Bundle.tN "SUPPRESSED_SENTINEL" Bundle.listD A s' s'.heap := by rw [hhp]; exact vx_Zq.moved hW0.alike (hN.kept hS.2.1)
  have h : ∀ w ∈ Bundle.ownAtoms own ic cls names, w.before args s' = true := vx_own hat' (vx_isRefq hU'.1) (vx_isRefq hN'.1) hU'.2.word hN'.2.word
  have hown' : s'.vm.findClass own = some m.cls := by rw [hvm]; exact hown
  have hins : (Cond.instantiable cls 6).before args s' = true := h _ (by simp [Bundle.ownAtoms])
  obtain ⟨vm₁, cX, kX, hfX, hkX, -, -, X₁, st1⟩ := Y.newCold hexec (own := own) (C := cls) (index := ik) (n := 6) hown' hk' hins hini'
    (g := F0 m pc ls rest) rfl (by rw [hb]; exact d0) (Nat.le_refl _) (Nat.le_refl _)
  generalize hT1 : (T.setVm vm₁).pushCell { cls := cX, slots := kX.instanceTypes.map defaultValue, vm := .none } = T1 at X₁ st1
  have hcat : (Value.ref T.heap.size).category = 1 := rfl
  have hcellA : T1.heap[T.heap.size]? = some (freshCell cX kX) := by rw [← hT1]; exact State.heap_pushCell_size _ _
  have d3' : decode c.code (pc + 3) = .ok (.dup, 1) := by rw [hb]; exact d3
  have d4' : decode c.code (pc + 4) = .ok (.ldc_w is, 3) := by rw [hb]; exact d4
  have hstr' : vk_R own is text sa s' := vk_R.warm hW0 hstr
  obtain ⟨U, hsteps, hrun, hend, hW, hsame, ce, hce, hO⟩ := X₁.ctorThrowS hexec htr (own := own) (cls := cls) (names := names) (ic := ic) hown' hcls hnames h (fun x hx => nomatch hx) hfX hkX hcellA (by rw [hhp, hT]; exact Nat.le_refl _) (msg := .ref sa) rfl
    (g := { method := m, pc := pc + 7, locals := ls, stack := .ref sa :: .ref T.heap.size :: .ref T.heap.size :: rest, locked := none }) rfl hsize rfl rfl (rest := rest) rfl
    (by rw [hb]; exact d7) (by rw [hb]; exact d10) hout hRframes (by simp only [List.map_cons, List.sum_cons, hcat]; omega) hlocks
  obtain ⟨f1, f2⟩ := vx_frame hsame
  rw [hhp] at f1 f2
  have hWs : s.WarmedH U.vm := State.WarmedH.trans hW0 hW
  have hcl : s.vm.findClass cls = some ce.cls := by
    have h9 := hO.cls
    rw [hvm] at h9
    exact h9
  have hall : s.sameButNew ({ U with vm := s.vm } : State) locs mc ms := by
    subst hA
    obtain ⟨e1, e2⟩ := hsame
    rw [State.setFrames_setFrames] at e1
    have h2 : (T.setVm s.vm).sameButNew ({ U with vm := s.vm } : State) [] (0 + 1) (0 + 6) := ⟨e1, e2⟩
    have h3 := X.same.trans h2
    rw [List.append_nil] at h3
    exact h3.mono hc hs
  refine ⟨U, ?_, .threw T.heap.size, hrun, hend, Or.inr ⟨T.heap.size, rfl, cls, ce, locs, hx U hWs.alike f1 (fun q hq => f2 q hq (fun z hz => nomatch hz)), hce, hO.vm, hcl, hWs, hall, hf⟩⟩
  refine st1 _ ?_
  show Steps p.tables e below (T1.setTop { method := m, pc := pc + 3, locals := ls, stack := .ref T.heap.size :: rest, locked := none }) _
  jvm_step X₁.here [X₁.here.top, hexec, d3', Value.category]
  exact X₁.ldcStringW hexec (own := own) (text := text) (index := is) (a := sa) hown' hstr'.1 hstr'.2
    (g := { method := m, pc := pc + 4, locals := ls, stack := .ref T.heap.size :: .ref T.heap.size :: rest, locked := none }) rfl d4' _ hsteps
end Ends
section Bodies
variable {l : Launch}
theorem vx_ofW {y : MethodName} {ws ws' : List Cond} {rm : Room} {Pc : Array Value → State → Prop} {Qc : Array Value → State → Outcome → State → Prop} {XC : String → State → State → Prop} {mc ms : Nat} {free : Addr → Prop} {cc : ByteArray} {maxL : Nat} {ret : Option FieldType}
    (hy : plainName y.cls = true) (hw : ws = Cond.code y cc maxL ret :: ws')
    (body : ∀ p e s m args below meth c s₁, BodyLoose p l y (headSpec ws rm) cc maxL ret e s m args below meth c s₁ → c.maxLocals = maxL → (∀ x ∈ c.exceptionTable.toList, False) → Pc args s →
      W p l e (headSpec ws rm).room s m args below meth c s.heap [] 0 0 (vx_MQ below Qc XC args s mc ms free) (entryFrame m args maxL)) : vx_Met l y ws rm Pc Qc XC mc ms free := by
  refine MetFree.of_bodyS (code := cc) (maxLocals := maxL) (ret := ret) hy ?_ ?_
  · intro args s m h hn
    obtain ⟨meth, c, h1, h2, h3, h4, h5, h6, -, -⟩ := Cond.code_spec hn (atoms_spec (ws := ws) h _ (by rw [hw]; exact List.mem_cons_self))
    exact ⟨meth, c, h1, h2, h3, h4, h5, h6⟩
  · intro p e s m args below meth c s₁ B hml hP _
    have hh0 : s₁.heap = s.heap := by rw [B.state]; rfl
    have ht : ∀ x ∈ c.exceptionTable.toList, False := by
      obtain ⟨meth9, c9, h1, h2, -, -, -, -, h7, -⟩ := Cond.code_spec B.named (atoms_spec (ws := ws) B.pre _ (by rw [hw]; exact List.mem_cons_self))
      cases Option.some.inj (h1.symm.trans B.method)
      cases Option.some.inj (h2.symm.trans (Stand.of_body B).code)
      intro x hx
      rw [Array.isEmpty_iff.mp h7] at hx
      cases hx
    obtain ⟨t, a1, o, b1, b2, b3⟩ := body p e s m args below meth c s₁ B hml ht hP s₁ hh0 (Stand.of_body B)
    exact ⟨t, o, a1, b1, b2, b3⟩
/-- the table of a body with handlers -/
theorem vx_table {p : Program} {x y : MethodName} {S : Spec} {cc bytes : ByteArray} {maxL maxL' : Nat} {ret ret' : Option FieldType} {e : Env} {s s₁ : State} {m : MethodId} {args : Array Value} {below : List Frame} {meth : Method} {c : Code} {hh : List (Nat × Nat × Nat × Nat)}
    (B : BodyLoose p l y S cc maxL ret e s m args below meth c s₁) (h : (Cond.codeWith y bytes maxL' ret' hh).before args s = true) : c.exceptionTable.toList = tableOf hh := by
  obtain ⟨m9, meth9, c9, hn9, h1, h2, -, -, h6, -⟩ := Cond.codeWith_spec h
  cases Option.some.inj (hn9.symm.trans B.named)
  cases Option.some.inj (h1.symm.trans B.method)
  cases Option.some.inj (h2.symm.trans (Stand.of_body B).code)
  rw [← h6, table_eq]
end Bodies
end VXA
/-! ===== END ===== -/
/-! ===== BEGIN a static call of a method with an exception table ===== -/
section VXS
variable {p : Program} {l : Launch} {e : Env} {R : Room} {s : State} {m : MethodId} {args : Array Value} {below : List Frame} {meth : Method} {c : Code} {T : State} {H : Heap} {locs : List Loc} {cells slots : Nat}
abbrev vx_CSW (R : Room) (s : State) (args : Array Value) (own : String) (index : Nat) (y : MethodName) (bytes : ByteArray) (maxL : Nat) (ret : Option FieldType) (hh : List (Nat × Nat × Nat × Nat)) (ws : List Cond) (rm : Room) (mc ms n : Nat) : Prop :=
  (rm.cells = mc ∧ rm.slots = ms ∧ rm.frames + 1 ≤ R.frames ∧ 8 + (maxL + 11) + rm.locals ≤ R.locals ∧ (∀ w ∈ ws, ∀ (a' : Array Value) (U : State), s.WarmedH U.vm → w.before a' U = true) ∧ Cond.codeWith y bytes maxL ret hh ∈ ws) ∧
  (Cond.codeWith y bytes maxL ret hh).before args s = true ∧ (Cond.initialized y.cls).before args s = true ∧ (y.cls ≠ "java/lang/invoke/MethodHandle" ∧ y.cls ≠ "java/lang/invoke/VarHandle") ∧
  (∀ sig, parseMethodDescriptor y.desc = some sig → n = sig.parameters.length) ∧ (Cond.methodLink own index y).before args s = true ∧ (Cond.static y).before args s = true
theorem vx_cwSW {own : String} {index maxL mc ms : Nat} {y : MethodName} {bytes : ByteArray} {ret : Option FieldType} {hh : List (Nat × Nat × Nat × Nat)} {Ts ws ws' : List Cond} {rm : Room} (n : Nat) (ht : ∀ w ∈ Ts, w.before args s = true) (hT : GoodIn Ts (va_wsS own index y ws)) (hw : ws = Cond.codeWith y bytes maxL ret hh :: ws') (hrc : rm.cells = mc) (hrs : rm.slots = ms)
    (hd : y.cls ≠ "java/lang/invoke/MethodHandle" ∧ y.cls ≠ "java/lang/invoke/VarHandle" ∧ (parseMethodDescriptor y.desc).map (fun d => d.parameters.length) = some n) (hR : rm.frames + 1 ≤ R.frames ∧ 8 + (maxL + 11) + rm.locals ≤ R.locals) :
    vx_CSW R s args own index y bytes maxL ret hh ws rm mc ms n := by
  have ok : ∀ w ∈ va_wsS own index y ws, w.before args s = true := fun w h => ht w (hT w h).1
  have hG : GoodIn Ts ws := fun w h => hT w (by unfold va_wsS; exact List.mem_append_right _ h)
  have hc : Cond.codeWith y bytes maxL ret hh ∈ ws := by rw [hw]; exact List.mem_cons_self
  refine ⟨⟨hrc, hrs, hR.1, hR.2, pay_in ht hG, hc⟩, ht _ (hG _ hc).1, ok _ (by simp [va_wsS]), ⟨hd.1, hd.2.1⟩, fun sig h => ?_, ok _ (by simp [va_wsS]), ok _ (by simp [va_wsS])⟩
  have h2 := hd.2.2
  rw [h] at h2
  exact (Option.some.inj h2).symm
theorem vx_callSW (X : Stand p l e R s m args below meth c T locs cells slots) (hexec : p.tables.exec = Jvm.exec) {own : String} {index : Nat} {y : MethodName} {bytes : ByteArray} {maxL : Nat} {ret : Option FieldType} {hh : List (Nat × Nat × Nat × Nat)}
    (hown : s.vm.findClass own = some m.cls) (hlink : (Cond.methodLink own index y).before args s = true) (hstat : (Cond.static y).before args s = true) (hinit : (Cond.initialized y.cls).before args s = true)
    (hcode : (Cond.codeWith y bytes maxL ret hh).before args s = true) (hy : y.cls ≠ "java/lang/invoke/MethodHandle" ∧ y.cls ≠ "java/lang/invoke/VarHandle")
    {W9 : Nat} {Pre : Pt → Array Value → Prop} {Post : Pt → Array Value → Option Value → Pt → Prop} (hK : Back l R p e below s args y 3 W9 Pre Post)
    {g : JFrame} (hg : g.method = m) (hsize : g.locals.size = c.maxLocals) {argsL rest : List Value} (hlen : ∀ sig, parseMethodDescriptor y.desc = some sig → argsL.length = sig.parameters.length)
    (hstack : g.stack = argsL.reverse ++ rest) (hW : 2 * g.monitorRoom + (rest.map fun v => v.category).sum ≤ W9) (hdg : decode c.code g.pc = .ok (.invokestatic index, 3))
    (hpre : ∀ vm₁, s.WarmedH vm₁ → Pre ⟨T.setVm vm₁, locs, cells, slots⟩ argsL.toArray) :
    ∃ (v : Option Value) (vm₁ : Vm) (B : Pt), s.WarmedH vm₁ ∧ Stand p l e R s m args below meth c B.U B.locs B.cells B.slots ∧ Post ⟨T.setVm vm₁, locs, cells, slots⟩ argsL.toArray v B ∧
      ∀ target, Steps p.tables e below (B.U.setTop { g with pc := g.pc + 3, stack := v.toList ++ rest }) target → Steps p.tables e below (T.setTop g) target := by
  obtain ⟨mk, methM, cM, hnamed, hmethM, -, -, -, -, -, -, hsigM⟩ := Cond.codeWith_spec hcode
  have hstatic : methM.isStatic = true := Cond.static_spec hnamed hmethM hstat
  obtain ⟨kP, hkP, -⟩ := className_of_methodNamed hnamed
  have hinitP : kP.init = .initialized := Cond.initialized_spec (findClass_of_methodNamed hnamed) hkP hinit
  obtain ⟨vm₁, X₁, hstep₁⟩ := X.invokestatic hexec hown hlink hnamed hmethM hstatic hkP hinitP hy (g := g) hg (argsL := argsL) (rest := rest) (hlen _ hsigM) hstack hdg
  obtain ⟨v, B, X', hpost, hsteps⟩ := hK m meth c ⟨T.setVm vm₁, locs, cells, slots⟩ { g with stack := rest } (.invokestatic index) mk argsL.toArray X₁ hg hsize hdg hW (X₁.named hnamed) (hpre vm₁ X₁.warmed)
  exact ⟨v, vm₁, B, X₁.warmed, X', hpost, fun target h => hstep₁ _ fun acts => by rw [doInvoke_state]; exact hsteps.trans h⟩
theorem vx_runSW {y : MethodName} {bytes cc : ByteArray} {maxL nL mc ms n index : Nat} {ret : Option FieldType} {hh : List (Nat × Nat × Nat × Nat)} {ws : List Cond} {rm : Room} {Pc : Array Value → State → Prop} {Qc : Array Value → State → Outcome → State → Prop} {free : Addr → Prop} {Ts : List Cond} {own : String} {As rest : List Value} {g : JFrame}
    (S : CallFix p m c cc nL s args Ts own) (hM : Met l y ws rm Pc Qc mc ms free) (cw : vx_CSW R s args own index y bytes maxL ret hh ws rm mc ms n) (hp : PreS s H Pc As)
    (hg : g.method = m) (hn : As.length = n) (hsize : g.locals.size = nL) (hstack : g.stack = As.reverse ++ rest) (hW : 2 * g.monitorRoom + (rest.map fun v => v.category).sum ≤ 8) (hdg : decode cc g.pc = .ok (.invokestatic index, 3)) (hf : cells + mc ≤ R.cells ∧ slots + ms ≤ R.slots) :
    va_Run p l e R s m args below meth c H locs cells slots mc ms g rest (Qc As.toArray) (free) := by
  obtain ⟨⟨hrc, hrs, hfr, hlo, hws, hcw⟩, hcode, hini, hy, hlen, hl, hstt⟩ := cw
  have hK : Back l R p e below s args y 3 8 (PreOf R mc ms Pc) (PostOf Qc mc ms free) := va_backW (hh := hh) (bytes := bytes) (maxL := maxL) (ret := ret) hM hp.1 hrc hrs hfr hlo hws hcw (fun a' U hW => word_at hW (Or.inl (by first | rfl | simp [Cond.onTables, Cond.keeps, Cond.steady])) hini)
  obtain ⟨hx, hb, hml, ho, -⟩ := S
  intro T hT X
  obtain ⟨v, vm₁, ⟨U', l2, c2, s2⟩, hW₁, X', ⟨g', mk, t, L, e1, e2, hq, h1, hL, h2, h3⟩, st⟩ := vx_callSW X hx (hh := hh) (bytes := bytes) (maxL := maxL) (ret := ret) ho hl hstt hini hcode hy hK hg (hsize.trans hml.symm) (argsL := As) (rest := rest) (fun sig h => hn.trans (hlen sig h)) hstack hW (by rw [hb]; exact hdg)
    (fun vm₁ hW₁ => ⟨hf.1, hf.2, hp.2 (T.setVm vm₁) hT hW₁⟩)
  dsimp only [Pt.U, Pt.locs, Pt.cells, Pt.slots] at X' e1 e2 h1 h2 h3 st
  subst h1; subst h2; subst h3
  exact ⟨v, (T.setVm vm₁).calling g' mk As.toArray, t, U', L, hT, X', hL, e1, e2, hq, st⟩
/-- a thing of a world lies in the heap -/
theorem vx_lt {D : va_G} {cl : List vw_C} {ws : va_W} {H1 : Heap} (h : va_P D cl ws H1) {k : Nat} {q : Nat × va_E} (hk : ws[k]? = some q) : q.1 < H1.size := (h k q hk).lt
end VXS
/-! ===== END ===== -/
/-! ===== BEGIN methods with a table of their own: called by a name, returning or throwing ===== -/
section VXH
/-! vx_backW, vx_callVX, vx_callSX, vx_callVW, vx_runVW, vx_runVX, vx_runSX, vx_ofWH follow the same proofs as their sisters above (Free/Laws.lean, Shelf42/LK1.lean); vx_outP calls Shelf42/NT130.lean (outThrough). -/
section
variable {l : Launch} {R : Room} {p : Program} {e : Env} {below : List Frame} {s : State} {sargs : Array Value} {y : MethodName} {len W9 : Nat}
theorem vx_backW {ws : List Cond} {rm : Room} {Pc : Array Value → State → Prop} {Qc : Array Value → State → Outcome → State → Prop} {XC : String → State → State → Prop} {mc ms : Nat} {free : Addr → Prop} {bytes : ByteArray} {maxL : Nat} {ret : Option FieldType} {hh : List (Nat × Nat × Nat × Nat)}
    (hM : vx_Met l y ws rm Pc Qc XC mc ms free) (hblind : FrameBlind Pc) (hrc : rm.cells = mc) (hrs : rm.slots = ms)
    (hframes : rm.frames + 1 ≤ R.frames) (hlocals : W9 + (maxL + 11) + rm.locals ≤ R.locals)
    (hws : ∀ w ∈ ws, ∀ a' U, s.WarmedH U.vm → w.before a' U = true) (hcode : Cond.codeWith y bytes maxL ret hh ∈ ws) (hinit : ∀ a' U, s.WarmedH U.vm → (Cond.initialized y.cls).before a' U = true) :
    vx_Back l R p e below s sargs y len W9 (PreOf R mc ms Pc) (PostOf Qc mc ms free) (vx_Post XC mc ms free) := by
  intro m meth c A g ig mk a X hg hsize hdg hW hn hp
  have h1 : (headSpec ws rm).pre.before a A.U = true := atoms_intro fun w hw => hws w hw _ _ X.warmed
  have h2 : (Cond.codeWith y bytes maxL ret hh).before a A.U = true := hws _ hcode _ _ X.warmed
  have h3 : (Cond.initialized y.cls).before a A.U = true := hinit _ _ X.warmed
  have h4 : A.cells + (headSpec ws rm).room.cells ≤ R.cells := by rw [show (headSpec ws rm).room.cells = mc from hrc]; exact hp.1
  have h5 : A.slots + (headSpec ws rm).room.slots ≤ R.slots := by rw [show (headSpec ws rm).room.slots = ms from hrs]; exact hp.2.1
  have hPc : Pc a (A.U.calling g mk a) := hblind _ _ _ _ hp.2.2
  obtain ⟨U, Ls, c0, s0⟩ := A
  dsimp only [Pt.U, Pt.locs, Pt.cells, Pt.slots] at h1 h2 h3 h4 h5 X hn hPc ⊢
  obtain ⟨m9, methY, cY, hn9, hmY, hcY, -, hlY, -⟩ := Cond.codeWith_spec h2
  cases Option.some.inj (hn9.symm.trans hn)
  obtain ⟨kY, hkY, -⟩ := className_of_methodNamed hn
  have hinitY : kY.init = .initialized := Cond.initialized_spec (findClass_of_methodNamed hn) hkY h3
  have h : At U g.method c below := by rw [hg]; exact X.here
  have hlocals9 : W9 + (maxL + 11) + (headSpec ws rm).room.locals ≤ R.locals := hlocals
  have happ : (headSpec ws rm).appliesLoose y e.platform (U.calling g mk a) = true :=
    Spec.appliesLoose_calling (g := g) h hdg hn hkY hinitY
      (X.room_calling (g := g) (R' := (headSpec ws rm).room) hsize hmY hcY hframes (by rw [hlY]; omega) h4 h5) h1
  obtain ⟨mid, hmid⟩ := h.above
  have hfr : (U.setTop g).frames = (.java g :: mid) ++ below := by rw [State.frames_setTop' g h.top, hmid]; rfl
  obtain ⟨o, s₂, hsteps, -, hend, hq⟩ := Steps.callFree hM p X.admits X.cas X.clock (acts := []) hfr happ hPc trivial
  have hq' : vx_Q Qc XC mc ms free a (U.calling g mk a) o s₂ := hq
  rw [State.frames_setTop' g h.top] at hend
  obtain ⟨g₀, hg0⟩ := Option.isSome_iff_exists.mp h.top
  obtain ⟨r, hr⟩ := State.topJava?_eq_some.mp hg0
  have hr' : (({ U with heap := s₂.heap, slotsUsed := s₂.slotsUsed } : State).setVm s₂.vm).frames = .java g₀ :: r := hr
  rcases hq' with ⟨hqc, L, hfe, hL⟩ | ⟨q, rfl, E, ce, L, hx, hce, hcv, hcl, hW₂, hsm, hL⟩
  · obtain ⟨⟨v, rfl⟩, hW₂, e2, q2, q3, q4, q5, q6⟩ := id hfe
    have e3 : s₂ = ({ (U.calling g mk a).setFrames s₂.frames with heap := s₂.heap, slotsUsed := s₂.slotsUsed } : State).setVm s₂.vm := by
      have : s₂ = ({ s₂ with vm := (U.calling g mk a).vm } : State).setVm s₂.vm := rfl
      rw [e2] at this
      exact this
    obtain ⟨c₂, i₂, len₂, hc₂, hd₂, hf₂⟩ := hend
    have hW' : U.WarmedH s₂.vm := hW₂
    have hcc : c₂ = c := by
      have h1 : s₂.code? g.method = U.code? g.method := by
        rw [State.code?_eq, State.code?_eq, hW'.alike.method?]
      exact Option.some.inj (hc₂.symm.trans (h1.trans h.code))
    subst hcc
    have hlen : len₂ = len := by rw [hdg] at hd₂; cases hd₂; rfl
    subst hlen
    have hs₂ : s₂ = (({ U with heap := s₂.heap, slotsUsed := s₂.slotsUsed } : State).setVm s₂.vm).setTop { g with pc := g.pc + len₂, stack := v.toList ++ g.stack } := by
      refine e3.trans ?_
      rw [hf₂, State.calling_eq h.top, State.setFrames_setFrames, State.setTop_of_frames _ hr', hr]
      rfl
    have hsame : U.sameButNew ({ U with heap := s₂.heap, slotsUsed := s₂.slotsUsed } : State) L mc ms := by
      refine ⟨?_, q2, q3, q4, q5, q6⟩
      obtain ⟨t, ht, -⟩ := State.frames_cons hr
      show ({ U with heap := s₂.heap, slotsUsed := s₂.slotsUsed } : State) = { U.setFrames U.frames with heap := s₂.heap, slotsUsed := s₂.slotsUsed }
      rw [State.setFrames_self ht]
    subst hg
    refine Or.inl ⟨v, ⟨(({ U with heap := s₂.heap, slotsUsed := s₂.slotsUsed } : State).setVm s₂.vm), Ls ++ L, c0 + mc, s0 + ms⟩,
      ⟨X.admits, X.cas, X.clock, X.frames, X.room, X.hears, X.method, X.code, (X.here.setHeapUsed s₂.heap s₂.slotsUsed).setVm hW'.alike, X.tail, State.WarmedH.trans X.warmed hW', X.limits, X.bytes, X.same.trans (hsame.setVm s.vm)⟩,
      ⟨g, mk, s₂, L, rfl, rfl, hqc, rfl, hL, rfl, rfl⟩, ?_⟩
    show Steps p.tables e below _ ((({ U with heap := s₂.heap, slotsUsed := s₂.slotsUsed } : State).setVm s₂.vm).setTop { g with pc := g.pc + len₂, stack := v.toList ++ g.stack })
    rw [← hs₂]
    exact hsteps
  · obtain ⟨e2, q2, q3, q4, q5, q6⟩ := id hsm
    have e3 : s₂ = ({ (U.calling g mk a).setFrames s₂.frames with heap := s₂.heap, slotsUsed := s₂.slotsUsed } : State).setVm s₂.vm := by
      have : s₂ = ({ s₂ with vm := (U.calling g mk a).vm } : State).setVm s₂.vm := rfl
      rw [e2] at this
      exact this
    have hf₂ : s₂.frames = .throwing q :: .java g :: U.frames.tail := hend
    have hW' : U.WarmedH s₂.vm := hW₂
    have hs₂ : s₂ = ((({ U with heap := s₂.heap, slotsUsed := s₂.slotsUsed } : State).setVm s₂.vm).setTop g).pushFrame (.throwing q) := by
      refine e3.trans ?_
      rw [hf₂, State.calling_eq h.top, State.setFrames_setFrames, State.pushFrame, State.frames_setTop _ hr', State.setTop_of_frames _ hr', State.setFrames_setFrames, hr]
      rfl
    have hsame : U.sameButNew ({ U with heap := s₂.heap, slotsUsed := s₂.slotsUsed } : State) L mc ms := by
      refine ⟨?_, q2, q3, q4, q5, q6⟩
      obtain ⟨t, ht, -⟩ := State.frames_cons hr
      show ({ U with heap := s₂.heap, slotsUsed := s₂.slotsUsed } : State) = { U.setFrames U.frames with heap := s₂.heap, slotsUsed := s₂.slotsUsed }
      rw [State.setFrames_self ht]
    subst hg
    refine Or.inr ⟨q, ⟨(({ U with heap := s₂.heap, slotsUsed := s₂.slotsUsed } : State).setVm s₂.vm), Ls ++ L, c0 + mc, s0 + ms⟩,
      ⟨X.admits, X.cas, X.clock, X.frames, X.room, X.hears, X.method, X.code, (X.here.setHeapUsed s₂.heap s₂.slotsUsed).setVm hW'.alike, X.tail, State.WarmedH.trans X.warmed hW', X.limits, X.bytes, X.same.trans (hsame.setVm s.vm)⟩,
      ⟨g, mk, s₂, L, E, ce, rfl, rfl, hx, hce, hcv, hcl, rfl, hL, rfl, rfl⟩, ?_⟩
    show Steps p.tables e below _ (((({ U with heap := s₂.heap, slotsUsed := s₂.slotsUsed } : State).setVm s₂.vm).setTop g).pushFrame (.throwing q))
    rw [← hs₂]
    exact hsteps
end
variable {p : Program} {l : Launch} {e : Env} {R : Room} {s : State} {m : MethodId} {args : Array Value} {below : List Frame} {meth : Method} {c : Code} {T : State} {H : Heap} {locs : List Loc} {cells slots : Nat}
theorem vx_callVX (X : Stand p l e R s m args below meth c T locs cells slots) (hexec : p.tables.exec = Jvm.exec) {own C : String} {index : Nat} {y : MethodName} {bytes : ByteArray} {maxL : Nat} {ret : Option FieldType} {hh : List (Nat × Nat × Nat × Nat)}
    (hown : s.vm.findClass own = some m.cls) (hlink : (Cond.methodLink own index y).before args s = true) (hinst : (Cond.instanceMethod y).before args s = true) (hsel : (Cond.selects C y y).before args s = true)
    (hcode : (Cond.codeWith y bytes maxL ret hh).before args s = true) (hy : y.cls ≠ "java/lang/invoke/MethodHandle" ∧ y.cls ≠ "java/lang/invoke/VarHandle")
    {W9 : Nat} {Pre : Pt → Array Value → Prop} {Post : Pt → Array Value → Option Value → Pt → Prop} {PostX : Pt → Array Value → Addr → Pt → Prop} (hK : vx_Back l R p e below s args y 3 W9 Pre Post PostX)
    {b : Addr} {cellB : Cell} (hcell : T.heap[b]? = some cellB) (hobj : cellB.vm.isStatics = false) (hcls : s.vm.findClass C = some cellB.cls)
    {g : JFrame} (hg : g.method = m) (hsize : g.locals.size = c.maxLocals) {argsL rest : List Value} (hlen : ∀ sig, parseMethodDescriptor y.desc = some sig → argsL.length = sig.parameters.length)
    (hstack : g.stack = argsL.reverse ++ .ref b :: rest) (hW : 2 * g.monitorRoom + (rest.map fun v => v.category).sum ≤ W9) (hdg : decode c.code g.pc = .ok (.invokevirtual index, 3))
    (hpre : ∀ vm₁, s.WarmedH vm₁ → Pre ⟨T.setVm vm₁, locs, cells, slots⟩ (Value.ref b :: argsL).toArray) :
    (∃ (v : Option Value) (vm₁ : Vm) (B : Pt), s.WarmedH vm₁ ∧ Stand p l e R s m args below meth c B.U B.locs B.cells B.slots ∧ Post ⟨T.setVm vm₁, locs, cells, slots⟩ (Value.ref b :: argsL).toArray v B ∧
      ∀ target, Steps p.tables e below (B.U.setTop { g with pc := g.pc + 3, stack := v.toList ++ rest }) target → Steps p.tables e below (T.setTop g) target) ∨
    (∃ (q : Addr) (vm₁ : Vm) (B : Pt), s.WarmedH vm₁ ∧ Stand p l e R s m args below meth c B.U B.locs B.cells B.slots ∧ PostX ⟨T.setVm vm₁, locs, cells, slots⟩ (Value.ref b :: argsL).toArray q B ∧
      Steps p.tables e below (T.setTop g) ((B.U.setTop { g with stack := rest }).pushFrame (.throwing q))) := by
  obtain ⟨mk, methM, hnamed, hmethM, hstM, habM⟩ := Cond.instanceMethod_spec hinst
  obtain ⟨m8, methM', cM, hn8, hmethM', -, -, -, -, -, -, hsigM⟩ := Cond.codeWith_spec hcode
  cases Option.some.inj (hn8.symm.trans hnamed)
  cases hmethM.symm.trans hmethM'
  obtain ⟨c2, r2, m2, q1, q2, q3, q4, kP, hkP, hkPi⟩ := Cond.selects_spec hsel
  cases hcls.symm.trans q1
  cases (State.methodFound?_of_named hnamed hy).symm.trans q2
  cases hnamed.symm.trans q3
  have hselP : selectMethod e.platform s.vm cellB.cls mk = .method mk := by rw [Launch.admits_selectMethod X.admits]; exact q4
  obtain ⟨vm₁, X₁, hstep₁⟩ := X.invokevirtual hexec hown hlink hnamed hmethM hstM hkP hkPi hy (a := b) (cell := cellB) hcell
    (fun z h => by rw [h] at hobj; cases hobj) hselP hmethM habM hkP hkPi (g := g) hg (argsL := argsL) (rest := rest) (hlen _ hsigM) hstack hdg
  rcases hK m meth c ⟨T.setVm vm₁, locs, cells, slots⟩ { g with stack := rest } (.invokevirtual index) mk (Value.ref b :: argsL).toArray X₁ hg hsize hdg hW (X₁.named hnamed) (hpre vm₁ X₁.warmed) with ⟨v, B, X', hpost, hsteps⟩ | ⟨q, B, X', hpost, hsteps⟩
  · exact Or.inl ⟨v, vm₁, B, X₁.warmed, X', hpost, fun target h => hstep₁ _ fun acts => by rw [doInvoke_state]; exact hsteps.trans h⟩
  · exact Or.inr ⟨q, vm₁, B, X₁.warmed, X', hpost, hstep₁ _ fun acts => by rw [doInvoke_state]; exact hsteps⟩
theorem vx_callSX (X : Stand p l e R s m args below meth c T locs cells slots) (hexec : p.tables.exec = Jvm.exec) {own : String} {index : Nat} {y : MethodName} {bytes : ByteArray} {maxL : Nat} {ret : Option FieldType} {hh : List (Nat × Nat × Nat × Nat)}
    (hown : s.vm.findClass own = some m.cls) (hlink : (Cond.methodLink own index y).before args s = true) (hstat : (Cond.static y).before args s = true) (hinit : (Cond.initialized y.cls).before args s = true)
    (hcode : (Cond.codeWith y bytes maxL ret hh).before args s = true) (hy : y.cls ≠ "java/lang/invoke/MethodHandle" ∧ y.cls ≠ "java/lang/invoke/VarHandle")
    {W9 : Nat} {Pre : Pt → Array Value → Prop} {Post : Pt → Array Value → Option Value → Pt → Prop} {PostX : Pt → Array Value → Addr → Pt → Prop} (hK : vx_Back l R p e below s args y 3 W9 Pre Post PostX)
    {g : JFrame} (hg : g.method = m) (hsize : g.locals.size = c.maxLocals) {argsL rest : List Value} (hlen : ∀ sig, parseMethodDescriptor y.desc = some sig → argsL.length = sig.parameters.length)
    (hstack : g.stack = argsL.reverse ++ rest) (hW : 2 * g.monitorRoom + (rest.map fun v => v.category).sum ≤ W9) (hdg : decode c.code g.pc = .ok (.invokestatic index, 3))
    (hpre : ∀ vm₁, s.WarmedH vm₁ → Pre ⟨T.setVm vm₁, locs, cells, slots⟩ argsL.toArray) :
    (∃ (v : Option Value) (vm₁ : Vm) (B : Pt), s.WarmedH vm₁ ∧ Stand p l e R s m args below meth c B.U B.locs B.cells B.slots ∧ Post ⟨T.setVm vm₁, locs, cells, slots⟩ argsL.toArray v B ∧
      ∀ target, Steps p.tables e below (B.U.setTop { g with pc := g.pc + 3, stack := v.toList ++ rest }) target → Steps p.tables e below (T.setTop g) target) ∨
    (∃ (q : Addr) (vm₁ : Vm) (B : Pt), s.WarmedH vm₁ ∧ Stand p l e R s m args below meth c B.U B.locs B.cells B.slots ∧ PostX ⟨T.setVm vm₁, locs, cells, slots⟩ argsL.toArray q B ∧
      Steps p.tables e below (T.setTop g) ((B.U.setTop { g with stack := rest }).pushFrame (.throwing q))) := by
  obtain ⟨mk, methM, cM, hnamed, hmethM, -, -, -, -, -, -, hsigM⟩ := Cond.codeWith_spec hcode
  have hstatic : methM.isStatic = true := Cond.static_spec hnamed hmethM hstat
  obtain ⟨kP, hkP, -⟩ := className_of_methodNamed hnamed
  have hinitP : kP.init = .initialized := Cond.initialized_spec (findClass_of_methodNamed hnamed) hkP hinit
  obtain ⟨vm₁, X₁, hstep₁⟩ := X.invokestatic hexec hown hlink hnamed hmethM hstatic hkP hinitP hy (g := g) hg (argsL := argsL) (rest := rest) (hlen _ hsigM) hstack hdg
  rcases hK m meth c ⟨T.setVm vm₁, locs, cells, slots⟩ { g with stack := rest } (.invokestatic index) mk argsL.toArray X₁ hg hsize hdg hW (X₁.named hnamed) (hpre vm₁ X₁.warmed) with ⟨v, B, X', hpost, hsteps⟩ | ⟨q, B, X', hpost, hsteps⟩
  · exact Or.inl ⟨v, vm₁, B, X₁.warmed, X', hpost, fun target h => hstep₁ _ fun acts => by rw [doInvoke_state]; exact hsteps.trans h⟩
  · exact Or.inr ⟨q, vm₁, B, X₁.warmed, X', hpost, hstep₁ _ fun acts => by rw [doInvoke_state]; exact hsteps⟩
theorem vx_callVW (X : Stand p l e R s m args below meth c T locs cells slots) (hexec : p.tables.exec = Jvm.exec) {own C : String} {index : Nat} {y : MethodName} {bytes : ByteArray} {maxL : Nat} {ret : Option FieldType} {hh : List (Nat × Nat × Nat × Nat)}
    (hown : s.vm.findClass own = some m.cls) (hlink : (Cond.methodLink own index y).before args s = true) (hinst : (Cond.instanceMethod y).before args s = true) (hsel : (Cond.selects C y y).before args s = true)
    (hcode : (Cond.codeWith y bytes maxL ret hh).before args s = true) (hy : y.cls ≠ "java/lang/invoke/MethodHandle" ∧ y.cls ≠ "java/lang/invoke/VarHandle")
    {W9 : Nat} {Pre : Pt → Array Value → Prop} {Post : Pt → Array Value → Option Value → Pt → Prop} (hK : Back l R p e below s args y 3 W9 Pre Post)
    {b : Addr} {cellB : Cell} (hcell : T.heap[b]? = some cellB) (hobj : cellB.vm.isStatics = false) (hcls : s.vm.findClass C = some cellB.cls)
    {g : JFrame} (hg : g.method = m) (hsize : g.locals.size = c.maxLocals) {argsL rest : List Value} (hlen : ∀ sig, parseMethodDescriptor y.desc = some sig → argsL.length = sig.parameters.length)
    (hstack : g.stack = argsL.reverse ++ .ref b :: rest) (hW : 2 * g.monitorRoom + (rest.map fun v => v.category).sum ≤ W9) (hdg : decode c.code g.pc = .ok (.invokevirtual index, 3))
    (hpre : ∀ vm₁, s.WarmedH vm₁ → Pre ⟨T.setVm vm₁, locs, cells, slots⟩ (Value.ref b :: argsL).toArray) :
    ∃ (v : Option Value) (vm₁ : Vm) (B : Pt), s.WarmedH vm₁ ∧ Stand p l e R s m args below meth c B.U B.locs B.cells B.slots ∧ Post ⟨T.setVm vm₁, locs, cells, slots⟩ (Value.ref b :: argsL).toArray v B ∧
      ∀ target, Steps p.tables e below (B.U.setTop { g with pc := g.pc + 3, stack := v.toList ++ rest }) target → Steps p.tables e below (T.setTop g) target := by
  obtain ⟨mk, methM, hnamed, hmethM, hstM, habM⟩ := Cond.instanceMethod_spec hinst
  obtain ⟨m8, methM', cM, hn8, hmethM', -, -, -, -, -, -, hsigM⟩ := Cond.codeWith_spec hcode
  cases Option.some.inj (hn8.symm.trans hnamed)
  cases hmethM.symm.trans hmethM'
  obtain ⟨c2, r2, m2, q1, q2, q3, q4, kP, hkP, hkPi⟩ := Cond.selects_spec hsel
  cases hcls.symm.trans q1
  cases (State.methodFound?_of_named hnamed hy).symm.trans q2
  cases hnamed.symm.trans q3
  have hselP : selectMethod e.platform s.vm cellB.cls mk = .method mk := by rw [Launch.admits_selectMethod X.admits]; exact q4
  obtain ⟨vm₁, X₁, hstep₁⟩ := X.invokevirtual hexec hown hlink hnamed hmethM hstM hkP hkPi hy (a := b) (cell := cellB) hcell
    (fun z h => by rw [h] at hobj; cases hobj) hselP hmethM habM hkP hkPi (g := g) hg (argsL := argsL) (rest := rest) (hlen _ hsigM) hstack hdg
  obtain ⟨v, B, X', hpost, hsteps⟩ := hK m meth c ⟨T.setVm vm₁, locs, cells, slots⟩ { g with stack := rest } (.invokevirtual index) mk (Value.ref b :: argsL).toArray X₁ hg hsize hdg hW (X₁.named hnamed) (hpre vm₁ X₁.warmed)
  exact ⟨v, vm₁, B, X₁.warmed, X', hpost, fun target h => hstep₁ _ fun acts => by rw [doInvoke_state]; exact hsteps.trans h⟩
abbrev vx_CVW (R : Room) (s : State) (args : Array Value) (own C : String) (index : Nat) (y : MethodName) (bytes : ByteArray) (maxL : Nat) (ret : Option FieldType) (hh : List (Nat × Nat × Nat × Nat)) (ws : List Cond) (rm : Room) (mc ms n : Nat) : Prop :=
  (rm.cells = mc ∧ rm.slots = ms ∧ rm.frames + 1 ≤ R.frames ∧ 8 + (maxL + 11) + rm.locals ≤ R.locals ∧ (∀ w ∈ ws, ∀ (a' : Array Value) (U : State), s.WarmedH U.vm → w.before a' U = true) ∧ Cond.codeWith y bytes maxL ret hh ∈ ws) ∧
  (Cond.codeWith y bytes maxL ret hh).before args s = true ∧ (Cond.initialized y.cls).before args s = true ∧ (y.cls ≠ "java/lang/invoke/MethodHandle" ∧ y.cls ≠ "java/lang/invoke/VarHandle") ∧
  (∀ sig, parseMethodDescriptor y.desc = some sig → n = sig.parameters.length) ∧ (Cond.methodLink own index y).before args s = true ∧ (Cond.instanceMethod y).before args s = true ∧ (Cond.selects C y y).before args s = true
theorem vx_cwVW {own C : String} {index maxL mc ms : Nat} {y : MethodName} {bytes : ByteArray} {ret : Option FieldType} {hh : List (Nat × Nat × Nat × Nat)} {Ts ws ws' : List Cond} {rm : Room} (n : Nat) (ht : ∀ w ∈ Ts, w.before args s = true) (hT : GoodIn Ts (wsV own index C y ws)) (hw : ws = Cond.codeWith y bytes maxL ret hh :: ws') (hrc : rm.cells = mc) (hrs : rm.slots = ms)
    (hd : y.cls = C ∧ y.cls ≠ "java/lang/invoke/MethodHandle" ∧ y.cls ≠ "java/lang/invoke/VarHandle" ∧ (parseMethodDescriptor y.desc).map (fun d => d.parameters.length) = some n) (hR : rm.frames + 1 ≤ R.frames ∧ 8 + (maxL + 11) + rm.locals ≤ R.locals) :
    vx_CVW R s args own C index y bytes maxL ret hh ws rm mc ms n := by
  obtain ⟨hC, hd⟩ := hd
  subst hC
  have ok : ∀ w ∈ wsV own index y.cls y ws, w.before args s = true := fun w h => ht w (hT w h).1
  have hG : GoodIn Ts ws := fun w h => hT w (by unfold wsV; exact List.mem_append_right _ h)
  have hc : Cond.codeWith y bytes maxL ret hh ∈ ws := by rw [hw]; exact List.mem_cons_self
  refine ⟨⟨hrc, hrs, hR.1, hR.2, pay_in ht hG, hc⟩, ht _ (hG _ hc).1, ok _ (by simp [wsV]), ⟨hd.1, hd.2.1⟩, fun sig h => ?_, ok _ (by simp [wsV]), ok _ (by simp [wsV]), ok _ (by simp [wsV])⟩
  have h2 := hd.2.2
  rw [h] at h2
  exact (Option.some.inj h2).symm
theorem vx_runVW {y : MethodName} {bytes cc : ByteArray} {maxL nL mc ms n index : Nat} {ret : Option FieldType} {hh : List (Nat × Nat × Nat × Nat)} {ws : List Cond} {rm : Room} {Pc : Array Value → State → Prop} {Qc : Array Value → State → Outcome → State → Prop} {free : Addr → Prop} {Ts : List Cond} {own C : String} {b : Addr} {As rest : List Value} {g : JFrame}
    (S : CallFix p m c cc nL s args Ts own) (hM : Met l y ws rm Pc Qc mc ms free) (cw : vx_CVW R s args own C index y bytes maxL ret hh ws rm mc ms n) (hp : PreV s H C b Pc As)
    (hg : g.method = m) (hn : As.length = n) (hsize : g.locals.size = nL) (hstack : g.stack = As.reverse ++ .ref b :: rest) (hW : 2 * g.monitorRoom + (rest.map fun v => v.category).sum ≤ 8) (hdg : decode cc g.pc = .ok (.invokevirtual index, 3)) (hf : cells + mc ≤ R.cells ∧ slots + ms ≤ R.slots) :
    va_Run p l e R s m args below meth c H locs cells slots mc ms g rest (Qc (Value.ref b :: As).toArray) free := by
  obtain ⟨⟨hrc, hrs, hfr, hlo, hws, hcw⟩, hcode, hini, hy, hlen, hl, hin, hse⟩ := cw
  have hK : Back l R p e below s args y 3 8 (PreOf R mc ms Pc) (PostOf Qc mc ms free) := va_backW (hh := hh) (bytes := bytes) (maxL := maxL) (ret := ret) hM hp.1 hrc hrs hfr hlo hws hcw (fun a' U hW => word_at hW (Or.inl (by first | rfl | simp [Cond.onTables, Cond.keeps, Cond.steady])) hini)
  obtain ⟨hx, hb, hml, ho, -⟩ := S
  obtain ⟨-, ⟨cellB, hcB, hoB, hclB⟩, hPc⟩ := hp
  intro T hT X
  obtain ⟨v, vm₁, ⟨U', l2, c2, s2⟩, hW₁, X', ⟨g', mk, t, L, e1, e2, hq, h1, hL, h2, h3⟩, st⟩ := vx_callVW X hx (C := C) (hh := hh) (bytes := bytes) (maxL := maxL) (ret := ret) ho hl hin hse hcode hy hK (by rw [hT]; exact hcB) hoB hclB hg (hsize.trans hml.symm) (argsL := As) (rest := rest) (fun sig h => hn.trans (hlen sig h)) hstack hW (by rw [hb]; exact hdg)
    (fun vm₁ hW₁ => ⟨hf.1, hf.2, hPc (T.setVm vm₁) hT hW₁⟩)
  dsimp only [Pt.U, Pt.locs, Pt.cells, Pt.slots] at X' e1 e2 h1 h2 h3 st
  subst h1; subst h2; subst h3
  exact ⟨v, (T.setVm vm₁).calling g' mk (Value.ref b :: As).toArray, t, U', L, hT, X', hL, e1, e2, hq, st⟩
section
variable {y : MethodName} {bytes cc : ByteArray} {maxL nL mc ms n index : Nat} {ret : Option FieldType} {ws : List Cond} {rm : Room} {Pc : Array Value → State → Prop} {Qc : Array Value → State → Outcome → State → Prop} {XC : String → State → State → Prop} {free : Addr → Prop} {Ts : List Cond} {own C : String} {b : Addr} {As rest : List Value} {g : JFrame}
theorem vx_runVX {hh : List (Nat × Nat × Nat × Nat)} (S : CallFix p m c cc nL s args Ts own) (hM : vx_Met l y ws rm Pc Qc XC mc ms free) (cw : vx_CVW R s args own C index y bytes maxL ret hh ws rm mc ms n) (hp : PreV s H C b Pc As)
    (hg : g.method = m) (hn : As.length = n) (hsize : g.locals.size = nL) (hstack : g.stack = As.reverse ++ .ref b :: rest) (hW : 2 * g.monitorRoom + (rest.map fun v => v.category).sum ≤ 8) (hdg : decode cc g.pc = .ok (.invokevirtual index, 3)) (hf : cells + mc ≤ R.cells ∧ slots + ms ≤ R.slots) :
    vx_Run p l e R s m args below meth c H locs cells slots mc ms g rest (Qc (Value.ref b :: As).toArray) XC free := by
  obtain ⟨⟨hrc, hrs, hfr, hlo, hws, hcw⟩, hcode, hini, hy, hlen, hl, hin, hse⟩ := cw
  have hK : vx_Back l R p e below s args y 3 8 (PreOf R mc ms Pc) (PostOf Qc mc ms free) (vx_Post XC mc ms free) := vx_backW (hh := hh) (bytes := bytes) (maxL := maxL) (ret := ret) hM hp.1 hrc hrs hfr hlo hws hcw (fun a' U hW => word_at hW (Or.inl (by first | rfl | simp [Cond.onTables, Cond.keeps, Cond.steady])) hini)
  obtain ⟨hx, hb, hml, ho, -⟩ := S
  obtain ⟨-, ⟨cellB, hcB, hoB, hclB⟩, hPc⟩ := hp
  intro T hT X
  rcases vx_callVX X hx (C := C) (hh := hh) (bytes := bytes) (maxL := maxL) (ret := ret) ho hl hin hse hcode hy hK (by rw [hT]; exact hcB) hoB hclB hg (hsize.trans hml.symm) (argsL := As) (rest := rest) (fun sig h => hn.trans (hlen sig h)) hstack hW (by rw [hb]; exact hdg)
    (fun vm₁ hW₁ => ⟨hf.1, hf.2, hPc (T.setVm vm₁) hT hW₁⟩) with ⟨v, vm₁, ⟨U', l2, c2, s2⟩, hW₁, X', ⟨g', mk, t, L, e1, e2, hq, h1, hL, h2, h3⟩, st⟩ | ⟨q, vm₁, ⟨U', l2, c2, s2⟩, hW₁, X', ⟨g', mk, t, L, E, ce, e1, e2, hq, hce, hcv, hcl, h1, hL, h2, h3⟩, st⟩
  · dsimp only [Pt.U, Pt.locs, Pt.cells, Pt.slots] at X' e1 e2 h1 h2 h3 st
    subst h1; subst h2; subst h3
    exact Or.inl ⟨v, (T.setVm vm₁).calling g' mk (Value.ref b :: As).toArray, t, U', L, hT, X', hL, e1, e2, hq, st⟩
  · dsimp only [Pt.U, Pt.locs, Pt.cells, Pt.slots] at X' e1 e2 h1 h2 h3 st hcl
    subst h1; subst h2; subst h3
    exact Or.inr ⟨q, (T.setVm vm₁).calling g' mk (Value.ref b :: As).toArray, t, U', L, E, ce, hT, X', hL, e1, e2, hq, hce, hcv, vx_cls hW₁ hcl, st⟩
theorem vx_runSX {hh : List (Nat × Nat × Nat × Nat)} (S : CallFix p m c cc nL s args Ts own) (hM : vx_Met l y ws rm Pc Qc XC mc ms free) (cw : vx_CSW R s args own index y bytes maxL ret hh ws rm mc ms n) (hp : PreS s H Pc As)
    (hg : g.method = m) (hn : As.length = n) (hsize : g.locals.size = nL) (hstack : g.stack = As.reverse ++ rest) (hW : 2 * g.monitorRoom + (rest.map fun v => v.category).sum ≤ 8) (hdg : decode cc g.pc = .ok (.invokestatic index, 3)) (hf : cells + mc ≤ R.cells ∧ slots + ms ≤ R.slots) :
    vx_Run p l e R s m args below meth c H locs cells slots mc ms g rest (Qc As.toArray) XC free := by
  obtain ⟨⟨hrc, hrs, hfr, hlo, hws, hcw⟩, hcode, hini, hy, hlen, hl, hstt⟩ := cw
  have hK : vx_Back l R p e below s args y 3 8 (PreOf R mc ms Pc) (PostOf Qc mc ms free) (vx_Post XC mc ms free) := vx_backW (hh := hh) (bytes := bytes) (maxL := maxL) (ret := ret) hM hp.1 hrc hrs hfr hlo hws hcw (fun a' U hW => word_at hW (Or.inl (by first | rfl | simp [Cond.onTables, Cond.keeps, Cond.steady])) hini)
  obtain ⟨hx, hb, hml, ho, -⟩ := S
  intro T hT X
  rcases vx_callSX X hx (hh := hh) (bytes := bytes) (maxL := maxL) (ret := ret) ho hl hstt hini hcode hy hK hg (hsize.trans hml.symm) (argsL := As) (rest := rest) (fun sig h => hn.trans (hlen sig h)) hstack hW (by rw [hb]; exact hdg)
    (fun vm₁ hW₁ => ⟨hf.1, hf.2, hp.2 (T.setVm vm₁) hT hW₁⟩) with ⟨v, vm₁, ⟨U', l2, c2, s2⟩, hW₁, X', ⟨g', mk, t, L, e1, e2, hq, h1, hL, h2, h3⟩, st⟩ | ⟨q, vm₁, ⟨U', l2, c2, s2⟩, hW₁, X', ⟨g', mk, t, L, E, ce, e1, e2, hq, hce, hcv, hcl, h1, hL, h2, h3⟩, st⟩
  · dsimp only [Pt.U, Pt.locs, Pt.cells, Pt.slots] at X' e1 e2 h1 h2 h3 st
    subst h1; subst h2; subst h3
    exact Or.inl ⟨v, (T.setVm vm₁).calling g' mk As.toArray, t, U', L, hT, X', hL, e1, e2, hq, st⟩
  · dsimp only [Pt.U, Pt.locs, Pt.cells, Pt.slots] at X' e1 e2 h1 h2 h3 st hcl
    subst h1; subst h2; subst h3
    exact Or.inr ⟨q, (T.setVm vm₁).calling g' mk As.toArray, t, U', L, E, ce, hT, X', hL, e1, e2, hq, hce, hcv, vx_cls hW₁ hcl, st⟩
end
end VXH
theorem vx_ofWH {l : Launch} {y : MethodName} {ws ws' : List Cond} {rm : Room} {Pc : Array Value → State → Prop} {Qc : Array Value → State → Outcome → State → Prop} {XC : String → State → State → Prop} {mc ms : Nat} {free : Addr → Prop} {cc : ByteArray} {maxL : Nat} {ret : Option FieldType} {hh : List (Nat × Nat × Nat × Nat)}
    (hy : plainName y.cls = true) (hw : ws = Cond.codeWith y cc maxL ret hh :: ws')
    (body : ∀ p e s m args below meth c s₁, BodyLoose p l y (headSpec ws rm) cc maxL ret e s m args below meth c s₁ → c.maxLocals = maxL → Pc args s →
      W p l e (headSpec ws rm).room s m args below meth c s.heap [] 0 0 (vx_MQ below Qc XC args s mc ms free) (entryFrame m args maxL)) : vx_Met l y ws rm Pc Qc XC mc ms free := by
  refine MetFree.of_bodyS (code := cc) (maxLocals := maxL) (ret := ret) hy ?_ ?_
  · intro args s m h hn
    obtain ⟨m9, meth, c, hn9, h1, h2, h3, h4, -, h5, h6, -⟩ := Cond.codeWith_spec (atoms_spec (ws := ws) h _ (by rw [hw]; exact List.mem_cons_self))
    cases hn.symm.trans hn9
    exact ⟨meth, c, h1, h2, h3, h4, h5, h6⟩
  · intro p e s m args below meth c s₁ B hml hP _
    have hh0 : s₁.heap = s.heap := by rw [B.state]; rfl
    obtain ⟨t, a1, o, b1, b2, b3⟩ := body p e s m args below meth c s₁ B hml hP s₁ hh0 (Stand.of_body B)
    exact ⟨t, o, a1, b1, b2, b3⟩
/-! ===== END ===== -/
end
section
/-! ===== BEGIN printed: names, fields, word lists, decode rows ===== -/
def RX0 : String := "SpinKernel$Job"
def TX0 : u_T := fun k => match k with
  | 0 => ("SpinKernel$Job", "hasCome", "Z", false)
  | 1 => ("SpinKernel$Job", "isOpen", "Z", false)
  | 2 => ("SpinKernel$Job", "cameAt", "I", false)
  | 3 => ("SpinKernel$Job", "state", "I", false)
  | 4 => ("SpinKernel$Job", "workDone", "I", false)
  | 5 => ("SpinKernel$Job", "next", "I", false)
  | 6 => ("SpinKernel$Job", "sectionLeft", "I", false)
  | 7 => ("SpinKernel$Job", "spinning", "I", false)
  | 8 => ("SpinKernel$Job", "ended", "I", false)
  | 9 => ("SpinKernel$Job", "endedLate", "I", false)
  | 10 => ("SpinKernel$Job", "greatestResponse", "I", false)
  | _ => ("SpinKernel$Job", "latestResponse", "I", false)
def tyX0 : Nat → FieldType := fun k => match k with
  | 0 => .boolean
  | 1 => .boolean
  | 2 => .int
  | 3 => .int
  | 4 => .int
  | 5 => .int
  | 6 => .int
  | 7 => .int
  | 8 => .int
  | 9 => .int
  | 10 => .int
  | _ => .int
abbrev wsX00 : List Cond := u_ws RX0 TX0 12
theorem nmX0 : ∀ a, a < 12 → ∀ b, b < 12 → a ≠ b → (TX0 a).2.1 ≠ (TX0 b).2.1 := by decide +kernel
theorem tyX0_ok : ∀ k, k < 12 → parseFieldDescriptor (TX0 k).2.2.1 = some (tyX0 k) := by decide +kernel
abbrev cX0_init : ByteArray := prog_2_method_1_code
def yX0_init : MethodName := ⟨RX0, "<init>", "()V"⟩
abbrev cX0_start : ByteArray := prog_2_method_2_code
def yX0_start : MethodName := ⟨RX0, "start", "(II)V"⟩
abbrev cX0_end : ByteArray := prog_2_method_3_code
def yX0_end : MethodName := ⟨RX0, "end", "(II)V"⟩
abbrev cX0_forget : ByteArray := prog_2_method_4_code
def yX0_forget : MethodName := ⟨RX0, "forget", "()V"⟩
def RX1 : String := "SpinKernel$Request"
def TX1 : u_T := fun k => match k with
  | 0 => ("SpinKernel$Request", "after", "I", false)
  | 1 => ("SpinKernel$Request", "lock", "I", false)
  | 2 => ("SpinKernel$Request", "length", "I", false)
  | 3 => ("SpinKernel$Request", "in", "I", false)
  | 4 => ("SpinKernel$Request", "spinBound", "I", false)
  | 5 => ("SpinKernel$Request", "ticksOfNextJob", "I", false)
  | 6 => ("SpinKernel$Request", "ticksOfJob", "I", false)
  | _ => ("SpinKernel$Request", "mostSpun", "I", false)
def tyX1 : Nat → FieldType := fun k => match k with
  | 0 => .int
  | 1 => .int
  | 2 => .int
  | 3 => .int
  | 4 => .int
  | 5 => .int
  | 6 => .int
  | _ => .int
abbrev wsX10 : List Cond := u_ws RX1 TX1 8
theorem nmX1 : ∀ a, a < 8 → ∀ b, b < 8 → a ≠ b → (TX1 a).2.1 ≠ (TX1 b).2.1 := by decide +kernel
theorem tyX1_ok : ∀ k, k < 8 → parseFieldDescriptor (TX1 k).2.2.1 = some (tyX1 k) := by decide +kernel
abbrev cX1_init : ByteArray := prog_3_method_1_code
def yX1_init : MethodName := ⟨RX1, "<init>", "()V"⟩
abbrev cX1_layDown : ByteArray := prog_3_method_2_code
def yX1_layDown : MethodName := ⟨RX1, "layDown", "(IIII)V"⟩
abbrev cX1_isOuter : ByteArray := prog_3_method_3_code
def yX1_isOuter : MethodName := ⟨RX1, "isOuter", "()Z"⟩
abbrev cX1_startJob : ByteArray := prog_3_method_4_code
def yX1_startJob : MethodName := ⟨RX1, "startJob", "()V"⟩
abbrev cX1_forgetJobs : ByteArray := prog_3_method_5_code
def yX1_forgetJobs : MethodName := ⟨RX1, "forgetJobs", "()V"⟩
def RX2 : String := "SpinKernel$Row"
def TX2 : u_T := fun k => match k with
  | 0 => ("SpinKernel$Row", "cores", "[I", true)
  | _ => ("SpinKernel$Row", "size", "I", false)
def tyX2 : Nat → FieldType := fun k => match k with
  | 0 => .array .int
  | _ => .int
abbrev wsX20 : List Cond := u_ws RX2 TX2 2
theorem nmX2 : ∀ a, a < 2 → ∀ b, b < 2 → a ≠ b → (TX2 a).2.1 ≠ (TX2 b).2.1 := by decide +kernel
theorem tyX2_ok : ∀ k, k < 2 → parseFieldDescriptor (TX2 k).2.2.1 = some (tyX2 k) := by decide +kernel
abbrev cX2_init : ByteArray := prog_4_method_1_code
def yX2_init : MethodName := ⟨RX2, "<init>", "()V"⟩
abbrev cX2_join : ByteArray := prog_4_method_2_code
def yX2_join : MethodName := ⟨RX2, "join", "(I)V"⟩
abbrev cX2_dropFirst : ByteArray := prog_4_method_3_code
def yX2_dropFirst : MethodName := ⟨RX2, "dropFirst", "()V"⟩
abbrev cX2_coreAt : ByteArray := prog_4_method_4_code
def yX2_coreAt : MethodName := ⟨RX2, "coreAt", "(I)I"⟩
def RX3 : String := "SpinKernel$Task"
def TX3 : u_T := fun k => match k with
  | 0 => ("SpinKernel$Task", "isThere", "Z", false)
  | 1 => ("SpinKernel$Task", "core", "I", false)
  | 2 => ("SpinKernel$Task", "priority", "I", false)
  | 3 => ("SpinKernel$Task", "distance", "I", false)
  | 4 => ("SpinKernel$Task", "deadline", "I", false)
  | 5 => ("SpinKernel$Task", "work", "I", false)
  | 6 => ("SpinKernel$Task", "inflated", "I", false)
  | 7 => ("SpinKernel$Task", "count", "I", false)
  | 8 => ("SpinKernel$Task", "requests", "[LSpinKernel$Request;", true)
  | _ => ("SpinKernel$Task", "job", "LSpinKernel$Job;", true)
def tyX3 : Nat → FieldType := fun k => match k with
  | 0 => .boolean
  | 1 => .int
  | 2 => .int
  | 3 => .int
  | 4 => .int
  | 5 => .int
  | 6 => .int
  | 7 => .int
  | 8 => .array (.object "SpinKernel$Request")
  | _ => .object "SpinKernel$Job"
abbrev wsX30 : List Cond := u_ws RX3 TX3 10
theorem nmX3 : ∀ a, a < 10 → ∀ b, b < 10 → a ≠ b → (TX3 a).2.1 ≠ (TX3 b).2.1 := by decide +kernel
theorem tyX3_ok : ∀ k, k < 10 → parseFieldDescriptor (TX3 k).2.2.1 = some (tyX3 k) := by decide +kernel
abbrev cX3_init : ByteArray := prog_5_method_1_code
def yX3_init : MethodName := ⟨RX3, "<init>", "()V"⟩
abbrev cX3_layDown : ByteArray := prog_5_method_2_code
def yX3_layDown : MethodName := ⟨RX3, "layDown", "(IIIII)V"⟩
abbrev cX3_isOn : ByteArray := prog_5_method_3_code
def yX3_isOn : MethodName := ⟨RX3, "isOn", "(I)Z"⟩
abbrev cX3_isOuter : ByteArray := prog_5_method_4_code
def yX3_isOuter : MethodName := ⟨RX3, "isOuter", "(I)Z"⟩
abbrev cX3_hasPlaceFor : ByteArray := prog_5_method_5_code
def yX3_hasPlaceFor : MethodName := ⟨RX3, "hasPlaceFor", "(III)Z"⟩
abbrev cX3_greatestAfter : ByteArray := prog_5_method_6_code
def yX3_greatestAfter : MethodName := ⟨RX3, "greatestAfter", "()I"⟩
abbrev cX3_addRequest : ByteArray := prog_5_method_7_code
def yX3_addRequest : MethodName := ⟨RX3, "addRequest", "(IIII)I"⟩
abbrev cX3_longestStay : ByteArray := prog_5_method_8_code
def yX3_longestStay : MethodName := ⟨RX3, "longestStay", "()I"⟩
abbrev cX3_beginningsIn : ByteArray := prog_5_method_9_code
def yX3_beginningsIn : MethodName := ⟨RX3, "beginningsIn", "(I)I"⟩
abbrev cX3_startJob : ByteArray := prog_5_method_10_code
def yX3_startJob : MethodName := ⟨RX3, "startJob", "(I)V"⟩
abbrev cX3_endJob : ByteArray := prog_5_method_11_code
def yX3_endJob : MethodName := ⟨RX3, "endJob", "(I)V"⟩
abbrev cX3_forgetJobs : ByteArray := prog_5_method_12_code
def yX3_forgetJobs : MethodName := ⟨RX3, "forgetJobs", "()V"⟩
abbrev cX3_outerFrom : ByteArray := prog_5_method_13_code
def yX3_outerFrom : MethodName := ⟨RX3, "outerFrom", "(I)I"⟩
abbrev cX3_nextRequest : ByteArray := prog_5_method_14_code
def yX3_nextRequest : MethodName := ⟨RX3, "nextRequest", "()LSpinKernel$Request;"⟩
abbrev cX3_hasToAsk : ByteArray := prog_5_method_15_code
def yX3_hasToAsk : MethodName := ⟨RX3, "hasToAsk", "()Z"⟩
abbrev cX3_startSpinning : ByteArray := prog_5_method_16_code
def yX3_startSpinning : MethodName := ⟨RX3, "startSpinning", "()V"⟩
abbrev cX3_spinFor : ByteArray := prog_5_method_17_code
def yX3_spinFor : MethodName := ⟨RX3, "spinFor", "(I)V"⟩
abbrev cX3_startHolding : ByteArray := prog_5_method_18_code
def yX3_startHolding : MethodName := ⟨RX3, "startHolding", "()V"⟩
abbrev cX3_leaveSection : ByteArray := prog_5_method_19_code
def yX3_leaveSection : MethodName := ⟨RX3, "leaveSection", "()V"⟩
abbrev cX3_ticksToChange : ByteArray := prog_5_method_20_code
def yX3_ticksToChange : MethodName := ⟨RX3, "ticksToChange", "()I"⟩
abbrev cX3_isAllDone : ByteArray := prog_5_method_21_code
def yX3_isAllDone : MethodName := ⟨RX3, "isAllDone", "()Z"⟩
def RX4 : String := "SpinKernel"
def TX4 : u_T := fun k => match k with
  | 0 => ("SpinKernel", "tasks", "[LSpinKernel$Task;", true)
  | 1 => ("SpinKernel", "rows", "[LSpinKernel$Row;", true)
  | 2 => ("SpinKernel", "leastOfGroup", "[I", true)
  | 3 => ("SpinKernel", "longest", "[[I", true)
  | 4 => ("SpinKernel", "taskOfCore", "[I", true)
  | 5 => ("SpinKernel", "deedOfCore", "[I", true)
  | 6 => ("SpinKernel", "sealed", "Z", false)
  | _ => ("SpinKernel", "now", "I", false)
def tyX4 : Nat → FieldType := fun k => match k with
  | 0 => .array (.object "SpinKernel$Task")
  | 1 => .array (.object "SpinKernel$Row")
  | 2 => .array .int
  | 3 => .array (.array .int)
  | 4 => .array .int
  | 5 => .array .int
  | 6 => .boolean
  | _ => .int
abbrev wsX40 : List Cond := u_ws RX4 TX4 8
theorem nmX4 : ∀ a, a < 8 → ∀ b, b < 8 → a ≠ b → (TX4 a).2.1 ≠ (TX4 b).2.1 := by decide +kernel
theorem tyX4_ok : ∀ k, k < 8 → parseFieldDescriptor (TX4 k).2.2.1 = some (tyX4 k) := by decide +kernel
abbrev cX4_init : ByteArray := prog_1_method_1_code
def yX4_init : MethodName := ⟨RX4, "<init>", "()V"⟩
abbrev cX4_task : ByteArray := prog_1_method_2_code
def yX4_task : MethodName := ⟨RX4, "task", "(IIIIII)V"⟩
abbrev cX4_request : ByteArray := prog_1_method_3_code
def yX4_request : MethodName := ⟨RX4, "request", "(IIIII)I"⟩
abbrev cX4_take : ByteArray := prog_1_method_4_code
def yX4_take : MethodName := ⟨RX4, "take", "(I)V"⟩
abbrev cX4_group : ByteArray := prog_1_method_5_code
def yX4_group : MethodName := ⟨RX4, "group", "(I)I"⟩
abbrev cX4_spin : ByteArray := prog_1_method_6_code
def yX4_spin : MethodName := ⟨RX4, "spin", "(II)I"⟩
abbrev cX4_bound : ByteArray := prog_1_method_7_code
def yX4_bound : MethodName := ⟨RX4, "bound", "(II)I"⟩
abbrev cX4_seal : ByteArray := prog_1_method_8_code
def yX4_seal : MethodName := ⟨RX4, "seal", "()I"⟩
abbrev cX4_unseal : ByteArray := prog_1_method_9_code
def yX4_unseal : MethodName := ⟨RX4, "unseal", "()V"⟩
abbrev cX4_arrive : ByteArray := prog_1_method_10_code
def yX4_arrive : MethodName := ⟨RX4, "arrive", "(I)Z"⟩
abbrev cX4_shorten : ByteArray := prog_1_method_11_code
def yX4_shorten : MethodName := ⟨RX4, "shorten", "(III)V"⟩
abbrev cX4_tick : ByteArray := prog_1_method_12_code
def yX4_tick : MethodName := ⟨RX4, "tick", "(I)I"⟩
abbrev cX4_core : ByteArray := prog_1_method_13_code
def yX4_core : MethodName := ⟨RX4, "core", "(II)I"⟩
abbrev cX4_row : ByteArray := prog_1_method_14_code
def yX4_row : MethodName := ⟨RX4, "row", "(II)I"⟩
abbrev cX4_jobs : ByteArray := prog_1_method_15_code
def yX4_jobs : MethodName := ⟨RX4, "jobs", "(II)I"⟩
abbrev cX4_spun : ByteArray := prog_1_method_16_code
def yX4_spun : MethodName := ⟨RX4, "spun", "(II)I"⟩
abbrev cX4_late : ByteArray := prog_1_method_17_code
def yX4_late : MethodName := ⟨RX4, "late", "()I"⟩
abbrev cX4_isWithin : ByteArray := prog_1_method_18_code
def yX4_isWithin : MethodName := ⟨RX4, "isWithin", "(III)Z"⟩
abbrev cX4_taskAt : ByteArray := prog_1_method_19_code
def yX4_taskAt : MethodName := ⟨RX4, "taskAt", "(I)LSpinKernel$Task;"⟩
abbrev cX4_requestAt : ByteArray := prog_1_method_20_code
def yX4_requestAt : MethodName := ⟨RX4, "requestAt", "(LSpinKernel$Task;I)LSpinKernel$Request;"⟩
abbrev cX4_rowOf : ByteArray := prog_1_method_21_code
def yX4_rowOf : MethodName := ⟨RX4, "rowOf", "(I)LSpinKernel$Row;"⟩
abbrev cX4_isPriorityTaken : ByteArray := prog_1_method_22_code
def yX4_isPriorityTaken : MethodName := ⟨RX4, "isPriorityTaken", "(II)Z"⟩
abbrev cX4_isAnyJobOpen : ByteArray := prog_1_method_23_code
def yX4_isAnyJobOpen : MethodName := ⟨RX4, "isAnyJobOpen", "()Z"⟩
abbrev cX4_measure : ByteArray := prog_1_method_24_code
def yX4_measure : MethodName := ⟨RX4, "measure", "()V"⟩
abbrev cX4_formGroups : ByteArray := prog_1_method_25_code
def yX4_formGroups : MethodName := ⟨RX4, "formGroups", "()V"⟩
abbrev cX4_joinGroups : ByteArray := prog_1_method_26_code
def yX4_joinGroups : MethodName := ⟨RX4, "joinGroups", "(II)V"⟩
abbrev cX4_findLongest : ByteArray := prog_1_method_27_code
def yX4_findLongest : MethodName := ⟨RX4, "findLongest", "()V"⟩
abbrev cX4_inflate : ByteArray := prog_1_method_28_code
def yX4_inflate : MethodName := ⟨RX4, "inflate", "(LSpinKernel$Task;)V"⟩
abbrev cX4_longestElsewhere : ByteArray := prog_1_method_29_code
def yX4_longestElsewhere : MethodName := ⟨RX4, "longestElsewhere", "(II)I"⟩
abbrev cX4_blockingOf : ByteArray := prog_1_method_30_code
def yX4_blockingOf : MethodName := ⟨RX4, "blockingOf", "(LSpinKernel$Task;)I"⟩
abbrev cX4_responseOf : ByteArray := prog_1_method_31_code
def yX4_responseOf : MethodName := ⟨RX4, "responseOf", "(LSpinKernel$Task;)I"⟩
abbrev cX4_demandAbove : ByteArray := prog_1_method_32_code
def yX4_demandAbove : MethodName := ⟨RX4, "demandAbove", "(LSpinKernel$Task;I)I"⟩
abbrev cX4_takeJobs : ByteArray := prog_1_method_33_code
def yX4_takeJobs : MethodName := ⟨RX4, "takeJobs", "()V"⟩
abbrev cX4_isHeldFast : ByteArray := prog_1_method_34_code
def yX4_isHeldFast : MethodName := ⟨RX4, "isHeldFast", "(I)Z"⟩
abbrev cX4_mostUrgentOn : ByteArray := prog_1_method_35_code
def yX4_mostUrgentOn : MethodName := ⟨RX4, "mostUrgentOn", "(I)I"⟩
abbrev cX4_askIfDue : ByteArray := prog_1_method_36_code
def yX4_askIfDue : MethodName := ⟨RX4, "askIfDue", "(I)V"⟩
abbrev cX4_letFirstsHold : ByteArray := prog_1_method_37_code
def yX4_letFirstsHold : MethodName := ⟨RX4, "letFirstsHold", "()V"⟩
abbrev cX4_ticksAlike : ByteArray := prog_1_method_38_code
def yX4_ticksAlike : MethodName := ⟨RX4, "ticksAlike", "()I"⟩
abbrev cX4_workOn : ByteArray := prog_1_method_39_code
def yX4_workOn : MethodName := ⟨RX4, "workOn", "(I)I"⟩
abbrev cX4_workOnJob : ByteArray := prog_1_method_40_code
def yX4_workOnJob : MethodName := ⟨RX4, "workOnJob", "(LSpinKernel$Task;I)Z"⟩
abbrev cX4_holdFor : ByteArray := prog_1_method_41_code
def yX4_holdFor : MethodName := ⟨RX4, "holdFor", "(LSpinKernel$Task;I)V"⟩
def RX5 : String := "SpinKernelModel"
def TX5 : u_T := fun k => match k with
  | 0 => ("SpinKernelModel", "thrown", "I", false)
  | 1 => ("SpinKernelModel", "cores", "[I", true)
  | 2 => ("SpinKernelModel", "priorities", "[I", true)
  | 3 => ("SpinKernelModel", "distances", "[I", true)
  | 4 => ("SpinKernelModel", "deadlines", "[I", true)
  | 5 => ("SpinKernelModel", "works", "[I", true)
  | 6 => ("SpinKernelModel", "counts", "[I", true)
  | 7 => ("SpinKernelModel", "afters", "[I", true)
  | 8 => ("SpinKernelModel", "locks", "[I", true)
  | 9 => ("SpinKernelModel", "lengths", "[I", true)
  | 10 => ("SpinKernelModel", "ins", "[I", true)
  | 11 => ("SpinKernelModel", "groups", "[I", true)
  | 12 => ("SpinKernelModel", "sealed", "Z", false)
  | 13 => ("SpinKernelModel", "now", "I", false)
  | 14 => ("SpinKernelModel", "open", "[Z", true)
  | 15 => ("SpinKernelModel", "came", "[Z", true)
  | 16 => ("SpinKernelModel", "times", "[I", true)
  | 17 => ("SpinKernelModel", "done", "[I", true)
  | 18 => ("SpinKernelModel", "nexts", "[I", true)
  | 19 => ("SpinKernelModel", "left", "[I", true)
  | 20 => ("SpinKernelModel", "spinning", "[I", true)
  | 21 => ("SpinKernelModel", "mine", "[I", true)
  | 22 => ("SpinKernelModel", "coming", "[I", true)
  | 23 => ("SpinKernelModel", "ended", "[I", true)
  | 24 => ("SpinKernelModel", "greatest", "[I", true)
  | 25 => ("SpinKernelModel", "latest", "[I", true)
  | 26 => ("SpinKernelModel", "spuns", "[I", true)
  | 27 => ("SpinKernelModel", "behind", "I", false)
  | 28 => ("SpinKernelModel", "at", "[I", true)
  | 29 => ("SpinKernelModel", "state", "[I", true)
  | 30 => ("SpinKernelModel", "lastTask", "[I", true)
  | 31 => ("SpinKernelModel", "lastState", "[I", true)
  | 32 => ("SpinKernelModel", "rows", "[I", true)
  | _ => ("SpinKernelModel", "many", "[I", true)
def tyX5 : Nat → FieldType := fun k => match k with
  | 0 => .int
  | 1 => .array .int
  | 2 => .array .int
  | 3 => .array .int
  | 4 => .array .int
  | 5 => .array .int
  | 6 => .array .int
  | 7 => .array .int
  | 8 => .array .int
  | 9 => .array .int
  | 10 => .array .int
  | 11 => .array .int
  | 12 => .boolean
  | 13 => .int
  | 14 => .array .boolean
  | 15 => .array .boolean
  | 16 => .array .int
  | 17 => .array .int
  | 18 => .array .int
  | 19 => .array .int
  | 20 => .array .int
  | 21 => .array .int
  | 22 => .array .int
  | 23 => .array .int
  | 24 => .array .int
  | 25 => .array .int
  | 26 => .array .int
  | 27 => .int
  | 28 => .array .int
  | 29 => .array .int
  | 30 => .array .int
  | 31 => .array .int
  | 32 => .array .int
  | _ => .array .int
abbrev wsX50 : List Cond := u_ws RX5 TX5 34
theorem nmX5 : ∀ a, a < 34 → ∀ b, b < 34 → a ≠ b → (TX5 a).2.1 ≠ (TX5 b).2.1 := by decide +kernel
theorem tyX5_ok : ∀ k, k < 34 → parseFieldDescriptor (TX5 k).2.2.1 = some (tyX5 k) := by decide +kernel
abbrev cX5_init : ByteArray := prog_7_method_1_code
def yX5_init : MethodName := ⟨RX5, "<init>", "()V"⟩
abbrev cX5_thrown : ByteArray := prog_7_method_2_code
def yX5_thrown : MethodName := ⟨RX5, "thrown", "()I"⟩
abbrev cX5_refused : ByteArray := prog_7_method_3_code
def yX5_refused : MethodName := ⟨RX5, "refused", "(ZZZ)Z"⟩
abbrev cX5_isTask : ByteArray := prog_7_method_4_code
def yX5_isTask : MethodName := ⟨RX5, "isTask", "(I)Z"⟩
abbrev cX5_isRequest : ByteArray := prog_7_method_5_code
def yX5_isRequest : MethodName := ⟨RX5, "isRequest", "(II)Z"⟩
abbrev cX5_within : ByteArray := prog_7_method_6_code
def yX5_within : MethodName := ⟨RX5, "within", "(III)Z"⟩
abbrev cX5_hasPriority : ByteArray := prog_7_method_7_code
def yX5_hasPriority : MethodName := ⟨RX5, "hasPriority", "(II)Z"⟩
abbrev cX5_task : ByteArray := prog_7_method_8_code
def yX5_task : MethodName := ⟨RX5, "task", "(IIIIII)V"⟩
abbrev cX5_outerBefore : ByteArray := prog_7_method_9_code
def yX5_outerBefore : MethodName := ⟨RX5, "outerBefore", "(I)I"⟩
abbrev cX5_mayBe : ByteArray := prog_7_method_10_code
def yX5_mayBe : MethodName := ⟨RX5, "mayBe", "(IIIII)Z"⟩
abbrev cX5_request : ByteArray := prog_7_method_11_code
def yX5_request : MethodName := ⟨RX5, "request", "(IIIII)I"⟩
abbrev cX5_take : ByteArray := prog_7_method_12_code
def yX5_take : MethodName := ⟨RX5, "take", "(I)V"⟩
abbrev cX5_findGroups : ByteArray := prog_7_method_13_code
def yX5_findGroups : MethodName := ⟨RX5, "findGroups", "()V"⟩
abbrev cX5_group : ByteArray := prog_7_method_14_code
def yX5_group : MethodName := ⟨RX5, "group", "(I)I"⟩
abbrev cX5_isOuter : ByteArray := prog_7_method_15_code
def yX5_isOuter : MethodName := ⟨RX5, "isOuter", "(II)Z"⟩
abbrev cX5_spinOf : ByteArray := prog_7_method_16_code
def yX5_spinOf : MethodName := ⟨RX5, "spinOf", "(II)I"⟩
abbrev cX5_spin : ByteArray := prog_7_method_17_code
def yX5_spin : MethodName := ⟨RX5, "spin", "(II)I"⟩
abbrev cX5_inflated : ByteArray := prog_7_method_18_code
def yX5_inflated : MethodName := ⟨RX5, "inflated", "(I)I"⟩
abbrev cX5_blocking : ByteArray := prog_7_method_19_code
def yX5_blocking : MethodName := ⟨RX5, "blocking", "(I)I"⟩
abbrev cX5_responseOf : ByteArray := prog_7_method_20_code
def yX5_responseOf : MethodName := ⟨RX5, "responseOf", "(I)I"⟩
abbrev cX5_bound : ByteArray := prog_7_method_21_code
def yX5_bound : MethodName := ⟨RX5, "bound", "(II)I"⟩
abbrev cX5_seal : ByteArray := prog_7_method_22_code
def yX5_seal : MethodName := ⟨RX5, "seal", "()I"⟩
abbrev cX5_forget : ByteArray := prog_7_method_23_code
def yX5_forget : MethodName := ⟨RX5, "forget", "()V"⟩
abbrev cX5_hasOpen : ByteArray := prog_7_method_24_code
def yX5_hasOpen : MethodName := ⟨RX5, "hasOpen", "()Z"⟩
abbrev cX5_unseal : ByteArray := prog_7_method_25_code
def yX5_unseal : MethodName := ⟨RX5, "unseal", "()V"⟩
abbrev cX5_arrive : ByteArray := prog_7_method_26_code
def yX5_arrive : MethodName := ⟨RX5, "arrive", "(I)Z"⟩
abbrev cX5_goToNext : ByteArray := prog_7_method_27_code
def yX5_goToNext : MethodName := ⟨RX5, "goToNext", "(I)V"⟩
abbrev cX5_shorten : ByteArray := prog_7_method_28_code
def yX5_shorten : MethodName := ⟨RX5, "shorten", "(III)V"⟩
abbrev cX5_groupOf : ByteArray := prog_7_method_29_code
def yX5_groupOf : MethodName := ⟨RX5, "groupOf", "(I)I"⟩
abbrev cX5_choose : ByteArray := prog_7_method_30_code
def yX5_choose : MethodName := ⟨RX5, "choose", "(I)V"⟩
abbrev cX5_goOn : ByteArray := prog_7_method_31_code
def yX5_goOn : MethodName := ⟨RX5, "goOn", "(I)I"⟩
abbrev cX5_leave : ByteArray := prog_7_method_32_code
def yX5_leave : MethodName := ⟨RX5, "leave", "(II)V"⟩
abbrev cX5_end : ByteArray := prog_7_method_33_code
def yX5_end : MethodName := ⟨RX5, "end", "(I)V"⟩
abbrev cX5_tick : ByteArray := prog_7_method_34_code
def yX5_tick : MethodName := ⟨RX5, "tick", "(I)I"⟩
abbrev cX5_core : ByteArray := prog_7_method_35_code
def yX5_core : MethodName := ⟨RX5, "core", "(II)I"⟩
abbrev cX5_row : ByteArray := prog_7_method_36_code
def yX5_row : MethodName := ⟨RX5, "row", "(II)I"⟩
abbrev cX5_jobs : ByteArray := prog_7_method_37_code
def yX5_jobs : MethodName := ⟨RX5, "jobs", "(II)I"⟩
abbrev cX5_spun : ByteArray := prog_7_method_38_code
def yX5_spun : MethodName := ⟨RX5, "spun", "(II)I"⟩
abbrev cX5_late : ByteArray := prog_7_method_39_code
def yX5_late : MethodName := ⟨RX5, "late", "()I"⟩
def RJ9 : String := "java/lang/Math"
def TJ9 : u_T := fun k => match k with
  | _ => ("", "", "", false)
def tyJ9 : Nat → FieldType := fun k => match k with
  | _ => .int
abbrev wsJ90 : List Cond := u_ws RJ9 TJ9 0
theorem nmJ9 : ∀ a, a < 0 → ∀ b, b < 0 → a ≠ b → (TJ9 a).2.1 ≠ (TJ9 b).2.1 := by decide +kernel
theorem tyJ9_ok : ∀ k, k < 0 → parseFieldDescriptor (TJ9 k).2.2.1 = some (tyJ9 k) := by decide +kernel
abbrev cJ9_max_7cf53 : ByteArray := prog_12_method_65_code
def yJ9_max_7cf53 : MethodName := ⟨RJ9, "max", "(II)I"⟩
abbrev cJ9_min_7cf53 : ByteArray := prog_12_method_69_code
def yJ9_min_7cf53 : MethodName := ⟨RJ9, "min", "(II)I"⟩
def RJ7 : String := "java/util/Arrays"
def TJ7 : u_T := fun k => match k with
  | _ => ("", "", "", false)
def tyJ7 : Nat → FieldType := fun k => match k with
  | _ => .int
abbrev wsJ70 : List Cond := u_ws RJ7 TJ7 0
theorem nmJ7 : ∀ a, a < 0 → ∀ b, b < 0 → a ≠ b → (TJ7 a).2.1 ≠ (TJ7 b).2.1 := by decide +kernel
theorem tyJ7_ok : ∀ k, k < 0 → parseFieldDescriptor (TJ7 k).2.2.1 = some (tyJ7 k) := by decide +kernel
abbrev cJ7_fill_53178 : ByteArray := prog_15_method_103_code
def yJ7_fill_53178 : MethodName := ⟨RJ7, "fill", "([II)V"⟩
def RL : String := "SpinKernelLaw"
abbrev cL_task : ByteArray := method_3_code
def yL_task : MethodName := ⟨RL, "task", "(LSpinKernel;IIIIII)I"⟩
abbrev cL_request : ByteArray := method_4_code
def yL_request : MethodName := ⟨RL, "request", "(LSpinKernel;IIIII[J)I"⟩
abbrev cL_take : ByteArray := method_5_code
def yL_take : MethodName := ⟨RL, "take", "(LSpinKernel;I)I"⟩
abbrev cL_group : ByteArray := method_6_code
def yL_group : MethodName := ⟨RL, "group", "(LSpinKernel;I[J)I"⟩
abbrev cL_spin : ByteArray := method_7_code
def yL_spin : MethodName := ⟨RL, "spin", "(LSpinKernel;II[J)I"⟩
abbrev cL_bound : ByteArray := method_8_code
def yL_bound : MethodName := ⟨RL, "bound", "(LSpinKernel;II[J)I"⟩
abbrev cL_seal : ByteArray := method_9_code
def yL_seal : MethodName := ⟨RL, "seal", "(LSpinKernel;[J)I"⟩
abbrev cL_unseal : ByteArray := method_10_code
def yL_unseal : MethodName := ⟨RL, "unseal", "(LSpinKernel;)I"⟩
abbrev cL_arrive : ByteArray := method_11_code
def yL_arrive : MethodName := ⟨RL, "arrive", "(LSpinKernel;I[J)I"⟩
abbrev cL_shorten : ByteArray := method_12_code
def yL_shorten : MethodName := ⟨RL, "shorten", "(LSpinKernel;III)I"⟩
abbrev cL_tick : ByteArray := method_13_code
def yL_tick : MethodName := ⟨RL, "tick", "(LSpinKernel;I[J)I"⟩
abbrev cL_core : ByteArray := method_14_code
def yL_core : MethodName := ⟨RL, "core", "(LSpinKernel;II[J)I"⟩
abbrev cL_row : ByteArray := method_15_code
def yL_row : MethodName := ⟨RL, "row", "(LSpinKernel;II[J)I"⟩
abbrev cL_jobs : ByteArray := method_16_code
def yL_jobs : MethodName := ⟨RL, "jobs", "(LSpinKernel;II[J)I"⟩
abbrev cL_spun : ByteArray := method_17_code
def yL_spun : MethodName := ⟨RL, "spun", "(LSpinKernel;II[J)I"⟩
abbrev cL_law : ByteArray := code
def yL_law : MethodName := ⟨RL, "law", "([I)Z"⟩
def wsX0_init : List Cond := .code yX0_init cX0_init 1 none :: ([.methodLink RX0 3 objectInit, .instanceMethod objectInit, .code objectInit ⟨#[0xb1]⟩ 1 none, .fieldLink RX0 9 "SpinKernel$Job" "state" "I"] ++ wsX00)
def wsX0_start : List Cond := .code yX0_start cX0_start 3 none :: ([.fieldLink RX0 15 "SpinKernel$Job" "hasCome" "Z", .fieldLink RX0 19 "SpinKernel$Job" "isOpen" "Z", .fieldLink RX0 22 "SpinKernel$Job" "cameAt" "I", .fieldLink RX0 9 "SpinKernel$Job" "state" "I", .fieldLink RX0 25 "SpinKernel$Job" "workDone" "I", .fieldLink RX0 28 "SpinKernel$Job" "next" "I"] ++ wsX00)
def wsX0_end : List Cond := .code yX0_end cX0_end 3 none :: ([.fieldLink RX0 19 "SpinKernel$Job" "isOpen" "Z", .fieldLink RX0 31 "SpinKernel$Job" "ended" "I", .fieldLink RX0 22 "SpinKernel$Job" "cameAt" "I", .fieldLink RX0 34 "SpinKernel$Job" "latestResponse" "I", .fieldLink RX0 37 "SpinKernel$Job" "greatestResponse" "I", .methodLink RX0 40 Lib.Math.max.name, .static Lib.Math.max.name, .initialized "java/lang/Math", .code Lib.Math.max.name Lib.Math.max.code 2 (some .int), .fieldLink RX0 46 "SpinKernel$Job" "endedLate" "I"] ++ wsX00)
def wsX0_forget : List Cond := .code yX0_forget cX0_forget 1 none :: ([.fieldLink RX0 15 "SpinKernel$Job" "hasCome" "Z", .fieldLink RX0 31 "SpinKernel$Job" "ended" "I", .fieldLink RX0 46 "SpinKernel$Job" "endedLate" "I", .fieldLink RX0 37 "SpinKernel$Job" "greatestResponse" "I", .fieldLink RX0 34 "SpinKernel$Job" "latestResponse" "I"] ++ wsX00)
def wsX1_init : List Cond := .code yX1_init cX1_init 1 none :: ([.methodLink RX1 3 objectInit, .instanceMethod objectInit, .code objectInit ⟨#[0xb1]⟩ 1 none])
def wsX1_layDown : List Cond := .code yX1_layDown cX1_layDown 5 none :: ([.fieldLink RX1 9 "SpinKernel$Request" "after" "I", .fieldLink RX1 15 "SpinKernel$Request" "lock" "I", .fieldLink RX1 18 "SpinKernel$Request" "length" "I", .fieldLink RX1 21 "SpinKernel$Request" "in" "I", .fieldLink RX1 24 "SpinKernel$Request" "spinBound" "I"] ++ wsX10)
def wsX1_isOuter : List Cond := .code yX1_isOuter cX1_isOuter 1 (some .boolean) :: ([.fieldLink RX1 21 "SpinKernel$Request" "in" "I"] ++ wsX10)
def wsX1_startJob : List Cond := .code yX1_startJob cX1_startJob 1 none :: ([.fieldLink RX1 27 "SpinKernel$Request" "ticksOfNextJob" "I", .fieldLink RX1 18 "SpinKernel$Request" "length" "I", .fieldLink RX1 30 "SpinKernel$Request" "ticksOfJob" "I"] ++ wsX10)
def wsX1_forgetJobs : List Cond := .code yX1_forgetJobs cX1_forgetJobs 1 none :: ([.fieldLink RX1 27 "SpinKernel$Request" "ticksOfNextJob" "I", .fieldLink RX1 33 "SpinKernel$Request" "mostSpun" "I"] ++ wsX10)
def wsX2_init : List Cond := .code yX2_init cX2_init 1 none :: ([.methodLink RX2 3 objectInit, .instanceMethod objectInit, .code objectInit ⟨#[0xb1]⟩ 1 none, .arrayClass .int, .fieldLink RX2 9 "SpinKernel$Row" "cores" "[I"] ++ wsX20)
def wsX2_join : List Cond := .code yX2_join cX2_join 2 none :: ([.fieldLink RX2 15 "SpinKernel$Row" "size" "I", .fieldLink RX2 9 "SpinKernel$Row" "cores" "[I"] ++ wsX20)
def wsX2_dropFirst : List Cond := .code yX2_dropFirst cX2_dropFirst 2 none :: ([.fieldLink RX2 15 "SpinKernel$Row" "size" "I", .fieldLink RX2 9 "SpinKernel$Row" "cores" "[I", .methodLink RX2 19 Lib.Math.max.name, .static Lib.Math.max.name, .initialized "java/lang/Math", .code Lib.Math.max.name Lib.Math.max.code 2 (some .int)] ++ wsX20)
def wsX2_coreAt : List Cond := .code yX2_coreAt cX2_coreAt 2 (some .int) :: ([.fieldLink RX2 15 "SpinKernel$Row" "size" "I", .fieldLink RX2 9 "SpinKernel$Row" "cores" "[I"] ++ wsX20)
def wsX3_init : List Cond := .code yX3_init cX3_init 2 none :: ([.methodLink RX3 3 objectInit, .instanceMethod objectInit, .code objectInit ⟨#[0xb1]⟩ 1 none, .classLink RX3 9 RX1, .fieldLink RX3 11 "SpinKernel$Task" "requests" "[LSpinKernel$Request;", .classLink RX3 17 RX0, .instantiable RX0 12, .initialized RX0, .fieldLink RX3 20 "SpinKernel$Task" "job" "LSpinKernel$Job;", .instantiable RX1 8, .initialized RX1, .instanceMethod yX0_init, .code yX0_init cX0_init 1 none, .methodLink RX0 3 objectInit, .fieldLink RX0 9 "SpinKernel$Job" "state" "I", .instanceMethod yX1_init, .code yX1_init cX1_init 1 none, .methodLink RX1 3 objectInit] ++ wsX30 ++ wsX00 ++ wsX10)
def wsX3_layDown : List Cond := .code yX3_layDown cX3_layDown 6 none :: ([.fieldLink RX3 25 "SpinKernel$Task" "isThere" "Z", .fieldLink RX3 29 "SpinKernel$Task" "core" "I", .fieldLink RX3 33 "SpinKernel$Task" "priority" "I", .fieldLink RX3 36 "SpinKernel$Task" "distance" "I", .fieldLink RX3 39 "SpinKernel$Task" "deadline" "I", .fieldLink RX3 42 "SpinKernel$Task" "work" "I", .fieldLink RX3 45 "SpinKernel$Task" "count" "I"] ++ wsX30)
def wsX3_isOn : List Cond := .code yX3_isOn cX3_isOn 2 (some .boolean) :: ([.fieldLink RX3 25 "SpinKernel$Task" "isThere" "Z", .fieldLink RX3 29 "SpinKernel$Task" "core" "I"] ++ wsX30)
def wsX3_isOuter : List Cond := .code yX3_isOuter cX3_isOuter 2 (some .boolean) :: ([.fieldLink RX3 45 "SpinKernel$Task" "count" "I", .fieldLink RX3 11 "SpinKernel$Task" "requests" "[LSpinKernel$Request;", .methodLink RX3 48 yX1_isOuter, .instanceMethod yX1_isOuter, .selects RX1 yX1_isOuter yX1_isOuter, .initialized RX1, .code yX1_isOuter cX1_isOuter 1 (some .boolean), .fieldLink RX1 21 "SpinKernel$Request" "in" "I"] ++ wsX30 ++ wsX10)
def wsX3_greatestAfter : List Cond := .code yX3_greatestAfter cX3_greatestAfter 3 (some .int) :: ([.fieldLink RX3 45 "SpinKernel$Task" "count" "I", .fieldLink RX3 11 "SpinKernel$Task" "requests" "[LSpinKernel$Request;", .fieldLink RX3 62 "SpinKernel$Request" "after" "I", .methodLink RX3 48 yX1_isOuter, .instanceMethod yX1_isOuter, .selects RX1 yX1_isOuter yX1_isOuter, .initialized RX1, .code yX1_isOuter cX1_isOuter 1 (some .boolean), .fieldLink RX1 21 "SpinKernel$Request" "in" "I"] ++ wsX30 ++ wsX10)
def wsX3_hasPlaceFor : List Cond := .code yX3_hasPlaceFor cX3_hasPlaceFor 4 (some .boolean) :: ([.fieldLink RX3 42 "SpinKernel$Task" "work" "I", .fieldLink RX3 11 "SpinKernel$Task" "requests" "[LSpinKernel$Request;", .fieldLink RX3 59 "SpinKernel$Request" "length" "I", .methodLink RX3 52 yX3_greatestAfter, .instanceMethod yX3_greatestAfter, .selects RX3 yX3_greatestAfter yX3_greatestAfter, .initialized RX3, .code yX3_greatestAfter cX3_greatestAfter 3 (some .int), .fieldLink RX3 45 "SpinKernel$Task" "count" "I", .fieldLink RX3 62 "SpinKernel$Request" "after" "I", .methodLink RX3 48 yX1_isOuter, .instanceMethod yX1_isOuter, .selects RX1 yX1_isOuter yX1_isOuter, .initialized RX1, .code yX1_isOuter cX1_isOuter 1 (some .boolean), .fieldLink RX1 21 "SpinKernel$Request" "in" "I", .methodLink RX3 56 yX3_isOuter, .instanceMethod yX3_isOuter, .selects RX3 yX3_isOuter yX3_isOuter, .code yX3_isOuter cX3_isOuter 2 (some .boolean)] ++ wsX30 ++ wsX10)
def wsX3_addRequest : List Cond := .code yX3_addRequest cX3_addRequest 6 (some .int) :: ([.fieldLink RX3 45 "SpinKernel$Task" "count" "I", .fieldLink RX3 11 "SpinKernel$Task" "requests" "[LSpinKernel$Request;", .methodLink RX3 65 yX1_layDown, .instanceMethod yX1_layDown, .selects RX1 yX1_layDown yX1_layDown, .initialized RX1, .code yX1_layDown cX1_layDown 5 none, .fieldLink RX1 9 "SpinKernel$Request" "after" "I", .fieldLink RX1 15 "SpinKernel$Request" "lock" "I", .fieldLink RX1 18 "SpinKernel$Request" "length" "I", .fieldLink RX1 21 "SpinKernel$Request" "in" "I", .fieldLink RX1 24 "SpinKernel$Request" "spinBound" "I"] ++ wsX30 ++ wsX10)
def wsX3_longestStay : List Cond := .code yX3_longestStay cX3_longestStay 3 (some .int) :: ([.fieldLink RX3 45 "SpinKernel$Task" "count" "I", .fieldLink RX3 11 "SpinKernel$Task" "requests" "[LSpinKernel$Request;", .fieldLink RX3 59 "SpinKernel$Request" "length" "I", .fieldLink RX3 69 "SpinKernel$Request" "spinBound" "I", .methodLink RX3 72 Lib.Math.max.name, .static Lib.Math.max.name, .initialized "java/lang/Math", .code Lib.Math.max.name Lib.Math.max.code 2 (some .int), .methodLink RX3 48 yX1_isOuter, .instanceMethod yX1_isOuter, .selects RX1 yX1_isOuter yX1_isOuter, .initialized RX1, .code yX1_isOuter cX1_isOuter 1 (some .boolean), .fieldLink RX1 21 "SpinKernel$Request" "in" "I"] ++ wsX30 ++ wsX10)
def wsX3_beginningsIn : List Cond := .code yX3_beginningsIn cX3_beginningsIn 2 (some .int) :: ([.fieldLink RX3 36 "SpinKernel$Task" "distance" "I"] ++ wsX30)
def wsX3_outerFrom : List Cond := .code yX3_outerFrom cX3_outerFrom 3 (some .int) :: ([.fieldLink RX3 45 "SpinKernel$Task" "count" "I", .fieldLink RX3 11 "SpinKernel$Task" "requests" "[LSpinKernel$Request;", .methodLink RX3 48 yX1_isOuter, .instanceMethod yX1_isOuter, .selects RX1 yX1_isOuter yX1_isOuter, .initialized RX1, .code yX1_isOuter cX1_isOuter 1 (some .boolean), .fieldLink RX1 21 "SpinKernel$Request" "in" "I"] ++ wsX30 ++ wsX10)
def wsX3_startJob_r1 : List Cond := [Cond.fieldLink RX3 45 "SpinKernel$Task" "count" "I", Cond.fieldLink RX3 11 "SpinKernel$Task" "requests" "[LSpinKernel$Request;", Cond.fieldLink RX3 20 "SpinKernel$Task" "job" "LSpinKernel$Job;", Cond.methodLink RX3 78 yX1_startJob, Cond.instanceMethod yX1_startJob, Cond.selects RX1 yX1_startJob yX1_startJob, Cond.initialized RX1, Cond.code yX1_startJob cX1_startJob 1 none, Cond.fieldLink RX1 27 "SpinKernel$Request" "ticksOfNextJob" "I", Cond.fieldLink RX1 18 "SpinKernel$Request" "length" "I", Cond.fieldLink RX1 30 "SpinKernel$Request" "ticksOfJob" "I", Cond.methodLink RX3 81 yX3_outerFrom, Cond.instanceMethod yX3_outerFrom, Cond.selects RX3 yX3_outerFrom yX3_outerFrom, Cond.initialized RX3, Cond.code yX3_outerFrom cX3_outerFrom 3 (some .int), Cond.methodLink RX3 48 yX1_isOuter, Cond.instanceMethod yX1_isOuter, Cond.selects RX1 yX1_isOuter yX1_isOuter, Cond.code yX1_isOuter cX1_isOuter 1 (some .boolean), Cond.fieldLink RX1 21 "SpinKernel$Request" "in" "I", Cond.methodLink RX3 85 yX0_start, Cond.instanceMethod yX0_start, Cond.selects RX0 yX0_start yX0_start]
def wsX3_startJob_r2 : List Cond := [Cond.initialized RX0, Cond.code yX0_start cX0_start 3 none, Cond.fieldLink RX0 15 "SpinKernel$Job" "hasCome" "Z", Cond.fieldLink RX0 19 "SpinKernel$Job" "isOpen" "Z", Cond.fieldLink RX0 22 "SpinKernel$Job" "cameAt" "I", Cond.fieldLink RX0 9 "SpinKernel$Job" "state" "I", Cond.fieldLink RX0 25 "SpinKernel$Job" "workDone" "I", Cond.fieldLink RX0 28 "SpinKernel$Job" "next" "I"]
def wsX3_startJob : List Cond := .code yX3_startJob cX3_startJob 3 none :: ((wsX3_startJob_r1 ++ wsX3_startJob_r2) ++ wsX30 ++ wsX10 ++ wsX00)
def wsX3_endJob : List Cond := .code yX3_endJob cX3_endJob 2 none :: ([.fieldLink RX3 20 "SpinKernel$Task" "job" "LSpinKernel$Job;", .fieldLink RX3 39 "SpinKernel$Task" "deadline" "I", .methodLink RX3 89 yX0_end, .instanceMethod yX0_end, .selects RX0 yX0_end yX0_end, .initialized RX0, .code yX0_end cX0_end 3 none, .fieldLink RX0 19 "SpinKernel$Job" "isOpen" "Z", .fieldLink RX0 31 "SpinKernel$Job" "ended" "I", .fieldLink RX0 22 "SpinKernel$Job" "cameAt" "I", .fieldLink RX0 34 "SpinKernel$Job" "latestResponse" "I", .fieldLink RX0 37 "SpinKernel$Job" "greatestResponse" "I", .methodLink RX0 40 Lib.Math.max.name, .static Lib.Math.max.name, .initialized "java/lang/Math", .code Lib.Math.max.name Lib.Math.max.code 2 (some .int), .fieldLink RX0 46 "SpinKernel$Job" "endedLate" "I"] ++ wsX30 ++ wsX00)
def wsX3_forgetJobs : List Cond := .code yX3_forgetJobs cX3_forgetJobs 2 none :: ([.fieldLink RX3 45 "SpinKernel$Task" "count" "I", .fieldLink RX3 11 "SpinKernel$Task" "requests" "[LSpinKernel$Request;", .fieldLink RX3 20 "SpinKernel$Task" "job" "LSpinKernel$Job;", .methodLink RX3 92 yX1_forgetJobs, .instanceMethod yX1_forgetJobs, .selects RX1 yX1_forgetJobs yX1_forgetJobs, .initialized RX1, .code yX1_forgetJobs cX1_forgetJobs 1 none, .fieldLink RX1 27 "SpinKernel$Request" "ticksOfNextJob" "I", .fieldLink RX1 33 "SpinKernel$Request" "mostSpun" "I", .methodLink RX3 95 yX0_forget, .instanceMethod yX0_forget, .selects RX0 yX0_forget yX0_forget, .initialized RX0, .code yX0_forget cX0_forget 1 none, .fieldLink RX0 15 "SpinKernel$Job" "hasCome" "Z", .fieldLink RX0 31 "SpinKernel$Job" "ended" "I", .fieldLink RX0 46 "SpinKernel$Job" "endedLate" "I", .fieldLink RX0 37 "SpinKernel$Job" "greatestResponse" "I", .fieldLink RX0 34 "SpinKernel$Job" "latestResponse" "I"] ++ wsX30 ++ wsX10 ++ wsX00)
def wsX3_nextRequest : List Cond := .code yX3_nextRequest cX3_nextRequest 1 (some (.object "SpinKernel$Request")) :: ([.fieldLink RX3 11 "SpinKernel$Task" "requests" "[LSpinKernel$Request;", .fieldLink RX3 20 "SpinKernel$Task" "job" "LSpinKernel$Job;", .fieldLink RX3 98 "SpinKernel$Job" "next" "I", .methodLink RX3 101 Lib.Math.min.name, .static Lib.Math.min.name, .initialized "java/lang/Math", .code Lib.Math.min.name Lib.Math.min.code 2 (some .int)] ++ wsX30 ++ wsX00)
def wsX3_hasToAsk : List Cond := .code yX3_hasToAsk cX3_hasToAsk 1 (some .boolean) :: ([.fieldLink RX3 20 "SpinKernel$Task" "job" "LSpinKernel$Job;", .fieldLink RX3 98 "SpinKernel$Job" "next" "I", .fieldLink RX3 45 "SpinKernel$Task" "count" "I", .fieldLink RX3 62 "SpinKernel$Request" "after" "I", .fieldLink RX3 108 "SpinKernel$Job" "workDone" "I", .methodLink RX3 104 yX3_nextRequest, .instanceMethod yX3_nextRequest, .selects RX3 yX3_nextRequest yX3_nextRequest, .initialized RX3, .code yX3_nextRequest cX3_nextRequest 1 (some (.object "SpinKernel$Request")), .fieldLink RX3 11 "SpinKernel$Task" "requests" "[LSpinKernel$Request;", .methodLink RX3 101 Lib.Math.min.name, .static Lib.Math.min.name, .initialized "java/lang/Math", .code Lib.Math.min.name Lib.Math.min.code 2 (some .int)] ++ wsX30 ++ wsX00 ++ wsX10)
def wsX3_startSpinning : List Cond := .code yX3_startSpinning cX3_startSpinning 1 none :: ([.fieldLink RX3 20 "SpinKernel$Task" "job" "LSpinKernel$Job;", .fieldLink RX3 111 "SpinKernel$Job" "state" "I", .fieldLink RX3 114 "SpinKernel$Job" "spinning" "I"] ++ wsX30 ++ wsX00)
def wsX3_spinFor : List Cond := .code yX3_spinFor cX3_spinFor 3 none :: ([.fieldLink RX3 20 "SpinKernel$Task" "job" "LSpinKernel$Job;", .fieldLink RX3 114 "SpinKernel$Job" "spinning" "I", .fieldLink RX3 117 "SpinKernel$Request" "mostSpun" "I", .methodLink RX3 72 Lib.Math.max.name, .static Lib.Math.max.name, .initialized "java/lang/Math", .code Lib.Math.max.name Lib.Math.max.code 2 (some .int), .methodLink RX3 104 yX3_nextRequest, .instanceMethod yX3_nextRequest, .selects RX3 yX3_nextRequest yX3_nextRequest, .initialized RX3, .code yX3_nextRequest cX3_nextRequest 1 (some (.object "SpinKernel$Request")), .fieldLink RX3 11 "SpinKernel$Task" "requests" "[LSpinKernel$Request;", .fieldLink RX3 98 "SpinKernel$Job" "next" "I", .methodLink RX3 101 Lib.Math.min.name, .static Lib.Math.min.name, .code Lib.Math.min.name Lib.Math.min.code 2 (some .int)] ++ wsX30 ++ wsX00 ++ wsX10)
def wsX3_startHolding : List Cond := .code yX3_startHolding cX3_startHolding 1 none :: ([.fieldLink RX3 20 "SpinKernel$Task" "job" "LSpinKernel$Job;", .fieldLink RX3 111 "SpinKernel$Job" "state" "I", .fieldLink RX3 120 "SpinKernel$Request" "ticksOfJob" "I", .fieldLink RX3 123 "SpinKernel$Job" "sectionLeft" "I", .methodLink RX3 104 yX3_nextRequest, .instanceMethod yX3_nextRequest, .selects RX3 yX3_nextRequest yX3_nextRequest, .initialized RX3, .code yX3_nextRequest cX3_nextRequest 1 (some (.object "SpinKernel$Request")), .fieldLink RX3 11 "SpinKernel$Task" "requests" "[LSpinKernel$Request;", .fieldLink RX3 98 "SpinKernel$Job" "next" "I", .methodLink RX3 101 Lib.Math.min.name, .static Lib.Math.min.name, .initialized "java/lang/Math", .code Lib.Math.min.name Lib.Math.min.code 2 (some .int)] ++ wsX30 ++ wsX00 ++ wsX10)
def wsX3_leaveSection : List Cond := .code yX3_leaveSection cX3_leaveSection 1 none :: ([.fieldLink RX3 20 "SpinKernel$Task" "job" "LSpinKernel$Job;", .fieldLink RX3 111 "SpinKernel$Job" "state" "I", .fieldLink RX3 98 "SpinKernel$Job" "next" "I", .methodLink RX3 81 yX3_outerFrom, .instanceMethod yX3_outerFrom, .selects RX3 yX3_outerFrom yX3_outerFrom, .initialized RX3, .code yX3_outerFrom cX3_outerFrom 3 (some .int), .fieldLink RX3 45 "SpinKernel$Task" "count" "I", .fieldLink RX3 11 "SpinKernel$Task" "requests" "[LSpinKernel$Request;", .methodLink RX3 48 yX1_isOuter, .instanceMethod yX1_isOuter, .selects RX1 yX1_isOuter yX1_isOuter, .initialized RX1, .code yX1_isOuter cX1_isOuter 1 (some .boolean), .fieldLink RX1 21 "SpinKernel$Request" "in" "I"] ++ wsX30 ++ wsX00 ++ wsX10)
def wsX3_ticksToChange : List Cond := .code yX3_ticksToChange cX3_ticksToChange 2 (some .int) :: ([.fieldLink RX3 20 "SpinKernel$Task" "job" "LSpinKernel$Job;", .fieldLink RX3 111 "SpinKernel$Job" "state" "I", .fieldLink RX3 123 "SpinKernel$Job" "sectionLeft" "I", .fieldLink RX3 98 "SpinKernel$Job" "next" "I", .fieldLink RX3 45 "SpinKernel$Task" "count" "I", .fieldLink RX3 62 "SpinKernel$Request" "after" "I", .fieldLink RX3 42 "SpinKernel$Task" "work" "I", .fieldLink RX3 108 "SpinKernel$Job" "workDone" "I", .methodLink RX3 104 yX3_nextRequest, .instanceMethod yX3_nextRequest, .selects RX3 yX3_nextRequest yX3_nextRequest, .initialized RX3, .code yX3_nextRequest cX3_nextRequest 1 (some (.object "SpinKernel$Request")), .fieldLink RX3 11 "SpinKernel$Task" "requests" "[LSpinKernel$Request;", .methodLink RX3 101 Lib.Math.min.name, .static Lib.Math.min.name, .initialized "java/lang/Math", .code Lib.Math.min.name Lib.Math.min.code 2 (some .int)] ++ wsX30 ++ wsX00 ++ wsX10)
def wsX3_isAllDone : List Cond := .code yX3_isAllDone cX3_isAllDone 1 (some .boolean) :: ([.fieldLink RX3 20 "SpinKernel$Task" "job" "LSpinKernel$Job;", .fieldLink RX3 111 "SpinKernel$Job" "state" "I", .fieldLink RX3 108 "SpinKernel$Job" "workDone" "I", .fieldLink RX3 42 "SpinKernel$Task" "work" "I", .fieldLink RX3 98 "SpinKernel$Job" "next" "I", .fieldLink RX3 45 "SpinKernel$Task" "count" "I"] ++ wsX30 ++ wsX00)
def wsJ7_fill_53178 : List Cond := .code yJ7_fill_53178 cJ7_fill_53178 4 none :: ([])
def wsX4_init_r1 : List Cond := [Cond.methodLink RX4 1 objectInit, Cond.instanceMethod objectInit, Cond.code objectInit ⟨#[0xb1]⟩ 1 none, Cond.classLink RX4 9 RX3, Cond.fieldLink RX4 11 "SpinKernel" "tasks" "[LSpinKernel$Task;", Cond.classLink RX4 15 RX2, Cond.fieldLink RX4 17 "SpinKernel" "rows" "[LSpinKernel$Row;", Cond.arrayClass .int, Cond.fieldLink RX4 21 "SpinKernel" "leastOfGroup" "[I", Cond.classLink RX4 25 "[[I", Cond.fieldLink RX4 27 "SpinKernel" "longest" "[[I", Cond.fieldLink RX4 30 "SpinKernel" "taskOfCore" "[I", Cond.fieldLink RX4 33 "SpinKernel" "deedOfCore" "[I", Cond.instantiable RX3 10, Cond.initialized RX3, Cond.instantiable RX2 2, Cond.initialized RX2, Cond.methodLink RX4 36 yX3_init, Cond.instanceMethod yX3_init, Cond.code yX3_init cX3_init 2 none, Cond.methodLink RX3 3 objectInit, Cond.classLink RX3 9 RX1, Cond.fieldLink RX3 11 "SpinKernel$Task" "requests" "[LSpinKernel$Request;", Cond.classLink RX3 17 RX0]
def wsX4_init_r2 : List Cond := [Cond.instantiable RX0 12, Cond.initialized RX0, Cond.fieldLink RX3 20 "SpinKernel$Task" "job" "LSpinKernel$Job;", Cond.instantiable RX1 8, Cond.initialized RX1, Cond.instanceMethod yX0_init, Cond.code yX0_init cX0_init 1 none, Cond.methodLink RX0 3 objectInit, Cond.fieldLink RX0 9 "SpinKernel$Job" "state" "I", Cond.instanceMethod yX1_init, Cond.code yX1_init cX1_init 1 none, Cond.methodLink RX1 3 objectInit, Cond.instanceMethod yX2_init, Cond.code yX2_init cX2_init 1 none, Cond.methodLink RX2 3 objectInit, Cond.fieldLink RX2 9 "SpinKernel$Row" "cores" "[I", Cond.methodLink RX4 38 yJ7_fill_53178, Cond.static yJ7_fill_53178, Cond.initialized RJ7, Cond.code yJ7_fill_53178 cJ7_fill_53178 4 none]
def wsX4_init : List Cond := .code yX4_init cX4_init 2 none :: ((wsX4_init_r1 ++ wsX4_init_r2) ++ wsX40 ++ wsX30 ++ wsX20 ++ wsX00 ++ wsX10)
def wsX4_isWithin : List Cond := .code yX4_isWithin cX4_isWithin 3 (some .boolean) :: ([])
def wsX4_isPriorityTaken : List Cond := .code yX4_isPriorityTaken cX4_isPriorityTaken 7 (some .boolean) :: ([.fieldLink RX4 11 "SpinKernel" "tasks" "[LSpinKernel$Task;", .fieldLink RX4 207 "SpinKernel$Task" "priority" "I", .methodLink RX4 203 yX3_isOn, .instanceMethod yX3_isOn, .selects RX3 yX3_isOn yX3_isOn, .initialized RX3, .code yX3_isOn cX3_isOn 2 (some .boolean), .fieldLink RX3 25 "SpinKernel$Task" "isThere" "Z", .fieldLink RX3 29 "SpinKernel$Task" "core" "I"] ++ wsX40 ++ wsX30)
def wsX4_joinGroups : List Cond := .code yX4_joinGroups cX4_joinGroups 6 none :: ([.fieldLink RX4 21 "SpinKernel" "leastOfGroup" "[I", .methodLink RX4 158 Lib.Math.min.name, .static Lib.Math.min.name, .initialized "java/lang/Math", .code Lib.Math.min.name Lib.Math.min.code 2 (some .int), .methodLink RX4 164 Lib.Math.max.name, .static Lib.Math.max.name, .code Lib.Math.max.name Lib.Math.max.code 2 (some .int)] ++ wsX40)
def wsX4_formGroups_r1 : List Cond := [Cond.fieldLink RX4 21 "SpinKernel" "leastOfGroup" "[I", Cond.fieldLink RX4 11 "SpinKernel" "tasks" "[LSpinKernel$Task;", Cond.fieldLink RX4 55 "SpinKernel$Task" "isThere" "Z", Cond.fieldLink RX4 79 "SpinKernel$Task" "count" "I", Cond.fieldLink RX4 199 "SpinKernel$Task" "requests" "[LSpinKernel$Request;", Cond.fieldLink RX4 220 "SpinKernel$Request" "lock" "I", Cond.fieldLink RX4 223 "SpinKernel$Request" "in" "I", Cond.methodLink RX4 138 yX1_isOuter, Cond.instanceMethod yX1_isOuter, Cond.selects RX1 yX1_isOuter yX1_isOuter, Cond.initialized RX1, Cond.code yX1_isOuter cX1_isOuter 1 (some .boolean), Cond.fieldLink RX1 21 "SpinKernel$Request" "in" "I", Cond.methodLink RX4 226 yX4_joinGroups, Cond.instanceMethod yX4_joinGroups, Cond.selects RX4 yX4_joinGroups yX4_joinGroups, Cond.initialized RX4, Cond.code yX4_joinGroups cX4_joinGroups 6 none, Cond.methodLink RX4 158 Lib.Math.min.name, Cond.static Lib.Math.min.name, Cond.initialized "java/lang/Math", Cond.code Lib.Math.min.name Lib.Math.min.code 2 (some .int), Cond.methodLink RX4 164 Lib.Math.max.name, Cond.static Lib.Math.max.name]
def wsX4_formGroups_r2 : List Cond := [Cond.code Lib.Math.max.name Lib.Math.max.code 2 (some .int)]
def wsX4_formGroups : List Cond := .code yX4_formGroups cX4_formGroups 7 none :: ((wsX4_formGroups_r1 ++ wsX4_formGroups_r2) ++ wsX40 ++ wsX30 ++ wsX10)
def wsX4_findLongest : List Cond := .code yX4_findLongest cX4_findLongest 8 none :: ([.fieldLink RX4 27 "SpinKernel" "longest" "[[I", .fieldLink RX4 11 "SpinKernel" "tasks" "[LSpinKernel$Task;", .fieldLink RX4 55 "SpinKernel$Task" "isThere" "Z", .fieldLink RX4 79 "SpinKernel$Task" "count" "I", .fieldLink RX4 199 "SpinKernel$Task" "requests" "[LSpinKernel$Request;", .fieldLink RX4 21 "SpinKernel" "leastOfGroup" "[I", .fieldLink RX4 220 "SpinKernel$Request" "lock" "I", .fieldLink RX4 230 "SpinKernel$Task" "core" "I", .fieldLink RX4 141 "SpinKernel$Request" "length" "I", .methodLink RX4 164 Lib.Math.max.name, .static Lib.Math.max.name, .initialized "java/lang/Math", .code Lib.Math.max.name Lib.Math.max.code 2 (some .int), .methodLink RX4 38 yJ7_fill_53178, .static yJ7_fill_53178, .initialized RJ7, .code yJ7_fill_53178 cJ7_fill_53178 4 none, .methodLink RX4 138 yX1_isOuter, .instanceMethod yX1_isOuter, .selects RX1 yX1_isOuter yX1_isOuter, .initialized RX1, .code yX1_isOuter cX1_isOuter 1 (some .boolean), .fieldLink RX1 21 "SpinKernel$Request" "in" "I"] ++ wsX40 ++ wsX30 ++ wsX10)
def wsX4_longestElsewhere : List Cond := .code yX4_longestElsewhere cX4_longestElsewhere 5 (some .int) :: ([.fieldLink RX4 27 "SpinKernel" "longest" "[[I"] ++ wsX40)
def wsX4_inflate : List Cond := .code yX4_inflate cX4_inflate 4 none :: ([.fieldLink RX4 233 "SpinKernel$Task" "work" "I", .fieldLink RX4 99 "SpinKernel$Task" "inflated" "I", .fieldLink RX4 79 "SpinKernel$Task" "count" "I", .fieldLink RX4 199 "SpinKernel$Task" "requests" "[LSpinKernel$Request;", .fieldLink RX4 230 "SpinKernel$Task" "core" "I", .fieldLink RX4 21 "SpinKernel" "leastOfGroup" "[I", .fieldLink RX4 220 "SpinKernel$Request" "lock" "I", .fieldLink RX4 94 "SpinKernel$Request" "spinBound" "I", .fieldLink RX4 141 "SpinKernel$Request" "length" "I", .methodLink RX4 138 yX1_isOuter, .instanceMethod yX1_isOuter, .selects RX1 yX1_isOuter yX1_isOuter, .initialized RX1, .code yX1_isOuter cX1_isOuter 1 (some .boolean), .fieldLink RX1 21 "SpinKernel$Request" "in" "I", .methodLink RX4 236 yX4_longestElsewhere, .instanceMethod yX4_longestElsewhere, .selects RX4 yX4_longestElsewhere yX4_longestElsewhere, .initialized RX4, .code yX4_longestElsewhere cX4_longestElsewhere 5 (some .int), .fieldLink RX4 27 "SpinKernel" "longest" "[[I"] ++ wsX30 ++ wsX40 ++ wsX10)
def wsX4_measure_r1 : List Cond := [Cond.fieldLink RX4 11 "SpinKernel" "tasks" "[LSpinKernel$Task;", Cond.fieldLink RX4 55 "SpinKernel$Task" "isThere" "Z", Cond.methodLink RX4 210 yX4_formGroups, Cond.instanceMethod yX4_formGroups, Cond.selects RX4 yX4_formGroups yX4_formGroups, Cond.initialized RX4, Cond.code yX4_formGroups cX4_formGroups 7 none, Cond.fieldLink RX4 21 "SpinKernel" "leastOfGroup" "[I", Cond.fieldLink RX4 79 "SpinKernel$Task" "count" "I", Cond.fieldLink RX4 199 "SpinKernel$Task" "requests" "[LSpinKernel$Request;", Cond.fieldLink RX4 220 "SpinKernel$Request" "lock" "I", Cond.fieldLink RX4 223 "SpinKernel$Request" "in" "I", Cond.methodLink RX4 138 yX1_isOuter, Cond.instanceMethod yX1_isOuter, Cond.selects RX1 yX1_isOuter yX1_isOuter, Cond.initialized RX1, Cond.code yX1_isOuter cX1_isOuter 1 (some .boolean), Cond.fieldLink RX1 21 "SpinKernel$Request" "in" "I", Cond.methodLink RX4 226 yX4_joinGroups, Cond.instanceMethod yX4_joinGroups, Cond.selects RX4 yX4_joinGroups yX4_joinGroups, Cond.code yX4_joinGroups cX4_joinGroups 6 none, Cond.methodLink RX4 158 Lib.Math.min.name, Cond.static Lib.Math.min.name]
def wsX4_measure_r2 : List Cond := [Cond.initialized "java/lang/Math", Cond.code Lib.Math.min.name Lib.Math.min.code 2 (some .int), Cond.methodLink RX4 164 Lib.Math.max.name, Cond.static Lib.Math.max.name, Cond.code Lib.Math.max.name Lib.Math.max.code 2 (some .int), Cond.methodLink RX4 213 yX4_findLongest, Cond.instanceMethod yX4_findLongest, Cond.selects RX4 yX4_findLongest yX4_findLongest, Cond.code yX4_findLongest cX4_findLongest 8 none, Cond.fieldLink RX4 27 "SpinKernel" "longest" "[[I", Cond.fieldLink RX4 230 "SpinKernel$Task" "core" "I", Cond.fieldLink RX4 141 "SpinKernel$Request" "length" "I", Cond.methodLink RX4 38 yJ7_fill_53178, Cond.static yJ7_fill_53178, Cond.initialized RJ7, Cond.code yJ7_fill_53178 cJ7_fill_53178 4 none, Cond.methodLink RX4 216 yX4_inflate, Cond.instanceMethod yX4_inflate, Cond.selects RX4 yX4_inflate yX4_inflate, Cond.code yX4_inflate cX4_inflate 4 none, Cond.fieldLink RX4 233 "SpinKernel$Task" "work" "I", Cond.fieldLink RX4 99 "SpinKernel$Task" "inflated" "I", Cond.fieldLink RX4 94 "SpinKernel$Request" "spinBound" "I", Cond.methodLink RX4 236 yX4_longestElsewhere]
def wsX4_measure_r3 : List Cond := [Cond.instanceMethod yX4_longestElsewhere, Cond.selects RX4 yX4_longestElsewhere yX4_longestElsewhere, Cond.code yX4_longestElsewhere cX4_longestElsewhere 5 (some .int)]
def wsX4_measure : List Cond := .code yX4_measure cX4_measure 5 none :: ((wsX4_measure_r1 ++ (wsX4_measure_r2 ++ wsX4_measure_r3)) ++ wsX40 ++ wsX30 ++ wsX10)
def wsX4_task_r1 : List Cond := [Cond.classLink RX4 48 "java/lang/IndexOutOfBoundsException", Cond.initialized "java/lang/IndexOutOfBoundsException", Cond.classLink RX4 58 "java/lang/IllegalStateException", Cond.initialized "java/lang/IllegalStateException", Cond.classLink RX4 65 "java/lang/IllegalArgumentException", Cond.initialized "java/lang/IllegalArgumentException", Cond.fieldLink RX4 51 "SpinKernel" "sealed" "Z", Cond.fieldLink RX4 11 "SpinKernel" "tasks" "[LSpinKernel$Task;", Cond.fieldLink RX4 55 "SpinKernel$Task" "isThere" "Z", Cond.methodLink RX4 44 yX4_isWithin, Cond.static yX4_isWithin, Cond.initialized RX4, Cond.code yX4_isWithin cX4_isWithin 3 (some .boolean), Cond.methodLink RX4 61 yX4_isPriorityTaken, Cond.instanceMethod yX4_isPriorityTaken, Cond.selects RX4 yX4_isPriorityTaken yX4_isPriorityTaken, Cond.code yX4_isPriorityTaken cX4_isPriorityTaken 7 (some .boolean), Cond.fieldLink RX4 207 "SpinKernel$Task" "priority" "I", Cond.methodLink RX4 203 yX3_isOn, Cond.instanceMethod yX3_isOn, Cond.selects RX3 yX3_isOn yX3_isOn, Cond.initialized RX3, Cond.code yX3_isOn cX3_isOn 2 (some .boolean), Cond.fieldLink RX3 25 "SpinKernel$Task" "isThere" "Z"]
def wsX4_task_r2 : List Cond := [Cond.fieldLink RX3 29 "SpinKernel$Task" "core" "I", Cond.methodLink RX4 68 yX3_layDown, Cond.instanceMethod yX3_layDown, Cond.selects RX3 yX3_layDown yX3_layDown, Cond.code yX3_layDown cX3_layDown 6 none, Cond.fieldLink RX3 33 "SpinKernel$Task" "priority" "I", Cond.fieldLink RX3 36 "SpinKernel$Task" "distance" "I", Cond.fieldLink RX3 39 "SpinKernel$Task" "deadline" "I", Cond.fieldLink RX3 42 "SpinKernel$Task" "work" "I", Cond.fieldLink RX3 45 "SpinKernel$Task" "count" "I", Cond.methodLink RX4 72 yX4_measure, Cond.instanceMethod yX4_measure, Cond.selects RX4 yX4_measure yX4_measure, Cond.code yX4_measure cX4_measure 5 none, Cond.methodLink RX4 210 yX4_formGroups, Cond.instanceMethod yX4_formGroups, Cond.selects RX4 yX4_formGroups yX4_formGroups, Cond.code yX4_formGroups cX4_formGroups 7 none, Cond.fieldLink RX4 21 "SpinKernel" "leastOfGroup" "[I", Cond.fieldLink RX4 79 "SpinKernel$Task" "count" "I", Cond.fieldLink RX4 199 "SpinKernel$Task" "requests" "[LSpinKernel$Request;", Cond.fieldLink RX4 220 "SpinKernel$Request" "lock" "I", Cond.fieldLink RX4 223 "SpinKernel$Request" "in" "I", Cond.methodLink RX4 138 yX1_isOuter]
def wsX4_task_r3 : List Cond := [Cond.instanceMethod yX1_isOuter, Cond.selects RX1 yX1_isOuter yX1_isOuter, Cond.initialized RX1, Cond.code yX1_isOuter cX1_isOuter 1 (some .boolean), Cond.fieldLink RX1 21 "SpinKernel$Request" "in" "I", Cond.methodLink RX4 226 yX4_joinGroups, Cond.instanceMethod yX4_joinGroups, Cond.selects RX4 yX4_joinGroups yX4_joinGroups, Cond.code yX4_joinGroups cX4_joinGroups 6 none, Cond.methodLink RX4 158 Lib.Math.min.name, Cond.static Lib.Math.min.name, Cond.initialized "java/lang/Math", Cond.code Lib.Math.min.name Lib.Math.min.code 2 (some .int), Cond.methodLink RX4 164 Lib.Math.max.name, Cond.static Lib.Math.max.name, Cond.code Lib.Math.max.name Lib.Math.max.code 2 (some .int), Cond.methodLink RX4 213 yX4_findLongest, Cond.instanceMethod yX4_findLongest, Cond.selects RX4 yX4_findLongest yX4_findLongest, Cond.code yX4_findLongest cX4_findLongest 8 none, Cond.fieldLink RX4 27 "SpinKernel" "longest" "[[I", Cond.fieldLink RX4 230 "SpinKernel$Task" "core" "I", Cond.fieldLink RX4 141 "SpinKernel$Request" "length" "I", Cond.methodLink RX4 38 yJ7_fill_53178]
def wsX4_task_r4 : List Cond := [Cond.static yJ7_fill_53178, Cond.initialized RJ7, Cond.code yJ7_fill_53178 cJ7_fill_53178 4 none, Cond.methodLink RX4 216 yX4_inflate, Cond.instanceMethod yX4_inflate, Cond.selects RX4 yX4_inflate yX4_inflate, Cond.code yX4_inflate cX4_inflate 4 none, Cond.fieldLink RX4 233 "SpinKernel$Task" "work" "I", Cond.fieldLink RX4 99 "SpinKernel$Task" "inflated" "I", Cond.fieldLink RX4 94 "SpinKernel$Request" "spinBound" "I", Cond.methodLink RX4 236 yX4_longestElsewhere, Cond.instanceMethod yX4_longestElsewhere, Cond.selects RX4 yX4_longestElsewhere yX4_longestElsewhere, Cond.code yX4_longestElsewhere cX4_longestElsewhere 5 (some .int)]
def wsX4_task : List Cond := .code yX4_task cX4_task 9 none :: ((wsX4_task_r1 ++ (wsX4_task_r2 ++ (wsX4_task_r3 ++ wsX4_task_r4))) ++ wsX40 ++ wsX30 ++ wsX10 ++ (vx_at0 RX4 50 "java/lang/IndexOutOfBoundsException" ["java/lang/RuntimeException", "java/lang/Exception"]).filter goodWord ++ (vx_at0 RX4 60 "java/lang/IllegalStateException" ["java/lang/RuntimeException", "java/lang/Exception"]).filter goodWord ++ (vx_at0 RX4 67 "java/lang/IllegalArgumentException" ["java/lang/RuntimeException", "java/lang/Exception"]).filter goodWord)
def wsX4_taskAt : List Cond := .code yX4_taskAt cX4_taskAt 2 (some (.object "SpinKernel$Task")) :: ([.classLink RX4 48 "java/lang/IndexOutOfBoundsException", .initialized "java/lang/IndexOutOfBoundsException", .fieldLink RX4 11 "SpinKernel" "tasks" "[LSpinKernel$Task;", .fieldLink RX4 55 "SpinKernel$Task" "isThere" "Z", .methodLink RX4 44 yX4_isWithin, .static yX4_isWithin, .initialized RX4, .code yX4_isWithin cX4_isWithin 3 (some .boolean)] ++ wsX40 ++ wsX30 ++ (vx_at0 RX4 50 "java/lang/IndexOutOfBoundsException" ["java/lang/RuntimeException", "java/lang/Exception"]).filter goodWord)
def wsX4_request_r1 : List Cond := [Cond.classLink RX4 58 "java/lang/IllegalStateException", Cond.initialized "java/lang/IllegalStateException", Cond.classLink RX4 65 "java/lang/IllegalArgumentException", Cond.initialized "java/lang/IllegalArgumentException", Cond.fieldLink RX4 51 "SpinKernel" "sealed" "Z", Cond.fieldLink RX4 79 "SpinKernel$Task" "count" "I", Cond.methodLink RX4 75 yX4_taskAt, Cond.instanceMethod yX4_taskAt, Cond.selects RX4 yX4_taskAt yX4_taskAt, Cond.initialized RX4, Cond.code yX4_taskAt cX4_taskAt 2 (some (.object "SpinKernel$Task")), Cond.classLink RX4 48 "java/lang/IndexOutOfBoundsException", Cond.initialized "java/lang/IndexOutOfBoundsException", Cond.fieldLink RX4 11 "SpinKernel" "tasks" "[LSpinKernel$Task;", Cond.fieldLink RX4 55 "SpinKernel$Task" "isThere" "Z", Cond.methodLink RX4 44 yX4_isWithin, Cond.static yX4_isWithin, Cond.code yX4_isWithin cX4_isWithin 3 (some .boolean), Cond.methodLink RX4 83 yX3_hasPlaceFor, Cond.instanceMethod yX3_hasPlaceFor, Cond.selects RX3 yX3_hasPlaceFor yX3_hasPlaceFor, Cond.initialized RX3, Cond.code yX3_hasPlaceFor cX3_hasPlaceFor 4 (some .boolean), Cond.fieldLink RX3 42 "SpinKernel$Task" "work" "I"]
def wsX4_request_r2 : List Cond := [Cond.fieldLink RX3 11 "SpinKernel$Task" "requests" "[LSpinKernel$Request;", Cond.fieldLink RX3 59 "SpinKernel$Request" "length" "I", Cond.methodLink RX3 52 yX3_greatestAfter, Cond.instanceMethod yX3_greatestAfter, Cond.selects RX3 yX3_greatestAfter yX3_greatestAfter, Cond.code yX3_greatestAfter cX3_greatestAfter 3 (some .int), Cond.fieldLink RX3 45 "SpinKernel$Task" "count" "I", Cond.fieldLink RX3 62 "SpinKernel$Request" "after" "I", Cond.methodLink RX3 48 yX1_isOuter, Cond.instanceMethod yX1_isOuter, Cond.selects RX1 yX1_isOuter yX1_isOuter, Cond.initialized RX1, Cond.code yX1_isOuter cX1_isOuter 1 (some .boolean), Cond.fieldLink RX1 21 "SpinKernel$Request" "in" "I", Cond.methodLink RX3 56 yX3_isOuter, Cond.instanceMethod yX3_isOuter, Cond.selects RX3 yX3_isOuter yX3_isOuter, Cond.code yX3_isOuter cX3_isOuter 2 (some .boolean), Cond.methodLink RX4 86 yX3_addRequest, Cond.instanceMethod yX3_addRequest, Cond.selects RX3 yX3_addRequest yX3_addRequest, Cond.code yX3_addRequest cX3_addRequest 6 (some .int), Cond.methodLink RX3 65 yX1_layDown, Cond.instanceMethod yX1_layDown]
def wsX4_request_r3 : List Cond := [Cond.selects RX1 yX1_layDown yX1_layDown, Cond.code yX1_layDown cX1_layDown 5 none, Cond.fieldLink RX1 9 "SpinKernel$Request" "after" "I", Cond.fieldLink RX1 15 "SpinKernel$Request" "lock" "I", Cond.fieldLink RX1 18 "SpinKernel$Request" "length" "I", Cond.fieldLink RX1 24 "SpinKernel$Request" "spinBound" "I", Cond.methodLink RX4 72 yX4_measure, Cond.instanceMethod yX4_measure, Cond.selects RX4 yX4_measure yX4_measure, Cond.code yX4_measure cX4_measure 5 none, Cond.methodLink RX4 210 yX4_formGroups, Cond.instanceMethod yX4_formGroups, Cond.selects RX4 yX4_formGroups yX4_formGroups, Cond.code yX4_formGroups cX4_formGroups 7 none, Cond.fieldLink RX4 21 "SpinKernel" "leastOfGroup" "[I", Cond.fieldLink RX4 199 "SpinKernel$Task" "requests" "[LSpinKernel$Request;", Cond.fieldLink RX4 220 "SpinKernel$Request" "lock" "I", Cond.fieldLink RX4 223 "SpinKernel$Request" "in" "I", Cond.methodLink RX4 138 yX1_isOuter, Cond.methodLink RX4 226 yX4_joinGroups, Cond.instanceMethod yX4_joinGroups, Cond.selects RX4 yX4_joinGroups yX4_joinGroups, Cond.code yX4_joinGroups cX4_joinGroups 6 none, Cond.methodLink RX4 158 Lib.Math.min.name]
def wsX4_request_r4 : List Cond := [Cond.static Lib.Math.min.name, Cond.initialized "java/lang/Math", Cond.code Lib.Math.min.name Lib.Math.min.code 2 (some .int), Cond.methodLink RX4 164 Lib.Math.max.name, Cond.static Lib.Math.max.name, Cond.code Lib.Math.max.name Lib.Math.max.code 2 (some .int), Cond.methodLink RX4 213 yX4_findLongest, Cond.instanceMethod yX4_findLongest, Cond.selects RX4 yX4_findLongest yX4_findLongest, Cond.code yX4_findLongest cX4_findLongest 8 none, Cond.fieldLink RX4 27 "SpinKernel" "longest" "[[I", Cond.fieldLink RX4 230 "SpinKernel$Task" "core" "I", Cond.fieldLink RX4 141 "SpinKernel$Request" "length" "I", Cond.methodLink RX4 38 yJ7_fill_53178, Cond.static yJ7_fill_53178, Cond.initialized RJ7, Cond.code yJ7_fill_53178 cJ7_fill_53178 4 none, Cond.methodLink RX4 216 yX4_inflate, Cond.instanceMethod yX4_inflate, Cond.selects RX4 yX4_inflate yX4_inflate, Cond.code yX4_inflate cX4_inflate 4 none, Cond.fieldLink RX4 233 "SpinKernel$Task" "work" "I", Cond.fieldLink RX4 99 "SpinKernel$Task" "inflated" "I", Cond.fieldLink RX4 94 "SpinKernel$Request" "spinBound" "I"]
def wsX4_request_r5 : List Cond := [Cond.methodLink RX4 236 yX4_longestElsewhere, Cond.instanceMethod yX4_longestElsewhere, Cond.selects RX4 yX4_longestElsewhere yX4_longestElsewhere, Cond.code yX4_longestElsewhere cX4_longestElsewhere 5 (some .int)]
def wsX4_request : List Cond := .code yX4_request cX4_request 9 (some .int) :: ((wsX4_request_r1 ++ (wsX4_request_r2 ++ (wsX4_request_r3 ++ (wsX4_request_r4 ++ wsX4_request_r5)))) ++ wsX40 ++ wsX30 ++ wsX10 ++ (vx_at0 RX4 60 "java/lang/IllegalStateException" ["java/lang/RuntimeException", "java/lang/Exception"]).filter goodWord ++ (vx_at0 RX4 67 "java/lang/IllegalArgumentException" ["java/lang/RuntimeException", "java/lang/Exception"]).filter goodWord ++ (vx_at0 RX4 50 "java/lang/IndexOutOfBoundsException" ["java/lang/RuntimeException", "java/lang/Exception"]).filter goodWord)
def wsX4_take_r1 : List Cond := [Cond.classLink RX4 58 "java/lang/IllegalStateException", Cond.initialized "java/lang/IllegalStateException", Cond.fieldLink RX4 51 "SpinKernel" "sealed" "Z", Cond.fieldLink RX4 55 "SpinKernel$Task" "isThere" "Z", Cond.methodLink RX4 75 yX4_taskAt, Cond.instanceMethod yX4_taskAt, Cond.selects RX4 yX4_taskAt yX4_taskAt, Cond.initialized RX4, Cond.code yX4_taskAt cX4_taskAt 2 (some (.object "SpinKernel$Task")), Cond.classLink RX4 48 "java/lang/IndexOutOfBoundsException", Cond.initialized "java/lang/IndexOutOfBoundsException", Cond.fieldLink RX4 11 "SpinKernel" "tasks" "[LSpinKernel$Task;", Cond.methodLink RX4 44 yX4_isWithin, Cond.static yX4_isWithin, Cond.code yX4_isWithin cX4_isWithin 3 (some .boolean), Cond.methodLink RX4 72 yX4_measure, Cond.instanceMethod yX4_measure, Cond.selects RX4 yX4_measure yX4_measure, Cond.code yX4_measure cX4_measure 5 none, Cond.methodLink RX4 210 yX4_formGroups, Cond.instanceMethod yX4_formGroups, Cond.selects RX4 yX4_formGroups yX4_formGroups, Cond.code yX4_formGroups cX4_formGroups 7 none, Cond.fieldLink RX4 21 "SpinKernel" "leastOfGroup" "[I"]
def wsX4_take_r2 : List Cond := [Cond.fieldLink RX4 79 "SpinKernel$Task" "count" "I", Cond.fieldLink RX4 199 "SpinKernel$Task" "requests" "[LSpinKernel$Request;", Cond.fieldLink RX4 220 "SpinKernel$Request" "lock" "I", Cond.fieldLink RX4 223 "SpinKernel$Request" "in" "I", Cond.methodLink RX4 138 yX1_isOuter, Cond.instanceMethod yX1_isOuter, Cond.selects RX1 yX1_isOuter yX1_isOuter, Cond.initialized RX1, Cond.code yX1_isOuter cX1_isOuter 1 (some .boolean), Cond.fieldLink RX1 21 "SpinKernel$Request" "in" "I", Cond.methodLink RX4 226 yX4_joinGroups, Cond.instanceMethod yX4_joinGroups, Cond.selects RX4 yX4_joinGroups yX4_joinGroups, Cond.code yX4_joinGroups cX4_joinGroups 6 none, Cond.methodLink RX4 158 Lib.Math.min.name, Cond.static Lib.Math.min.name, Cond.initialized "java/lang/Math", Cond.code Lib.Math.min.name Lib.Math.min.code 2 (some .int), Cond.methodLink RX4 164 Lib.Math.max.name, Cond.static Lib.Math.max.name, Cond.code Lib.Math.max.name Lib.Math.max.code 2 (some .int), Cond.methodLink RX4 213 yX4_findLongest, Cond.instanceMethod yX4_findLongest, Cond.selects RX4 yX4_findLongest yX4_findLongest]
def wsX4_take_r3 : List Cond := [Cond.code yX4_findLongest cX4_findLongest 8 none, Cond.fieldLink RX4 27 "SpinKernel" "longest" "[[I", Cond.fieldLink RX4 230 "SpinKernel$Task" "core" "I", Cond.fieldLink RX4 141 "SpinKernel$Request" "length" "I", Cond.methodLink RX4 38 yJ7_fill_53178, Cond.static yJ7_fill_53178, Cond.initialized RJ7, Cond.code yJ7_fill_53178 cJ7_fill_53178 4 none, Cond.methodLink RX4 216 yX4_inflate, Cond.instanceMethod yX4_inflate, Cond.selects RX4 yX4_inflate yX4_inflate, Cond.code yX4_inflate cX4_inflate 4 none, Cond.fieldLink RX4 233 "SpinKernel$Task" "work" "I", Cond.fieldLink RX4 99 "SpinKernel$Task" "inflated" "I", Cond.fieldLink RX4 94 "SpinKernel$Request" "spinBound" "I", Cond.methodLink RX4 236 yX4_longestElsewhere, Cond.instanceMethod yX4_longestElsewhere, Cond.selects RX4 yX4_longestElsewhere yX4_longestElsewhere, Cond.code yX4_longestElsewhere cX4_longestElsewhere 5 (some .int)]
def wsX4_take : List Cond := .code yX4_take cX4_take 3 none :: ((wsX4_take_r1 ++ (wsX4_take_r2 ++ wsX4_take_r3)) ++ wsX40 ++ wsX30 ++ wsX10 ++ (vx_at0 RX4 60 "java/lang/IllegalStateException" ["java/lang/RuntimeException", "java/lang/Exception"]).filter goodWord ++ (vx_at0 RX4 50 "java/lang/IndexOutOfBoundsException" ["java/lang/RuntimeException", "java/lang/Exception"]).filter goodWord)
def wsX4_group : List Cond := .code yX4_group cX4_group 2 (some .int) :: ([.classLink RX4 48 "java/lang/IndexOutOfBoundsException", .initialized "java/lang/IndexOutOfBoundsException", .fieldLink RX4 21 "SpinKernel" "leastOfGroup" "[I", .methodLink RX4 44 yX4_isWithin, .static yX4_isWithin, .initialized RX4, .code yX4_isWithin cX4_isWithin 3 (some .boolean)] ++ wsX40 ++ (vx_at0 RX4 50 "java/lang/IndexOutOfBoundsException" ["java/lang/RuntimeException", "java/lang/Exception"]).filter goodWord)
def wsX4_requestAt : List Cond := .code yX4_requestAt cX4_requestAt 2 (some (.object "SpinKernel$Request")) :: ([.classLink RX4 48 "java/lang/IndexOutOfBoundsException", .initialized "java/lang/IndexOutOfBoundsException", .fieldLink RX4 79 "SpinKernel$Task" "count" "I", .fieldLink RX4 199 "SpinKernel$Task" "requests" "[LSpinKernel$Request;", .methodLink RX4 44 yX4_isWithin, .static yX4_isWithin, .initialized RX4, .code yX4_isWithin cX4_isWithin 3 (some .boolean)] ++ wsX30 ++ (vx_at0 RX4 50 "java/lang/IndexOutOfBoundsException" ["java/lang/RuntimeException", "java/lang/Exception"]).filter goodWord)
def wsX4_spin : List Cond := .code yX4_spin cX4_spin 3 (some .int) :: ([.fieldLink RX4 94 "SpinKernel$Request" "spinBound" "I", .methodLink RX4 75 yX4_taskAt, .instanceMethod yX4_taskAt, .selects RX4 yX4_taskAt yX4_taskAt, .initialized RX4, .code yX4_taskAt cX4_taskAt 2 (some (.object "SpinKernel$Task")), .classLink RX4 48 "java/lang/IndexOutOfBoundsException", .initialized "java/lang/IndexOutOfBoundsException", .fieldLink RX4 11 "SpinKernel" "tasks" "[LSpinKernel$Task;", .fieldLink RX4 55 "SpinKernel$Task" "isThere" "Z", .methodLink RX4 44 yX4_isWithin, .static yX4_isWithin, .code yX4_isWithin cX4_isWithin 3 (some .boolean), .methodLink RX4 90 yX4_requestAt, .static yX4_requestAt, .code yX4_requestAt cX4_requestAt 2 (some (.object "SpinKernel$Request")), .fieldLink RX4 79 "SpinKernel$Task" "count" "I", .fieldLink RX4 199 "SpinKernel$Task" "requests" "[LSpinKernel$Request;"] ++ wsX10 ++ wsX40 ++ wsX30 ++ (vx_at0 RX4 50 "java/lang/IndexOutOfBoundsException" ["java/lang/RuntimeException", "java/lang/Exception"]).filter goodWord)
def wsX4_blockingOf_r1 : List Cond := [Cond.fieldLink RX4 11 "SpinKernel" "tasks" "[LSpinKernel$Task;", Cond.fieldLink RX4 230 "SpinKernel$Task" "core" "I", Cond.fieldLink RX4 207 "SpinKernel$Task" "priority" "I", Cond.methodLink RX4 164 Lib.Math.max.name, Cond.static Lib.Math.max.name, Cond.initialized "java/lang/Math", Cond.code Lib.Math.max.name Lib.Math.max.code 2 (some .int), Cond.methodLink RX4 203 yX3_isOn, Cond.instanceMethod yX3_isOn, Cond.selects RX3 yX3_isOn yX3_isOn, Cond.initialized RX3, Cond.code yX3_isOn cX3_isOn 2 (some .boolean), Cond.fieldLink RX3 25 "SpinKernel$Task" "isThere" "Z", Cond.fieldLink RX3 29 "SpinKernel$Task" "core" "I", Cond.methodLink RX4 239 yX3_longestStay, Cond.instanceMethod yX3_longestStay, Cond.selects RX3 yX3_longestStay yX3_longestStay, Cond.code yX3_longestStay cX3_longestStay 3 (some .int), Cond.fieldLink RX3 45 "SpinKernel$Task" "count" "I", Cond.fieldLink RX3 11 "SpinKernel$Task" "requests" "[LSpinKernel$Request;", Cond.fieldLink RX3 59 "SpinKernel$Request" "length" "I", Cond.fieldLink RX3 69 "SpinKernel$Request" "spinBound" "I", Cond.methodLink RX3 72 Lib.Math.max.name, Cond.methodLink RX3 48 yX1_isOuter]
def wsX4_blockingOf_r2 : List Cond := [Cond.instanceMethod yX1_isOuter, Cond.selects RX1 yX1_isOuter yX1_isOuter, Cond.initialized RX1, Cond.code yX1_isOuter cX1_isOuter 1 (some .boolean), Cond.fieldLink RX1 21 "SpinKernel$Request" "in" "I"]
def wsX4_blockingOf : List Cond := .code yX4_blockingOf cX4_blockingOf 7 (some .int) :: ((wsX4_blockingOf_r1 ++ wsX4_blockingOf_r2) ++ wsX40 ++ wsX30 ++ wsX10)
def wsX4_demandAbove : List Cond := .code yX4_demandAbove cX4_demandAbove 8 (some .int) :: ([.fieldLink RX4 11 "SpinKernel" "tasks" "[LSpinKernel$Task;", .fieldLink RX4 230 "SpinKernel$Task" "core" "I", .fieldLink RX4 207 "SpinKernel$Task" "priority" "I", .fieldLink RX4 99 "SpinKernel$Task" "inflated" "I", .methodLink RX4 203 yX3_isOn, .instanceMethod yX3_isOn, .selects RX3 yX3_isOn yX3_isOn, .initialized RX3, .code yX3_isOn cX3_isOn 2 (some .boolean), .fieldLink RX3 25 "SpinKernel$Task" "isThere" "Z", .fieldLink RX3 29 "SpinKernel$Task" "core" "I", .methodLink RX4 246 yX3_beginningsIn, .instanceMethod yX3_beginningsIn, .selects RX3 yX3_beginningsIn yX3_beginningsIn, .code yX3_beginningsIn cX3_beginningsIn 2 (some .int), .fieldLink RX3 36 "SpinKernel$Task" "distance" "I"] ++ wsX40 ++ wsX30)
def wsX4_responseOf_r1 : List Cond := [Cond.fieldLink RX4 99 "SpinKernel$Task" "inflated" "I", Cond.fieldLink RX4 196 "SpinKernel$Task" "deadline" "I", Cond.methodLink RX4 102 yX4_blockingOf, Cond.instanceMethod yX4_blockingOf, Cond.selects RX4 yX4_blockingOf yX4_blockingOf, Cond.initialized RX4, Cond.code yX4_blockingOf cX4_blockingOf 7 (some .int), Cond.fieldLink RX4 11 "SpinKernel" "tasks" "[LSpinKernel$Task;", Cond.fieldLink RX4 230 "SpinKernel$Task" "core" "I", Cond.fieldLink RX4 207 "SpinKernel$Task" "priority" "I", Cond.methodLink RX4 164 Lib.Math.max.name, Cond.static Lib.Math.max.name, Cond.initialized "java/lang/Math", Cond.code Lib.Math.max.name Lib.Math.max.code 2 (some .int), Cond.methodLink RX4 203 yX3_isOn, Cond.instanceMethod yX3_isOn, Cond.selects RX3 yX3_isOn yX3_isOn, Cond.initialized RX3, Cond.code yX3_isOn cX3_isOn 2 (some .boolean), Cond.fieldLink RX3 25 "SpinKernel$Task" "isThere" "Z", Cond.fieldLink RX3 29 "SpinKernel$Task" "core" "I", Cond.methodLink RX4 239 yX3_longestStay, Cond.instanceMethod yX3_longestStay, Cond.selects RX3 yX3_longestStay yX3_longestStay]
def wsX4_responseOf_r2 : List Cond := [Cond.code yX3_longestStay cX3_longestStay 3 (some .int), Cond.fieldLink RX3 45 "SpinKernel$Task" "count" "I", Cond.fieldLink RX3 11 "SpinKernel$Task" "requests" "[LSpinKernel$Request;", Cond.fieldLink RX3 59 "SpinKernel$Request" "length" "I", Cond.fieldLink RX3 69 "SpinKernel$Request" "spinBound" "I", Cond.methodLink RX3 72 Lib.Math.max.name, Cond.methodLink RX3 48 yX1_isOuter, Cond.instanceMethod yX1_isOuter, Cond.selects RX1 yX1_isOuter yX1_isOuter, Cond.initialized RX1, Cond.code yX1_isOuter cX1_isOuter 1 (some .boolean), Cond.fieldLink RX1 21 "SpinKernel$Request" "in" "I", Cond.methodLink RX4 242 yX4_demandAbove, Cond.instanceMethod yX4_demandAbove, Cond.selects RX4 yX4_demandAbove yX4_demandAbove, Cond.code yX4_demandAbove cX4_demandAbove 8 (some .int), Cond.methodLink RX4 246 yX3_beginningsIn, Cond.instanceMethod yX3_beginningsIn, Cond.selects RX3 yX3_beginningsIn yX3_beginningsIn, Cond.code yX3_beginningsIn cX3_beginningsIn 2 (some .int), Cond.fieldLink RX3 36 "SpinKernel$Task" "distance" "I"]
def wsX4_responseOf : List Cond := .code yX4_responseOf cX4_responseOf 6 (some .int) :: ((wsX4_responseOf_r1 ++ wsX4_responseOf_r2) ++ wsX30 ++ wsX40 ++ wsX10)
def wsX4_bound_r1 : List Cond := [Cond.classLink RX4 65 "java/lang/IllegalArgumentException", Cond.initialized "java/lang/IllegalArgumentException", Cond.fieldLink RX4 99 "SpinKernel$Task" "inflated" "I", Cond.methodLink RX4 75 yX4_taskAt, Cond.instanceMethod yX4_taskAt, Cond.selects RX4 yX4_taskAt yX4_taskAt, Cond.initialized RX4, Cond.code yX4_taskAt cX4_taskAt 2 (some (.object "SpinKernel$Task")), Cond.classLink RX4 48 "java/lang/IndexOutOfBoundsException", Cond.initialized "java/lang/IndexOutOfBoundsException", Cond.fieldLink RX4 11 "SpinKernel" "tasks" "[LSpinKernel$Task;", Cond.fieldLink RX4 55 "SpinKernel$Task" "isThere" "Z", Cond.methodLink RX4 44 yX4_isWithin, Cond.static yX4_isWithin, Cond.code yX4_isWithin cX4_isWithin 3 (some .boolean), Cond.methodLink RX4 102 yX4_blockingOf, Cond.instanceMethod yX4_blockingOf, Cond.selects RX4 yX4_blockingOf yX4_blockingOf, Cond.code yX4_blockingOf cX4_blockingOf 7 (some .int), Cond.fieldLink RX4 230 "SpinKernel$Task" "core" "I", Cond.fieldLink RX4 207 "SpinKernel$Task" "priority" "I", Cond.methodLink RX4 164 Lib.Math.max.name, Cond.static Lib.Math.max.name, Cond.initialized "java/lang/Math"]
def wsX4_bound_r2 : List Cond := [Cond.code Lib.Math.max.name Lib.Math.max.code 2 (some .int), Cond.methodLink RX4 203 yX3_isOn, Cond.instanceMethod yX3_isOn, Cond.selects RX3 yX3_isOn yX3_isOn, Cond.initialized RX3, Cond.code yX3_isOn cX3_isOn 2 (some .boolean), Cond.fieldLink RX3 25 "SpinKernel$Task" "isThere" "Z", Cond.fieldLink RX3 29 "SpinKernel$Task" "core" "I", Cond.methodLink RX4 239 yX3_longestStay, Cond.instanceMethod yX3_longestStay, Cond.selects RX3 yX3_longestStay yX3_longestStay, Cond.code yX3_longestStay cX3_longestStay 3 (some .int), Cond.fieldLink RX3 45 "SpinKernel$Task" "count" "I", Cond.fieldLink RX3 11 "SpinKernel$Task" "requests" "[LSpinKernel$Request;", Cond.fieldLink RX3 59 "SpinKernel$Request" "length" "I", Cond.fieldLink RX3 69 "SpinKernel$Request" "spinBound" "I", Cond.methodLink RX3 72 Lib.Math.max.name, Cond.methodLink RX3 48 yX1_isOuter, Cond.instanceMethod yX1_isOuter, Cond.selects RX1 yX1_isOuter yX1_isOuter, Cond.initialized RX1, Cond.code yX1_isOuter cX1_isOuter 1 (some .boolean), Cond.fieldLink RX1 21 "SpinKernel$Request" "in" "I", Cond.methodLink RX4 106 yX4_responseOf]
def wsX4_bound_r3 : List Cond := [Cond.instanceMethod yX4_responseOf, Cond.selects RX4 yX4_responseOf yX4_responseOf, Cond.code yX4_responseOf cX4_responseOf 6 (some .int), Cond.fieldLink RX4 196 "SpinKernel$Task" "deadline" "I", Cond.methodLink RX4 242 yX4_demandAbove, Cond.instanceMethod yX4_demandAbove, Cond.selects RX4 yX4_demandAbove yX4_demandAbove, Cond.code yX4_demandAbove cX4_demandAbove 8 (some .int), Cond.methodLink RX4 246 yX3_beginningsIn, Cond.instanceMethod yX3_beginningsIn, Cond.selects RX3 yX3_beginningsIn yX3_beginningsIn, Cond.code yX3_beginningsIn cX3_beginningsIn 2 (some .int), Cond.fieldLink RX3 36 "SpinKernel$Task" "distance" "I"]
def wsX4_bound : List Cond := .code yX4_bound cX4_bound 4 (some .int) :: ((wsX4_bound_r1 ++ (wsX4_bound_r2 ++ wsX4_bound_r3)) ++ wsX30 ++ wsX40 ++ wsX10 ++ (vx_at0 RX4 67 "java/lang/IllegalArgumentException" ["java/lang/RuntimeException", "java/lang/Exception"]).filter goodWord ++ (vx_at0 RX4 50 "java/lang/IndexOutOfBoundsException" ["java/lang/RuntimeException", "java/lang/Exception"]).filter goodWord)
def wsX4_seal_r1 : List Cond := [Cond.classLink RX4 58 "java/lang/IllegalStateException", Cond.initialized "java/lang/IllegalStateException", Cond.fieldLink RX4 51 "SpinKernel" "sealed" "Z", Cond.fieldLink RX4 11 "SpinKernel" "tasks" "[LSpinKernel$Task;", Cond.fieldLink RX4 55 "SpinKernel$Task" "isThere" "Z", Cond.methodLink RX4 106 yX4_responseOf, Cond.instanceMethod yX4_responseOf, Cond.selects RX4 yX4_responseOf yX4_responseOf, Cond.initialized RX4, Cond.code yX4_responseOf cX4_responseOf 6 (some .int), Cond.fieldLink RX4 99 "SpinKernel$Task" "inflated" "I", Cond.fieldLink RX4 196 "SpinKernel$Task" "deadline" "I", Cond.methodLink RX4 102 yX4_blockingOf, Cond.instanceMethod yX4_blockingOf, Cond.selects RX4 yX4_blockingOf yX4_blockingOf, Cond.code yX4_blockingOf cX4_blockingOf 7 (some .int), Cond.fieldLink RX4 230 "SpinKernel$Task" "core" "I", Cond.fieldLink RX4 207 "SpinKernel$Task" "priority" "I", Cond.methodLink RX4 164 Lib.Math.max.name, Cond.static Lib.Math.max.name, Cond.initialized "java/lang/Math", Cond.code Lib.Math.max.name Lib.Math.max.code 2 (some .int), Cond.methodLink RX4 203 yX3_isOn, Cond.instanceMethod yX3_isOn]
def wsX4_seal_r2 : List Cond := [Cond.selects RX3 yX3_isOn yX3_isOn, Cond.initialized RX3, Cond.code yX3_isOn cX3_isOn 2 (some .boolean), Cond.fieldLink RX3 25 "SpinKernel$Task" "isThere" "Z", Cond.fieldLink RX3 29 "SpinKernel$Task" "core" "I", Cond.methodLink RX4 239 yX3_longestStay, Cond.instanceMethod yX3_longestStay, Cond.selects RX3 yX3_longestStay yX3_longestStay, Cond.code yX3_longestStay cX3_longestStay 3 (some .int), Cond.fieldLink RX3 45 "SpinKernel$Task" "count" "I", Cond.fieldLink RX3 11 "SpinKernel$Task" "requests" "[LSpinKernel$Request;", Cond.fieldLink RX3 59 "SpinKernel$Request" "length" "I", Cond.fieldLink RX3 69 "SpinKernel$Request" "spinBound" "I", Cond.methodLink RX3 72 Lib.Math.max.name, Cond.methodLink RX3 48 yX1_isOuter, Cond.instanceMethod yX1_isOuter, Cond.selects RX1 yX1_isOuter yX1_isOuter, Cond.initialized RX1, Cond.code yX1_isOuter cX1_isOuter 1 (some .boolean), Cond.fieldLink RX1 21 "SpinKernel$Request" "in" "I", Cond.methodLink RX4 242 yX4_demandAbove, Cond.instanceMethod yX4_demandAbove, Cond.selects RX4 yX4_demandAbove yX4_demandAbove, Cond.code yX4_demandAbove cX4_demandAbove 8 (some .int)]
def wsX4_seal_r3 : List Cond := [Cond.methodLink RX4 246 yX3_beginningsIn, Cond.instanceMethod yX3_beginningsIn, Cond.selects RX3 yX3_beginningsIn yX3_beginningsIn, Cond.code yX3_beginningsIn cX3_beginningsIn 2 (some .int), Cond.fieldLink RX3 36 "SpinKernel$Task" "distance" "I"]
def wsX4_seal : List Cond := .code yX4_seal cX4_seal 2 (some .int) :: ((wsX4_seal_r1 ++ (wsX4_seal_r2 ++ wsX4_seal_r3)) ++ wsX40 ++ wsX30 ++ wsX10 ++ (vx_at0 RX4 60 "java/lang/IllegalStateException" ["java/lang/RuntimeException", "java/lang/Exception"]).filter goodWord)
def wsX4_isAnyJobOpen : List Cond := .code yX4_isAnyJobOpen cX4_isAnyJobOpen 5 (some .boolean) :: ([.fieldLink RX4 11 "SpinKernel" "tasks" "[LSpinKernel$Task;", .fieldLink RX4 119 "SpinKernel$Task" "job" "LSpinKernel$Job;", .fieldLink RX4 187 "SpinKernel$Job" "isOpen" "Z"] ++ wsX40 ++ wsX30 ++ wsX00)
def wsX4_unseal_r1 : List Cond := [Cond.classLink RX4 58 "java/lang/IllegalStateException", Cond.initialized "java/lang/IllegalStateException", Cond.fieldLink RX4 51 "SpinKernel" "sealed" "Z", Cond.fieldLink RX4 113 "SpinKernel" "now" "I", Cond.fieldLink RX4 30 "SpinKernel" "taskOfCore" "[I", Cond.fieldLink RX4 33 "SpinKernel" "deedOfCore" "[I", Cond.fieldLink RX4 11 "SpinKernel" "tasks" "[LSpinKernel$Task;", Cond.methodLink RX4 109 yX4_isAnyJobOpen, Cond.instanceMethod yX4_isAnyJobOpen, Cond.selects RX4 yX4_isAnyJobOpen yX4_isAnyJobOpen, Cond.initialized RX4, Cond.code yX4_isAnyJobOpen cX4_isAnyJobOpen 5 (some .boolean), Cond.fieldLink RX4 119 "SpinKernel$Task" "job" "LSpinKernel$Job;", Cond.fieldLink RX4 187 "SpinKernel$Job" "isOpen" "Z", Cond.methodLink RX4 38 yJ7_fill_53178, Cond.static yJ7_fill_53178, Cond.initialized RJ7, Cond.code yJ7_fill_53178 cJ7_fill_53178 4 none, Cond.methodLink RX4 116 yX3_forgetJobs, Cond.instanceMethod yX3_forgetJobs, Cond.selects RX3 yX3_forgetJobs yX3_forgetJobs, Cond.initialized RX3, Cond.code yX3_forgetJobs cX3_forgetJobs 2 none, Cond.fieldLink RX3 45 "SpinKernel$Task" "count" "I"]
def wsX4_unseal_r2 : List Cond := [Cond.fieldLink RX3 11 "SpinKernel$Task" "requests" "[LSpinKernel$Request;", Cond.fieldLink RX3 20 "SpinKernel$Task" "job" "LSpinKernel$Job;", Cond.methodLink RX3 92 yX1_forgetJobs, Cond.instanceMethod yX1_forgetJobs, Cond.selects RX1 yX1_forgetJobs yX1_forgetJobs, Cond.initialized RX1, Cond.code yX1_forgetJobs cX1_forgetJobs 1 none, Cond.fieldLink RX1 27 "SpinKernel$Request" "ticksOfNextJob" "I", Cond.fieldLink RX1 33 "SpinKernel$Request" "mostSpun" "I", Cond.methodLink RX3 95 yX0_forget, Cond.instanceMethod yX0_forget, Cond.selects RX0 yX0_forget yX0_forget, Cond.initialized RX0, Cond.code yX0_forget cX0_forget 1 none, Cond.fieldLink RX0 15 "SpinKernel$Job" "hasCome" "Z", Cond.fieldLink RX0 31 "SpinKernel$Job" "ended" "I", Cond.fieldLink RX0 46 "SpinKernel$Job" "endedLate" "I", Cond.fieldLink RX0 37 "SpinKernel$Job" "greatestResponse" "I", Cond.fieldLink RX0 34 "SpinKernel$Job" "latestResponse" "I"]
def wsX4_unseal : List Cond := .code yX4_unseal cX4_unseal 5 none :: ((wsX4_unseal_r1 ++ wsX4_unseal_r2) ++ wsX40 ++ wsX30 ++ wsX00 ++ wsX10 ++ (vx_at0 RX4 60 "java/lang/IllegalStateException" ["java/lang/RuntimeException", "java/lang/Exception"]).filter goodWord)
def wsX4_arrive_r1 : List Cond := [Cond.classLink RX4 58 "java/lang/IllegalStateException", Cond.initialized "java/lang/IllegalStateException", Cond.fieldLink RX4 51 "SpinKernel" "sealed" "Z", Cond.fieldLink RX4 119 "SpinKernel$Task" "job" "LSpinKernel$Job;", Cond.fieldLink RX4 123 "SpinKernel$Job" "hasCome" "Z", Cond.fieldLink RX4 113 "SpinKernel" "now" "I", Cond.fieldLink RX4 128 "SpinKernel$Job" "cameAt" "I", Cond.fieldLink RX4 131 "SpinKernel$Task" "distance" "I", Cond.methodLink RX4 75 yX4_taskAt, Cond.instanceMethod yX4_taskAt, Cond.selects RX4 yX4_taskAt yX4_taskAt, Cond.initialized RX4, Cond.code yX4_taskAt cX4_taskAt 2 (some (.object "SpinKernel$Task")), Cond.classLink RX4 48 "java/lang/IndexOutOfBoundsException", Cond.initialized "java/lang/IndexOutOfBoundsException", Cond.fieldLink RX4 11 "SpinKernel" "tasks" "[LSpinKernel$Task;", Cond.fieldLink RX4 55 "SpinKernel$Task" "isThere" "Z", Cond.methodLink RX4 44 yX4_isWithin, Cond.static yX4_isWithin, Cond.code yX4_isWithin cX4_isWithin 3 (some .boolean), Cond.methodLink RX4 134 yX3_startJob, Cond.instanceMethod yX3_startJob, Cond.selects RX3 yX3_startJob yX3_startJob, Cond.initialized RX3]
def wsX4_arrive_r2 : List Cond := [Cond.code yX3_startJob cX3_startJob 3 none, Cond.fieldLink RX3 45 "SpinKernel$Task" "count" "I", Cond.fieldLink RX3 11 "SpinKernel$Task" "requests" "[LSpinKernel$Request;", Cond.fieldLink RX3 20 "SpinKernel$Task" "job" "LSpinKernel$Job;", Cond.methodLink RX3 78 yX1_startJob, Cond.instanceMethod yX1_startJob, Cond.selects RX1 yX1_startJob yX1_startJob, Cond.initialized RX1, Cond.code yX1_startJob cX1_startJob 1 none, Cond.fieldLink RX1 27 "SpinKernel$Request" "ticksOfNextJob" "I", Cond.fieldLink RX1 18 "SpinKernel$Request" "length" "I", Cond.fieldLink RX1 30 "SpinKernel$Request" "ticksOfJob" "I", Cond.methodLink RX3 81 yX3_outerFrom, Cond.instanceMethod yX3_outerFrom, Cond.selects RX3 yX3_outerFrom yX3_outerFrom, Cond.code yX3_outerFrom cX3_outerFrom 3 (some .int), Cond.methodLink RX3 48 yX1_isOuter, Cond.instanceMethod yX1_isOuter, Cond.selects RX1 yX1_isOuter yX1_isOuter, Cond.code yX1_isOuter cX1_isOuter 1 (some .boolean), Cond.fieldLink RX1 21 "SpinKernel$Request" "in" "I", Cond.methodLink RX3 85 yX0_start, Cond.instanceMethod yX0_start, Cond.selects RX0 yX0_start yX0_start]
def wsX4_arrive_r3 : List Cond := [Cond.initialized RX0, Cond.code yX0_start cX0_start 3 none, Cond.fieldLink RX0 15 "SpinKernel$Job" "hasCome" "Z", Cond.fieldLink RX0 19 "SpinKernel$Job" "isOpen" "Z", Cond.fieldLink RX0 22 "SpinKernel$Job" "cameAt" "I", Cond.fieldLink RX0 9 "SpinKernel$Job" "state" "I", Cond.fieldLink RX0 25 "SpinKernel$Job" "workDone" "I", Cond.fieldLink RX0 28 "SpinKernel$Job" "next" "I"]
def wsX4_arrive : List Cond := .code yX4_arrive cX4_arrive 3 (some .boolean) :: ((wsX4_arrive_r1 ++ (wsX4_arrive_r2 ++ wsX4_arrive_r3)) ++ wsX40 ++ wsX30 ++ wsX00 ++ wsX10 ++ (vx_at0 RX4 60 "java/lang/IllegalStateException" ["java/lang/RuntimeException", "java/lang/Exception"]).filter goodWord ++ (vx_at0 RX4 50 "java/lang/IndexOutOfBoundsException" ["java/lang/RuntimeException", "java/lang/Exception"]).filter goodWord)
def wsX4_shorten_r1 : List Cond := [Cond.classLink RX4 58 "java/lang/IllegalStateException", Cond.initialized "java/lang/IllegalStateException", Cond.classLink RX4 65 "java/lang/IllegalArgumentException", Cond.initialized "java/lang/IllegalArgumentException", Cond.fieldLink RX4 51 "SpinKernel" "sealed" "Z", Cond.fieldLink RX4 141 "SpinKernel$Request" "length" "I", Cond.fieldLink RX4 144 "SpinKernel$Request" "ticksOfNextJob" "I", Cond.methodLink RX4 75 yX4_taskAt, Cond.instanceMethod yX4_taskAt, Cond.selects RX4 yX4_taskAt yX4_taskAt, Cond.initialized RX4, Cond.code yX4_taskAt cX4_taskAt 2 (some (.object "SpinKernel$Task")), Cond.classLink RX4 48 "java/lang/IndexOutOfBoundsException", Cond.initialized "java/lang/IndexOutOfBoundsException", Cond.fieldLink RX4 11 "SpinKernel" "tasks" "[LSpinKernel$Task;", Cond.fieldLink RX4 55 "SpinKernel$Task" "isThere" "Z", Cond.methodLink RX4 44 yX4_isWithin, Cond.static yX4_isWithin, Cond.code yX4_isWithin cX4_isWithin 3 (some .boolean), Cond.methodLink RX4 90 yX4_requestAt, Cond.static yX4_requestAt, Cond.code yX4_requestAt cX4_requestAt 2 (some (.object "SpinKernel$Request")), Cond.fieldLink RX4 79 "SpinKernel$Task" "count" "I", Cond.fieldLink RX4 199 "SpinKernel$Task" "requests" "[LSpinKernel$Request;"]
def wsX4_shorten_r2 : List Cond := [Cond.methodLink RX4 138 yX1_isOuter, Cond.instanceMethod yX1_isOuter, Cond.selects RX1 yX1_isOuter yX1_isOuter, Cond.initialized RX1, Cond.code yX1_isOuter cX1_isOuter 1 (some .boolean), Cond.fieldLink RX1 21 "SpinKernel$Request" "in" "I"]
def wsX4_shorten : List Cond := .code yX4_shorten cX4_shorten 5 none :: ((wsX4_shorten_r1 ++ wsX4_shorten_r2) ++ wsX40 ++ wsX10 ++ wsX30 ++ (vx_at0 RX4 60 "java/lang/IllegalStateException" ["java/lang/RuntimeException", "java/lang/Exception"]).filter goodWord ++ (vx_at0 RX4 67 "java/lang/IllegalArgumentException" ["java/lang/RuntimeException", "java/lang/Exception"]).filter goodWord ++ (vx_at0 RX4 50 "java/lang/IndexOutOfBoundsException" ["java/lang/RuntimeException", "java/lang/Exception"]).filter goodWord)
def wsX4_isHeldFast : List Cond := .code yX4_isHeldFast cX4_isHeldFast 3 (some .boolean) :: ([.fieldLink RX4 30 "SpinKernel" "taskOfCore" "[I", .fieldLink RX4 11 "SpinKernel" "tasks" "[LSpinKernel$Task;", .fieldLink RX4 119 "SpinKernel$Task" "job" "LSpinKernel$Job;", .fieldLink RX4 258 "SpinKernel$Job" "state" "I"] ++ wsX40 ++ wsX30 ++ wsX00)
def wsX4_mostUrgentOn : List Cond := .code yX4_mostUrgentOn cX4_mostUrgentOn 5 (some .int) :: ([.fieldLink RX4 11 "SpinKernel" "tasks" "[LSpinKernel$Task;", .fieldLink RX4 119 "SpinKernel$Task" "job" "LSpinKernel$Job;", .fieldLink RX4 187 "SpinKernel$Job" "isOpen" "Z", .fieldLink RX4 207 "SpinKernel$Task" "priority" "I", .methodLink RX4 203 yX3_isOn, .instanceMethod yX3_isOn, .selects RX3 yX3_isOn yX3_isOn, .initialized RX3, .code yX3_isOn cX3_isOn 2 (some .boolean), .fieldLink RX3 25 "SpinKernel$Task" "isThere" "Z", .fieldLink RX3 29 "SpinKernel$Task" "core" "I"] ++ wsX40 ++ wsX30 ++ wsX00)
def wsX4_rowOf : List Cond := .code yX4_rowOf cX4_rowOf 2 (some (.object "SpinKernel$Row")) :: ([.fieldLink RX4 17 "SpinKernel" "rows" "[LSpinKernel$Row;", .fieldLink RX4 21 "SpinKernel" "leastOfGroup" "[I"] ++ wsX40)
def wsX4_askIfDue_r1 : List Cond := [Cond.fieldLink RX4 30 "SpinKernel" "taskOfCore" "[I", Cond.fieldLink RX4 11 "SpinKernel" "tasks" "[LSpinKernel$Task;", Cond.fieldLink RX4 220 "SpinKernel$Request" "lock" "I", Cond.methodLink RX4 261 yX3_hasToAsk, Cond.instanceMethod yX3_hasToAsk, Cond.selects RX3 yX3_hasToAsk yX3_hasToAsk, Cond.initialized RX3, Cond.code yX3_hasToAsk cX3_hasToAsk 1 (some .boolean), Cond.fieldLink RX3 20 "SpinKernel$Task" "job" "LSpinKernel$Job;", Cond.fieldLink RX3 98 "SpinKernel$Job" "next" "I", Cond.fieldLink RX3 45 "SpinKernel$Task" "count" "I", Cond.fieldLink RX3 62 "SpinKernel$Request" "after" "I", Cond.fieldLink RX3 108 "SpinKernel$Job" "workDone" "I", Cond.methodLink RX3 104 yX3_nextRequest, Cond.instanceMethod yX3_nextRequest, Cond.selects RX3 yX3_nextRequest yX3_nextRequest, Cond.code yX3_nextRequest cX3_nextRequest 1 (some (.object "SpinKernel$Request")), Cond.fieldLink RX3 11 "SpinKernel$Task" "requests" "[LSpinKernel$Request;", Cond.methodLink RX3 101 Lib.Math.min.name, Cond.static Lib.Math.min.name, Cond.initialized "java/lang/Math", Cond.code Lib.Math.min.name Lib.Math.min.code 2 (some .int), Cond.methodLink RX4 264 yX3_startSpinning, Cond.instanceMethod yX3_startSpinning]
def wsX4_askIfDue_r2 : List Cond := [Cond.selects RX3 yX3_startSpinning yX3_startSpinning, Cond.code yX3_startSpinning cX3_startSpinning 1 none, Cond.fieldLink RX3 111 "SpinKernel$Job" "state" "I", Cond.fieldLink RX3 114 "SpinKernel$Job" "spinning" "I", Cond.methodLink RX4 267 yX3_nextRequest, Cond.methodLink RX4 171 yX4_rowOf, Cond.instanceMethod yX4_rowOf, Cond.selects RX4 yX4_rowOf yX4_rowOf, Cond.initialized RX4, Cond.code yX4_rowOf cX4_rowOf 2 (some (.object "SpinKernel$Row")), Cond.fieldLink RX4 17 "SpinKernel" "rows" "[LSpinKernel$Row;", Cond.fieldLink RX4 21 "SpinKernel" "leastOfGroup" "[I", Cond.methodLink RX4 271 yX2_join, Cond.instanceMethod yX2_join, Cond.selects RX2 yX2_join yX2_join, Cond.initialized RX2, Cond.code yX2_join cX2_join 2 none, Cond.fieldLink RX2 15 "SpinKernel$Row" "size" "I", Cond.fieldLink RX2 9 "SpinKernel$Row" "cores" "[I"]
def wsX4_askIfDue : List Cond := .code yX4_askIfDue cX4_askIfDue 3 none :: ((wsX4_askIfDue_r1 ++ wsX4_askIfDue_r2) ++ wsX40 ++ wsX10 ++ wsX30 ++ wsX00 ++ wsX20)
def wsX4_takeJobs_r1 : List Cond := [Cond.fieldLink RX4 30 "SpinKernel" "taskOfCore" "[I", Cond.methodLink RX4 249 yX4_isHeldFast, Cond.instanceMethod yX4_isHeldFast, Cond.selects RX4 yX4_isHeldFast yX4_isHeldFast, Cond.initialized RX4, Cond.code yX4_isHeldFast cX4_isHeldFast 3 (some .boolean), Cond.fieldLink RX4 11 "SpinKernel" "tasks" "[LSpinKernel$Task;", Cond.fieldLink RX4 119 "SpinKernel$Task" "job" "LSpinKernel$Job;", Cond.fieldLink RX4 258 "SpinKernel$Job" "state" "I", Cond.methodLink RX4 252 yX4_mostUrgentOn, Cond.instanceMethod yX4_mostUrgentOn, Cond.selects RX4 yX4_mostUrgentOn yX4_mostUrgentOn, Cond.code yX4_mostUrgentOn cX4_mostUrgentOn 5 (some .int), Cond.fieldLink RX4 187 "SpinKernel$Job" "isOpen" "Z", Cond.fieldLink RX4 207 "SpinKernel$Task" "priority" "I", Cond.methodLink RX4 203 yX3_isOn, Cond.instanceMethod yX3_isOn, Cond.selects RX3 yX3_isOn yX3_isOn, Cond.initialized RX3, Cond.code yX3_isOn cX3_isOn 2 (some .boolean), Cond.fieldLink RX3 25 "SpinKernel$Task" "isThere" "Z", Cond.fieldLink RX3 29 "SpinKernel$Task" "core" "I", Cond.methodLink RX4 255 yX4_askIfDue, Cond.instanceMethod yX4_askIfDue]
def wsX4_takeJobs_r2 : List Cond := [Cond.selects RX4 yX4_askIfDue yX4_askIfDue, Cond.code yX4_askIfDue cX4_askIfDue 3 none, Cond.fieldLink RX4 220 "SpinKernel$Request" "lock" "I", Cond.methodLink RX4 261 yX3_hasToAsk, Cond.instanceMethod yX3_hasToAsk, Cond.selects RX3 yX3_hasToAsk yX3_hasToAsk, Cond.code yX3_hasToAsk cX3_hasToAsk 1 (some .boolean), Cond.fieldLink RX3 20 "SpinKernel$Task" "job" "LSpinKernel$Job;", Cond.fieldLink RX3 98 "SpinKernel$Job" "next" "I", Cond.fieldLink RX3 45 "SpinKernel$Task" "count" "I", Cond.fieldLink RX3 62 "SpinKernel$Request" "after" "I", Cond.fieldLink RX3 108 "SpinKernel$Job" "workDone" "I", Cond.methodLink RX3 104 yX3_nextRequest, Cond.instanceMethod yX3_nextRequest, Cond.selects RX3 yX3_nextRequest yX3_nextRequest, Cond.code yX3_nextRequest cX3_nextRequest 1 (some (.object "SpinKernel$Request")), Cond.fieldLink RX3 11 "SpinKernel$Task" "requests" "[LSpinKernel$Request;", Cond.methodLink RX3 101 Lib.Math.min.name, Cond.static Lib.Math.min.name, Cond.initialized "java/lang/Math", Cond.code Lib.Math.min.name Lib.Math.min.code 2 (some .int), Cond.methodLink RX4 264 yX3_startSpinning, Cond.instanceMethod yX3_startSpinning, Cond.selects RX3 yX3_startSpinning yX3_startSpinning]
def wsX4_takeJobs_r3 : List Cond := [Cond.code yX3_startSpinning cX3_startSpinning 1 none, Cond.fieldLink RX3 111 "SpinKernel$Job" "state" "I", Cond.fieldLink RX3 114 "SpinKernel$Job" "spinning" "I", Cond.methodLink RX4 267 yX3_nextRequest, Cond.methodLink RX4 171 yX4_rowOf, Cond.instanceMethod yX4_rowOf, Cond.selects RX4 yX4_rowOf yX4_rowOf, Cond.code yX4_rowOf cX4_rowOf 2 (some (.object "SpinKernel$Row")), Cond.fieldLink RX4 17 "SpinKernel" "rows" "[LSpinKernel$Row;", Cond.fieldLink RX4 21 "SpinKernel" "leastOfGroup" "[I", Cond.methodLink RX4 271 yX2_join, Cond.instanceMethod yX2_join, Cond.selects RX2 yX2_join yX2_join, Cond.initialized RX2, Cond.code yX2_join cX2_join 2 none, Cond.fieldLink RX2 15 "SpinKernel$Row" "size" "I", Cond.fieldLink RX2 9 "SpinKernel$Row" "cores" "[I"]
def wsX4_takeJobs : List Cond := .code yX4_takeJobs cX4_takeJobs 2 none :: ((wsX4_takeJobs_r1 ++ (wsX4_takeJobs_r2 ++ wsX4_takeJobs_r3)) ++ wsX40 ++ wsX30 ++ wsX00 ++ wsX10 ++ wsX20)
def wsX4_letFirstsHold_r1 : List Cond := [Cond.fieldLink RX4 17 "SpinKernel" "rows" "[LSpinKernel$Row;", Cond.fieldLink RX4 30 "SpinKernel" "taskOfCore" "[I", Cond.fieldLink RX4 11 "SpinKernel" "tasks" "[LSpinKernel$Task;", Cond.fieldLink RX4 119 "SpinKernel$Task" "job" "LSpinKernel$Job;", Cond.fieldLink RX4 258 "SpinKernel$Job" "state" "I", Cond.methodLink RX4 175 yX2_coreAt, Cond.instanceMethod yX2_coreAt, Cond.selects RX2 yX2_coreAt yX2_coreAt, Cond.initialized RX2, Cond.code yX2_coreAt cX2_coreAt 2 (some .int), Cond.fieldLink RX2 15 "SpinKernel$Row" "size" "I", Cond.fieldLink RX2 9 "SpinKernel$Row" "cores" "[I", Cond.methodLink RX4 274 yX3_startHolding, Cond.instanceMethod yX3_startHolding, Cond.selects RX3 yX3_startHolding yX3_startHolding, Cond.initialized RX3, Cond.code yX3_startHolding cX3_startHolding 1 none, Cond.fieldLink RX3 20 "SpinKernel$Task" "job" "LSpinKernel$Job;", Cond.fieldLink RX3 111 "SpinKernel$Job" "state" "I", Cond.fieldLink RX3 120 "SpinKernel$Request" "ticksOfJob" "I", Cond.fieldLink RX3 123 "SpinKernel$Job" "sectionLeft" "I", Cond.methodLink RX3 104 yX3_nextRequest, Cond.instanceMethod yX3_nextRequest, Cond.selects RX3 yX3_nextRequest yX3_nextRequest]
def wsX4_letFirstsHold_r2 : List Cond := [Cond.code yX3_nextRequest cX3_nextRequest 1 (some (.object "SpinKernel$Request")), Cond.fieldLink RX3 11 "SpinKernel$Task" "requests" "[LSpinKernel$Request;", Cond.fieldLink RX3 98 "SpinKernel$Job" "next" "I", Cond.methodLink RX3 101 Lib.Math.min.name, Cond.static Lib.Math.min.name, Cond.initialized "java/lang/Math", Cond.code Lib.Math.min.name Lib.Math.min.code 2 (some .int)]
def wsX4_letFirstsHold : List Cond := .code yX4_letFirstsHold cX4_letFirstsHold 7 none :: ((wsX4_letFirstsHold_r1 ++ wsX4_letFirstsHold_r2) ++ wsX40 ++ wsX30 ++ wsX00 ++ wsX20 ++ wsX10)
def wsX4_ticksAlike_r1 : List Cond := [Cond.constant RX4 147 (100000), Cond.fieldLink RX4 30 "SpinKernel" "taskOfCore" "[I", Cond.fieldLink RX4 11 "SpinKernel" "tasks" "[LSpinKernel$Task;", Cond.fieldLink RX4 119 "SpinKernel$Task" "job" "LSpinKernel$Job;", Cond.fieldLink RX4 258 "SpinKernel$Job" "state" "I", Cond.methodLink RX4 158 Lib.Math.min.name, Cond.static Lib.Math.min.name, Cond.initialized "java/lang/Math", Cond.code Lib.Math.min.name Lib.Math.min.code 2 (some .int), Cond.methodLink RX4 277 yX3_ticksToChange, Cond.instanceMethod yX3_ticksToChange, Cond.selects RX3 yX3_ticksToChange yX3_ticksToChange, Cond.initialized RX3, Cond.code yX3_ticksToChange cX3_ticksToChange 2 (some .int), Cond.fieldLink RX3 20 "SpinKernel$Task" "job" "LSpinKernel$Job;", Cond.fieldLink RX3 111 "SpinKernel$Job" "state" "I", Cond.fieldLink RX3 123 "SpinKernel$Job" "sectionLeft" "I", Cond.fieldLink RX3 98 "SpinKernel$Job" "next" "I", Cond.fieldLink RX3 45 "SpinKernel$Task" "count" "I", Cond.fieldLink RX3 62 "SpinKernel$Request" "after" "I", Cond.fieldLink RX3 42 "SpinKernel$Task" "work" "I", Cond.fieldLink RX3 108 "SpinKernel$Job" "workDone" "I", Cond.methodLink RX3 104 yX3_nextRequest, Cond.instanceMethod yX3_nextRequest]
def wsX4_ticksAlike_r2 : List Cond := [Cond.selects RX3 yX3_nextRequest yX3_nextRequest, Cond.code yX3_nextRequest cX3_nextRequest 1 (some (.object "SpinKernel$Request")), Cond.fieldLink RX3 11 "SpinKernel$Task" "requests" "[LSpinKernel$Request;", Cond.methodLink RX3 101 Lib.Math.min.name]
def wsX4_ticksAlike : List Cond := .code yX4_ticksAlike cX4_ticksAlike 4 (some .int) :: ((wsX4_ticksAlike_r1 ++ wsX4_ticksAlike_r2) ++ wsX40 ++ wsX30 ++ wsX00 ++ wsX10)
def wsX4_holdFor_r1 : List Cond := [Cond.fieldLink RX4 119 "SpinKernel$Task" "job" "LSpinKernel$Job;", Cond.fieldLink RX4 300 "SpinKernel$Job" "sectionLeft" "I", Cond.fieldLink RX4 220 "SpinKernel$Request" "lock" "I", Cond.methodLink RX4 267 yX3_nextRequest, Cond.instanceMethod yX3_nextRequest, Cond.selects RX3 yX3_nextRequest yX3_nextRequest, Cond.initialized RX3, Cond.code yX3_nextRequest cX3_nextRequest 1 (some (.object "SpinKernel$Request")), Cond.fieldLink RX3 11 "SpinKernel$Task" "requests" "[LSpinKernel$Request;", Cond.fieldLink RX3 20 "SpinKernel$Task" "job" "LSpinKernel$Job;", Cond.fieldLink RX3 98 "SpinKernel$Job" "next" "I", Cond.methodLink RX3 101 Lib.Math.min.name, Cond.static Lib.Math.min.name, Cond.initialized "java/lang/Math", Cond.code Lib.Math.min.name Lib.Math.min.code 2 (some .int), Cond.methodLink RX4 171 yX4_rowOf, Cond.instanceMethod yX4_rowOf, Cond.selects RX4 yX4_rowOf yX4_rowOf, Cond.initialized RX4, Cond.code yX4_rowOf cX4_rowOf 2 (some (.object "SpinKernel$Row")), Cond.fieldLink RX4 17 "SpinKernel" "rows" "[LSpinKernel$Row;", Cond.fieldLink RX4 21 "SpinKernel" "leastOfGroup" "[I", Cond.methodLink RX4 303 yX2_dropFirst, Cond.instanceMethod yX2_dropFirst]
def wsX4_holdFor_r2 : List Cond := [Cond.selects RX2 yX2_dropFirst yX2_dropFirst, Cond.initialized RX2, Cond.code yX2_dropFirst cX2_dropFirst 2 none, Cond.fieldLink RX2 15 "SpinKernel$Row" "size" "I", Cond.fieldLink RX2 9 "SpinKernel$Row" "cores" "[I", Cond.methodLink RX2 19 Lib.Math.max.name, Cond.static Lib.Math.max.name, Cond.code Lib.Math.max.name Lib.Math.max.code 2 (some .int), Cond.methodLink RX4 306 yX3_leaveSection, Cond.instanceMethod yX3_leaveSection, Cond.selects RX3 yX3_leaveSection yX3_leaveSection, Cond.code yX3_leaveSection cX3_leaveSection 1 none, Cond.fieldLink RX3 111 "SpinKernel$Job" "state" "I", Cond.methodLink RX3 81 yX3_outerFrom, Cond.instanceMethod yX3_outerFrom, Cond.selects RX3 yX3_outerFrom yX3_outerFrom, Cond.code yX3_outerFrom cX3_outerFrom 3 (some .int), Cond.fieldLink RX3 45 "SpinKernel$Task" "count" "I", Cond.methodLink RX3 48 yX1_isOuter, Cond.instanceMethod yX1_isOuter, Cond.selects RX1 yX1_isOuter yX1_isOuter, Cond.initialized RX1, Cond.code yX1_isOuter cX1_isOuter 1 (some .boolean), Cond.fieldLink RX1 21 "SpinKernel$Request" "in" "I"]
def wsX4_holdFor : List Cond := .code yX4_holdFor cX4_holdFor 3 none :: ((wsX4_holdFor_r1 ++ wsX4_holdFor_r2) ++ wsX30 ++ wsX00 ++ wsX10 ++ wsX40 ++ wsX20)
def wsX4_workOnJob_r1 : List Cond := [Cond.fieldLink RX4 119 "SpinKernel$Task" "job" "LSpinKernel$Job;", Cond.fieldLink RX4 258 "SpinKernel$Job" "state" "I", Cond.fieldLink RX4 287 "SpinKernel$Job" "workDone" "I", Cond.fieldLink RX4 113 "SpinKernel" "now" "I", Cond.methodLink RX4 284 yX3_spinFor, Cond.instanceMethod yX3_spinFor, Cond.selects RX3 yX3_spinFor yX3_spinFor, Cond.initialized RX3, Cond.code yX3_spinFor cX3_spinFor 3 none, Cond.fieldLink RX3 20 "SpinKernel$Task" "job" "LSpinKernel$Job;", Cond.fieldLink RX3 114 "SpinKernel$Job" "spinning" "I", Cond.fieldLink RX3 117 "SpinKernel$Request" "mostSpun" "I", Cond.methodLink RX3 72 Lib.Math.max.name, Cond.static Lib.Math.max.name, Cond.initialized "java/lang/Math", Cond.code Lib.Math.max.name Lib.Math.max.code 2 (some .int), Cond.methodLink RX3 104 yX3_nextRequest, Cond.instanceMethod yX3_nextRequest, Cond.selects RX3 yX3_nextRequest yX3_nextRequest, Cond.code yX3_nextRequest cX3_nextRequest 1 (some (.object "SpinKernel$Request")), Cond.fieldLink RX3 11 "SpinKernel$Task" "requests" "[LSpinKernel$Request;", Cond.fieldLink RX3 98 "SpinKernel$Job" "next" "I", Cond.methodLink RX3 101 Lib.Math.min.name, Cond.static Lib.Math.min.name]
def wsX4_workOnJob_r2 : List Cond := [Cond.code Lib.Math.min.name Lib.Math.min.code 2 (some .int), Cond.methodLink RX4 290 yX4_holdFor, Cond.instanceMethod yX4_holdFor, Cond.selects RX4 yX4_holdFor yX4_holdFor, Cond.initialized RX4, Cond.code yX4_holdFor cX4_holdFor 3 none, Cond.fieldLink RX4 300 "SpinKernel$Job" "sectionLeft" "I", Cond.fieldLink RX4 220 "SpinKernel$Request" "lock" "I", Cond.methodLink RX4 267 yX3_nextRequest, Cond.methodLink RX4 171 yX4_rowOf, Cond.instanceMethod yX4_rowOf, Cond.selects RX4 yX4_rowOf yX4_rowOf, Cond.code yX4_rowOf cX4_rowOf 2 (some (.object "SpinKernel$Row")), Cond.fieldLink RX4 17 "SpinKernel" "rows" "[LSpinKernel$Row;", Cond.fieldLink RX4 21 "SpinKernel" "leastOfGroup" "[I", Cond.methodLink RX4 303 yX2_dropFirst, Cond.instanceMethod yX2_dropFirst, Cond.selects RX2 yX2_dropFirst yX2_dropFirst, Cond.initialized RX2, Cond.code yX2_dropFirst cX2_dropFirst 2 none, Cond.fieldLink RX2 15 "SpinKernel$Row" "size" "I", Cond.fieldLink RX2 9 "SpinKernel$Row" "cores" "[I", Cond.methodLink RX2 19 Lib.Math.max.name, Cond.methodLink RX4 306 yX3_leaveSection]
def wsX4_workOnJob_r3 : List Cond := [Cond.instanceMethod yX3_leaveSection, Cond.selects RX3 yX3_leaveSection yX3_leaveSection, Cond.code yX3_leaveSection cX3_leaveSection 1 none, Cond.fieldLink RX3 111 "SpinKernel$Job" "state" "I", Cond.methodLink RX3 81 yX3_outerFrom, Cond.instanceMethod yX3_outerFrom, Cond.selects RX3 yX3_outerFrom yX3_outerFrom, Cond.code yX3_outerFrom cX3_outerFrom 3 (some .int), Cond.fieldLink RX3 45 "SpinKernel$Task" "count" "I", Cond.methodLink RX3 48 yX1_isOuter, Cond.instanceMethod yX1_isOuter, Cond.selects RX1 yX1_isOuter yX1_isOuter, Cond.initialized RX1, Cond.code yX1_isOuter cX1_isOuter 1 (some .boolean), Cond.fieldLink RX1 21 "SpinKernel$Request" "in" "I", Cond.methodLink RX4 294 yX3_isAllDone, Cond.instanceMethod yX3_isAllDone, Cond.selects RX3 yX3_isAllDone yX3_isAllDone, Cond.code yX3_isAllDone cX3_isAllDone 1 (some .boolean), Cond.fieldLink RX3 108 "SpinKernel$Job" "workDone" "I", Cond.fieldLink RX3 42 "SpinKernel$Task" "work" "I", Cond.methodLink RX4 297 yX3_endJob, Cond.instanceMethod yX3_endJob, Cond.selects RX3 yX3_endJob yX3_endJob]
def wsX4_workOnJob_r4 : List Cond := [Cond.code yX3_endJob cX3_endJob 2 none, Cond.fieldLink RX3 39 "SpinKernel$Task" "deadline" "I", Cond.methodLink RX3 89 yX0_end, Cond.instanceMethod yX0_end, Cond.selects RX0 yX0_end yX0_end, Cond.initialized RX0, Cond.code yX0_end cX0_end 3 none, Cond.fieldLink RX0 19 "SpinKernel$Job" "isOpen" "Z", Cond.fieldLink RX0 31 "SpinKernel$Job" "ended" "I", Cond.fieldLink RX0 22 "SpinKernel$Job" "cameAt" "I", Cond.fieldLink RX0 34 "SpinKernel$Job" "latestResponse" "I", Cond.fieldLink RX0 37 "SpinKernel$Job" "greatestResponse" "I", Cond.methodLink RX0 40 Lib.Math.max.name, Cond.fieldLink RX0 46 "SpinKernel$Job" "endedLate" "I"]
def wsX4_workOnJob : List Cond := .code yX4_workOnJob cX4_workOnJob 3 (some .boolean) :: ((wsX4_workOnJob_r1 ++ (wsX4_workOnJob_r2 ++ (wsX4_workOnJob_r3 ++ wsX4_workOnJob_r4))) ++ wsX30 ++ wsX00 ++ wsX40 ++ wsX10 ++ wsX20)
def wsX4_workOn_r1 : List Cond := [Cond.fieldLink RX4 30 "SpinKernel" "taskOfCore" "[I", Cond.fieldLink RX4 33 "SpinKernel" "deedOfCore" "[I", Cond.fieldLink RX4 11 "SpinKernel" "tasks" "[LSpinKernel$Task;", Cond.fieldLink RX4 119 "SpinKernel$Task" "job" "LSpinKernel$Job;", Cond.fieldLink RX4 258 "SpinKernel$Job" "state" "I", Cond.methodLink RX4 280 yX4_workOnJob, Cond.instanceMethod yX4_workOnJob, Cond.selects RX4 yX4_workOnJob yX4_workOnJob, Cond.initialized RX4, Cond.code yX4_workOnJob cX4_workOnJob 3 (some .boolean), Cond.fieldLink RX4 287 "SpinKernel$Job" "workDone" "I", Cond.fieldLink RX4 113 "SpinKernel" "now" "I", Cond.methodLink RX4 284 yX3_spinFor, Cond.instanceMethod yX3_spinFor, Cond.selects RX3 yX3_spinFor yX3_spinFor, Cond.initialized RX3, Cond.code yX3_spinFor cX3_spinFor 3 none, Cond.fieldLink RX3 20 "SpinKernel$Task" "job" "LSpinKernel$Job;", Cond.fieldLink RX3 114 "SpinKernel$Job" "spinning" "I", Cond.fieldLink RX3 117 "SpinKernel$Request" "mostSpun" "I", Cond.methodLink RX3 72 Lib.Math.max.name, Cond.static Lib.Math.max.name, Cond.initialized "java/lang/Math", Cond.code Lib.Math.max.name Lib.Math.max.code 2 (some .int)]
def wsX4_workOn_r2 : List Cond := [Cond.methodLink RX3 104 yX3_nextRequest, Cond.instanceMethod yX3_nextRequest, Cond.selects RX3 yX3_nextRequest yX3_nextRequest, Cond.code yX3_nextRequest cX3_nextRequest 1 (some (.object "SpinKernel$Request")), Cond.fieldLink RX3 11 "SpinKernel$Task" "requests" "[LSpinKernel$Request;", Cond.fieldLink RX3 98 "SpinKernel$Job" "next" "I", Cond.methodLink RX3 101 Lib.Math.min.name, Cond.static Lib.Math.min.name, Cond.code Lib.Math.min.name Lib.Math.min.code 2 (some .int), Cond.methodLink RX4 290 yX4_holdFor, Cond.instanceMethod yX4_holdFor, Cond.selects RX4 yX4_holdFor yX4_holdFor, Cond.code yX4_holdFor cX4_holdFor 3 none, Cond.fieldLink RX4 300 "SpinKernel$Job" "sectionLeft" "I", Cond.fieldLink RX4 220 "SpinKernel$Request" "lock" "I", Cond.methodLink RX4 267 yX3_nextRequest, Cond.methodLink RX4 171 yX4_rowOf, Cond.instanceMethod yX4_rowOf, Cond.selects RX4 yX4_rowOf yX4_rowOf, Cond.code yX4_rowOf cX4_rowOf 2 (some (.object "SpinKernel$Row")), Cond.fieldLink RX4 17 "SpinKernel" "rows" "[LSpinKernel$Row;", Cond.fieldLink RX4 21 "SpinKernel" "leastOfGroup" "[I", Cond.methodLink RX4 303 yX2_dropFirst, Cond.instanceMethod yX2_dropFirst]
def wsX4_workOn_r3 : List Cond := [Cond.selects RX2 yX2_dropFirst yX2_dropFirst, Cond.initialized RX2, Cond.code yX2_dropFirst cX2_dropFirst 2 none, Cond.fieldLink RX2 15 "SpinKernel$Row" "size" "I", Cond.fieldLink RX2 9 "SpinKernel$Row" "cores" "[I", Cond.methodLink RX2 19 Lib.Math.max.name, Cond.methodLink RX4 306 yX3_leaveSection, Cond.instanceMethod yX3_leaveSection, Cond.selects RX3 yX3_leaveSection yX3_leaveSection, Cond.code yX3_leaveSection cX3_leaveSection 1 none, Cond.fieldLink RX3 111 "SpinKernel$Job" "state" "I", Cond.methodLink RX3 81 yX3_outerFrom, Cond.instanceMethod yX3_outerFrom, Cond.selects RX3 yX3_outerFrom yX3_outerFrom, Cond.code yX3_outerFrom cX3_outerFrom 3 (some .int), Cond.fieldLink RX3 45 "SpinKernel$Task" "count" "I", Cond.methodLink RX3 48 yX1_isOuter, Cond.instanceMethod yX1_isOuter, Cond.selects RX1 yX1_isOuter yX1_isOuter, Cond.initialized RX1, Cond.code yX1_isOuter cX1_isOuter 1 (some .boolean), Cond.fieldLink RX1 21 "SpinKernel$Request" "in" "I", Cond.methodLink RX4 294 yX3_isAllDone, Cond.instanceMethod yX3_isAllDone]
def wsX4_workOn_r4 : List Cond := [Cond.selects RX3 yX3_isAllDone yX3_isAllDone, Cond.code yX3_isAllDone cX3_isAllDone 1 (some .boolean), Cond.fieldLink RX3 108 "SpinKernel$Job" "workDone" "I", Cond.fieldLink RX3 42 "SpinKernel$Task" "work" "I", Cond.methodLink RX4 297 yX3_endJob, Cond.instanceMethod yX3_endJob, Cond.selects RX3 yX3_endJob yX3_endJob, Cond.code yX3_endJob cX3_endJob 2 none, Cond.fieldLink RX3 39 "SpinKernel$Task" "deadline" "I", Cond.methodLink RX3 89 yX0_end, Cond.instanceMethod yX0_end, Cond.selects RX0 yX0_end yX0_end, Cond.initialized RX0, Cond.code yX0_end cX0_end 3 none, Cond.fieldLink RX0 19 "SpinKernel$Job" "isOpen" "Z", Cond.fieldLink RX0 31 "SpinKernel$Job" "ended" "I", Cond.fieldLink RX0 22 "SpinKernel$Job" "cameAt" "I", Cond.fieldLink RX0 34 "SpinKernel$Job" "latestResponse" "I", Cond.fieldLink RX0 37 "SpinKernel$Job" "greatestResponse" "I", Cond.methodLink RX0 40 Lib.Math.max.name, Cond.fieldLink RX0 46 "SpinKernel$Job" "endedLate" "I"]
def wsX4_workOn : List Cond := .code yX4_workOn cX4_workOn 5 (some .int) :: ((wsX4_workOn_r1 ++ (wsX4_workOn_r2 ++ (wsX4_workOn_r3 ++ wsX4_workOn_r4))) ++ wsX40 ++ wsX30 ++ wsX00 ++ wsX10 ++ wsX20)
def wsX4_tick_r1 : List Cond := [Cond.classLink RX4 58 "java/lang/IllegalStateException", Cond.initialized "java/lang/IllegalStateException", Cond.classLink RX4 65 "java/lang/IllegalArgumentException", Cond.initialized "java/lang/IllegalArgumentException", Cond.fieldLink RX4 51 "SpinKernel" "sealed" "Z", Cond.constant RX4 147 (100000), Cond.methodLink RX4 158 Lib.Math.min.name, Cond.static Lib.Math.min.name, Cond.initialized "java/lang/Math", Cond.code Lib.Math.min.name Lib.Math.min.code 2 (some .int), Cond.methodLink RX4 164 Lib.Math.max.name, Cond.static Lib.Math.max.name, Cond.code Lib.Math.max.name Lib.Math.max.code 2 (some .int), Cond.fieldLink RX4 113 "SpinKernel" "now" "I", Cond.methodLink RX4 44 yX4_isWithin, Cond.static yX4_isWithin, Cond.initialized RX4, Cond.code yX4_isWithin cX4_isWithin 3 (some .boolean), Cond.methodLink RX4 148 yX4_takeJobs, Cond.instanceMethod yX4_takeJobs, Cond.selects RX4 yX4_takeJobs yX4_takeJobs, Cond.code yX4_takeJobs cX4_takeJobs 2 none, Cond.fieldLink RX4 30 "SpinKernel" "taskOfCore" "[I", Cond.methodLink RX4 249 yX4_isHeldFast]
def wsX4_tick_r2 : List Cond := [Cond.instanceMethod yX4_isHeldFast, Cond.selects RX4 yX4_isHeldFast yX4_isHeldFast, Cond.code yX4_isHeldFast cX4_isHeldFast 3 (some .boolean), Cond.fieldLink RX4 11 "SpinKernel" "tasks" "[LSpinKernel$Task;", Cond.fieldLink RX4 119 "SpinKernel$Task" "job" "LSpinKernel$Job;", Cond.fieldLink RX4 258 "SpinKernel$Job" "state" "I", Cond.methodLink RX4 252 yX4_mostUrgentOn, Cond.instanceMethod yX4_mostUrgentOn, Cond.selects RX4 yX4_mostUrgentOn yX4_mostUrgentOn, Cond.code yX4_mostUrgentOn cX4_mostUrgentOn 5 (some .int), Cond.fieldLink RX4 187 "SpinKernel$Job" "isOpen" "Z", Cond.fieldLink RX4 207 "SpinKernel$Task" "priority" "I", Cond.methodLink RX4 203 yX3_isOn, Cond.instanceMethod yX3_isOn, Cond.selects RX3 yX3_isOn yX3_isOn, Cond.initialized RX3, Cond.code yX3_isOn cX3_isOn 2 (some .boolean), Cond.fieldLink RX3 25 "SpinKernel$Task" "isThere" "Z", Cond.fieldLink RX3 29 "SpinKernel$Task" "core" "I", Cond.methodLink RX4 255 yX4_askIfDue, Cond.instanceMethod yX4_askIfDue, Cond.selects RX4 yX4_askIfDue yX4_askIfDue, Cond.code yX4_askIfDue cX4_askIfDue 3 none, Cond.fieldLink RX4 220 "SpinKernel$Request" "lock" "I"]
def wsX4_tick_r3 : List Cond := [Cond.methodLink RX4 261 yX3_hasToAsk, Cond.instanceMethod yX3_hasToAsk, Cond.selects RX3 yX3_hasToAsk yX3_hasToAsk, Cond.code yX3_hasToAsk cX3_hasToAsk 1 (some .boolean), Cond.fieldLink RX3 20 "SpinKernel$Task" "job" "LSpinKernel$Job;", Cond.fieldLink RX3 98 "SpinKernel$Job" "next" "I", Cond.fieldLink RX3 45 "SpinKernel$Task" "count" "I", Cond.fieldLink RX3 62 "SpinKernel$Request" "after" "I", Cond.fieldLink RX3 108 "SpinKernel$Job" "workDone" "I", Cond.methodLink RX3 104 yX3_nextRequest, Cond.instanceMethod yX3_nextRequest, Cond.selects RX3 yX3_nextRequest yX3_nextRequest, Cond.code yX3_nextRequest cX3_nextRequest 1 (some (.object "SpinKernel$Request")), Cond.fieldLink RX3 11 "SpinKernel$Task" "requests" "[LSpinKernel$Request;", Cond.methodLink RX3 101 Lib.Math.min.name, Cond.methodLink RX4 264 yX3_startSpinning, Cond.instanceMethod yX3_startSpinning, Cond.selects RX3 yX3_startSpinning yX3_startSpinning, Cond.code yX3_startSpinning cX3_startSpinning 1 none, Cond.fieldLink RX3 111 "SpinKernel$Job" "state" "I", Cond.fieldLink RX3 114 "SpinKernel$Job" "spinning" "I", Cond.methodLink RX4 267 yX3_nextRequest, Cond.methodLink RX4 171 yX4_rowOf, Cond.instanceMethod yX4_rowOf]
def wsX4_tick_r4 : List Cond := [Cond.selects RX4 yX4_rowOf yX4_rowOf, Cond.code yX4_rowOf cX4_rowOf 2 (some (.object "SpinKernel$Row")), Cond.fieldLink RX4 17 "SpinKernel" "rows" "[LSpinKernel$Row;", Cond.fieldLink RX4 21 "SpinKernel" "leastOfGroup" "[I", Cond.methodLink RX4 271 yX2_join, Cond.instanceMethod yX2_join, Cond.selects RX2 yX2_join yX2_join, Cond.initialized RX2, Cond.code yX2_join cX2_join 2 none, Cond.fieldLink RX2 15 "SpinKernel$Row" "size" "I", Cond.fieldLink RX2 9 "SpinKernel$Row" "cores" "[I", Cond.methodLink RX4 151 yX4_letFirstsHold, Cond.instanceMethod yX4_letFirstsHold, Cond.selects RX4 yX4_letFirstsHold yX4_letFirstsHold, Cond.code yX4_letFirstsHold cX4_letFirstsHold 7 none, Cond.methodLink RX4 175 yX2_coreAt, Cond.instanceMethod yX2_coreAt, Cond.selects RX2 yX2_coreAt yX2_coreAt, Cond.code yX2_coreAt cX2_coreAt 2 (some .int), Cond.methodLink RX4 274 yX3_startHolding, Cond.instanceMethod yX3_startHolding, Cond.selects RX3 yX3_startHolding yX3_startHolding, Cond.code yX3_startHolding cX3_startHolding 1 none, Cond.fieldLink RX3 120 "SpinKernel$Request" "ticksOfJob" "I"]
def wsX4_tick_r5 : List Cond := [Cond.fieldLink RX3 123 "SpinKernel$Job" "sectionLeft" "I", Cond.methodLink RX4 154 yX4_ticksAlike, Cond.instanceMethod yX4_ticksAlike, Cond.selects RX4 yX4_ticksAlike yX4_ticksAlike, Cond.code yX4_ticksAlike cX4_ticksAlike 4 (some .int), Cond.methodLink RX4 277 yX3_ticksToChange, Cond.instanceMethod yX3_ticksToChange, Cond.selects RX3 yX3_ticksToChange yX3_ticksToChange, Cond.code yX3_ticksToChange cX3_ticksToChange 2 (some .int), Cond.fieldLink RX3 42 "SpinKernel$Task" "work" "I", Cond.methodLink RX4 167 yX4_workOn, Cond.instanceMethod yX4_workOn, Cond.selects RX4 yX4_workOn yX4_workOn, Cond.code yX4_workOn cX4_workOn 5 (some .int), Cond.fieldLink RX4 33 "SpinKernel" "deedOfCore" "[I", Cond.methodLink RX4 280 yX4_workOnJob, Cond.instanceMethod yX4_workOnJob, Cond.selects RX4 yX4_workOnJob yX4_workOnJob, Cond.code yX4_workOnJob cX4_workOnJob 3 (some .boolean), Cond.fieldLink RX4 287 "SpinKernel$Job" "workDone" "I", Cond.methodLink RX4 284 yX3_spinFor, Cond.instanceMethod yX3_spinFor, Cond.selects RX3 yX3_spinFor yX3_spinFor, Cond.code yX3_spinFor cX3_spinFor 3 none]
def wsX4_tick_r6 : List Cond := [Cond.fieldLink RX3 117 "SpinKernel$Request" "mostSpun" "I", Cond.methodLink RX3 72 Lib.Math.max.name, Cond.methodLink RX4 290 yX4_holdFor, Cond.instanceMethod yX4_holdFor, Cond.selects RX4 yX4_holdFor yX4_holdFor, Cond.code yX4_holdFor cX4_holdFor 3 none, Cond.fieldLink RX4 300 "SpinKernel$Job" "sectionLeft" "I", Cond.methodLink RX4 303 yX2_dropFirst, Cond.instanceMethod yX2_dropFirst, Cond.selects RX2 yX2_dropFirst yX2_dropFirst, Cond.code yX2_dropFirst cX2_dropFirst 2 none, Cond.methodLink RX2 19 Lib.Math.max.name, Cond.methodLink RX4 306 yX3_leaveSection, Cond.instanceMethod yX3_leaveSection, Cond.selects RX3 yX3_leaveSection yX3_leaveSection, Cond.code yX3_leaveSection cX3_leaveSection 1 none, Cond.methodLink RX3 81 yX3_outerFrom, Cond.instanceMethod yX3_outerFrom, Cond.selects RX3 yX3_outerFrom yX3_outerFrom, Cond.code yX3_outerFrom cX3_outerFrom 3 (some .int), Cond.methodLink RX3 48 yX1_isOuter, Cond.instanceMethod yX1_isOuter, Cond.selects RX1 yX1_isOuter yX1_isOuter, Cond.initialized RX1]
def wsX4_tick_r7 : List Cond := [Cond.code yX1_isOuter cX1_isOuter 1 (some .boolean), Cond.fieldLink RX1 21 "SpinKernel$Request" "in" "I", Cond.methodLink RX4 294 yX3_isAllDone, Cond.instanceMethod yX3_isAllDone, Cond.selects RX3 yX3_isAllDone yX3_isAllDone, Cond.code yX3_isAllDone cX3_isAllDone 1 (some .boolean), Cond.methodLink RX4 297 yX3_endJob, Cond.instanceMethod yX3_endJob, Cond.selects RX3 yX3_endJob yX3_endJob, Cond.code yX3_endJob cX3_endJob 2 none, Cond.fieldLink RX3 39 "SpinKernel$Task" "deadline" "I", Cond.methodLink RX3 89 yX0_end, Cond.instanceMethod yX0_end, Cond.selects RX0 yX0_end yX0_end, Cond.initialized RX0, Cond.code yX0_end cX0_end 3 none, Cond.fieldLink RX0 19 "SpinKernel$Job" "isOpen" "Z", Cond.fieldLink RX0 31 "SpinKernel$Job" "ended" "I", Cond.fieldLink RX0 22 "SpinKernel$Job" "cameAt" "I", Cond.fieldLink RX0 34 "SpinKernel$Job" "latestResponse" "I", Cond.fieldLink RX0 37 "SpinKernel$Job" "greatestResponse" "I", Cond.methodLink RX0 40 Lib.Math.max.name, Cond.fieldLink RX0 46 "SpinKernel$Job" "endedLate" "I"]
def wsX4_tick : List Cond := .code yX4_tick cX4_tick 5 (some .int) :: ((wsX4_tick_r1 ++ (wsX4_tick_r2 ++ (wsX4_tick_r3 ++ (wsX4_tick_r4 ++ (wsX4_tick_r5 ++ (wsX4_tick_r6 ++ wsX4_tick_r7)))))) ++ wsX40 ++ wsX30 ++ wsX00 ++ wsX10 ++ wsX20 ++ (vx_at0 RX4 60 "java/lang/IllegalStateException" ["java/lang/RuntimeException", "java/lang/Exception"]).filter goodWord ++ (vx_at0 RX4 67 "java/lang/IllegalArgumentException" ["java/lang/RuntimeException", "java/lang/Exception"]).filter goodWord)
def wsX4_core : List Cond := .code yX4_core cX4_core 3 (some .int) :: ([.classLink RX4 48 "java/lang/IndexOutOfBoundsException", .initialized "java/lang/IndexOutOfBoundsException", .classLink RX4 65 "java/lang/IllegalArgumentException", .initialized "java/lang/IllegalArgumentException", .fieldLink RX4 30 "SpinKernel" "taskOfCore" "[I", .fieldLink RX4 33 "SpinKernel" "deedOfCore" "[I", .methodLink RX4 44 yX4_isWithin, .static yX4_isWithin, .initialized RX4, .code yX4_isWithin cX4_isWithin 3 (some .boolean)] ++ wsX40 ++ (vx_at0 RX4 50 "java/lang/IndexOutOfBoundsException" ["java/lang/RuntimeException", "java/lang/Exception"]).filter goodWord ++ (vx_at0 RX4 67 "java/lang/IllegalArgumentException" ["java/lang/RuntimeException", "java/lang/Exception"]).filter goodWord)
def wsX4_row : List Cond := .code yX4_row cX4_row 3 (some .int) :: ([.classLink RX4 48 "java/lang/IndexOutOfBoundsException", .initialized "java/lang/IndexOutOfBoundsException", .methodLink RX4 44 yX4_isWithin, .static yX4_isWithin, .initialized RX4, .code yX4_isWithin cX4_isWithin 3 (some .boolean), .methodLink RX4 171 yX4_rowOf, .instanceMethod yX4_rowOf, .selects RX4 yX4_rowOf yX4_rowOf, .code yX4_rowOf cX4_rowOf 2 (some (.object "SpinKernel$Row")), .fieldLink RX4 17 "SpinKernel" "rows" "[LSpinKernel$Row;", .fieldLink RX4 21 "SpinKernel" "leastOfGroup" "[I", .methodLink RX4 175 yX2_coreAt, .instanceMethod yX2_coreAt, .selects RX2 yX2_coreAt yX2_coreAt, .initialized RX2, .code yX2_coreAt cX2_coreAt 2 (some .int), .fieldLink RX2 15 "SpinKernel$Row" "size" "I", .fieldLink RX2 9 "SpinKernel$Row" "cores" "[I"] ++ wsX40 ++ wsX20 ++ (vx_at0 RX4 50 "java/lang/IndexOutOfBoundsException" ["java/lang/RuntimeException", "java/lang/Exception"]).filter goodWord)
def wsX4_jobs : List Cond := .code yX4_jobs cX4_jobs 4 (some .int) :: ([.classLink RX4 65 "java/lang/IllegalArgumentException", .initialized "java/lang/IllegalArgumentException", .fieldLink RX4 119 "SpinKernel$Task" "job" "LSpinKernel$Job;", .fieldLink RX4 178 "SpinKernel$Job" "ended" "I", .fieldLink RX4 181 "SpinKernel$Job" "greatestResponse" "I", .fieldLink RX4 184 "SpinKernel$Job" "latestResponse" "I", .fieldLink RX4 187 "SpinKernel$Job" "isOpen" "Z", .methodLink RX4 75 yX4_taskAt, .instanceMethod yX4_taskAt, .selects RX4 yX4_taskAt yX4_taskAt, .initialized RX4, .code yX4_taskAt cX4_taskAt 2 (some (.object "SpinKernel$Task")), .classLink RX4 48 "java/lang/IndexOutOfBoundsException", .initialized "java/lang/IndexOutOfBoundsException", .fieldLink RX4 11 "SpinKernel" "tasks" "[LSpinKernel$Task;", .fieldLink RX4 55 "SpinKernel$Task" "isThere" "Z", .methodLink RX4 44 yX4_isWithin, .static yX4_isWithin, .code yX4_isWithin cX4_isWithin 3 (some .boolean)] ++ wsX30 ++ wsX00 ++ wsX40 ++ (vx_at0 RX4 67 "java/lang/IllegalArgumentException" ["java/lang/RuntimeException", "java/lang/Exception"]).filter goodWord ++ (vx_at0 RX4 50 "java/lang/IndexOutOfBoundsException" ["java/lang/RuntimeException", "java/lang/Exception"]).filter goodWord)
def wsX4_spun : List Cond := .code yX4_spun cX4_spun 3 (some .int) :: ([.fieldLink RX4 190 "SpinKernel$Request" "mostSpun" "I", .methodLink RX4 75 yX4_taskAt, .instanceMethod yX4_taskAt, .selects RX4 yX4_taskAt yX4_taskAt, .initialized RX4, .code yX4_taskAt cX4_taskAt 2 (some (.object "SpinKernel$Task")), .classLink RX4 48 "java/lang/IndexOutOfBoundsException", .initialized "java/lang/IndexOutOfBoundsException", .fieldLink RX4 11 "SpinKernel" "tasks" "[LSpinKernel$Task;", .fieldLink RX4 55 "SpinKernel$Task" "isThere" "Z", .methodLink RX4 44 yX4_isWithin, .static yX4_isWithin, .code yX4_isWithin cX4_isWithin 3 (some .boolean), .methodLink RX4 90 yX4_requestAt, .static yX4_requestAt, .code yX4_requestAt cX4_requestAt 2 (some (.object "SpinKernel$Request")), .fieldLink RX4 79 "SpinKernel$Task" "count" "I", .fieldLink RX4 199 "SpinKernel$Task" "requests" "[LSpinKernel$Request;"] ++ wsX10 ++ wsX40 ++ wsX30 ++ (vx_at0 RX4 50 "java/lang/IndexOutOfBoundsException" ["java/lang/RuntimeException", "java/lang/Exception"]).filter goodWord)
def wsX4_late : List Cond := .code yX4_late cX4_late 6 (some .int) :: ([.fieldLink RX4 11 "SpinKernel" "tasks" "[LSpinKernel$Task;", .fieldLink RX4 119 "SpinKernel$Task" "job" "LSpinKernel$Job;", .fieldLink RX4 193 "SpinKernel$Job" "endedLate" "I", .fieldLink RX4 187 "SpinKernel$Job" "isOpen" "Z", .fieldLink RX4 113 "SpinKernel" "now" "I", .fieldLink RX4 128 "SpinKernel$Job" "cameAt" "I", .fieldLink RX4 196 "SpinKernel$Task" "deadline" "I"] ++ wsX40 ++ wsX30 ++ wsX00)
def wsX5_forget : List Cond := .code yX5_forget cX5_forget 2 none :: ([.fieldLink RX5 158 "SpinKernelModel" "now" "I", .fieldLink RX5 161 "SpinKernelModel" "behind" "I", .fieldLink RX5 43 "SpinKernelModel" "open" "[Z", .fieldLink RX5 47 "SpinKernelModel" "came" "[Z", .fieldLink RX5 71 "SpinKernelModel" "ended" "[I", .fieldLink RX5 74 "SpinKernelModel" "greatest" "[I", .fieldLink RX5 77 "SpinKernelModel" "latest" "[I", .fieldLink RX5 80 "SpinKernelModel" "spuns" "[I", .fieldLink RX5 68 "SpinKernelModel" "coming" "[I", .fieldLink RX5 34 "SpinKernelModel" "lengths" "[I", .fieldLink RX5 83 "SpinKernelModel" "at" "[I", .fieldLink RX5 86 "SpinKernelModel" "state" "[I", .fieldLink RX5 89 "SpinKernelModel" "lastTask" "[I", .fieldLink RX5 92 "SpinKernelModel" "lastState" "[I", .fieldLink RX5 98 "SpinKernelModel" "many" "[I"] ++ wsX50)
def wsX5_init_r1 : List Cond := [Cond.methodLink RX5 1 objectInit, Cond.instanceMethod objectInit, Cond.code objectInit ⟨#[0xb1]⟩ 1 none, Cond.arrayClass .int, Cond.fieldLink RX5 7 "SpinKernelModel" "cores" "[I", Cond.fieldLink RX5 13 "SpinKernelModel" "priorities" "[I", Cond.fieldLink RX5 16 "SpinKernelModel" "distances" "[I", Cond.fieldLink RX5 19 "SpinKernelModel" "deadlines" "[I", Cond.fieldLink RX5 22 "SpinKernelModel" "works" "[I", Cond.fieldLink RX5 25 "SpinKernelModel" "counts" "[I", Cond.fieldLink RX5 28 "SpinKernelModel" "afters" "[I", Cond.fieldLink RX5 31 "SpinKernelModel" "locks" "[I", Cond.fieldLink RX5 34 "SpinKernelModel" "lengths" "[I", Cond.fieldLink RX5 37 "SpinKernelModel" "ins" "[I", Cond.fieldLink RX5 40 "SpinKernelModel" "groups" "[I", Cond.arrayClass .boolean, Cond.fieldLink RX5 43 "SpinKernelModel" "open" "[Z", Cond.fieldLink RX5 47 "SpinKernelModel" "came" "[Z", Cond.fieldLink RX5 50 "SpinKernelModel" "times" "[I", Cond.fieldLink RX5 53 "SpinKernelModel" "done" "[I", Cond.fieldLink RX5 56 "SpinKernelModel" "nexts" "[I", Cond.fieldLink RX5 59 "SpinKernelModel" "left" "[I", Cond.fieldLink RX5 62 "SpinKernelModel" "spinning" "[I", Cond.fieldLink RX5 65 "SpinKernelModel" "mine" "[I"]
def wsX5_init_r2 : List Cond := [Cond.fieldLink RX5 68 "SpinKernelModel" "coming" "[I", Cond.fieldLink RX5 71 "SpinKernelModel" "ended" "[I", Cond.fieldLink RX5 74 "SpinKernelModel" "greatest" "[I", Cond.fieldLink RX5 77 "SpinKernelModel" "latest" "[I", Cond.fieldLink RX5 80 "SpinKernelModel" "spuns" "[I", Cond.fieldLink RX5 83 "SpinKernelModel" "at" "[I", Cond.fieldLink RX5 86 "SpinKernelModel" "state" "[I", Cond.fieldLink RX5 89 "SpinKernelModel" "lastTask" "[I", Cond.fieldLink RX5 92 "SpinKernelModel" "lastState" "[I", Cond.fieldLink RX5 95 "SpinKernelModel" "rows" "[I", Cond.fieldLink RX5 98 "SpinKernelModel" "many" "[I", Cond.methodLink RX5 101 yX5_forget, Cond.instanceMethod yX5_forget, Cond.selects RX5 yX5_forget yX5_forget, Cond.initialized RX5, Cond.code yX5_forget cX5_forget 2 none, Cond.fieldLink RX5 158 "SpinKernelModel" "now" "I", Cond.fieldLink RX5 161 "SpinKernelModel" "behind" "I"]
def wsX5_init : List Cond := .code yX5_init cX5_init 2 none :: ((wsX5_init_r1 ++ wsX5_init_r2) ++ wsX50)
def wsX5_thrown : List Cond := .code yX5_thrown cX5_thrown 1 (some .int) :: ([.fieldLink RX5 104 "SpinKernelModel" "thrown" "I"] ++ wsX50)
def wsX5_refused : List Cond := .code yX5_refused cX5_refused 4 (some .boolean) :: ([.fieldLink RX5 104 "SpinKernelModel" "thrown" "I"] ++ wsX50)
def wsX5_isTask : List Cond := .code yX5_isTask cX5_isTask 2 (some .boolean) :: ([.fieldLink RX5 7 "SpinKernelModel" "cores" "[I"] ++ wsX50)
def wsX5_isRequest : List Cond := .code yX5_isRequest cX5_isRequest 3 (some .boolean) :: ([.fieldLink RX5 25 "SpinKernelModel" "counts" "[I", .methodLink RX5 108 yX5_isTask, .instanceMethod yX5_isTask, .selects RX5 yX5_isTask yX5_isTask, .initialized RX5, .code yX5_isTask cX5_isTask 2 (some .boolean), .fieldLink RX5 7 "SpinKernelModel" "cores" "[I"] ++ wsX50)
def wsX5_within : List Cond := .code yX5_within cX5_within 3 (some .boolean) :: ([])
def wsX5_hasPriority : List Cond := .code yX5_hasPriority cX5_hasPriority 4 (some .boolean) :: ([.fieldLink RX5 7 "SpinKernelModel" "cores" "[I", .fieldLink RX5 13 "SpinKernelModel" "priorities" "[I"] ++ wsX50)
def wsX5_task : List Cond := .code yX5_task cX5_task 10 none :: ([.fieldLink RX5 116 "SpinKernelModel" "sealed" "Z", .fieldLink RX5 7 "SpinKernelModel" "cores" "[I", .fieldLink RX5 13 "SpinKernelModel" "priorities" "[I", .fieldLink RX5 16 "SpinKernelModel" "distances" "[I", .fieldLink RX5 19 "SpinKernelModel" "deadlines" "[I", .fieldLink RX5 22 "SpinKernelModel" "works" "[I", .fieldLink RX5 25 "SpinKernelModel" "counts" "[I", .methodLink RX5 112 yX5_within, .static yX5_within, .initialized RX5, .code yX5_within cX5_within 3 (some .boolean), .methodLink RX5 120 yX5_hasPriority, .instanceMethod yX5_hasPriority, .selects RX5 yX5_hasPriority yX5_hasPriority, .code yX5_hasPriority cX5_hasPriority 4 (some .boolean), .methodLink RX5 124 yX5_refused, .instanceMethod yX5_refused, .selects RX5 yX5_refused yX5_refused, .code yX5_refused cX5_refused 4 (some .boolean), .fieldLink RX5 104 "SpinKernelModel" "thrown" "I"] ++ wsX50)
def wsX5_outerBefore : List Cond := .code yX5_outerBefore cX5_outerBefore 3 (some .int) :: ([.fieldLink RX5 25 "SpinKernelModel" "counts" "[I", .fieldLink RX5 37 "SpinKernelModel" "ins" "[I"] ++ wsX50)
def wsX5_mayBe : List Cond := .code yX5_mayBe cX5_mayBe 7 (some .boolean) :: ([.fieldLink RX5 22 "SpinKernelModel" "works" "[I", .fieldLink RX5 28 "SpinKernelModel" "afters" "[I", .fieldLink RX5 37 "SpinKernelModel" "ins" "[I", .fieldLink RX5 34 "SpinKernelModel" "lengths" "[I", .methodLink RX5 112 yX5_within, .static yX5_within, .initialized RX5, .code yX5_within cX5_within 3 (some .boolean), .methodLink RX5 128 yX5_outerBefore, .instanceMethod yX5_outerBefore, .selects RX5 yX5_outerBefore yX5_outerBefore, .code yX5_outerBefore cX5_outerBefore 3 (some .int), .fieldLink RX5 25 "SpinKernelModel" "counts" "[I", .methodLink RX5 132 yX5_isRequest, .instanceMethod yX5_isRequest, .selects RX5 yX5_isRequest yX5_isRequest, .code yX5_isRequest cX5_isRequest 3 (some .boolean), .methodLink RX5 108 yX5_isTask, .instanceMethod yX5_isTask, .selects RX5 yX5_isTask yX5_isTask, .code yX5_isTask cX5_isTask 2 (some .boolean), .fieldLink RX5 7 "SpinKernelModel" "cores" "[I"] ++ wsX50)
def wsX5_request_r1 : List Cond := [Cond.fieldLink RX5 116 "SpinKernelModel" "sealed" "Z", Cond.fieldLink RX5 25 "SpinKernelModel" "counts" "[I", Cond.fieldLink RX5 28 "SpinKernelModel" "afters" "[I", Cond.fieldLink RX5 31 "SpinKernelModel" "locks" "[I", Cond.fieldLink RX5 34 "SpinKernelModel" "lengths" "[I", Cond.fieldLink RX5 37 "SpinKernelModel" "ins" "[I", Cond.fieldLink RX5 68 "SpinKernelModel" "coming" "[I", Cond.methodLink RX5 108 yX5_isTask, Cond.instanceMethod yX5_isTask, Cond.selects RX5 yX5_isTask yX5_isTask, Cond.initialized RX5, Cond.code yX5_isTask cX5_isTask 2 (some .boolean), Cond.fieldLink RX5 7 "SpinKernelModel" "cores" "[I", Cond.methodLink RX5 135 yX5_mayBe, Cond.instanceMethod yX5_mayBe, Cond.selects RX5 yX5_mayBe yX5_mayBe, Cond.code yX5_mayBe cX5_mayBe 7 (some .boolean), Cond.fieldLink RX5 22 "SpinKernelModel" "works" "[I", Cond.methodLink RX5 112 yX5_within, Cond.static yX5_within, Cond.code yX5_within cX5_within 3 (some .boolean), Cond.methodLink RX5 128 yX5_outerBefore, Cond.instanceMethod yX5_outerBefore, Cond.selects RX5 yX5_outerBefore yX5_outerBefore]
def wsX5_request_r2 : List Cond := [Cond.code yX5_outerBefore cX5_outerBefore 3 (some .int), Cond.methodLink RX5 132 yX5_isRequest, Cond.instanceMethod yX5_isRequest, Cond.selects RX5 yX5_isRequest yX5_isRequest, Cond.code yX5_isRequest cX5_isRequest 3 (some .boolean), Cond.methodLink RX5 124 yX5_refused, Cond.instanceMethod yX5_refused, Cond.selects RX5 yX5_refused yX5_refused, Cond.code yX5_refused cX5_refused 4 (some .boolean), Cond.fieldLink RX5 104 "SpinKernelModel" "thrown" "I"]
def wsX5_request : List Cond := .code yX5_request cX5_request 9 (some .int) :: ((wsX5_request_r1 ++ wsX5_request_r2) ++ wsX50)
def wsX5_take : List Cond := .code yX5_take cX5_take 2 none :: ([.fieldLink RX5 116 "SpinKernelModel" "sealed" "Z", .fieldLink RX5 7 "SpinKernelModel" "cores" "[I", .fieldLink RX5 25 "SpinKernelModel" "counts" "[I", .methodLink RX5 108 yX5_isTask, .instanceMethod yX5_isTask, .selects RX5 yX5_isTask yX5_isTask, .initialized RX5, .code yX5_isTask cX5_isTask 2 (some .boolean), .methodLink RX5 124 yX5_refused, .instanceMethod yX5_refused, .selects RX5 yX5_refused yX5_refused, .code yX5_refused cX5_refused 4 (some .boolean), .fieldLink RX5 104 "SpinKernelModel" "thrown" "I"] ++ wsX50)
def wsX5_findGroups : List Cond := .code yX5_findGroups cX5_findGroups 8 none :: ([.fieldLink RX5 40 "SpinKernelModel" "groups" "[I", .fieldLink RX5 25 "SpinKernelModel" "counts" "[I", .fieldLink RX5 37 "SpinKernelModel" "ins" "[I", .fieldLink RX5 31 "SpinKernelModel" "locks" "[I"] ++ wsX50)
def wsX5_group : List Cond := .code yX5_group cX5_group 2 (some .int) :: ([.fieldLink RX5 40 "SpinKernelModel" "groups" "[I", .methodLink RX5 112 yX5_within, .static yX5_within, .initialized RX5, .code yX5_within cX5_within 3 (some .boolean), .methodLink RX5 124 yX5_refused, .instanceMethod yX5_refused, .selects RX5 yX5_refused yX5_refused, .code yX5_refused cX5_refused 4 (some .boolean), .fieldLink RX5 104 "SpinKernelModel" "thrown" "I", .methodLink RX5 139 yX5_findGroups, .instanceMethod yX5_findGroups, .selects RX5 yX5_findGroups yX5_findGroups, .code yX5_findGroups cX5_findGroups 8 none, .fieldLink RX5 25 "SpinKernelModel" "counts" "[I", .fieldLink RX5 37 "SpinKernelModel" "ins" "[I", .fieldLink RX5 31 "SpinKernelModel" "locks" "[I"] ++ wsX50)
def wsX5_isOuter : List Cond := .code yX5_isOuter cX5_isOuter 3 (some .boolean) :: ([.fieldLink RX5 37 "SpinKernelModel" "ins" "[I"] ++ wsX50)
def wsX5_spinOf : List Cond := .code yX5_spinOf cX5_spinOf 9 (some .int) :: ([.fieldLink RX5 25 "SpinKernelModel" "counts" "[I", .fieldLink RX5 7 "SpinKernelModel" "cores" "[I", .fieldLink RX5 40 "SpinKernelModel" "groups" "[I", .fieldLink RX5 31 "SpinKernelModel" "locks" "[I", .fieldLink RX5 34 "SpinKernelModel" "lengths" "[I", .methodLink RX5 142 yX5_isOuter, .instanceMethod yX5_isOuter, .selects RX5 yX5_isOuter yX5_isOuter, .initialized RX5, .code yX5_isOuter cX5_isOuter 3 (some .boolean), .fieldLink RX5 37 "SpinKernelModel" "ins" "[I"] ++ wsX50)
def wsX5_spin_r1 : List Cond := [Cond.methodLink RX5 132 yX5_isRequest, Cond.instanceMethod yX5_isRequest, Cond.selects RX5 yX5_isRequest yX5_isRequest, Cond.initialized RX5, Cond.code yX5_isRequest cX5_isRequest 3 (some .boolean), Cond.fieldLink RX5 25 "SpinKernelModel" "counts" "[I", Cond.methodLink RX5 108 yX5_isTask, Cond.instanceMethod yX5_isTask, Cond.selects RX5 yX5_isTask yX5_isTask, Cond.code yX5_isTask cX5_isTask 2 (some .boolean), Cond.fieldLink RX5 7 "SpinKernelModel" "cores" "[I", Cond.methodLink RX5 124 yX5_refused, Cond.instanceMethod yX5_refused, Cond.selects RX5 yX5_refused yX5_refused, Cond.code yX5_refused cX5_refused 4 (some .boolean), Cond.fieldLink RX5 104 "SpinKernelModel" "thrown" "I", Cond.methodLink RX5 139 yX5_findGroups, Cond.instanceMethod yX5_findGroups, Cond.selects RX5 yX5_findGroups yX5_findGroups, Cond.code yX5_findGroups cX5_findGroups 8 none, Cond.fieldLink RX5 40 "SpinKernelModel" "groups" "[I", Cond.fieldLink RX5 37 "SpinKernelModel" "ins" "[I", Cond.fieldLink RX5 31 "SpinKernelModel" "locks" "[I", Cond.methodLink RX5 142 yX5_isOuter]
def wsX5_spin_r2 : List Cond := [Cond.instanceMethod yX5_isOuter, Cond.selects RX5 yX5_isOuter yX5_isOuter, Cond.code yX5_isOuter cX5_isOuter 3 (some .boolean), Cond.methodLink RX5 145 yX5_spinOf, Cond.instanceMethod yX5_spinOf, Cond.selects RX5 yX5_spinOf yX5_spinOf, Cond.code yX5_spinOf cX5_spinOf 9 (some .int), Cond.fieldLink RX5 34 "SpinKernelModel" "lengths" "[I"]
def wsX5_spin : List Cond := .code yX5_spin cX5_spin 3 (some .int) :: ((wsX5_spin_r1 ++ wsX5_spin_r2) ++ wsX50)
def wsX5_inflated : List Cond := .code yX5_inflated cX5_inflated 4 (some .int) :: ([.fieldLink RX5 22 "SpinKernelModel" "works" "[I", .fieldLink RX5 25 "SpinKernelModel" "counts" "[I", .fieldLink RX5 34 "SpinKernelModel" "lengths" "[I", .methodLink RX5 142 yX5_isOuter, .instanceMethod yX5_isOuter, .selects RX5 yX5_isOuter yX5_isOuter, .initialized RX5, .code yX5_isOuter cX5_isOuter 3 (some .boolean), .fieldLink RX5 37 "SpinKernelModel" "ins" "[I", .methodLink RX5 145 yX5_spinOf, .instanceMethod yX5_spinOf, .selects RX5 yX5_spinOf yX5_spinOf, .code yX5_spinOf cX5_spinOf 9 (some .int), .fieldLink RX5 7 "SpinKernelModel" "cores" "[I", .fieldLink RX5 40 "SpinKernelModel" "groups" "[I", .fieldLink RX5 31 "SpinKernelModel" "locks" "[I"] ++ wsX50)
def wsX5_blocking : List Cond := .code yX5_blocking cX5_blocking 6 (some .int) :: ([.fieldLink RX5 25 "SpinKernelModel" "counts" "[I", .fieldLink RX5 7 "SpinKernelModel" "cores" "[I", .fieldLink RX5 13 "SpinKernelModel" "priorities" "[I", .fieldLink RX5 34 "SpinKernelModel" "lengths" "[I", .methodLink RX5 142 yX5_isOuter, .instanceMethod yX5_isOuter, .selects RX5 yX5_isOuter yX5_isOuter, .initialized RX5, .code yX5_isOuter cX5_isOuter 3 (some .boolean), .fieldLink RX5 37 "SpinKernelModel" "ins" "[I", .methodLink RX5 145 yX5_spinOf, .instanceMethod yX5_spinOf, .selects RX5 yX5_spinOf yX5_spinOf, .code yX5_spinOf cX5_spinOf 9 (some .int), .fieldLink RX5 40 "SpinKernelModel" "groups" "[I", .fieldLink RX5 31 "SpinKernelModel" "locks" "[I"] ++ wsX50)
def wsX5_responseOf_r1 : List Cond := [Cond.fieldLink RX5 19 "SpinKernelModel" "deadlines" "[I", Cond.fieldLink RX5 7 "SpinKernelModel" "cores" "[I", Cond.fieldLink RX5 13 "SpinKernelModel" "priorities" "[I", Cond.fieldLink RX5 16 "SpinKernelModel" "distances" "[I", Cond.methodLink RX5 149 yX5_inflated, Cond.instanceMethod yX5_inflated, Cond.selects RX5 yX5_inflated yX5_inflated, Cond.initialized RX5, Cond.code yX5_inflated cX5_inflated 4 (some .int), Cond.fieldLink RX5 22 "SpinKernelModel" "works" "[I", Cond.fieldLink RX5 25 "SpinKernelModel" "counts" "[I", Cond.fieldLink RX5 34 "SpinKernelModel" "lengths" "[I", Cond.methodLink RX5 142 yX5_isOuter, Cond.instanceMethod yX5_isOuter, Cond.selects RX5 yX5_isOuter yX5_isOuter, Cond.code yX5_isOuter cX5_isOuter 3 (some .boolean), Cond.fieldLink RX5 37 "SpinKernelModel" "ins" "[I", Cond.methodLink RX5 145 yX5_spinOf, Cond.instanceMethod yX5_spinOf, Cond.selects RX5 yX5_spinOf yX5_spinOf, Cond.code yX5_spinOf cX5_spinOf 9 (some .int), Cond.fieldLink RX5 40 "SpinKernelModel" "groups" "[I", Cond.fieldLink RX5 31 "SpinKernelModel" "locks" "[I", Cond.methodLink RX5 152 yX5_blocking]
def wsX5_responseOf_r2 : List Cond := [Cond.instanceMethod yX5_blocking, Cond.selects RX5 yX5_blocking yX5_blocking, Cond.code yX5_blocking cX5_blocking 6 (some .int)]
def wsX5_responseOf : List Cond := .code yX5_responseOf cX5_responseOf 7 (some .int) :: ((wsX5_responseOf_r1 ++ wsX5_responseOf_r2) ++ wsX50)
def wsX5_bound_r1 : List Cond := [Cond.methodLink RX5 108 yX5_isTask, Cond.instanceMethod yX5_isTask, Cond.selects RX5 yX5_isTask yX5_isTask, Cond.initialized RX5, Cond.code yX5_isTask cX5_isTask 2 (some .boolean), Cond.fieldLink RX5 7 "SpinKernelModel" "cores" "[I", Cond.methodLink RX5 112 yX5_within, Cond.static yX5_within, Cond.code yX5_within cX5_within 3 (some .boolean), Cond.methodLink RX5 124 yX5_refused, Cond.instanceMethod yX5_refused, Cond.selects RX5 yX5_refused yX5_refused, Cond.code yX5_refused cX5_refused 4 (some .boolean), Cond.fieldLink RX5 104 "SpinKernelModel" "thrown" "I", Cond.methodLink RX5 139 yX5_findGroups, Cond.instanceMethod yX5_findGroups, Cond.selects RX5 yX5_findGroups yX5_findGroups, Cond.code yX5_findGroups cX5_findGroups 8 none, Cond.fieldLink RX5 40 "SpinKernelModel" "groups" "[I", Cond.fieldLink RX5 25 "SpinKernelModel" "counts" "[I", Cond.fieldLink RX5 37 "SpinKernelModel" "ins" "[I", Cond.fieldLink RX5 31 "SpinKernelModel" "locks" "[I", Cond.methodLink RX5 149 yX5_inflated, Cond.instanceMethod yX5_inflated]
def wsX5_bound_r2 : List Cond := [Cond.selects RX5 yX5_inflated yX5_inflated, Cond.code yX5_inflated cX5_inflated 4 (some .int), Cond.fieldLink RX5 22 "SpinKernelModel" "works" "[I", Cond.fieldLink RX5 34 "SpinKernelModel" "lengths" "[I", Cond.methodLink RX5 142 yX5_isOuter, Cond.instanceMethod yX5_isOuter, Cond.selects RX5 yX5_isOuter yX5_isOuter, Cond.code yX5_isOuter cX5_isOuter 3 (some .boolean), Cond.methodLink RX5 145 yX5_spinOf, Cond.instanceMethod yX5_spinOf, Cond.selects RX5 yX5_spinOf yX5_spinOf, Cond.code yX5_spinOf cX5_spinOf 9 (some .int), Cond.methodLink RX5 152 yX5_blocking, Cond.instanceMethod yX5_blocking, Cond.selects RX5 yX5_blocking yX5_blocking, Cond.code yX5_blocking cX5_blocking 6 (some .int), Cond.fieldLink RX5 13 "SpinKernelModel" "priorities" "[I", Cond.methodLink RX5 155 yX5_responseOf, Cond.instanceMethod yX5_responseOf, Cond.selects RX5 yX5_responseOf yX5_responseOf, Cond.code yX5_responseOf cX5_responseOf 7 (some .int), Cond.fieldLink RX5 19 "SpinKernelModel" "deadlines" "[I", Cond.fieldLink RX5 16 "SpinKernelModel" "distances" "[I"]
def wsX5_bound : List Cond := .code yX5_bound cX5_bound 3 (some .int) :: ((wsX5_bound_r1 ++ wsX5_bound_r2) ++ wsX50)
def wsX5_seal_r1 : List Cond := [Cond.fieldLink RX5 116 "SpinKernelModel" "sealed" "Z", Cond.fieldLink RX5 7 "SpinKernelModel" "cores" "[I", Cond.methodLink RX5 124 yX5_refused, Cond.instanceMethod yX5_refused, Cond.selects RX5 yX5_refused yX5_refused, Cond.initialized RX5, Cond.code yX5_refused cX5_refused 4 (some .boolean), Cond.fieldLink RX5 104 "SpinKernelModel" "thrown" "I", Cond.methodLink RX5 139 yX5_findGroups, Cond.instanceMethod yX5_findGroups, Cond.selects RX5 yX5_findGroups yX5_findGroups, Cond.code yX5_findGroups cX5_findGroups 8 none, Cond.fieldLink RX5 40 "SpinKernelModel" "groups" "[I", Cond.fieldLink RX5 25 "SpinKernelModel" "counts" "[I", Cond.fieldLink RX5 37 "SpinKernelModel" "ins" "[I", Cond.fieldLink RX5 31 "SpinKernelModel" "locks" "[I", Cond.methodLink RX5 155 yX5_responseOf, Cond.instanceMethod yX5_responseOf, Cond.selects RX5 yX5_responseOf yX5_responseOf, Cond.code yX5_responseOf cX5_responseOf 7 (some .int), Cond.fieldLink RX5 19 "SpinKernelModel" "deadlines" "[I", Cond.fieldLink RX5 13 "SpinKernelModel" "priorities" "[I", Cond.fieldLink RX5 16 "SpinKernelModel" "distances" "[I", Cond.methodLink RX5 149 yX5_inflated]
def wsX5_seal_r2 : List Cond := [Cond.instanceMethod yX5_inflated, Cond.selects RX5 yX5_inflated yX5_inflated, Cond.code yX5_inflated cX5_inflated 4 (some .int), Cond.fieldLink RX5 22 "SpinKernelModel" "works" "[I", Cond.fieldLink RX5 34 "SpinKernelModel" "lengths" "[I", Cond.methodLink RX5 142 yX5_isOuter, Cond.instanceMethod yX5_isOuter, Cond.selects RX5 yX5_isOuter yX5_isOuter, Cond.code yX5_isOuter cX5_isOuter 3 (some .boolean), Cond.methodLink RX5 145 yX5_spinOf, Cond.instanceMethod yX5_spinOf, Cond.selects RX5 yX5_spinOf yX5_spinOf, Cond.code yX5_spinOf cX5_spinOf 9 (some .int), Cond.methodLink RX5 152 yX5_blocking, Cond.instanceMethod yX5_blocking, Cond.selects RX5 yX5_blocking yX5_blocking, Cond.code yX5_blocking cX5_blocking 6 (some .int), Cond.methodLink RX5 101 yX5_forget, Cond.instanceMethod yX5_forget, Cond.selects RX5 yX5_forget yX5_forget, Cond.code yX5_forget cX5_forget 2 none, Cond.fieldLink RX5 158 "SpinKernelModel" "now" "I", Cond.fieldLink RX5 161 "SpinKernelModel" "behind" "I", Cond.fieldLink RX5 43 "SpinKernelModel" "open" "[Z"]
def wsX5_seal_r3 : List Cond := [Cond.fieldLink RX5 47 "SpinKernelModel" "came" "[Z", Cond.fieldLink RX5 71 "SpinKernelModel" "ended" "[I", Cond.fieldLink RX5 74 "SpinKernelModel" "greatest" "[I", Cond.fieldLink RX5 77 "SpinKernelModel" "latest" "[I", Cond.fieldLink RX5 80 "SpinKernelModel" "spuns" "[I", Cond.fieldLink RX5 68 "SpinKernelModel" "coming" "[I", Cond.fieldLink RX5 83 "SpinKernelModel" "at" "[I", Cond.fieldLink RX5 86 "SpinKernelModel" "state" "[I", Cond.fieldLink RX5 89 "SpinKernelModel" "lastTask" "[I", Cond.fieldLink RX5 92 "SpinKernelModel" "lastState" "[I", Cond.fieldLink RX5 98 "SpinKernelModel" "many" "[I"]
def wsX5_seal : List Cond := .code yX5_seal cX5_seal 2 (some .int) :: ((wsX5_seal_r1 ++ (wsX5_seal_r2 ++ wsX5_seal_r3)) ++ wsX50)
def wsX5_hasOpen : List Cond := .code yX5_hasOpen cX5_hasOpen 3 (some .boolean) :: ([.fieldLink RX5 43 "SpinKernelModel" "open" "[Z"] ++ wsX50)
def wsX5_unseal_r1 : List Cond := [Cond.fieldLink RX5 116 "SpinKernelModel" "sealed" "Z", Cond.methodLink RX5 164 yX5_hasOpen, Cond.instanceMethod yX5_hasOpen, Cond.selects RX5 yX5_hasOpen yX5_hasOpen, Cond.initialized RX5, Cond.code yX5_hasOpen cX5_hasOpen 3 (some .boolean), Cond.fieldLink RX5 43 "SpinKernelModel" "open" "[Z", Cond.methodLink RX5 124 yX5_refused, Cond.instanceMethod yX5_refused, Cond.selects RX5 yX5_refused yX5_refused, Cond.code yX5_refused cX5_refused 4 (some .boolean), Cond.fieldLink RX5 104 "SpinKernelModel" "thrown" "I", Cond.methodLink RX5 101 yX5_forget, Cond.instanceMethod yX5_forget, Cond.selects RX5 yX5_forget yX5_forget, Cond.code yX5_forget cX5_forget 2 none, Cond.fieldLink RX5 158 "SpinKernelModel" "now" "I", Cond.fieldLink RX5 161 "SpinKernelModel" "behind" "I", Cond.fieldLink RX5 47 "SpinKernelModel" "came" "[Z", Cond.fieldLink RX5 71 "SpinKernelModel" "ended" "[I", Cond.fieldLink RX5 74 "SpinKernelModel" "greatest" "[I", Cond.fieldLink RX5 77 "SpinKernelModel" "latest" "[I", Cond.fieldLink RX5 80 "SpinKernelModel" "spuns" "[I", Cond.fieldLink RX5 68 "SpinKernelModel" "coming" "[I"]
def wsX5_unseal_r2 : List Cond := [Cond.fieldLink RX5 34 "SpinKernelModel" "lengths" "[I", Cond.fieldLink RX5 83 "SpinKernelModel" "at" "[I", Cond.fieldLink RX5 86 "SpinKernelModel" "state" "[I", Cond.fieldLink RX5 89 "SpinKernelModel" "lastTask" "[I", Cond.fieldLink RX5 92 "SpinKernelModel" "lastState" "[I", Cond.fieldLink RX5 98 "SpinKernelModel" "many" "[I"]
def wsX5_unseal : List Cond := .code yX5_unseal cX5_unseal 1 none :: ((wsX5_unseal_r1 ++ wsX5_unseal_r2) ++ wsX50)
def wsX5_goToNext : List Cond := .code yX5_goToNext cX5_goToNext 3 none :: ([.fieldLink RX5 56 "SpinKernelModel" "nexts" "[I", .fieldLink RX5 25 "SpinKernelModel" "counts" "[I", .methodLink RX5 142 yX5_isOuter, .instanceMethod yX5_isOuter, .selects RX5 yX5_isOuter yX5_isOuter, .initialized RX5, .code yX5_isOuter cX5_isOuter 3 (some .boolean), .fieldLink RX5 37 "SpinKernelModel" "ins" "[I"] ++ wsX50)
def wsX5_arrive_r1 : List Cond := [Cond.fieldLink RX5 116 "SpinKernelModel" "sealed" "Z", Cond.fieldLink RX5 47 "SpinKernelModel" "came" "[Z", Cond.fieldLink RX5 158 "SpinKernelModel" "now" "I", Cond.fieldLink RX5 50 "SpinKernelModel" "times" "[I", Cond.fieldLink RX5 16 "SpinKernelModel" "distances" "[I", Cond.fieldLink RX5 43 "SpinKernelModel" "open" "[Z", Cond.fieldLink RX5 53 "SpinKernelModel" "done" "[I", Cond.fieldLink RX5 56 "SpinKernelModel" "nexts" "[I", Cond.fieldLink RX5 25 "SpinKernelModel" "counts" "[I", Cond.fieldLink RX5 65 "SpinKernelModel" "mine" "[I", Cond.fieldLink RX5 68 "SpinKernelModel" "coming" "[I", Cond.fieldLink RX5 34 "SpinKernelModel" "lengths" "[I", Cond.methodLink RX5 108 yX5_isTask, Cond.instanceMethod yX5_isTask, Cond.selects RX5 yX5_isTask yX5_isTask, Cond.initialized RX5, Cond.code yX5_isTask cX5_isTask 2 (some .boolean), Cond.fieldLink RX5 7 "SpinKernelModel" "cores" "[I", Cond.methodLink RX5 124 yX5_refused, Cond.instanceMethod yX5_refused, Cond.selects RX5 yX5_refused yX5_refused, Cond.code yX5_refused cX5_refused 4 (some .boolean), Cond.fieldLink RX5 104 "SpinKernelModel" "thrown" "I", Cond.methodLink RX5 168 yX5_goToNext]
def wsX5_arrive_r2 : List Cond := [Cond.instanceMethod yX5_goToNext, Cond.selects RX5 yX5_goToNext yX5_goToNext, Cond.code yX5_goToNext cX5_goToNext 3 none, Cond.methodLink RX5 142 yX5_isOuter, Cond.instanceMethod yX5_isOuter, Cond.selects RX5 yX5_isOuter yX5_isOuter, Cond.code yX5_isOuter cX5_isOuter 3 (some .boolean), Cond.fieldLink RX5 37 "SpinKernelModel" "ins" "[I"]
def wsX5_arrive : List Cond := .code yX5_arrive cX5_arrive 3 (some .boolean) :: ((wsX5_arrive_r1 ++ wsX5_arrive_r2) ++ wsX50)
def wsX5_shorten_r1 : List Cond := [Cond.fieldLink RX5 116 "SpinKernelModel" "sealed" "Z", Cond.fieldLink RX5 34 "SpinKernelModel" "lengths" "[I", Cond.fieldLink RX5 68 "SpinKernelModel" "coming" "[I", Cond.methodLink RX5 132 yX5_isRequest, Cond.instanceMethod yX5_isRequest, Cond.selects RX5 yX5_isRequest yX5_isRequest, Cond.initialized RX5, Cond.code yX5_isRequest cX5_isRequest 3 (some .boolean), Cond.fieldLink RX5 25 "SpinKernelModel" "counts" "[I", Cond.methodLink RX5 108 yX5_isTask, Cond.instanceMethod yX5_isTask, Cond.selects RX5 yX5_isTask yX5_isTask, Cond.code yX5_isTask cX5_isTask 2 (some .boolean), Cond.fieldLink RX5 7 "SpinKernelModel" "cores" "[I", Cond.methodLink RX5 142 yX5_isOuter, Cond.instanceMethod yX5_isOuter, Cond.selects RX5 yX5_isOuter yX5_isOuter, Cond.code yX5_isOuter cX5_isOuter 3 (some .boolean), Cond.fieldLink RX5 37 "SpinKernelModel" "ins" "[I", Cond.methodLink RX5 112 yX5_within, Cond.static yX5_within, Cond.code yX5_within cX5_within 3 (some .boolean), Cond.methodLink RX5 124 yX5_refused, Cond.instanceMethod yX5_refused]
def wsX5_shorten_r2 : List Cond := [Cond.selects RX5 yX5_refused yX5_refused, Cond.code yX5_refused cX5_refused 4 (some .boolean), Cond.fieldLink RX5 104 "SpinKernelModel" "thrown" "I"]
def wsX5_shorten : List Cond := .code yX5_shorten cX5_shorten 4 none :: ((wsX5_shorten_r1 ++ wsX5_shorten_r2) ++ wsX50)
def wsX5_groupOf : List Cond := .code yX5_groupOf cX5_groupOf 2 (some .int) :: ([.fieldLink RX5 40 "SpinKernelModel" "groups" "[I", .fieldLink RX5 31 "SpinKernelModel" "locks" "[I", .fieldLink RX5 56 "SpinKernelModel" "nexts" "[I"] ++ wsX50)
def wsX5_choose : List Cond := .code yX5_choose cX5_choose 4 none :: ([.fieldLink RX5 86 "SpinKernelModel" "state" "[I", .fieldLink RX5 83 "SpinKernelModel" "at" "[I", .fieldLink RX5 43 "SpinKernelModel" "open" "[Z", .fieldLink RX5 7 "SpinKernelModel" "cores" "[I", .fieldLink RX5 13 "SpinKernelModel" "priorities" "[I", .fieldLink RX5 56 "SpinKernelModel" "nexts" "[I", .fieldLink RX5 25 "SpinKernelModel" "counts" "[I", .fieldLink RX5 53 "SpinKernelModel" "done" "[I", .fieldLink RX5 28 "SpinKernelModel" "afters" "[I", .fieldLink RX5 95 "SpinKernelModel" "rows" "[I", .fieldLink RX5 98 "SpinKernelModel" "many" "[I", .fieldLink RX5 62 "SpinKernelModel" "spinning" "[I", .fieldLink RX5 59 "SpinKernelModel" "left" "[I", .fieldLink RX5 65 "SpinKernelModel" "mine" "[I", .methodLink RX5 172 yX5_groupOf, .instanceMethod yX5_groupOf, .selects RX5 yX5_groupOf yX5_groupOf, .initialized RX5, .code yX5_groupOf cX5_groupOf 2 (some .int), .fieldLink RX5 40 "SpinKernelModel" "groups" "[I", .fieldLink RX5 31 "SpinKernelModel" "locks" "[I"] ++ wsX50)
def wsX5_leave : List Cond := .code yX5_leave cX5_leave 4 none :: ([.fieldLink RX5 98 "SpinKernelModel" "many" "[I", .fieldLink RX5 95 "SpinKernelModel" "rows" "[I", .fieldLink RX5 86 "SpinKernelModel" "state" "[I"] ++ wsX50)
def wsX5_end : List Cond := .code yX5_end cX5_end 2 none :: ([.fieldLink RX5 43 "SpinKernelModel" "open" "[Z", .fieldLink RX5 71 "SpinKernelModel" "ended" "[I", .fieldLink RX5 77 "SpinKernelModel" "latest" "[I", .fieldLink RX5 158 "SpinKernelModel" "now" "I", .fieldLink RX5 50 "SpinKernelModel" "times" "[I", .fieldLink RX5 74 "SpinKernelModel" "greatest" "[I", .fieldLink RX5 19 "SpinKernelModel" "deadlines" "[I", .fieldLink RX5 161 "SpinKernelModel" "behind" "I"] ++ wsX50)
def wsX5_goOn_r1 : List Cond := [Cond.fieldLink RX5 83 "SpinKernelModel" "at" "[I", Cond.fieldLink RX5 89 "SpinKernelModel" "lastTask" "[I", Cond.fieldLink RX5 92 "SpinKernelModel" "lastState" "[I", Cond.fieldLink RX5 86 "SpinKernelModel" "state" "[I", Cond.fieldLink RX5 53 "SpinKernelModel" "done" "[I", Cond.fieldLink RX5 62 "SpinKernelModel" "spinning" "[I", Cond.fieldLink RX5 56 "SpinKernelModel" "nexts" "[I", Cond.fieldLink RX5 80 "SpinKernelModel" "spuns" "[I", Cond.fieldLink RX5 59 "SpinKernelModel" "left" "[I", Cond.fieldLink RX5 22 "SpinKernelModel" "works" "[I", Cond.fieldLink RX5 25 "SpinKernelModel" "counts" "[I", Cond.methodLink RX5 172 yX5_groupOf, Cond.instanceMethod yX5_groupOf, Cond.selects RX5 yX5_groupOf yX5_groupOf, Cond.initialized RX5, Cond.code yX5_groupOf cX5_groupOf 2 (some .int), Cond.fieldLink RX5 40 "SpinKernelModel" "groups" "[I", Cond.fieldLink RX5 31 "SpinKernelModel" "locks" "[I", Cond.methodLink RX5 175 yX5_leave, Cond.instanceMethod yX5_leave, Cond.selects RX5 yX5_leave yX5_leave, Cond.code yX5_leave cX5_leave 4 none, Cond.fieldLink RX5 98 "SpinKernelModel" "many" "[I", Cond.fieldLink RX5 95 "SpinKernelModel" "rows" "[I"]
def wsX5_goOn_r2 : List Cond := [Cond.methodLink RX5 168 yX5_goToNext, Cond.instanceMethod yX5_goToNext, Cond.selects RX5 yX5_goToNext yX5_goToNext, Cond.code yX5_goToNext cX5_goToNext 3 none, Cond.methodLink RX5 142 yX5_isOuter, Cond.instanceMethod yX5_isOuter, Cond.selects RX5 yX5_isOuter yX5_isOuter, Cond.code yX5_isOuter cX5_isOuter 3 (some .boolean), Cond.fieldLink RX5 37 "SpinKernelModel" "ins" "[I", Cond.methodLink RX5 179 yX5_end, Cond.instanceMethod yX5_end, Cond.selects RX5 yX5_end yX5_end, Cond.code yX5_end cX5_end 2 none, Cond.fieldLink RX5 43 "SpinKernelModel" "open" "[Z", Cond.fieldLink RX5 71 "SpinKernelModel" "ended" "[I", Cond.fieldLink RX5 77 "SpinKernelModel" "latest" "[I", Cond.fieldLink RX5 158 "SpinKernelModel" "now" "I", Cond.fieldLink RX5 50 "SpinKernelModel" "times" "[I", Cond.fieldLink RX5 74 "SpinKernelModel" "greatest" "[I", Cond.fieldLink RX5 19 "SpinKernelModel" "deadlines" "[I", Cond.fieldLink RX5 161 "SpinKernelModel" "behind" "I"]
def wsX5_goOn : List Cond := .code yX5_goOn cX5_goOn 4 (some .int) :: ((wsX5_goOn_r1 ++ wsX5_goOn_r2) ++ wsX50)
def wsX5_tick_r1 : List Cond := [Cond.fieldLink RX5 116 "SpinKernelModel" "sealed" "Z", Cond.constant RX5 182 (100000), Cond.fieldLink RX5 98 "SpinKernelModel" "many" "[I", Cond.fieldLink RX5 86 "SpinKernelModel" "state" "[I", Cond.fieldLink RX5 95 "SpinKernelModel" "rows" "[I", Cond.fieldLink RX5 158 "SpinKernelModel" "now" "I", Cond.fieldLink RX5 89 "SpinKernelModel" "lastTask" "[I", Cond.fieldLink RX5 92 "SpinKernelModel" "lastState" "[I", Cond.fieldLink RX5 83 "SpinKernelModel" "at" "[I", Cond.methodLink RX5 112 yX5_within, Cond.static yX5_within, Cond.initialized RX5, Cond.code yX5_within cX5_within 3 (some .boolean), Cond.methodLink RX5 124 yX5_refused, Cond.instanceMethod yX5_refused, Cond.selects RX5 yX5_refused yX5_refused, Cond.code yX5_refused cX5_refused 4 (some .boolean), Cond.fieldLink RX5 104 "SpinKernelModel" "thrown" "I", Cond.methodLink RX5 183 yX5_choose, Cond.instanceMethod yX5_choose, Cond.selects RX5 yX5_choose yX5_choose, Cond.code yX5_choose cX5_choose 4 none, Cond.fieldLink RX5 43 "SpinKernelModel" "open" "[Z", Cond.fieldLink RX5 7 "SpinKernelModel" "cores" "[I"]
def wsX5_tick_r2 : List Cond := [Cond.fieldLink RX5 13 "SpinKernelModel" "priorities" "[I", Cond.fieldLink RX5 56 "SpinKernelModel" "nexts" "[I", Cond.fieldLink RX5 25 "SpinKernelModel" "counts" "[I", Cond.fieldLink RX5 53 "SpinKernelModel" "done" "[I", Cond.fieldLink RX5 28 "SpinKernelModel" "afters" "[I", Cond.fieldLink RX5 62 "SpinKernelModel" "spinning" "[I", Cond.fieldLink RX5 59 "SpinKernelModel" "left" "[I", Cond.fieldLink RX5 65 "SpinKernelModel" "mine" "[I", Cond.methodLink RX5 172 yX5_groupOf, Cond.instanceMethod yX5_groupOf, Cond.selects RX5 yX5_groupOf yX5_groupOf, Cond.code yX5_groupOf cX5_groupOf 2 (some .int), Cond.fieldLink RX5 40 "SpinKernelModel" "groups" "[I", Cond.fieldLink RX5 31 "SpinKernelModel" "locks" "[I", Cond.methodLink RX5 186 yX5_goOn, Cond.instanceMethod yX5_goOn, Cond.selects RX5 yX5_goOn yX5_goOn, Cond.code yX5_goOn cX5_goOn 4 (some .int), Cond.fieldLink RX5 80 "SpinKernelModel" "spuns" "[I", Cond.fieldLink RX5 22 "SpinKernelModel" "works" "[I", Cond.methodLink RX5 175 yX5_leave, Cond.instanceMethod yX5_leave, Cond.selects RX5 yX5_leave yX5_leave, Cond.code yX5_leave cX5_leave 4 none]
def wsX5_tick_r3 : List Cond := [Cond.methodLink RX5 168 yX5_goToNext, Cond.instanceMethod yX5_goToNext, Cond.selects RX5 yX5_goToNext yX5_goToNext, Cond.code yX5_goToNext cX5_goToNext 3 none, Cond.methodLink RX5 142 yX5_isOuter, Cond.instanceMethod yX5_isOuter, Cond.selects RX5 yX5_isOuter yX5_isOuter, Cond.code yX5_isOuter cX5_isOuter 3 (some .boolean), Cond.fieldLink RX5 37 "SpinKernelModel" "ins" "[I", Cond.methodLink RX5 179 yX5_end, Cond.instanceMethod yX5_end, Cond.selects RX5 yX5_end yX5_end, Cond.code yX5_end cX5_end 2 none, Cond.fieldLink RX5 71 "SpinKernelModel" "ended" "[I", Cond.fieldLink RX5 77 "SpinKernelModel" "latest" "[I", Cond.fieldLink RX5 50 "SpinKernelModel" "times" "[I", Cond.fieldLink RX5 74 "SpinKernelModel" "greatest" "[I", Cond.fieldLink RX5 19 "SpinKernelModel" "deadlines" "[I", Cond.fieldLink RX5 161 "SpinKernelModel" "behind" "I", Cond.methodLink RX5 164 yX5_hasOpen, Cond.instanceMethod yX5_hasOpen, Cond.selects RX5 yX5_hasOpen yX5_hasOpen, Cond.code yX5_hasOpen cX5_hasOpen 3 (some .boolean)]
def wsX5_tick : List Cond := .code yX5_tick cX5_tick 6 (some .int) :: ((wsX5_tick_r1 ++ (wsX5_tick_r2 ++ wsX5_tick_r3)) ++ wsX50)
def wsX5_core : List Cond := .code yX5_core cX5_core 3 (some .int) :: ([.fieldLink RX5 89 "SpinKernelModel" "lastTask" "[I", .fieldLink RX5 92 "SpinKernelModel" "lastState" "[I", .methodLink RX5 112 yX5_within, .static yX5_within, .initialized RX5, .code yX5_within cX5_within 3 (some .boolean), .methodLink RX5 124 yX5_refused, .instanceMethod yX5_refused, .selects RX5 yX5_refused yX5_refused, .code yX5_refused cX5_refused 4 (some .boolean), .fieldLink RX5 104 "SpinKernelModel" "thrown" "I"] ++ wsX50)
def wsX5_row : List Cond := .code yX5_row cX5_row 4 (some .int) :: ([.fieldLink RX5 40 "SpinKernelModel" "groups" "[I", .fieldLink RX5 98 "SpinKernelModel" "many" "[I", .fieldLink RX5 95 "SpinKernelModel" "rows" "[I", .methodLink RX5 112 yX5_within, .static yX5_within, .initialized RX5, .code yX5_within cX5_within 3 (some .boolean), .methodLink RX5 124 yX5_refused, .instanceMethod yX5_refused, .selects RX5 yX5_refused yX5_refused, .code yX5_refused cX5_refused 4 (some .boolean), .fieldLink RX5 104 "SpinKernelModel" "thrown" "I", .methodLink RX5 139 yX5_findGroups, .instanceMethod yX5_findGroups, .selects RX5 yX5_findGroups yX5_findGroups, .code yX5_findGroups cX5_findGroups 8 none, .fieldLink RX5 25 "SpinKernelModel" "counts" "[I", .fieldLink RX5 37 "SpinKernelModel" "ins" "[I", .fieldLink RX5 31 "SpinKernelModel" "locks" "[I"] ++ wsX50)
def wsX5_jobs : List Cond := .code yX5_jobs cX5_jobs 3 (some .int) :: ([.fieldLink RX5 71 "SpinKernelModel" "ended" "[I", .fieldLink RX5 74 "SpinKernelModel" "greatest" "[I", .fieldLink RX5 77 "SpinKernelModel" "latest" "[I", .fieldLink RX5 43 "SpinKernelModel" "open" "[Z", .methodLink RX5 108 yX5_isTask, .instanceMethod yX5_isTask, .selects RX5 yX5_isTask yX5_isTask, .initialized RX5, .code yX5_isTask cX5_isTask 2 (some .boolean), .fieldLink RX5 7 "SpinKernelModel" "cores" "[I", .methodLink RX5 112 yX5_within, .static yX5_within, .code yX5_within cX5_within 3 (some .boolean), .methodLink RX5 124 yX5_refused, .instanceMethod yX5_refused, .selects RX5 yX5_refused yX5_refused, .code yX5_refused cX5_refused 4 (some .boolean), .fieldLink RX5 104 "SpinKernelModel" "thrown" "I"] ++ wsX50)
def wsX5_spun : List Cond := .code yX5_spun cX5_spun 3 (some .int) :: ([.fieldLink RX5 80 "SpinKernelModel" "spuns" "[I", .methodLink RX5 132 yX5_isRequest, .instanceMethod yX5_isRequest, .selects RX5 yX5_isRequest yX5_isRequest, .initialized RX5, .code yX5_isRequest cX5_isRequest 3 (some .boolean), .fieldLink RX5 25 "SpinKernelModel" "counts" "[I", .methodLink RX5 108 yX5_isTask, .instanceMethod yX5_isTask, .selects RX5 yX5_isTask yX5_isTask, .code yX5_isTask cX5_isTask 2 (some .boolean), .fieldLink RX5 7 "SpinKernelModel" "cores" "[I", .methodLink RX5 124 yX5_refused, .instanceMethod yX5_refused, .selects RX5 yX5_refused yX5_refused, .code yX5_refused cX5_refused 4 (some .boolean), .fieldLink RX5 104 "SpinKernelModel" "thrown" "I"] ++ wsX50)
def wsX5_late : List Cond := .code yX5_late cX5_late 3 (some .int) :: ([.fieldLink RX5 104 "SpinKernelModel" "thrown" "I", .fieldLink RX5 161 "SpinKernelModel" "behind" "I", .fieldLink RX5 43 "SpinKernelModel" "open" "[Z", .fieldLink RX5 158 "SpinKernelModel" "now" "I", .fieldLink RX5 50 "SpinKernelModel" "times" "[I", .fieldLink RX5 19 "SpinKernelModel" "deadlines" "[I"] ++ wsX50)
def wsJ9_max_7cf53 : List Cond := .code yJ9_max_7cf53 cJ9_max_7cf53 2 (some .int) :: ([])
def wsJ9_min_7cf53 : List Cond := .code yJ9_min_7cf53 cJ9_min_7cf53 2 (some .int) :: ([])
abbrev vwCl : List vw_C := [(RX0, TX0, 12), (RX1, TX1, 8), (RX2, TX2, 2), (RX3, TX3, 10), (RX4, TX4, 8), (RX5, TX5, 34)]
end
section
/-! THE WORLD: every cell that the class, the reference and the law hold, by kind and two indices; a state is the ints of the cells' slots. Written by wip/whole/mkstate.py. -/
abbrev ks_S : Type := Nat → Nat → Nat → Nat → Int32
abbrev ks_A : Type := Nat → Nat → Nat → Nat
def ks_up (σ : ks_S) (k i j z : Nat) (v : Int32) : ks_S := fun k' i' j' z' => if k' = k ∧ i' = i ∧ j' = j ∧ z' = z then v else σ k' i' j' z'
theorem ks_up_c (σ : ks_S) (k i j z : Nat) (v : Int32) : ks_up σ k i j z v k i j = upd (σ k i j) z v := by
  funext z'
  simp [ks_up, upd]
theorem ks_up_ne (σ : ks_S) {k i j k' i' j' : Nat} (z : Nat) (v : Int32) (h : ¬ (k' = k ∧ i' = i ∧ j' = j)) : ks_up σ k i j z v k' i' j' = σ k' i' j' := by
  funext z'
  simp only [ks_up]
  rw [if_neg]
  intro q
  exact h ⟨q.1, q.2.1, q.2.2.1⟩
def ks_in (x : Int32) (n : Nat) : Bool := decide (0 ≤ x.toInt) && decide (x.toInt < n)
theorem ks_in_vp {x : Int32} {n : Nat} (h : ks_in x n = true) : vp_in x n := by
  simp only [ks_in, Bool.and_eq_true, decide_eq_true_eq] at h
  exact vp_in_iff.mpr h
theorem ks_in_lt {x : Int32} {n : Nat} (h : ks_in x n = true) : x.toNatClampNeg < n := by
  simp only [ks_in, Bool.and_eq_true, decide_eq_true_eq] at h
  have hc : x.toNatClampNeg = x.toInt.toNat := rfl
  omega
abbrev ks_r (f : Nat → Nat) : (Nat → Int32) ⊕ (Nat → Int64) ⊕ (Nat → UInt32) ⊕ (Nat → UInt64) ⊕ (Nat → Option Nat) := .inr (.inr (.inr (.inr (fun n => some (f n)))))
def ks_c (cy : Nat → ClassId) (ad : ks_A) (o : Int64) (k i j : Nat) (c : Nat → Int32) : va_E :=
  if k = 0 then .inr (4, [.ref (ad 1 0 0), .ref (ad 2 0 0), .ref (ad 3 0 0), .ref (ad 4 0 0), .ref (ad 6 0 0), .ref (ad 7 0 0), .int (c 6), .int (c 7)])
  else if k = 1 then .inl (cy 3, 16, ks_r (fun n => ad 8 n 0))
  else if k = 2 then .inl (cy 4, 8, ks_r (fun n => ad 12 n 0))
  else if k = 3 then .inl (cy 0, 8, .inl c)
  else if k = 4 then .inl (cy 6, 4, ks_r (fun n => ad 5 n 0))
  else if k = 5 then .inl (cy 0, 8, .inl c)
  else if k = 6 then .inl (cy 0, 4, .inl c)
  else if k = 7 then .inl (cy 0, 4, .inl c)
  else if k = 8 then .inr (3, [.int (c 0), .int (c 1), .int (c 2), .int (c 3), .int (c 4), .int (c 5), .int (c 6), .int (c 7), .ref (ad 10 i 0), .ref (ad 9 i 0)])
  else if k = 9 then .inr (0, [.int (c 0), .int (c 1), .int (c 2), .int (c 3), .int (c 4), .int (c 5), .int (c 6), .int (c 7), .int (c 8), .int (c 9), .int (c 10), .int (c 11)])
  else if k = 10 then .inl (cy 5, 6, ks_r (fun n => ad 11 i n))
  else if k = 11 then .inr (1, [.int (c 0), .int (c 1), .int (c 2), .int (c 3), .int (c 4), .int (c 5), .int (c 6), .int (c 7)])
  else if k = 12 then .inr (2, [.ref (ad 13 i 0), .int (c 1)])
  else if k = 13 then .inl (cy 0, 4, .inl c)
  else if k = 14 then .inr (5, [.int (c 0), .ref (ad 15 0 0), .ref (ad 16 0 0), .ref (ad 17 0 0), .ref (ad 18 0 0), .ref (ad 19 0 0), .ref (ad 20 0 0), .ref (ad 21 0 0), .ref (ad 22 0 0), .ref (ad 23 0 0), .ref (ad 24 0 0), .ref (ad 25 0 0), .int (c 12), .int (c 13), .ref (ad 26 0 0), .ref (ad 27 0 0), .ref (ad 28 0 0), .ref (ad 29 0 0), .ref (ad 30 0 0), .ref (ad 31 0 0), .ref (ad 32 0 0), .ref (ad 33 0 0), .ref (ad 34 0 0), .ref (ad 35 0 0), .ref (ad 36 0 0), .ref (ad 37 0 0), .ref (ad 38 0 0), .int (c 27), .ref (ad 39 0 0), .ref (ad 40 0 0), .ref (ad 41 0 0), .ref (ad 42 0 0), .ref (ad 43 0 0), .ref (ad 44 0 0)])
  else if k = 15 then .inl (cy 0, 16, .inl c)
  else if k = 16 then .inl (cy 0, 16, .inl c)
  else if k = 17 then .inl (cy 0, 16, .inl c)
  else if k = 18 then .inl (cy 0, 16, .inl c)
  else if k = 19 then .inl (cy 0, 16, .inl c)
  else if k = 20 then .inl (cy 0, 16, .inl c)
  else if k = 21 then .inl (cy 0, 96, .inl c)
  else if k = 22 then .inl (cy 0, 96, .inl c)
  else if k = 23 then .inl (cy 0, 96, .inl c)
  else if k = 24 then .inl (cy 0, 96, .inl c)
  else if k = 25 then .inl (cy 0, 8, .inl c)
  else if k = 26 then .inl (cy 1, 16, .inl c)
  else if k = 27 then .inl (cy 1, 16, .inl c)
  else if k = 28 then .inl (cy 0, 16, .inl c)
  else if k = 29 then .inl (cy 0, 16, .inl c)
  else if k = 30 then .inl (cy 0, 16, .inl c)
  else if k = 31 then .inl (cy 0, 16, .inl c)
  else if k = 32 then .inl (cy 0, 16, .inl c)
  else if k = 33 then .inl (cy 0, 96, .inl c)
  else if k = 34 then .inl (cy 0, 96, .inl c)
  else if k = 35 then .inl (cy 0, 16, .inl c)
  else if k = 36 then .inl (cy 0, 16, .inl c)
  else if k = 37 then .inl (cy 0, 16, .inl c)
  else if k = 38 then .inl (cy 0, 96, .inl c)
  else if k = 39 then .inl (cy 0, 4, .inl c)
  else if k = 40 then .inl (cy 0, 4, .inl c)
  else if k = 41 then .inl (cy 0, 4, .inl c)
  else if k = 42 then .inl (cy 0, 4, .inl c)
  else if k = 43 then .inl (cy 0, 32, .inl c)
  else if k = 44 then .inl (cy 0, 8, .inl c)
  else if k = 45 then .inl (cy 2, 1, .inr (.inl (fun _ => o)))
  else .inl (cy 0, 0, .inl c)
def ks_n1 (k : Nat) : Nat := if k = 5 then 4 else if k = 8 then 16 else if k = 9 then 16 else if k = 10 then 16 else if k = 11 then 16 else if k = 12 then 8 else if k = 13 then 8 else 1
def ks_n2 (k : Nat) : Nat := if k = 11 then 6 else 1
def ks_v (k i j : Nat) : Prop := k < 46 ∧ i < ks_n1 k ∧ j < ks_n2 k
theorem ks_v0 {i j : Nat} : ks_v 0 0 0 := ⟨by decide, by decide, by decide⟩
theorem ks_v1 {i j : Nat} : ks_v 1 0 0 := ⟨by decide, by decide, by decide⟩
theorem ks_v2 {i j : Nat} : ks_v 2 0 0 := ⟨by decide, by decide, by decide⟩
theorem ks_v3 {i j : Nat} : ks_v 3 0 0 := ⟨by decide, by decide, by decide⟩
theorem ks_v4 {i j : Nat} : ks_v 4 0 0 := ⟨by decide, by decide, by decide⟩
theorem ks_v5 {i j : Nat} (hi : i < 4) : ks_v 5 i 0 := ⟨by decide, hi, by decide⟩
theorem ks_v6 {i j : Nat} : ks_v 6 0 0 := ⟨by decide, by decide, by decide⟩
theorem ks_v7 {i j : Nat} : ks_v 7 0 0 := ⟨by decide, by decide, by decide⟩
theorem ks_v8 {i j : Nat} (hi : i < 16) : ks_v 8 i 0 := ⟨by decide, hi, by decide⟩
theorem ks_v9 {i j : Nat} (hi : i < 16) : ks_v 9 i 0 := ⟨by decide, hi, by decide⟩
theorem ks_v10 {i j : Nat} (hi : i < 16) : ks_v 10 i 0 := ⟨by decide, hi, by decide⟩
theorem ks_v11 {i j : Nat} (hi : i < 16) (hj : j < 6) : ks_v 11 i j := ⟨by decide, hi, hj⟩
theorem ks_v12 {i j : Nat} (hi : i < 8) : ks_v 12 i 0 := ⟨by decide, hi, by decide⟩
theorem ks_v13 {i j : Nat} (hi : i < 8) : ks_v 13 i 0 := ⟨by decide, hi, by decide⟩
theorem ks_v14 {i j : Nat} : ks_v 14 0 0 := ⟨by decide, by decide, by decide⟩
theorem ks_v15 {i j : Nat} : ks_v 15 0 0 := ⟨by decide, by decide, by decide⟩
theorem ks_v16 {i j : Nat} : ks_v 16 0 0 := ⟨by decide, by decide, by decide⟩
theorem ks_v17 {i j : Nat} : ks_v 17 0 0 := ⟨by decide, by decide, by decide⟩
theorem ks_v18 {i j : Nat} : ks_v 18 0 0 := ⟨by decide, by decide, by decide⟩
theorem ks_v19 {i j : Nat} : ks_v 19 0 0 := ⟨by decide, by decide, by decide⟩
theorem ks_v20 {i j : Nat} : ks_v 20 0 0 := ⟨by decide, by decide, by decide⟩
theorem ks_v21 {i j : Nat} : ks_v 21 0 0 := ⟨by decide, by decide, by decide⟩
theorem ks_v22 {i j : Nat} : ks_v 22 0 0 := ⟨by decide, by decide, by decide⟩
theorem ks_v23 {i j : Nat} : ks_v 23 0 0 := ⟨by decide, by decide, by decide⟩
theorem ks_v24 {i j : Nat} : ks_v 24 0 0 := ⟨by decide, by decide, by decide⟩
theorem ks_v25 {i j : Nat} : ks_v 25 0 0 := ⟨by decide, by decide, by decide⟩
theorem ks_v26 {i j : Nat} : ks_v 26 0 0 := ⟨by decide, by decide, by decide⟩
theorem ks_v27 {i j : Nat} : ks_v 27 0 0 := ⟨by decide, by decide, by decide⟩
theorem ks_v28 {i j : Nat} : ks_v 28 0 0 := ⟨by decide, by decide, by decide⟩
theorem ks_v29 {i j : Nat} : ks_v 29 0 0 := ⟨by decide, by decide, by decide⟩
theorem ks_v30 {i j : Nat} : ks_v 30 0 0 := ⟨by decide, by decide, by decide⟩
theorem ks_v31 {i j : Nat} : ks_v 31 0 0 := ⟨by decide, by decide, by decide⟩
theorem ks_v32 {i j : Nat} : ks_v 32 0 0 := ⟨by decide, by decide, by decide⟩
theorem ks_v33 {i j : Nat} : ks_v 33 0 0 := ⟨by decide, by decide, by decide⟩
theorem ks_v34 {i j : Nat} : ks_v 34 0 0 := ⟨by decide, by decide, by decide⟩
theorem ks_v35 {i j : Nat} : ks_v 35 0 0 := ⟨by decide, by decide, by decide⟩
theorem ks_v36 {i j : Nat} : ks_v 36 0 0 := ⟨by decide, by decide, by decide⟩
theorem ks_v37 {i j : Nat} : ks_v 37 0 0 := ⟨by decide, by decide, by decide⟩
theorem ks_v38 {i j : Nat} : ks_v 38 0 0 := ⟨by decide, by decide, by decide⟩
theorem ks_v39 {i j : Nat} : ks_v 39 0 0 := ⟨by decide, by decide, by decide⟩
theorem ks_v40 {i j : Nat} : ks_v 40 0 0 := ⟨by decide, by decide, by decide⟩
theorem ks_v41 {i j : Nat} : ks_v 41 0 0 := ⟨by decide, by decide, by decide⟩
theorem ks_v42 {i j : Nat} : ks_v 42 0 0 := ⟨by decide, by decide, by decide⟩
theorem ks_v43 {i j : Nat} : ks_v 43 0 0 := ⟨by decide, by decide, by decide⟩
theorem ks_v44 {i j : Nat} : ks_v 44 0 0 := ⟨by decide, by decide, by decide⟩
theorem ks_v45 {i j : Nat} : ks_v 45 0 0 := ⟨by decide, by decide, by decide⟩
theorem ks_c0 (cy : Nat → ClassId) (ad : ks_A) (o : Int64) (i j : Nat) (c : Nat → Int32) : ks_c cy ad o 0 i j c = .inr (4, [.ref (ad 1 0 0), .ref (ad 2 0 0), .ref (ad 3 0 0), .ref (ad 4 0 0), .ref (ad 6 0 0), .ref (ad 7 0 0), .int (c 6), .int (c 7)]) := rfl
theorem ks_c1 (cy : Nat → ClassId) (ad : ks_A) (o : Int64) (i j : Nat) (c : Nat → Int32) : ks_c cy ad o 1 i j c = .inl (cy 3, 16, ks_r (fun n => ad 8 n 0)) := rfl
theorem ks_c2 (cy : Nat → ClassId) (ad : ks_A) (o : Int64) (i j : Nat) (c : Nat → Int32) : ks_c cy ad o 2 i j c = .inl (cy 4, 8, ks_r (fun n => ad 12 n 0)) := rfl
theorem ks_c3 (cy : Nat → ClassId) (ad : ks_A) (o : Int64) (i j : Nat) (c : Nat → Int32) : ks_c cy ad o 3 i j c = .inl (cy 0, 8, .inl c) := rfl
theorem ks_c4 (cy : Nat → ClassId) (ad : ks_A) (o : Int64) (i j : Nat) (c : Nat → Int32) : ks_c cy ad o 4 i j c = .inl (cy 6, 4, ks_r (fun n => ad 5 n 0)) := rfl
theorem ks_c5 (cy : Nat → ClassId) (ad : ks_A) (o : Int64) (i j : Nat) (c : Nat → Int32) : ks_c cy ad o 5 i j c = .inl (cy 0, 8, .inl c) := rfl
theorem ks_c6 (cy : Nat → ClassId) (ad : ks_A) (o : Int64) (i j : Nat) (c : Nat → Int32) : ks_c cy ad o 6 i j c = .inl (cy 0, 4, .inl c) := rfl
theorem ks_c7 (cy : Nat → ClassId) (ad : ks_A) (o : Int64) (i j : Nat) (c : Nat → Int32) : ks_c cy ad o 7 i j c = .inl (cy 0, 4, .inl c) := rfl
theorem ks_c8 (cy : Nat → ClassId) (ad : ks_A) (o : Int64) (i j : Nat) (c : Nat → Int32) : ks_c cy ad o 8 i j c = .inr (3, [.int (c 0), .int (c 1), .int (c 2), .int (c 3), .int (c 4), .int (c 5), .int (c 6), .int (c 7), .ref (ad 10 i 0), .ref (ad 9 i 0)]) := rfl
theorem ks_c9 (cy : Nat → ClassId) (ad : ks_A) (o : Int64) (i j : Nat) (c : Nat → Int32) : ks_c cy ad o 9 i j c = .inr (0, [.int (c 0), .int (c 1), .int (c 2), .int (c 3), .int (c 4), .int (c 5), .int (c 6), .int (c 7), .int (c 8), .int (c 9), .int (c 10), .int (c 11)]) := rfl
theorem ks_c10 (cy : Nat → ClassId) (ad : ks_A) (o : Int64) (i j : Nat) (c : Nat → Int32) : ks_c cy ad o 10 i j c = .inl (cy 5, 6, ks_r (fun n => ad 11 i n)) := rfl
theorem ks_c11 (cy : Nat → ClassId) (ad : ks_A) (o : Int64) (i j : Nat) (c : Nat → Int32) : ks_c cy ad o 11 i j c = .inr (1, [.int (c 0), .int (c 1), .int (c 2), .int (c 3), .int (c 4), .int (c 5), .int (c 6), .int (c 7)]) := rfl
theorem ks_c12 (cy : Nat → ClassId) (ad : ks_A) (o : Int64) (i j : Nat) (c : Nat → Int32) : ks_c cy ad o 12 i j c = .inr (2, [.ref (ad 13 i 0), .int (c 1)]) := rfl
theorem ks_c13 (cy : Nat → ClassId) (ad : ks_A) (o : Int64) (i j : Nat) (c : Nat → Int32) : ks_c cy ad o 13 i j c = .inl (cy 0, 4, .inl c) := rfl
theorem ks_c14 (cy : Nat → ClassId) (ad : ks_A) (o : Int64) (i j : Nat) (c : Nat → Int32) : ks_c cy ad o 14 i j c = .inr (5, [.int (c 0), .ref (ad 15 0 0), .ref (ad 16 0 0), .ref (ad 17 0 0), .ref (ad 18 0 0), .ref (ad 19 0 0), .ref (ad 20 0 0), .ref (ad 21 0 0), .ref (ad 22 0 0), .ref (ad 23 0 0), .ref (ad 24 0 0), .ref (ad 25 0 0), .int (c 12), .int (c 13), .ref (ad 26 0 0), .ref (ad 27 0 0), .ref (ad 28 0 0), .ref (ad 29 0 0), .ref (ad 30 0 0), .ref (ad 31 0 0), .ref (ad 32 0 0), .ref (ad 33 0 0), .ref (ad 34 0 0), .ref (ad 35 0 0), .ref (ad 36 0 0), .ref (ad 37 0 0), .ref (ad 38 0 0), .int (c 27), .ref (ad 39 0 0), .ref (ad 40 0 0), .ref (ad 41 0 0), .ref (ad 42 0 0), .ref (ad 43 0 0), .ref (ad 44 0 0)]) := rfl
theorem ks_c15 (cy : Nat → ClassId) (ad : ks_A) (o : Int64) (i j : Nat) (c : Nat → Int32) : ks_c cy ad o 15 i j c = .inl (cy 0, 16, .inl c) := rfl
theorem ks_c16 (cy : Nat → ClassId) (ad : ks_A) (o : Int64) (i j : Nat) (c : Nat → Int32) : ks_c cy ad o 16 i j c = .inl (cy 0, 16, .inl c) := rfl
theorem ks_c17 (cy : Nat → ClassId) (ad : ks_A) (o : Int64) (i j : Nat) (c : Nat → Int32) : ks_c cy ad o 17 i j c = .inl (cy 0, 16, .inl c) := rfl
theorem ks_c18 (cy : Nat → ClassId) (ad : ks_A) (o : Int64) (i j : Nat) (c : Nat → Int32) : ks_c cy ad o 18 i j c = .inl (cy 0, 16, .inl c) := rfl
theorem ks_c19 (cy : Nat → ClassId) (ad : ks_A) (o : Int64) (i j : Nat) (c : Nat → Int32) : ks_c cy ad o 19 i j c = .inl (cy 0, 16, .inl c) := rfl
theorem ks_c20 (cy : Nat → ClassId) (ad : ks_A) (o : Int64) (i j : Nat) (c : Nat → Int32) : ks_c cy ad o 20 i j c = .inl (cy 0, 16, .inl c) := rfl
theorem ks_c21 (cy : Nat → ClassId) (ad : ks_A) (o : Int64) (i j : Nat) (c : Nat → Int32) : ks_c cy ad o 21 i j c = .inl (cy 0, 96, .inl c) := rfl
theorem ks_c22 (cy : Nat → ClassId) (ad : ks_A) (o : Int64) (i j : Nat) (c : Nat → Int32) : ks_c cy ad o 22 i j c = .inl (cy 0, 96, .inl c) := rfl
theorem ks_c23 (cy : Nat → ClassId) (ad : ks_A) (o : Int64) (i j : Nat) (c : Nat → Int32) : ks_c cy ad o 23 i j c = .inl (cy 0, 96, .inl c) := rfl
theorem ks_c24 (cy : Nat → ClassId) (ad : ks_A) (o : Int64) (i j : Nat) (c : Nat → Int32) : ks_c cy ad o 24 i j c = .inl (cy 0, 96, .inl c) := rfl
theorem ks_c25 (cy : Nat → ClassId) (ad : ks_A) (o : Int64) (i j : Nat) (c : Nat → Int32) : ks_c cy ad o 25 i j c = .inl (cy 0, 8, .inl c) := rfl
theorem ks_c26 (cy : Nat → ClassId) (ad : ks_A) (o : Int64) (i j : Nat) (c : Nat → Int32) : ks_c cy ad o 26 i j c = .inl (cy 1, 16, .inl c) := rfl
theorem ks_c27 (cy : Nat → ClassId) (ad : ks_A) (o : Int64) (i j : Nat) (c : Nat → Int32) : ks_c cy ad o 27 i j c = .inl (cy 1, 16, .inl c) := rfl
theorem ks_c28 (cy : Nat → ClassId) (ad : ks_A) (o : Int64) (i j : Nat) (c : Nat → Int32) : ks_c cy ad o 28 i j c = .inl (cy 0, 16, .inl c) := rfl
theorem ks_c29 (cy : Nat → ClassId) (ad : ks_A) (o : Int64) (i j : Nat) (c : Nat → Int32) : ks_c cy ad o 29 i j c = .inl (cy 0, 16, .inl c) := rfl
theorem ks_c30 (cy : Nat → ClassId) (ad : ks_A) (o : Int64) (i j : Nat) (c : Nat → Int32) : ks_c cy ad o 30 i j c = .inl (cy 0, 16, .inl c) := rfl
theorem ks_c31 (cy : Nat → ClassId) (ad : ks_A) (o : Int64) (i j : Nat) (c : Nat → Int32) : ks_c cy ad o 31 i j c = .inl (cy 0, 16, .inl c) := rfl
theorem ks_c32 (cy : Nat → ClassId) (ad : ks_A) (o : Int64) (i j : Nat) (c : Nat → Int32) : ks_c cy ad o 32 i j c = .inl (cy 0, 16, .inl c) := rfl
theorem ks_c33 (cy : Nat → ClassId) (ad : ks_A) (o : Int64) (i j : Nat) (c : Nat → Int32) : ks_c cy ad o 33 i j c = .inl (cy 0, 96, .inl c) := rfl
theorem ks_c34 (cy : Nat → ClassId) (ad : ks_A) (o : Int64) (i j : Nat) (c : Nat → Int32) : ks_c cy ad o 34 i j c = .inl (cy 0, 96, .inl c) := rfl
theorem ks_c35 (cy : Nat → ClassId) (ad : ks_A) (o : Int64) (i j : Nat) (c : Nat → Int32) : ks_c cy ad o 35 i j c = .inl (cy 0, 16, .inl c) := rfl
theorem ks_c36 (cy : Nat → ClassId) (ad : ks_A) (o : Int64) (i j : Nat) (c : Nat → Int32) : ks_c cy ad o 36 i j c = .inl (cy 0, 16, .inl c) := rfl
theorem ks_c37 (cy : Nat → ClassId) (ad : ks_A) (o : Int64) (i j : Nat) (c : Nat → Int32) : ks_c cy ad o 37 i j c = .inl (cy 0, 16, .inl c) := rfl
theorem ks_c38 (cy : Nat → ClassId) (ad : ks_A) (o : Int64) (i j : Nat) (c : Nat → Int32) : ks_c cy ad o 38 i j c = .inl (cy 0, 96, .inl c) := rfl
theorem ks_c39 (cy : Nat → ClassId) (ad : ks_A) (o : Int64) (i j : Nat) (c : Nat → Int32) : ks_c cy ad o 39 i j c = .inl (cy 0, 4, .inl c) := rfl
theorem ks_c40 (cy : Nat → ClassId) (ad : ks_A) (o : Int64) (i j : Nat) (c : Nat → Int32) : ks_c cy ad o 40 i j c = .inl (cy 0, 4, .inl c) := rfl
theorem ks_c41 (cy : Nat → ClassId) (ad : ks_A) (o : Int64) (i j : Nat) (c : Nat → Int32) : ks_c cy ad o 41 i j c = .inl (cy 0, 4, .inl c) := rfl
theorem ks_c42 (cy : Nat → ClassId) (ad : ks_A) (o : Int64) (i j : Nat) (c : Nat → Int32) : ks_c cy ad o 42 i j c = .inl (cy 0, 4, .inl c) := rfl
theorem ks_c43 (cy : Nat → ClassId) (ad : ks_A) (o : Int64) (i j : Nat) (c : Nat → Int32) : ks_c cy ad o 43 i j c = .inl (cy 0, 32, .inl c) := rfl
theorem ks_c44 (cy : Nat → ClassId) (ad : ks_A) (o : Int64) (i j : Nat) (c : Nat → Int32) : ks_c cy ad o 44 i j c = .inl (cy 0, 8, .inl c) := rfl
theorem ks_c45 (cy : Nat → ClassId) (ad : ks_A) (o : Int64) (i j : Nat) (c : Nat → Int32) : ks_c cy ad o 45 i j c = .inl (cy 2, 1, .inr (.inl (fun _ => o))) := rfl
theorem ks_c0s6 (cy : Nat → ClassId) (ad : ks_A) (o : Int64) (i j : Nat) (c : Nat → Int32) (v : Int32) : ks_c cy ad o 0 i j (upd c 6 v) = .inr (4, ([.ref (ad 1 0 0), .ref (ad 2 0 0), .ref (ad 3 0 0), .ref (ad 4 0 0), .ref (ad 6 0 0), .ref (ad 7 0 0), .int (c 6), .int (c 7)] : List Value).set 6 (.int v)) := rfl
theorem ks_c0s7 (cy : Nat → ClassId) (ad : ks_A) (o : Int64) (i j : Nat) (c : Nat → Int32) (v : Int32) : ks_c cy ad o 0 i j (upd c 7 v) = .inr (4, ([.ref (ad 1 0 0), .ref (ad 2 0 0), .ref (ad 3 0 0), .ref (ad 4 0 0), .ref (ad 6 0 0), .ref (ad 7 0 0), .int (c 6), .int (c 7)] : List Value).set 7 (.int v)) := rfl
theorem ks_c8s0 (cy : Nat → ClassId) (ad : ks_A) (o : Int64) (i j : Nat) (c : Nat → Int32) (v : Int32) : ks_c cy ad o 8 i j (upd c 0 v) = .inr (3, ([.int (c 0), .int (c 1), .int (c 2), .int (c 3), .int (c 4), .int (c 5), .int (c 6), .int (c 7), .ref (ad 10 i 0), .ref (ad 9 i 0)] : List Value).set 0 (.int v)) := rfl
theorem ks_c8s1 (cy : Nat → ClassId) (ad : ks_A) (o : Int64) (i j : Nat) (c : Nat → Int32) (v : Int32) : ks_c cy ad o 8 i j (upd c 1 v) = .inr (3, ([.int (c 0), .int (c 1), .int (c 2), .int (c 3), .int (c 4), .int (c 5), .int (c 6), .int (c 7), .ref (ad 10 i 0), .ref (ad 9 i 0)] : List Value).set 1 (.int v)) := rfl
theorem ks_c8s2 (cy : Nat → ClassId) (ad : ks_A) (o : Int64) (i j : Nat) (c : Nat → Int32) (v : Int32) : ks_c cy ad o 8 i j (upd c 2 v) = .inr (3, ([.int (c 0), .int (c 1), .int (c 2), .int (c 3), .int (c 4), .int (c 5), .int (c 6), .int (c 7), .ref (ad 10 i 0), .ref (ad 9 i 0)] : List Value).set 2 (.int v)) := rfl
theorem ks_c8s3 (cy : Nat → ClassId) (ad : ks_A) (o : Int64) (i j : Nat) (c : Nat → Int32) (v : Int32) : ks_c cy ad o 8 i j (upd c 3 v) = .inr (3, ([.int (c 0), .int (c 1), .int (c 2), .int (c 3), .int (c 4), .int (c 5), .int (c 6), .int (c 7), .ref (ad 10 i 0), .ref (ad 9 i 0)] : List Value).set 3 (.int v)) := rfl
theorem ks_c8s4 (cy : Nat → ClassId) (ad : ks_A) (o : Int64) (i j : Nat) (c : Nat → Int32) (v : Int32) : ks_c cy ad o 8 i j (upd c 4 v) = .inr (3, ([.int (c 0), .int (c 1), .int (c 2), .int (c 3), .int (c 4), .int (c 5), .int (c 6), .int (c 7), .ref (ad 10 i 0), .ref (ad 9 i 0)] : List Value).set 4 (.int v)) := rfl
theorem ks_c8s5 (cy : Nat → ClassId) (ad : ks_A) (o : Int64) (i j : Nat) (c : Nat → Int32) (v : Int32) : ks_c cy ad o 8 i j (upd c 5 v) = .inr (3, ([.int (c 0), .int (c 1), .int (c 2), .int (c 3), .int (c 4), .int (c 5), .int (c 6), .int (c 7), .ref (ad 10 i 0), .ref (ad 9 i 0)] : List Value).set 5 (.int v)) := rfl
theorem ks_c8s6 (cy : Nat → ClassId) (ad : ks_A) (o : Int64) (i j : Nat) (c : Nat → Int32) (v : Int32) : ks_c cy ad o 8 i j (upd c 6 v) = .inr (3, ([.int (c 0), .int (c 1), .int (c 2), .int (c 3), .int (c 4), .int (c 5), .int (c 6), .int (c 7), .ref (ad 10 i 0), .ref (ad 9 i 0)] : List Value).set 6 (.int v)) := rfl
theorem ks_c8s7 (cy : Nat → ClassId) (ad : ks_A) (o : Int64) (i j : Nat) (c : Nat → Int32) (v : Int32) : ks_c cy ad o 8 i j (upd c 7 v) = .inr (3, ([.int (c 0), .int (c 1), .int (c 2), .int (c 3), .int (c 4), .int (c 5), .int (c 6), .int (c 7), .ref (ad 10 i 0), .ref (ad 9 i 0)] : List Value).set 7 (.int v)) := rfl
theorem ks_c9s0 (cy : Nat → ClassId) (ad : ks_A) (o : Int64) (i j : Nat) (c : Nat → Int32) (v : Int32) : ks_c cy ad o 9 i j (upd c 0 v) = .inr (0, ([.int (c 0), .int (c 1), .int (c 2), .int (c 3), .int (c 4), .int (c 5), .int (c 6), .int (c 7), .int (c 8), .int (c 9), .int (c 10), .int (c 11)] : List Value).set 0 (.int v)) := rfl
theorem ks_c9s1 (cy : Nat → ClassId) (ad : ks_A) (o : Int64) (i j : Nat) (c : Nat → Int32) (v : Int32) : ks_c cy ad o 9 i j (upd c 1 v) = .inr (0, ([.int (c 0), .int (c 1), .int (c 2), .int (c 3), .int (c 4), .int (c 5), .int (c 6), .int (c 7), .int (c 8), .int (c 9), .int (c 10), .int (c 11)] : List Value).set 1 (.int v)) := rfl
theorem ks_c9s2 (cy : Nat → ClassId) (ad : ks_A) (o : Int64) (i j : Nat) (c : Nat → Int32) (v : Int32) : ks_c cy ad o 9 i j (upd c 2 v) = .inr (0, ([.int (c 0), .int (c 1), .int (c 2), .int (c 3), .int (c 4), .int (c 5), .int (c 6), .int (c 7), .int (c 8), .int (c 9), .int (c 10), .int (c 11)] : List Value).set 2 (.int v)) := rfl
theorem ks_c9s3 (cy : Nat → ClassId) (ad : ks_A) (o : Int64) (i j : Nat) (c : Nat → Int32) (v : Int32) : ks_c cy ad o 9 i j (upd c 3 v) = .inr (0, ([.int (c 0), .int (c 1), .int (c 2), .int (c 3), .int (c 4), .int (c 5), .int (c 6), .int (c 7), .int (c 8), .int (c 9), .int (c 10), .int (c 11)] : List Value).set 3 (.int v)) := rfl
theorem ks_c9s4 (cy : Nat → ClassId) (ad : ks_A) (o : Int64) (i j : Nat) (c : Nat → Int32) (v : Int32) : ks_c cy ad o 9 i j (upd c 4 v) = .inr (0, ([.int (c 0), .int (c 1), .int (c 2), .int (c 3), .int (c 4), .int (c 5), .int (c 6), .int (c 7), .int (c 8), .int (c 9), .int (c 10), .int (c 11)] : List Value).set 4 (.int v)) := rfl
theorem ks_c9s5 (cy : Nat → ClassId) (ad : ks_A) (o : Int64) (i j : Nat) (c : Nat → Int32) (v : Int32) : ks_c cy ad o 9 i j (upd c 5 v) = .inr (0, ([.int (c 0), .int (c 1), .int (c 2), .int (c 3), .int (c 4), .int (c 5), .int (c 6), .int (c 7), .int (c 8), .int (c 9), .int (c 10), .int (c 11)] : List Value).set 5 (.int v)) := rfl
theorem ks_c9s6 (cy : Nat → ClassId) (ad : ks_A) (o : Int64) (i j : Nat) (c : Nat → Int32) (v : Int32) : ks_c cy ad o 9 i j (upd c 6 v) = .inr (0, ([.int (c 0), .int (c 1), .int (c 2), .int (c 3), .int (c 4), .int (c 5), .int (c 6), .int (c 7), .int (c 8), .int (c 9), .int (c 10), .int (c 11)] : List Value).set 6 (.int v)) := rfl
theorem ks_c9s7 (cy : Nat → ClassId) (ad : ks_A) (o : Int64) (i j : Nat) (c : Nat → Int32) (v : Int32) : ks_c cy ad o 9 i j (upd c 7 v) = .inr (0, ([.int (c 0), .int (c 1), .int (c 2), .int (c 3), .int (c 4), .int (c 5), .int (c 6), .int (c 7), .int (c 8), .int (c 9), .int (c 10), .int (c 11)] : List Value).set 7 (.int v)) := rfl
theorem ks_c9s8 (cy : Nat → ClassId) (ad : ks_A) (o : Int64) (i j : Nat) (c : Nat → Int32) (v : Int32) : ks_c cy ad o 9 i j (upd c 8 v) = .inr (0, ([.int (c 0), .int (c 1), .int (c 2), .int (c 3), .int (c 4), .int (c 5), .int (c 6), .int (c 7), .int (c 8), .int (c 9), .int (c 10), .int (c 11)] : List Value).set 8 (.int v)) := rfl
theorem ks_c9s9 (cy : Nat → ClassId) (ad : ks_A) (o : Int64) (i j : Nat) (c : Nat → Int32) (v : Int32) : ks_c cy ad o 9 i j (upd c 9 v) = .inr (0, ([.int (c 0), .int (c 1), .int (c 2), .int (c 3), .int (c 4), .int (c 5), .int (c 6), .int (c 7), .int (c 8), .int (c 9), .int (c 10), .int (c 11)] : List Value).set 9 (.int v)) := rfl
theorem ks_c9s10 (cy : Nat → ClassId) (ad : ks_A) (o : Int64) (i j : Nat) (c : Nat → Int32) (v : Int32) : ks_c cy ad o 9 i j (upd c 10 v) = .inr (0, ([.int (c 0), .int (c 1), .int (c 2), .int (c 3), .int (c 4), .int (c 5), .int (c 6), .int (c 7), .int (c 8), .int (c 9), .int (c 10), .int (c 11)] : List Value).set 10 (.int v)) := rfl
theorem ks_c9s11 (cy : Nat → ClassId) (ad : ks_A) (o : Int64) (i j : Nat) (c : Nat → Int32) (v : Int32) : ks_c cy ad o 9 i j (upd c 11 v) = .inr (0, ([.int (c 0), .int (c 1), .int (c 2), .int (c 3), .int (c 4), .int (c 5), .int (c 6), .int (c 7), .int (c 8), .int (c 9), .int (c 10), .int (c 11)] : List Value).set 11 (.int v)) := rfl
theorem ks_c11s0 (cy : Nat → ClassId) (ad : ks_A) (o : Int64) (i j : Nat) (c : Nat → Int32) (v : Int32) : ks_c cy ad o 11 i j (upd c 0 v) = .inr (1, ([.int (c 0), .int (c 1), .int (c 2), .int (c 3), .int (c 4), .int (c 5), .int (c 6), .int (c 7)] : List Value).set 0 (.int v)) := rfl
theorem ks_c11s1 (cy : Nat → ClassId) (ad : ks_A) (o : Int64) (i j : Nat) (c : Nat → Int32) (v : Int32) : ks_c cy ad o 11 i j (upd c 1 v) = .inr (1, ([.int (c 0), .int (c 1), .int (c 2), .int (c 3), .int (c 4), .int (c 5), .int (c 6), .int (c 7)] : List Value).set 1 (.int v)) := rfl
theorem ks_c11s2 (cy : Nat → ClassId) (ad : ks_A) (o : Int64) (i j : Nat) (c : Nat → Int32) (v : Int32) : ks_c cy ad o 11 i j (upd c 2 v) = .inr (1, ([.int (c 0), .int (c 1), .int (c 2), .int (c 3), .int (c 4), .int (c 5), .int (c 6), .int (c 7)] : List Value).set 2 (.int v)) := rfl
theorem ks_c11s3 (cy : Nat → ClassId) (ad : ks_A) (o : Int64) (i j : Nat) (c : Nat → Int32) (v : Int32) : ks_c cy ad o 11 i j (upd c 3 v) = .inr (1, ([.int (c 0), .int (c 1), .int (c 2), .int (c 3), .int (c 4), .int (c 5), .int (c 6), .int (c 7)] : List Value).set 3 (.int v)) := rfl
theorem ks_c11s4 (cy : Nat → ClassId) (ad : ks_A) (o : Int64) (i j : Nat) (c : Nat → Int32) (v : Int32) : ks_c cy ad o 11 i j (upd c 4 v) = .inr (1, ([.int (c 0), .int (c 1), .int (c 2), .int (c 3), .int (c 4), .int (c 5), .int (c 6), .int (c 7)] : List Value).set 4 (.int v)) := rfl
theorem ks_c11s5 (cy : Nat → ClassId) (ad : ks_A) (o : Int64) (i j : Nat) (c : Nat → Int32) (v : Int32) : ks_c cy ad o 11 i j (upd c 5 v) = .inr (1, ([.int (c 0), .int (c 1), .int (c 2), .int (c 3), .int (c 4), .int (c 5), .int (c 6), .int (c 7)] : List Value).set 5 (.int v)) := rfl
theorem ks_c11s6 (cy : Nat → ClassId) (ad : ks_A) (o : Int64) (i j : Nat) (c : Nat → Int32) (v : Int32) : ks_c cy ad o 11 i j (upd c 6 v) = .inr (1, ([.int (c 0), .int (c 1), .int (c 2), .int (c 3), .int (c 4), .int (c 5), .int (c 6), .int (c 7)] : List Value).set 6 (.int v)) := rfl
theorem ks_c11s7 (cy : Nat → ClassId) (ad : ks_A) (o : Int64) (i j : Nat) (c : Nat → Int32) (v : Int32) : ks_c cy ad o 11 i j (upd c 7 v) = .inr (1, ([.int (c 0), .int (c 1), .int (c 2), .int (c 3), .int (c 4), .int (c 5), .int (c 6), .int (c 7)] : List Value).set 7 (.int v)) := rfl
theorem ks_c12s1 (cy : Nat → ClassId) (ad : ks_A) (o : Int64) (i j : Nat) (c : Nat → Int32) (v : Int32) : ks_c cy ad o 12 i j (upd c 1 v) = .inr (2, ([.ref (ad 13 i 0), .int (c 1)] : List Value).set 1 (.int v)) := rfl
theorem ks_c14s0 (cy : Nat → ClassId) (ad : ks_A) (o : Int64) (i j : Nat) (c : Nat → Int32) (v : Int32) : ks_c cy ad o 14 i j (upd c 0 v) = .inr (5, ([.int (c 0), .ref (ad 15 0 0), .ref (ad 16 0 0), .ref (ad 17 0 0), .ref (ad 18 0 0), .ref (ad 19 0 0), .ref (ad 20 0 0), .ref (ad 21 0 0), .ref (ad 22 0 0), .ref (ad 23 0 0), .ref (ad 24 0 0), .ref (ad 25 0 0), .int (c 12), .int (c 13), .ref (ad 26 0 0), .ref (ad 27 0 0), .ref (ad 28 0 0), .ref (ad 29 0 0), .ref (ad 30 0 0), .ref (ad 31 0 0), .ref (ad 32 0 0), .ref (ad 33 0 0), .ref (ad 34 0 0), .ref (ad 35 0 0), .ref (ad 36 0 0), .ref (ad 37 0 0), .ref (ad 38 0 0), .int (c 27), .ref (ad 39 0 0), .ref (ad 40 0 0), .ref (ad 41 0 0), .ref (ad 42 0 0), .ref (ad 43 0 0), .ref (ad 44 0 0)] : List Value).set 0 (.int v)) := rfl
theorem ks_c14s12 (cy : Nat → ClassId) (ad : ks_A) (o : Int64) (i j : Nat) (c : Nat → Int32) (v : Int32) : ks_c cy ad o 14 i j (upd c 12 v) = .inr (5, ([.int (c 0), .ref (ad 15 0 0), .ref (ad 16 0 0), .ref (ad 17 0 0), .ref (ad 18 0 0), .ref (ad 19 0 0), .ref (ad 20 0 0), .ref (ad 21 0 0), .ref (ad 22 0 0), .ref (ad 23 0 0), .ref (ad 24 0 0), .ref (ad 25 0 0), .int (c 12), .int (c 13), .ref (ad 26 0 0), .ref (ad 27 0 0), .ref (ad 28 0 0), .ref (ad 29 0 0), .ref (ad 30 0 0), .ref (ad 31 0 0), .ref (ad 32 0 0), .ref (ad 33 0 0), .ref (ad 34 0 0), .ref (ad 35 0 0), .ref (ad 36 0 0), .ref (ad 37 0 0), .ref (ad 38 0 0), .int (c 27), .ref (ad 39 0 0), .ref (ad 40 0 0), .ref (ad 41 0 0), .ref (ad 42 0 0), .ref (ad 43 0 0), .ref (ad 44 0 0)] : List Value).set 12 (.int v)) := rfl
theorem ks_c14s13 (cy : Nat → ClassId) (ad : ks_A) (o : Int64) (i j : Nat) (c : Nat → Int32) (v : Int32) : ks_c cy ad o 14 i j (upd c 13 v) = .inr (5, ([.int (c 0), .ref (ad 15 0 0), .ref (ad 16 0 0), .ref (ad 17 0 0), .ref (ad 18 0 0), .ref (ad 19 0 0), .ref (ad 20 0 0), .ref (ad 21 0 0), .ref (ad 22 0 0), .ref (ad 23 0 0), .ref (ad 24 0 0), .ref (ad 25 0 0), .int (c 12), .int (c 13), .ref (ad 26 0 0), .ref (ad 27 0 0), .ref (ad 28 0 0), .ref (ad 29 0 0), .ref (ad 30 0 0), .ref (ad 31 0 0), .ref (ad 32 0 0), .ref (ad 33 0 0), .ref (ad 34 0 0), .ref (ad 35 0 0), .ref (ad 36 0 0), .ref (ad 37 0 0), .ref (ad 38 0 0), .int (c 27), .ref (ad 39 0 0), .ref (ad 40 0 0), .ref (ad 41 0 0), .ref (ad 42 0 0), .ref (ad 43 0 0), .ref (ad 44 0 0)] : List Value).set 13 (.int v)) := rfl
theorem ks_c14s27 (cy : Nat → ClassId) (ad : ks_A) (o : Int64) (i j : Nat) (c : Nat → Int32) (v : Int32) : ks_c cy ad o 14 i j (upd c 27 v) = .inr (5, ([.int (c 0), .ref (ad 15 0 0), .ref (ad 16 0 0), .ref (ad 17 0 0), .ref (ad 18 0 0), .ref (ad 19 0 0), .ref (ad 20 0 0), .ref (ad 21 0 0), .ref (ad 22 0 0), .ref (ad 23 0 0), .ref (ad 24 0 0), .ref (ad 25 0 0), .int (c 12), .int (c 13), .ref (ad 26 0 0), .ref (ad 27 0 0), .ref (ad 28 0 0), .ref (ad 29 0 0), .ref (ad 30 0 0), .ref (ad 31 0 0), .ref (ad 32 0 0), .ref (ad 33 0 0), .ref (ad 34 0 0), .ref (ad 35 0 0), .ref (ad 36 0 0), .ref (ad 37 0 0), .ref (ad 38 0 0), .int (c 27), .ref (ad 39 0 0), .ref (ad 40 0 0), .ref (ad 41 0 0), .ref (ad 42 0 0), .ref (ad 43 0 0), .ref (ad 44 0 0)] : List Value).set 27 (.int v)) := rfl
abbrev ks_t (cy : Nat → ClassId) : List (ClassId × FieldType) := [(cy 0, .int), (cy 1, .boolean), (cy 2, .long), (cy 3, .object RX3), (cy 4, .object RX2), (cy 5, .object RX1), (cy 6, .array .int)]
def ks_W (D : va_G) (cy : Nat → ClassId) (ad : ks_A) (σ : ks_S) (o : Int64) (H : Heap) : Prop := ∀ k i j, ks_v k i j → va_at D vwCl (ad k i j, ks_c cy ad o k i j (σ k i j)) H
def ks_G (ad : ks_A) (n0 : Nat) : Prop := (∀ k i j, ks_v k i j → n0 ≤ ad k i j) ∧ ∀ k i j k' i' j', ks_v k i j → ks_v k' i' j' → ad k i j = ad k' i' j' → k' = k ∧ i' = i ∧ j' = j
abbrev ks_F (n0 : Nat) : Nat → Prop := fun q => n0 ≤ q
/-- the world in a state of the machine -/
def ks_U (D : va_G) (cy : Nat → ClassId) (ad : ks_A) (n0 : Nat) (σ : ks_S) (o : Int64) (U : State) : Prop := n0 ≤ U.heap.size ∧ ks_W D cy ad σ o U.heap ∧ va_K D vwCl (ks_t cy) U ∧ vx_Zq Bundle.tN "UNASSIGNED_STACK" Bundle.steD (ks_F n0) U U.heap ∧ vx_Zq Bundle.tN "SUPPRESSED_SENTINEL" Bundle.listD (ks_F n0) U U.heap
theorem ks_P1 {D : va_G} {cy : Nat → ClassId} {ad : ks_A} {σ : ks_S} {o : Int64} {H : Heap} (hW : ks_W D cy ad σ o H) {k i j : Nat} (hv : ks_v k i j) {E : va_E} (hc : ks_c cy ad o k i j (σ k i j) = E) : va_P D vwCl [(ad k i j, E)] H := by
  intro n q hq
  match n, hq with
  | 0, hq => cases hq; rw [← hc]; exact hW k i j hv
  | n + 1, hq => simp at hq
theorem ks_W.put {D : va_G} {cy : Nat → ClassId} {ad : ks_A} {n0 : Nat} {σ : ks_S} {o : Int64} {H H1 : Heap} (hG : ks_G ad n0) (hW : ks_W D cy ad σ o H) {k i j : Nat} (hv : ks_v k i j) {z : Nat} {v : Int32}
    (h1 : va_at D vwCl (ad k i j, ks_c cy ad o k i j (upd (σ k i j) z v)) H1) (h2 : ∀ q : Nat, q ≠ ad k i j → H1[q]? = H[q]?) : ks_W D cy ad (ks_up σ k i j z v) o H1 := by
  intro k' i' j' hv'
  by_cases h : k' = k ∧ i' = i ∧ j' = j
  · obtain ⟨rfl, rfl, rfl⟩ := h
    rw [ks_up_c]
    exact h1
  · rw [ks_up_ne σ z v h]
    exact (hW k' i' j' hv').kept (h2 _ fun q => h (hG.2 k i j k' i' j' hv hv' q.symm))
theorem ks_W.out {D : va_G} {cy : Nat → ClassId} {ad : ks_A} {n0 : Nat} {σ : ks_S} {o v : Int64} {H H1 : Heap} (hG : ks_G ad n0) (hW : ks_W D cy ad σ o H)
    (h1 : va_at D vwCl (ad 45 0 0, ks_c cy ad v 45 0 0 (σ 45 0 0)) H1) (h2 : ∀ q : Nat, q ≠ ad 45 0 0 → H1[q]? = H[q]?) : ks_W D cy ad σ v H1 := by
  intro k' i' j' hv'
  by_cases h : k' = 45 ∧ i' = 0 ∧ j' = 0
  · obtain ⟨rfl, rfl, rfl⟩ := h
    exact h1
  · have hne : ad k' i' j' ≠ ad 45 0 0 := fun q => h (hG.2 45 0 0 k' i' j' (by exact ks_v45 (i := 0) (j := 0)) hv' q.symm)
    have hk : k' ≠ 45 := fun q => by
      subst q
      obtain ⟨-, a1, a2⟩ := hv'
      have b1 : i' < 1 := a1
      have b2 : j' < 1 := a2
      exact h ⟨rfl, by omega, by omega⟩
    have he : ks_c cy ad v k' i' j' (σ k' i' j') = ks_c cy ad o k' i' j' (σ k' i' j') := by
      unfold ks_c
      simp only [hk, if_false]
    rw [he]
    exact (hW k' i' j' hv').kept (h2 _ hne)
section KSR
variable {p : Program} {l : Launch} {e : Env} {R : Room} {s : State} {m : MethodId} {args : Array Value} {below : List Frame} {meth : Method} {c : Code} {H : Heap} {locs : List Loc} {cells slots : Nat} {Q : State → Prop}
variable {cc : ByteArray} {pc : Nat} {ls : Array Slot} {rest : List Value} {D : va_G} {H0 : Heap} {cy : Nat → ClassId} {ad : ks_A} {n0 : Nat} {σ : ks_S} {o : Int64} {k i j : Nat}
theorem ks_put (hexec : p.tables.exec = Jvm.exec) (hb : c.code = cc) {own C : String} {T : u_T} {N ci index : Nat} {Ts : List Cond} (hts : ∀ w ∈ Ts, w.before args s = true) (hin : ∀ w ∈ u_ws C T N, w ∈ Ts) (ty0 : Nat → FieldType) (hty : ∀ k, k < N → parseFieldDescriptor (T k).2.2.1 = some (ty0 k)) (hnm : ∀ a, a < N → ∀ b, b < N → a ≠ b → (T a).2.1 ≠ (T b).2.1) (hown : s.vm.findClass own = some m.cls) (hK : va_K D vwCl (ks_t cy) s) (hG : ks_G ad n0) (hW : ks_W D cy ad σ o H) (hS0 : va_S (ks_F n0) H0 H locs) (hv : ks_v k i j) (z : Nat) {v : Int32} {fs : List Value} (hc : ks_c cy ad o k i j (σ k i j) = .inr (ci, fs)) (hc' : ks_c cy ad o k i j (upd (σ k i j) z v) = .inr (ci, fs.set z (.int v))) (hcl : vwCl[ci]? = some (C, T, N)) (hk : z < N) (hlink : (Cond.fieldLink own index (T z).1 (T z).2.1 (T z).2.2.1).before args s = true) (hfin : (T z).2.2.2 = false) {ty : FieldType} (hd : parseFieldDescriptor (T z).2.2.1 = some ty) (hn : narrow ty (.int v) = .int v) (hfit : fits ty (.int v) = true) (hl : z < fs.length)
    (hdg : decode cc pc = .ok (.putfield index, 3)) (kk : ∀ (H1 : Heap) (locs1 : List Loc), ks_W D cy ad (ks_up σ k i j z v) o H1 → va_S (ks_F n0) H0 H1 locs1 → W p l e R s m args below meth c H1 locs1 cells slots Q (F0 m (pc + 3) ls rest)) : W p l e R s m args below meth c H locs cells slots Q (F0 m pc ls (.int v :: .ref (ad k i j) :: rest)) := by
  have hap := va_apart (own := own) hts hin ty0 hty hnm hK hcl
  have h0 := hW k i j hv
  rw [hc] at h0
  obtain ⟨r, h1, cell, q1, q2, q3, q4⟩ := h0
  have hr : r = (C, T, N) := Option.some.inj (h1.symm.trans hcl)
  subst hr
  obtain ⟨hS, hfc, kC, hkC, hkind⟩ := hK.1 ci _ hcl
  obtain ⟨cf, kf, fi, f, hi, hsl⟩ := hS z hk
  have hlay := hts _ (hin _ (u_in_lay hk))
  unfold u_lay at hlay
  rw [if_neg (by rw [hfin]; decide)] at hlay
  have hst := (u_facts hfc hkC (u_lays hts hin hk) hi).1
  have h6 := u_store hfc hkC hkind hlay hi hd hn hfit
  refine W.putK hexec hb (f := f) ⟨hown, hlink, ⟨_, _, _, hi⟩, hst⟩ (by rw [q2]; exact h6) q1 q3 (by rw [hsl]; exact k2_hasslot (q4 z hk)) rfl rfl hdg fun H' e1 e2 e3 => ?_
  rw [hsl] at e1 ⊢
  refine kk H' _ (hW.put hG hv ?_ e3) (hS0.put e2 e3 (hG.1 k i j hv))
  rw [hc']
  exact ⟨_, hcl, t_OB.to (V := updV (vp_V fs) z (.int v)) ⟨_, e1, q2, q3, t_set q4 hap hk (.int v)⟩ (fun j _ => vp_updV_set hl (.int v) j)⟩
theorem ks_iast (hexec : p.tables.exec = Jvm.exec) (hb : c.code = cc) (hK : va_K D vwCl (ks_t cy) s) (hG : ks_G ad n0) (hW : ks_W D cy ad σ o H) (hS0 : va_S (ks_F n0) H0 H locs) (hv : ks_v k i j) {n : Nat} (hc : ∀ c, ks_c cy ad o k i j c = .inl (cy 0, n, .inl c)) {x y : Int32} (hin : ks_in x n = true) (hdg : decode cc pc = .ok (.iastore, 1))
    (kk : ∀ (H1 : Heap) (locs1 : List Loc), ks_W D cy ad (ks_up σ k i j x.toNatClampNeg y) o H1 → va_S (ks_F n0) H0 H1 locs1 → W p l e R s m args below meth c H1 locs1 cells slots Q (F0 m (pc + 1) ls rest)) : W p l e R s m args below meth c H locs cells slots Q (F0 m pc ls (.int y :: .int x :: .ref (ad k i j) :: rest)) := by
  have h0 := hW k i j hv
  rw [hc] at h0
  have h0' : H[ad k i j]? = some (vp_cell (cy 0) (n, .inl (σ k i j))) := h0
  refine W.iast hexec hb h0' ((hK.2 0 _ rfl).1 n (fun j' => .int (σ k i j j'))) (fun q => by cases q) (by show ¬ (x < 0 ∨ (arrV _ _ _).slots.size ≤ _); rw [arrV_size]; exact ks_in_vp hin) rfl rfl hdg fun H1 e z oq => ?_
  refine kk H1 _ (hW.put hG hv ?_ oq) (hS0.put z oq (hG.1 k i j hv))
  rw [hc]
  show H1[ad k i j]? = some (vp_cell _ _)
  rw [e]
  rw [vp_cell_i, vp_cell_i, arrV_store]
  congr 2
  funext q
  by_cases hq : q = x.toNatClampNeg
  · subst hq
    simp [updV, upd]
  · simp [updV, upd, hq]
theorem ks_zast (hexec : p.tables.exec = Jvm.exec) (hb : c.code = cc) (hK : va_K D vwCl (ks_t cy) s) (hG : ks_G ad n0) (hW : ks_W D cy ad σ o H) (hS0 : va_S (ks_F n0) H0 H locs) (hv : ks_v k i j) {n : Nat} (hc : ∀ c, ks_c cy ad o k i j c = .inl (cy 1, n, .inl c)) {x y : Int32} (hin : ks_in x n = true) (hy : vp_nar .boolean y = y) (hdg : decode cc pc = .ok (.bastore, 1))
    (kk : ∀ (H1 : Heap) (locs1 : List Loc), ks_W D cy ad (ks_up σ k i j x.toNatClampNeg y) o H1 → va_S (ks_F n0) H0 H1 locs1 → W p l e R s m args below meth c H1 locs1 cells slots Q (F0 m (pc + 1) ls rest)) : W p l e R s m args below meth c H locs cells slots Q (F0 m pc ls (.int y :: .int x :: .ref (ad k i j) :: rest)) := by
  have h0 := hW k i j hv
  rw [hc] at h0
  have h0' : H[ad k i j]? = some (vp_cell (cy 1) (n, .inl (σ k i j))) := h0
  refine W.zast hexec hb h0' ((hK.2 1 _ rfl).1 n (fun j' => .int (σ k i j j'))) (fun q => by cases q) (by show ¬ (x < 0 ∨ (arrV _ _ _).slots.size ≤ _); rw [arrV_size]; exact ks_in_vp hin) rfl rfl hdg fun H1 e z oq => ?_
  refine kk H1 _ (hW.put hG hv ?_ oq) (hS0.put z oq (hG.1 k i j hv))
  rw [hc]
  show H1[ad k i j]? = some (vp_cell _ _)
  rw [e]
  rw [vp_cell_i, vp_cell_i, arrV_store]
  congr 2
  funext q
  by_cases hq : q = x.toNatClampNeg
  · subst hq
    simp only [updV, upd, if_true]
    rw [show narrow .boolean (.int y) = .int (vp_nar .boolean y) from rfl, hy]
  · simp [updV, upd, hq]
theorem ks_iald (hexec : p.tables.exec = Jvm.exec) (hb : c.code = cc) (hK : va_K D vwCl (ks_t cy) s) (hW : ks_W D cy ad σ o H) (hv : ks_v k i j) {n : Nat} (hc : ks_c cy ad o k i j (σ k i j) = .inl (cy 0, n, .inl (σ k i j))) {x : Int32} (hin : ks_in x n = true) (hdg : decode cc pc = .ok (.iaload, 1))
    (kk : W p l e R s m args below meth c H locs cells slots Q (F0 m (pc + 1) ls (.int (σ k i j x.toNatClampNeg) :: rest))) : W p l e R s m args below meth c H locs cells slots Q (F0 m pc ls (.int x :: .ref (ad k i j) :: rest)) :=
  va_iald hexec hb hK (ks_P1 hW hv hc) 0 0 rfl rfl (ks_in_vp hin) hdg kk
theorem ks_zald (hexec : p.tables.exec = Jvm.exec) (hb : c.code = cc) (hK : va_K D vwCl (ks_t cy) s) (hW : ks_W D cy ad σ o H) (hv : ks_v k i j) {n : Nat} (hc : ks_c cy ad o k i j (σ k i j) = .inl (cy 1, n, .inl (σ k i j))) {x : Int32} (hin : ks_in x n = true) (hdg : decode cc pc = .ok (.baload, 1))
    (kk : W p l e R s m args below meth c H locs cells slots Q (F0 m (pc + 1) ls (.int (σ k i j x.toNatClampNeg) :: rest))) : W p l e R s m args below meth c H locs cells slots Q (F0 m pc ls (.int x :: .ref (ad k i j) :: rest)) :=
  va_zald hexec hb hK (ks_P1 hW hv hc) 0 1 rfl rfl (ks_in_vp hin) hdg kk
theorem ks_aald (hexec : p.tables.exec = Jvm.exec) (hb : c.code = cc) (hK : va_K D vwCl (ks_t cy) s) (hW : ks_W D cy ad σ o H) (hv : ks_v k i j) (t0 : Nat) {n : Nat} {f : Nat → Nat} {cA : ClassId} {ty : FieldType} (hc : ks_c cy ad o k i j (σ k i j) = .inl (cA, n, ks_r f)) (ht : (ks_t cy)[t0]? = some (cA, ty)) (hty : ty.isReference = true) {x : Int32} (hin : ks_in x n = true) (hdg : decode cc pc = .ok (.aaload, 1))
    (kk : W p l e R s m args below meth c H locs cells slots Q (F0 m (pc + 1) ls (.ref (f x.toNatClampNeg) :: rest))) : W p l e R s m args below meth c H locs cells slots Q (F0 m pc ls (.int x :: .ref (ad k i j) :: rest)) := by
  have h0 := hW k i j hv
  rw [hc] at h0
  have h0' : H[ad k i j]? = some (arrV cA n (fun j' => va_rf (some (f j')))) := h0
  have hlt := ks_in_lt hin
  exact W.aald (v := .ref (f x.toNatClampNeg)) (ty := ty) hexec hb h0' ((hK.2 t0 _ ht).1 n (fun j' => va_rf (some (f j')))) hty (fun q => by cases q) (by rw [arrV_size]; exact ks_in_vp hin) (by rw [arrV_read _ _ hlt]; rfl) rfl rfl hdg kk
theorem ks_alen (hexec : p.tables.exec = Jvm.exec) (hb : c.code = cc) (hK : va_K D vwCl (ks_t cy) s) (hW : ks_W D cy ad σ o H) (hv : ks_v k i j) (t0 : Nat) {cA : ClassId} {x : vp_A} {ty : FieldType} (hc : ks_c cy ad o k i j (σ k i j) = .inl (cA, x)) (ht : (ks_t cy)[t0]? = some (cA, ty)) {v : Int32} (hv' : Int32.ofNat x.1 = v) (hdg : decode cc pc = .ok (.arraylength, 1))
    (kk : W p l e R s m args below meth c H locs cells slots Q (F0 m (pc + 1) ls (.int v :: rest))) : W p l e R s m args below meth c H locs cells slots Q (F0 m pc ls (.ref (ad k i j) :: rest)) :=
  va_alen hexec hb hK (ks_P1 hW hv hc) 0 t0 rfl ht hv' hdg kk
end KSR
/-- the world as a callee's start, and as a call leaves it -/
theorem ks_U.moved {D : va_G} {cy : Nat → ClassId} {ad : ks_A} {n0 : Nat} {σ : ks_S} {o : Int64} {u U : State} (hvm : u.vm.Alike U.vm) (hh : U.heap = u.heap) (h : ks_U D cy ad n0 σ o u) : ks_U D cy ad n0 σ o U := by
  obtain ⟨h1, h2, h3, h4, h5⟩ := h
  refine ⟨by rw [hh]; exact h1, by rw [hh]; exact h2, va_K.moved hvm h3, ?_, ?_⟩
  · rw [hh]; exact vx_Zq.moved hvm h4
  · rw [hh]; exact vx_Zq.moved hvm h5
theorem ks_U.blind {D : va_G} {cy : Nat → ClassId} {ad : ks_A} {n0 : Nat} {σ : ks_S} {o : Int64} {av : List Value} : FrameBlind (va_Pc av (ks_U D cy ad n0 σ o)) := fun a U g mk q => ⟨q.1, ks_U.moved (u := U) (U := U.calling g mk a) (Vm.Alike.refl U.vm) rfl q.2⟩
/-- what a walk holds: the method's start, and the world where it now is -/
theorem ks_U.now {D : va_G} {cy : Nat → ClassId} {ad : ks_A} {n0 : Nat} {σ σ' : ks_S} {o o' : Int64} {s t : State} {H : Heap} {locs : List Loc} (h : ks_U D cy ad n0 σ o s) (hS : va_S (ks_F n0) s.heap H locs) (hW : ks_W D cy ad σ' o' H) (hvm : s.vm.Alike t.vm) (ht : t.heap = H) : ks_U D cy ad n0 σ' o' t := by
  obtain ⟨h1, h2, h3, h4, h5⟩ := h
  refine ⟨by rw [ht]; exact Nat.le_trans h1 hS.1, by rw [ht]; exact hW, va_K.moved hvm h3, ?_, ?_⟩
  · rw [ht]; exact vx_Zq.moved hvm (h4.kept hS.2.1)
  · rw [ht]; exact vx_Zq.moved hvm (h5.kept hS.2.1)
theorem ks_U.W {D : va_G} {cy : Nat → ClassId} {ad : ks_A} {n0 : Nat} {σ : ks_S} {o : Int64} {t : State} {H : Heap} (h : ks_U D cy ad n0 σ o t) (ht : t.heap = H) : ks_W D cy ad σ o H := by
  subst ht
  exact h.2.1
theorem ks_recv {D : va_G} {cy : Nat → ClassId} {ad : ks_A} {σ : ks_S} {o : Int64} {s : State} {H : Heap} (hK : va_K D vwCl (ks_t cy) s) (hW : ks_W D cy ad σ o H) {k i j ci : Nat} {fs : List Value} {q : vw_C} (hv : ks_v k i j) (hc : ks_c cy ad o k i j (σ k i j) = .inr (ci, fs)) (hcl : vwCl[ci]? = some q) : ∃ cell : Cell, H[ad k i j]? = some cell ∧ cell.vm.isStatics = false ∧ s.vm.findClass q.1 = some cell.cls :=
  va_recv hK (ks_P1 hW hv hc) (q0 := 0) hcl rfl
end
section
/-! Rows that every walk uses: the shallow functions' guards, what a method owes, its returns, its calls. -/
theorem ks_bind {α β : Type} {x : Option α} {g : α → Option β} {out : β} (h : x.bind g = some out) : ∃ q, x = some q ∧ g q = some out := Option.bind_eq_some_iff.mp h
theorem ks_guard {α : Type} {c : Prop} [Decidable c] {x : Option α} {out : α} (h : (if c then x else none) = some out) : c ∧ x = some out := by
  by_cases hc : c
  · rw [if_pos hc] at h
    exact ⟨hc, h⟩
  · rw [if_neg hc] at h
    exact absurd h (by simp)
abbrev ks_Rm (f c z w : Nat) : Room := { frames := f, cells := c, slots := z, locals := w }
/-- what a walk stands on: the machine, the method, its words, the world at its start -/
def ks_M (p : Program) (s : State) (m : MethodId) (args : Array Value) (meth : Method) (c : Code) (D : va_G) (cy : Nat → ClassId) (ad : ks_A) (n0 : Nat) (σ0 : ks_S) (o : Int64) (ws : List Cond) (cc : ByteArray) (own : String) (nL : Nat) (ret : Option FieldType) : Prop :=
  p.tables.exec = Jvm.exec ∧ c.code = cc ∧ c.maxLocals = nL ∧ meth.sig.returnType = ret ∧ s.vm.findClass own = some m.cls ∧ (∀ w ∈ ws, w.before args s = true) ∧ meth.locks = false ∧ ks_G ad n0 ∧ ks_U D cy ad n0 σ0 o s
def ks_Qi (D : va_G) (cy : Nat → ClassId) (ad : ks_A) (n0 : Nat) (o : Int64) (out : Int32 × ks_S) : Array Value → State → Outcome → State → Prop := va_Qi (fun (r : Int32) (u : ks_S) => r = out.1 ∧ u = out.2) (fun u t => ks_U D cy ad n0 u o t) (ks_F n0)
def ks_Qv (D : va_G) (cy : Nat → ClassId) (ad : ks_A) (n0 : Nat) (o : Int64) (out : ks_S) : Array Value → State → Outcome → State → Prop := va_Qv (fun (u : ks_S) => u = out) (fun u t => ks_U D cy ad n0 u o t) (ks_F n0)
def ks_Qr (D : va_G) (cy : Nat → ClassId) (ad : ks_A) (n0 : Nat) (o : Int64) (k : Nat) (out : (Nat × Nat) × ks_S) : Array Value → State → Outcome → State → Prop := va_Qr (fun (u : ks_S) => u = out.2 ∧ ks_v k out.1.1 out.1.2) (fun u a t => a = ad k out.1.1 out.1.2 ∧ ks_U D cy ad n0 u o t) (ks_F n0)
/-- an exception's class by its number -/
def ks_E (n : Nat) : String := if n = 0 then "java/lang/IndexOutOfBoundsException" else if n = 1 then "java/lang/IllegalStateException" else "java/lang/IllegalArgumentException"
/-- of a method that may throw: what it answers, and what it throws -/
def ks_Yi (D : va_G) (cy : Nat → ClassId) (ad : ks_A) (n0 : Nat) (o : Int64) (out : (Nat ⊕ Int32) × ks_S) : Array Value → State → Outcome → State → Prop := va_Qi (fun (r : Int32) (u : ks_S) => out = (.inr r, u)) (fun u t => ks_U D cy ad n0 u o t) (ks_F n0)
def ks_Yv (D : va_G) (cy : Nat → ClassId) (ad : ks_A) (n0 : Nat) (o : Int64) (out : (Nat ⊕ Unit) × ks_S) : Array Value → State → Outcome → State → Prop := va_Qv (fun (u : ks_S) => out = (.inr (), u)) (fun u t => ks_U D cy ad n0 u o t) (ks_F n0)
def ks_Yr (D : va_G) (cy : Nat → ClassId) (ad : ks_A) (n0 : Nat) (o : Int64) (k : Nat) (out : (Nat ⊕ (Nat × Nat)) × ks_S) : Array Value → State → Outcome → State → Prop := va_Qr (fun (u : ks_S) => ∃ i j, out = (.inr (i, j), u) ∧ ks_v k i j) (fun u a t => (∀ i j, out.1 = .inr (i, j) → a = ad k i j) ∧ ks_U D cy ad n0 u o t) (ks_F n0)
def ks_X {α : Type} (D : va_G) (cy : Nat → ClassId) (ad : ks_A) (n0 : Nat) (o : Int64) (out : (Nat ⊕ α) × ks_S) : String → State → State → Prop := vx_X (fun (u : ks_S) => ∃ n, out = (.inl n, u)) (fun E u t => (∀ n, out.1 = .inl n → E = ks_E n) ∧ ks_U D cy ad n0 u o t) (ks_F n0)
section KSW
variable {p : Program} {l : Launch} {e : Env} {R : Room} {s : State} {m : MethodId} {args : Array Value} {below : List Frame} {meth : Method} {c : Code} {H : Heap} {locs : List Loc} {cells slots : Nat} {Q : State → Prop}
variable {cc : ByteArray} {pc : Nat} {ls : Array Slot} {rest st0 : List Value} {D : va_G} {cy : Nat → ClassId} {ad : ks_A} {n0 : Nat} {σ0 σ : ks_S} {o : Int64} {ws : List Cond} {own : String} {nL : Nat} {a : Array Value}
theorem ks_iret {x : Int32} {out : Int32 × ks_S} (C : ks_M p s m args meth c D cy ad n0 σ0 o ws cc own nL (some .int)) (hf : some (x, σ) = some out) (hW : ks_W D cy ad σ o H) (hS : va_S (ks_F n0) s.heap H locs) (hdg : decode cc pc = .ok (.ireturn, 1)) : W p l e R s m args below meth c H locs cells slots (MQ below (ks_Qi D cy ad n0 o out) args s cells slots (ks_F n0)) (F0 m pc ls [.int x]) := by
  obtain ⟨hx, hb, -, hr, -, -, hlocks, -, hU⟩ := C
  cases hf
  exact W.iret (v := x) hx hb hr (fun t ht hWm => ⟨⟨x, σ, rfl, ⟨rfl, rfl⟩, hU.now hS hW hWm.alike ht⟩, hS.F ht⟩) hS.2.2 hdg
theorem ks_zret {x : Int32} {out : Int32 × ks_S} (C : ks_M p s m args meth c D cy ad n0 σ0 o ws cc own nL (some .boolean)) (hn : narrow .boolean (.int x) = .int x) (hf : some (x, σ) = some out) (hW : ks_W D cy ad σ o H) (hS : va_S (ks_F n0) s.heap H locs) (hdg : decode cc pc = .ok (.ireturn, 1)) : W p l e R s m args below meth c H locs cells slots (MQ below (ks_Qi D cy ad n0 o out) args s cells slots (ks_F n0)) (F0 m pc ls [.int x]) := by
  obtain ⟨hx, hb, -, hr, -, -, hlocks, -, hU⟩ := C
  cases hf
  exact W.zret (v := x) hx hb hr hn (fun t ht hWm => ⟨⟨x, σ, rfl, ⟨rfl, rfl⟩, hU.now hS hW hWm.alike ht⟩, hS.F ht⟩) hS.2.2 hdg
theorem ks_vret {out : ks_S} (C : ks_M p s m args meth c D cy ad n0 σ0 o ws cc own nL none) (hf : some σ = some out) (hW : ks_W D cy ad σ o H) (hS : va_S (ks_F n0) s.heap H locs) (hdg : decode cc pc = .ok (.return_, 1)) : W p l e R s m args below meth c H locs cells slots (MQ below (ks_Qv D cy ad n0 o out) args s cells slots (ks_F n0)) (F0 m pc ls []) := by
  obtain ⟨hx, hb, -, hr, -, -, hlocks, -, hU⟩ := C
  cases hf
  exact W.vret hx hb hr (fun t ht hWm => ⟨⟨σ, rfl, rfl, hU.now hS hW hWm.alike ht⟩, hS.F ht⟩) hS.2.2 hdg
theorem ks_aret {k i j : Nat} {nm : String} {out : (Nat × Nat) × ks_S} (C : ks_M p s m args meth c D cy ad n0 σ0 o ws cc own nL (some (.object nm))) (hv : ks_v k i j) (hf : some ((i, j), σ) = some out) (hW : ks_W D cy ad σ o H) (hS : va_S (ks_F n0) s.heap H locs) (hdg : decode cc pc = .ok (.areturn, 1)) : W p l e R s m args below meth c H locs cells slots (MQ below (ks_Qr D cy ad n0 o k out) args s cells slots (ks_F n0)) (F0 m pc ls [.ref (ad k i j)]) := by
  obtain ⟨hx, hb, -, hr, -, -, hlocks, -, hU⟩ := C
  cases hf
  exact W.aret (v := .ref (ad k i j)) hx hb hr (Or.inl ⟨_, rfl⟩) (Or.inr ⟨_, rfl⟩) (fun t ht hWm => ⟨⟨σ, ad k i j, rfl, ⟨rfl, hv⟩, rfl, hU.now hS hW hWm.alike ht⟩, hS.F ht⟩) hS.2.2 hdg
/-- the same for a method that may throw -/
theorem ks_yiret {x : Int32} {mc ms : Nat} {out : (Nat ⊕ Int32) × ks_S} (hc : cells ≤ mc) (hz : slots ≤ ms) (C : ks_M p s m args meth c D cy ad n0 σ0 o ws cc own nL (some .int)) (hf : some (.inr x, σ) = some out) (hW : ks_W D cy ad σ o H) (hS : va_S (ks_F n0) s.heap H locs) (hdg : decode cc pc = .ok (.ireturn, 1)) : W p l e R s m args below meth c H locs cells slots (vx_MQ below (ks_Yi D cy ad n0 o out) (ks_X D cy ad n0 o out) args s mc ms (ks_F n0)) (F0 m pc ls [.int x]) := by
  obtain ⟨hx, hb, -, hr, -, -, hlocks, -, hU⟩ := C
  cases hf
  refine W.widen (k := mc) (n := ms) hc hz ?_
  exact vx_ret (W.iret (v := x) hx hb hr (fun t ht hWm => ⟨⟨x, σ, rfl, rfl, hU.now hS hW hWm.alike ht⟩, hS.F ht⟩) hS.2.2 hdg)
theorem ks_yzret {x : Int32} {mc ms : Nat} {out : (Nat ⊕ Int32) × ks_S} (hc : cells ≤ mc) (hz : slots ≤ ms) (C : ks_M p s m args meth c D cy ad n0 σ0 o ws cc own nL (some .boolean)) (hn : narrow .boolean (.int x) = .int x) (hf : some (.inr x, σ) = some out) (hW : ks_W D cy ad σ o H) (hS : va_S (ks_F n0) s.heap H locs) (hdg : decode cc pc = .ok (.ireturn, 1)) : W p l e R s m args below meth c H locs cells slots (vx_MQ below (ks_Yi D cy ad n0 o out) (ks_X D cy ad n0 o out) args s mc ms (ks_F n0)) (F0 m pc ls [.int x]) := by
  obtain ⟨hx, hb, -, hr, -, -, hlocks, -, hU⟩ := C
  cases hf
  refine W.widen (k := mc) (n := ms) hc hz ?_
  exact vx_ret (W.zret (v := x) hx hb hr hn (fun t ht hWm => ⟨⟨x, σ, rfl, rfl, hU.now hS hW hWm.alike ht⟩, hS.F ht⟩) hS.2.2 hdg)
theorem ks_yvret {mc ms : Nat} {out : (Nat ⊕ Unit) × ks_S} (hc : cells ≤ mc) (hz : slots ≤ ms) (C : ks_M p s m args meth c D cy ad n0 σ0 o ws cc own nL none) (hf : some (.inr (), σ) = some out) (hW : ks_W D cy ad σ o H) (hS : va_S (ks_F n0) s.heap H locs) (hdg : decode cc pc = .ok (.return_, 1)) : W p l e R s m args below meth c H locs cells slots (vx_MQ below (ks_Yv D cy ad n0 o out) (ks_X D cy ad n0 o out) args s mc ms (ks_F n0)) (F0 m pc ls []) := by
  obtain ⟨hx, hb, -, hr, -, -, hlocks, -, hU⟩ := C
  cases hf
  refine W.widen (k := mc) (n := ms) hc hz ?_
  exact vx_ret (W.vret hx hb hr (fun t ht hWm => ⟨⟨σ, rfl, rfl, hU.now hS hW hWm.alike ht⟩, hS.F ht⟩) hS.2.2 hdg)
theorem ks_yaret {k i j : Nat} {nm : String} {mc ms : Nat} {out : (Nat ⊕ (Nat × Nat)) × ks_S} (hc : cells ≤ mc) (hz : slots ≤ ms) (C : ks_M p s m args meth c D cy ad n0 σ0 o ws cc own nL (some (.object nm))) (hv : ks_v k i j) (hf : some (.inr (i, j), σ) = some out) (hW : ks_W D cy ad σ o H) (hS : va_S (ks_F n0) s.heap H locs) (hdg : decode cc pc = .ok (.areturn, 1)) : W p l e R s m args below meth c H locs cells slots (vx_MQ below (ks_Yr D cy ad n0 o k out) (ks_X D cy ad n0 o out) args s mc ms (ks_F n0)) (F0 m pc ls [.ref (ad k i j)]) := by
  obtain ⟨hx, hb, -, hr, -, -, hlocks, -, hU⟩ := C
  cases hf
  refine W.widen (k := mc) (n := ms) hc hz ?_
  exact vx_ret (W.aret (v := .ref (ad k i j)) hx hb hr (Or.inl ⟨_, rfl⟩) (Or.inr ⟨_, rfl⟩) (fun t ht hWm => ⟨⟨σ, ad k i j, rfl, ⟨i, j, rfl, hv⟩, (fun i' j' q => by cases q; rfl), hU.now hS hW hWm.alike ht⟩, hS.F ht⟩) hS.2.2 hdg)
/-- behind a call -/
theorem ks_calli {x : Int32} {σ1 : ks_S} (hr : va_Run p l e R s m args below meth c H locs cells slots 0 0 (F0 m pc ls st0) rest (ks_Qi D cy ad n0 o (x, σ1) a) (ks_F n0)) (hS : va_S (ks_F n0) s.heap H locs)
    (kk : ∀ (H1 : Heap) (locs1 : List Loc), ks_W D cy ad σ1 o H1 → va_S (ks_F n0) s.heap H1 locs1 → W p l e R s m args below meth c H1 locs1 cells slots Q (F0 m (pc + 3) ls (.int x :: rest))) : W p l e R s m args below meth c H locs cells slots Q (F0 m pc ls st0) := by
  refine va_calli hr hS (fun q _ h => h) (fun q h => h) (fun r u t H1 locs1 ht hvm hw hB hz1 hk1 hS1 => ?_)
  obtain ⟨rfl, rfl⟩ : r = x ∧ u = σ1 := hw
  exact kk H1 locs1 (hB.W ht) hS1
theorem ks_callv {σ1 : ks_S} (hr : va_Run p l e R s m args below meth c H locs cells slots 0 0 (F0 m pc ls st0) rest (ks_Qv D cy ad n0 o σ1 a) (ks_F n0)) (hS : va_S (ks_F n0) s.heap H locs)
    (kk : ∀ (H1 : Heap) (locs1 : List Loc), ks_W D cy ad σ1 o H1 → va_S (ks_F n0) s.heap H1 locs1 → W p l e R s m args below meth c H1 locs1 cells slots Q (F0 m (pc + 3) ls rest)) : W p l e R s m args below meth c H locs cells slots Q (F0 m pc ls st0) := by
  refine va_callv hr hS (fun q _ h => h) (fun q h => h) (fun u t H1 locs1 ht hvm hw hB hz1 hk1 hS1 => ?_)
  have hw' : u = σ1 := hw
  subst hw'
  exact kk H1 locs1 (hB.W ht) hS1
theorem ks_callr {k i j : Nat} {σ1 : ks_S} (hr : va_Run p l e R s m args below meth c H locs cells slots 0 0 (F0 m pc ls st0) rest (ks_Qr D cy ad n0 o k ((i, j), σ1) a) (ks_F n0)) (hS : va_S (ks_F n0) s.heap H locs)
    (kk : ∀ (H1 : Heap) (locs1 : List Loc), ks_v k i j → ks_W D cy ad σ1 o H1 → va_S (ks_F n0) s.heap H1 locs1 → W p l e R s m args below meth c H1 locs1 cells slots Q (F0 m (pc + 3) ls (.ref (ad k i j) :: rest))) : W p l e R s m args below meth c H locs cells slots Q (F0 m pc ls st0) := by
  refine va_callr hr hS (fun q _ h => h) (fun q h => h) (fun u ra t H1 locs1 ht hvm hw hB hz1 hk1 hS1 => ?_)
  obtain ⟨h1, h2⟩ : u = σ1 ∧ ks_v k i j := hw
  obtain ⟨h3, h4⟩ : ra = ad k i j ∧ ks_U D cy ad n0 u o t := hB
  subst h1; subst h3
  exact kk H1 locs1 h2 (h4.W ht) hS1
end KSW
end
section
theorem dX0_init_0 : decode cX0_init 0 = .ok (.aload_n 0, 1) := by decide +kernel
theorem dX0_init_1 : decode cX0_init 1 = .ok (.invokespecial 3, 3) := by decide +kernel
theorem dX0_init_4 : decode cX0_init 4 = .ok (.aload_n 0, 1) := by decide +kernel
theorem dX0_init_5 : decode cX0_init 5 = .ok (.iconst 1, 1) := by decide +kernel
theorem dX0_init_6 : decode cX0_init 6 = .ok (.putfield 9, 3) := by decide +kernel
theorem dX0_init_9 : decode cX0_init 9 = .ok (.return_, 1) := by decide +kernel
theorem dX0_start_0 : decode cX0_start 0 = .ok (.aload_n 0, 1) := by decide +kernel
theorem dX0_start_1 : decode cX0_start 1 = .ok (.iconst 1, 1) := by decide +kernel
theorem dX0_start_2 : decode cX0_start 2 = .ok (.putfield 15, 3) := by decide +kernel
theorem dX0_start_5 : decode cX0_start 5 = .ok (.aload_n 0, 1) := by decide +kernel
theorem dX0_start_6 : decode cX0_start 6 = .ok (.iconst 1, 1) := by decide +kernel
theorem dX0_start_7 : decode cX0_start 7 = .ok (.putfield 19, 3) := by decide +kernel
theorem dX0_start_10 : decode cX0_start 10 = .ok (.aload_n 0, 1) := by decide +kernel
theorem dX0_start_11 : decode cX0_start 11 = .ok (.iload_n 1, 1) := by decide +kernel
theorem dX0_start_12 : decode cX0_start 12 = .ok (.putfield 22, 3) := by decide +kernel
theorem dX0_start_15 : decode cX0_start 15 = .ok (.aload_n 0, 1) := by decide +kernel
theorem dX0_start_16 : decode cX0_start 16 = .ok (.iconst 1, 1) := by decide +kernel
theorem dX0_start_17 : decode cX0_start 17 = .ok (.putfield 9, 3) := by decide +kernel
theorem dX0_start_20 : decode cX0_start 20 = .ok (.aload_n 0, 1) := by decide +kernel
theorem dX0_start_21 : decode cX0_start 21 = .ok (.iconst 0, 1) := by decide +kernel
theorem dX0_start_22 : decode cX0_start 22 = .ok (.putfield 25, 3) := by decide +kernel
theorem dX0_start_25 : decode cX0_start 25 = .ok (.aload_n 0, 1) := by decide +kernel
theorem dX0_start_26 : decode cX0_start 26 = .ok (.iload_n 2, 1) := by decide +kernel
theorem dX0_start_27 : decode cX0_start 27 = .ok (.putfield 28, 3) := by decide +kernel
theorem dX0_start_30 : decode cX0_start 30 = .ok (.return_, 1) := by decide +kernel
theorem dX0_end_0 : decode cX0_end 0 = .ok (.aload_n 0, 1) := by decide +kernel
theorem dX0_end_1 : decode cX0_end 1 = .ok (.iconst 0, 1) := by decide +kernel
theorem dX0_end_2 : decode cX0_end 2 = .ok (.putfield 19, 3) := by decide +kernel
theorem dX0_end_5 : decode cX0_end 5 = .ok (.aload_n 0, 1) := by decide +kernel
theorem dX0_end_6 : decode cX0_end 6 = .ok (.dup, 1) := by decide +kernel
theorem dX0_end_7 : decode cX0_end 7 = .ok (.getfield 31, 3) := by decide +kernel
theorem dX0_end_10 : decode cX0_end 10 = .ok (.iconst 1, 1) := by decide +kernel
theorem dX0_end_11 : decode cX0_end 11 = .ok (.iadd, 1) := by decide +kernel
theorem dX0_end_12 : decode cX0_end 12 = .ok (.putfield 31, 3) := by decide +kernel
theorem dX0_end_15 : decode cX0_end 15 = .ok (.aload_n 0, 1) := by decide +kernel
theorem dX0_end_16 : decode cX0_end 16 = .ok (.iload_n 1, 1) := by decide +kernel
theorem dX0_end_17 : decode cX0_end 17 = .ok (.aload_n 0, 1) := by decide +kernel
theorem dX0_end_18 : decode cX0_end 18 = .ok (.getfield 22, 3) := by decide +kernel
theorem dX0_end_21 : decode cX0_end 21 = .ok (.isub, 1) := by decide +kernel
theorem dX0_end_22 : decode cX0_end 22 = .ok (.putfield 34, 3) := by decide +kernel
theorem dX0_end_25 : decode cX0_end 25 = .ok (.aload_n 0, 1) := by decide +kernel
theorem dX0_end_26 : decode cX0_end 26 = .ok (.aload_n 0, 1) := by decide +kernel
theorem dX0_end_27 : decode cX0_end 27 = .ok (.getfield 37, 3) := by decide +kernel
theorem dX0_end_30 : decode cX0_end 30 = .ok (.aload_n 0, 1) := by decide +kernel
theorem dX0_end_31 : decode cX0_end 31 = .ok (.getfield 34, 3) := by decide +kernel
theorem dX0_end_34 : decode cX0_end 34 = .ok (.invokestatic 40, 3) := by decide +kernel
theorem dX0_end_37 : decode cX0_end 37 = .ok (.putfield 37, 3) := by decide +kernel
theorem dX0_end_40 : decode cX0_end 40 = .ok (.aload_n 0, 1) := by decide +kernel
theorem dX0_end_41 : decode cX0_end 41 = .ok (.getfield 34, 3) := by decide +kernel
theorem dX0_end_44 : decode cX0_end 44 = .ok (.iload_n 2, 1) := by decide +kernel
theorem dX0_end_45 : decode cX0_end 45 = .ok (.if_icmp .le 13, 3) := by decide +kernel
theorem dX0_end_48 : decode cX0_end 48 = .ok (.aload_n 0, 1) := by decide +kernel
theorem dX0_end_49 : decode cX0_end 49 = .ok (.dup, 1) := by decide +kernel
theorem dX0_end_50 : decode cX0_end 50 = .ok (.getfield 46, 3) := by decide +kernel
theorem dX0_end_53 : decode cX0_end 53 = .ok (.iconst 1, 1) := by decide +kernel
theorem dX0_end_54 : decode cX0_end 54 = .ok (.iadd, 1) := by decide +kernel
theorem dX0_end_55 : decode cX0_end 55 = .ok (.putfield 46, 3) := by decide +kernel
theorem dX0_end_58 : decode cX0_end 58 = .ok (.return_, 1) := by decide +kernel
theorem dX0_forget_0 : decode cX0_forget 0 = .ok (.aload_n 0, 1) := by decide +kernel
theorem dX0_forget_1 : decode cX0_forget 1 = .ok (.iconst 0, 1) := by decide +kernel
theorem dX0_forget_2 : decode cX0_forget 2 = .ok (.putfield 15, 3) := by decide +kernel
theorem dX0_forget_5 : decode cX0_forget 5 = .ok (.aload_n 0, 1) := by decide +kernel
theorem dX0_forget_6 : decode cX0_forget 6 = .ok (.iconst 0, 1) := by decide +kernel
theorem dX0_forget_7 : decode cX0_forget 7 = .ok (.putfield 31, 3) := by decide +kernel
theorem dX0_forget_10 : decode cX0_forget 10 = .ok (.aload_n 0, 1) := by decide +kernel
theorem dX0_forget_11 : decode cX0_forget 11 = .ok (.iconst 0, 1) := by decide +kernel
theorem dX0_forget_12 : decode cX0_forget 12 = .ok (.putfield 46, 3) := by decide +kernel
theorem dX0_forget_15 : decode cX0_forget 15 = .ok (.aload_n 0, 1) := by decide +kernel
theorem dX0_forget_16 : decode cX0_forget 16 = .ok (.iconst 0, 1) := by decide +kernel
theorem dX0_forget_17 : decode cX0_forget 17 = .ok (.putfield 37, 3) := by decide +kernel
theorem dX0_forget_20 : decode cX0_forget 20 = .ok (.aload_n 0, 1) := by decide +kernel
theorem dX0_forget_21 : decode cX0_forget 21 = .ok (.iconst 0, 1) := by decide +kernel
theorem dX0_forget_22 : decode cX0_forget 22 = .ok (.putfield 34, 3) := by decide +kernel
theorem dX0_forget_25 : decode cX0_forget 25 = .ok (.return_, 1) := by decide +kernel
theorem dX1_init_0 : decode cX1_init 0 = .ok (.aload_n 0, 1) := by decide +kernel
theorem dX1_init_1 : decode cX1_init 1 = .ok (.invokespecial 3, 3) := by decide +kernel
theorem dX1_init_4 : decode cX1_init 4 = .ok (.return_, 1) := by decide +kernel
theorem dX1_layDown_0 : decode cX1_layDown 0 = .ok (.aload_n 0, 1) := by decide +kernel
theorem dX1_layDown_1 : decode cX1_layDown 1 = .ok (.iload_n 1, 1) := by decide +kernel
theorem dX1_layDown_2 : decode cX1_layDown 2 = .ok (.putfield 9, 3) := by decide +kernel
theorem dX1_layDown_5 : decode cX1_layDown 5 = .ok (.aload_n 0, 1) := by decide +kernel
theorem dX1_layDown_6 : decode cX1_layDown 6 = .ok (.iload_n 2, 1) := by decide +kernel
theorem dX1_layDown_7 : decode cX1_layDown 7 = .ok (.putfield 15, 3) := by decide +kernel
theorem dX1_layDown_10 : decode cX1_layDown 10 = .ok (.aload_n 0, 1) := by decide +kernel
theorem dX1_layDown_11 : decode cX1_layDown 11 = .ok (.iload_n 3, 1) := by decide +kernel
theorem dX1_layDown_12 : decode cX1_layDown 12 = .ok (.putfield 18, 3) := by decide +kernel
theorem dX1_layDown_15 : decode cX1_layDown 15 = .ok (.aload_n 0, 1) := by decide +kernel
theorem dX1_layDown_16 : decode cX1_layDown 16 = .ok (.iload 4, 2) := by decide +kernel
theorem dX1_layDown_18 : decode cX1_layDown 18 = .ok (.putfield 21, 3) := by decide +kernel
theorem dX1_layDown_21 : decode cX1_layDown 21 = .ok (.aload_n 0, 1) := by decide +kernel
theorem dX1_layDown_22 : decode cX1_layDown 22 = .ok (.iconst 0, 1) := by decide +kernel
theorem dX1_layDown_23 : decode cX1_layDown 23 = .ok (.putfield 24, 3) := by decide +kernel
theorem dX1_layDown_26 : decode cX1_layDown 26 = .ok (.return_, 1) := by decide +kernel
theorem dX1_isOuter_0 : decode cX1_isOuter 0 = .ok (.aload_n 0, 1) := by decide +kernel
theorem dX1_isOuter_1 : decode cX1_isOuter 1 = .ok (.getfield 21, 3) := by decide +kernel
theorem dX1_isOuter_4 : decode cX1_isOuter 4 = .ok (.iconst (-1), 1) := by decide +kernel
theorem dX1_isOuter_5 : decode cX1_isOuter 5 = .ok (.if_icmp .ne 7, 3) := by decide +kernel
theorem dX1_isOuter_8 : decode cX1_isOuter 8 = .ok (.iconst 1, 1) := by decide +kernel
theorem dX1_isOuter_9 : decode cX1_isOuter 9 = .ok (.goto 4, 3) := by decide +kernel
theorem dX1_isOuter_12 : decode cX1_isOuter 12 = .ok (.iconst 0, 1) := by decide +kernel
theorem dX1_isOuter_13 : decode cX1_isOuter 13 = .ok (.ireturn, 1) := by decide +kernel
theorem dX1_startJob_0 : decode cX1_startJob 0 = .ok (.aload_n 0, 1) := by decide +kernel
theorem dX1_startJob_1 : decode cX1_startJob 1 = .ok (.aload_n 0, 1) := by decide +kernel
theorem dX1_startJob_2 : decode cX1_startJob 2 = .ok (.getfield 27, 3) := by decide +kernel
theorem dX1_startJob_5 : decode cX1_startJob 5 = .ok (.ifCond .ne 10, 3) := by decide +kernel
theorem dX1_startJob_8 : decode cX1_startJob 8 = .ok (.aload_n 0, 1) := by decide +kernel
theorem dX1_startJob_9 : decode cX1_startJob 9 = .ok (.getfield 18, 3) := by decide +kernel
theorem dX1_startJob_12 : decode cX1_startJob 12 = .ok (.goto 7, 3) := by decide +kernel
theorem dX1_startJob_15 : decode cX1_startJob 15 = .ok (.aload_n 0, 1) := by decide +kernel
theorem dX1_startJob_16 : decode cX1_startJob 16 = .ok (.getfield 27, 3) := by decide +kernel
theorem dX1_startJob_19 : decode cX1_startJob 19 = .ok (.putfield 30, 3) := by decide +kernel
theorem dX1_startJob_22 : decode cX1_startJob 22 = .ok (.aload_n 0, 1) := by decide +kernel
theorem dX1_startJob_23 : decode cX1_startJob 23 = .ok (.iconst 0, 1) := by decide +kernel
theorem dX1_startJob_24 : decode cX1_startJob 24 = .ok (.putfield 27, 3) := by decide +kernel
theorem dX1_startJob_27 : decode cX1_startJob 27 = .ok (.return_, 1) := by decide +kernel
theorem dX1_forgetJobs_0 : decode cX1_forgetJobs 0 = .ok (.aload_n 0, 1) := by decide +kernel
theorem dX1_forgetJobs_1 : decode cX1_forgetJobs 1 = .ok (.iconst 0, 1) := by decide +kernel
theorem dX1_forgetJobs_2 : decode cX1_forgetJobs 2 = .ok (.putfield 27, 3) := by decide +kernel
theorem dX1_forgetJobs_5 : decode cX1_forgetJobs 5 = .ok (.aload_n 0, 1) := by decide +kernel
theorem dX1_forgetJobs_6 : decode cX1_forgetJobs 6 = .ok (.iconst 0, 1) := by decide +kernel
theorem dX1_forgetJobs_7 : decode cX1_forgetJobs 7 = .ok (.putfield 33, 3) := by decide +kernel
theorem dX1_forgetJobs_10 : decode cX1_forgetJobs 10 = .ok (.return_, 1) := by decide +kernel
theorem dX2_init_0 : decode cX2_init 0 = .ok (.aload_n 0, 1) := by decide +kernel
theorem dX2_init_1 : decode cX2_init 1 = .ok (.invokespecial 3, 3) := by decide +kernel
theorem dX2_init_4 : decode cX2_init 4 = .ok (.aload_n 0, 1) := by decide +kernel
theorem dX2_init_5 : decode cX2_init 5 = .ok (.iconst 4, 1) := by decide +kernel
theorem dX2_init_6 : decode cX2_init 6 = .ok (.newarray .int, 2) := by decide +kernel
theorem dX2_init_8 : decode cX2_init 8 = .ok (.putfield 9, 3) := by decide +kernel
theorem dX2_init_11 : decode cX2_init 11 = .ok (.return_, 1) := by decide +kernel
theorem dX2_join_0 : decode cX2_join 0 = .ok (.aload_n 0, 1) := by decide +kernel
theorem dX2_join_1 : decode cX2_join 1 = .ok (.getfield 15, 3) := by decide +kernel
theorem dX2_join_4 : decode cX2_join 4 = .ok (.iconst 4, 1) := by decide +kernel
theorem dX2_join_5 : decode cX2_join 5 = .ok (.if_icmp .ge 23, 3) := by decide +kernel
theorem dX2_join_8 : decode cX2_join 8 = .ok (.aload_n 0, 1) := by decide +kernel
theorem dX2_join_9 : decode cX2_join 9 = .ok (.getfield 9, 3) := by decide +kernel
theorem dX2_join_12 : decode cX2_join 12 = .ok (.aload_n 0, 1) := by decide +kernel
theorem dX2_join_13 : decode cX2_join 13 = .ok (.getfield 15, 3) := by decide +kernel
theorem dX2_join_16 : decode cX2_join 16 = .ok (.iload_n 1, 1) := by decide +kernel
theorem dX2_join_17 : decode cX2_join 17 = .ok (.iastore, 1) := by decide +kernel
theorem dX2_join_18 : decode cX2_join 18 = .ok (.aload_n 0, 1) := by decide +kernel
theorem dX2_join_19 : decode cX2_join 19 = .ok (.dup, 1) := by decide +kernel
theorem dX2_join_20 : decode cX2_join 20 = .ok (.getfield 15, 3) := by decide +kernel
theorem dX2_join_23 : decode cX2_join 23 = .ok (.iconst 1, 1) := by decide +kernel
theorem dX2_join_24 : decode cX2_join 24 = .ok (.iadd, 1) := by decide +kernel
theorem dX2_join_25 : decode cX2_join 25 = .ok (.putfield 15, 3) := by decide +kernel
theorem dX2_join_28 : decode cX2_join 28 = .ok (.return_, 1) := by decide +kernel
theorem dX2_dropFirst_0 : decode cX2_dropFirst 0 = .ok (.iconst 1, 1) := by decide +kernel
theorem dX2_dropFirst_1 : decode cX2_dropFirst 1 = .ok (.istore_n 1, 1) := by decide +kernel
theorem dX2_dropFirst_2 : decode cX2_dropFirst 2 = .ok (.iload_n 1, 1) := by decide +kernel
theorem dX2_dropFirst_3 : decode cX2_dropFirst 3 = .ok (.aload_n 0, 1) := by decide +kernel
theorem dX2_dropFirst_4 : decode cX2_dropFirst 4 = .ok (.getfield 15, 3) := by decide +kernel
theorem dX2_dropFirst_7 : decode cX2_dropFirst 7 = .ok (.if_icmp .ge 23, 3) := by decide +kernel
theorem dX2_dropFirst_10 : decode cX2_dropFirst 10 = .ok (.aload_n 0, 1) := by decide +kernel
theorem dX2_dropFirst_11 : decode cX2_dropFirst 11 = .ok (.getfield 9, 3) := by decide +kernel
theorem dX2_dropFirst_14 : decode cX2_dropFirst 14 = .ok (.iload_n 1, 1) := by decide +kernel
theorem dX2_dropFirst_15 : decode cX2_dropFirst 15 = .ok (.iconst 1, 1) := by decide +kernel
theorem dX2_dropFirst_16 : decode cX2_dropFirst 16 = .ok (.isub, 1) := by decide +kernel
theorem dX2_dropFirst_17 : decode cX2_dropFirst 17 = .ok (.aload_n 0, 1) := by decide +kernel
theorem dX2_dropFirst_18 : decode cX2_dropFirst 18 = .ok (.getfield 9, 3) := by decide +kernel
theorem dX2_dropFirst_21 : decode cX2_dropFirst 21 = .ok (.iload_n 1, 1) := by decide +kernel
theorem dX2_dropFirst_22 : decode cX2_dropFirst 22 = .ok (.iaload, 1) := by decide +kernel
theorem dX2_dropFirst_23 : decode cX2_dropFirst 23 = .ok (.iastore, 1) := by decide +kernel
theorem dX2_dropFirst_24 : decode cX2_dropFirst 24 = .ok (.iinc 1 1, 3) := by decide +kernel
theorem dX2_dropFirst_27 : decode cX2_dropFirst 27 = .ok (.goto (-25), 3) := by decide +kernel
theorem dX2_dropFirst_30 : decode cX2_dropFirst 30 = .ok (.aload_n 0, 1) := by decide +kernel
theorem dX2_dropFirst_31 : decode cX2_dropFirst 31 = .ok (.iconst 0, 1) := by decide +kernel
theorem dX2_dropFirst_32 : decode cX2_dropFirst 32 = .ok (.aload_n 0, 1) := by decide +kernel
theorem dX2_dropFirst_33 : decode cX2_dropFirst 33 = .ok (.getfield 15, 3) := by decide +kernel
theorem dX2_dropFirst_36 : decode cX2_dropFirst 36 = .ok (.iconst 1, 1) := by decide +kernel
theorem dX2_dropFirst_37 : decode cX2_dropFirst 37 = .ok (.isub, 1) := by decide +kernel
theorem dX2_dropFirst_38 : decode cX2_dropFirst 38 = .ok (.invokestatic 19, 3) := by decide +kernel
theorem dX2_dropFirst_41 : decode cX2_dropFirst 41 = .ok (.putfield 15, 3) := by decide +kernel
theorem dX2_dropFirst_44 : decode cX2_dropFirst 44 = .ok (.return_, 1) := by decide +kernel
theorem dX2_coreAt_0 : decode cX2_coreAt 0 = .ok (.iload_n 1, 1) := by decide +kernel
theorem dX2_coreAt_1 : decode cX2_coreAt 1 = .ok (.ifCond .lt 20, 3) := by decide +kernel
theorem dX2_coreAt_4 : decode cX2_coreAt 4 = .ok (.iload_n 1, 1) := by decide +kernel
theorem dX2_coreAt_5 : decode cX2_coreAt 5 = .ok (.aload_n 0, 1) := by decide +kernel
theorem dX2_coreAt_6 : decode cX2_coreAt 6 = .ok (.getfield 15, 3) := by decide +kernel
theorem dX2_coreAt_9 : decode cX2_coreAt 9 = .ok (.if_icmp .ge 12, 3) := by decide +kernel
theorem dX2_coreAt_12 : decode cX2_coreAt 12 = .ok (.aload_n 0, 1) := by decide +kernel
theorem dX2_coreAt_13 : decode cX2_coreAt 13 = .ok (.getfield 9, 3) := by decide +kernel
theorem dX2_coreAt_16 : decode cX2_coreAt 16 = .ok (.iload_n 1, 1) := by decide +kernel
theorem dX2_coreAt_17 : decode cX2_coreAt 17 = .ok (.iaload, 1) := by decide +kernel
theorem dX2_coreAt_18 : decode cX2_coreAt 18 = .ok (.goto 4, 3) := by decide +kernel
theorem dX2_coreAt_21 : decode cX2_coreAt 21 = .ok (.iconst (-1), 1) := by decide +kernel
theorem dX2_coreAt_22 : decode cX2_coreAt 22 = .ok (.ireturn, 1) := by decide +kernel
theorem dX3_init_0 : decode cX3_init 0 = .ok (.aload_n 0, 1) := by decide +kernel
theorem dX3_init_1 : decode cX3_init 1 = .ok (.invokespecial 3, 3) := by decide +kernel
theorem dX3_init_4 : decode cX3_init 4 = .ok (.aload_n 0, 1) := by decide +kernel
theorem dX3_init_5 : decode cX3_init 5 = .ok (.bipush 6, 2) := by decide +kernel
theorem dX3_init_7 : decode cX3_init 7 = .ok (.anewarray 9, 3) := by decide +kernel
theorem dX3_init_10 : decode cX3_init 10 = .ok (.putfield 11, 3) := by decide +kernel
theorem dX3_init_13 : decode cX3_init 13 = .ok (.aload_n 0, 1) := by decide +kernel
theorem dX3_init_14 : decode cX3_init 14 = .ok (.new 17, 3) := by decide +kernel
theorem dX3_init_17 : decode cX3_init 17 = .ok (.dup, 1) := by decide +kernel
theorem dX3_init_18 : decode cX3_init 18 = .ok (.invokespecial 19, 3) := by decide +kernel
theorem dX3_init_21 : decode cX3_init 21 = .ok (.putfield 20, 3) := by decide +kernel
theorem dX3_init_24 : decode cX3_init 24 = .ok (.iconst 0, 1) := by decide +kernel
theorem dX3_init_25 : decode cX3_init 25 = .ok (.istore_n 1, 1) := by decide +kernel
theorem dX3_init_26 : decode cX3_init 26 = .ok (.iload_n 1, 1) := by decide +kernel
theorem dX3_init_27 : decode cX3_init 27 = .ok (.bipush 6, 2) := by decide +kernel
theorem dX3_init_29 : decode cX3_init 29 = .ok (.if_icmp .ge 22, 3) := by decide +kernel
theorem dX3_init_32 : decode cX3_init 32 = .ok (.aload_n 0, 1) := by decide +kernel
theorem dX3_init_33 : decode cX3_init 33 = .ok (.getfield 11, 3) := by decide +kernel
theorem dX3_init_36 : decode cX3_init 36 = .ok (.iload_n 1, 1) := by decide +kernel
theorem dX3_init_37 : decode cX3_init 37 = .ok (.new 9, 3) := by decide +kernel
theorem dX3_init_40 : decode cX3_init 40 = .ok (.dup, 1) := by decide +kernel
theorem dX3_init_41 : decode cX3_init 41 = .ok (.invokespecial 24, 3) := by decide +kernel
theorem dX3_init_44 : decode cX3_init 44 = .ok (.aastore, 1) := by decide +kernel
theorem dX3_init_45 : decode cX3_init 45 = .ok (.iinc 1 1, 3) := by decide +kernel
theorem dX3_init_48 : decode cX3_init 48 = .ok (.goto (-22), 3) := by decide +kernel
theorem dX3_init_51 : decode cX3_init 51 = .ok (.return_, 1) := by decide +kernel
theorem dX3_layDown_0 : decode cX3_layDown 0 = .ok (.aload_n 0, 1) := by decide +kernel
theorem dX3_layDown_1 : decode cX3_layDown 1 = .ok (.iconst 1, 1) := by decide +kernel
theorem dX3_layDown_2 : decode cX3_layDown 2 = .ok (.putfield 25, 3) := by decide +kernel
theorem dX3_layDown_5 : decode cX3_layDown 5 = .ok (.aload_n 0, 1) := by decide +kernel
theorem dX3_layDown_6 : decode cX3_layDown 6 = .ok (.iload_n 1, 1) := by decide +kernel
theorem dX3_layDown_7 : decode cX3_layDown 7 = .ok (.putfield 29, 3) := by decide +kernel
theorem dX3_layDown_10 : decode cX3_layDown 10 = .ok (.aload_n 0, 1) := by decide +kernel
theorem dX3_layDown_11 : decode cX3_layDown 11 = .ok (.iload_n 2, 1) := by decide +kernel
theorem dX3_layDown_12 : decode cX3_layDown 12 = .ok (.putfield 33, 3) := by decide +kernel
theorem dX3_layDown_15 : decode cX3_layDown 15 = .ok (.aload_n 0, 1) := by decide +kernel
theorem dX3_layDown_16 : decode cX3_layDown 16 = .ok (.iload_n 3, 1) := by decide +kernel
theorem dX3_layDown_17 : decode cX3_layDown 17 = .ok (.putfield 36, 3) := by decide +kernel
theorem dX3_layDown_20 : decode cX3_layDown 20 = .ok (.aload_n 0, 1) := by decide +kernel
theorem dX3_layDown_21 : decode cX3_layDown 21 = .ok (.iload 4, 2) := by decide +kernel
theorem dX3_layDown_23 : decode cX3_layDown 23 = .ok (.putfield 39, 3) := by decide +kernel
theorem dX3_layDown_26 : decode cX3_layDown 26 = .ok (.aload_n 0, 1) := by decide +kernel
theorem dX3_layDown_27 : decode cX3_layDown 27 = .ok (.iload 5, 2) := by decide +kernel
theorem dX3_layDown_29 : decode cX3_layDown 29 = .ok (.putfield 42, 3) := by decide +kernel
theorem dX3_layDown_32 : decode cX3_layDown 32 = .ok (.aload_n 0, 1) := by decide +kernel
theorem dX3_layDown_33 : decode cX3_layDown 33 = .ok (.iconst 0, 1) := by decide +kernel
theorem dX3_layDown_34 : decode cX3_layDown 34 = .ok (.putfield 45, 3) := by decide +kernel
theorem dX3_layDown_37 : decode cX3_layDown 37 = .ok (.return_, 1) := by decide +kernel
theorem dX3_isOn_0 : decode cX3_isOn 0 = .ok (.aload_n 0, 1) := by decide +kernel
theorem dX3_isOn_1 : decode cX3_isOn 1 = .ok (.getfield 25, 3) := by decide +kernel
theorem dX3_isOn_4 : decode cX3_isOn 4 = .ok (.ifCond .eq 15, 3) := by decide +kernel
theorem dX3_isOn_7 : decode cX3_isOn 7 = .ok (.aload_n 0, 1) := by decide +kernel
theorem dX3_isOn_8 : decode cX3_isOn 8 = .ok (.getfield 29, 3) := by decide +kernel
theorem dX3_isOn_11 : decode cX3_isOn 11 = .ok (.iload_n 1, 1) := by decide +kernel
theorem dX3_isOn_12 : decode cX3_isOn 12 = .ok (.if_icmp .ne 7, 3) := by decide +kernel
theorem dX3_isOn_15 : decode cX3_isOn 15 = .ok (.iconst 1, 1) := by decide +kernel
theorem dX3_isOn_16 : decode cX3_isOn 16 = .ok (.goto 4, 3) := by decide +kernel
theorem dX3_isOn_19 : decode cX3_isOn 19 = .ok (.iconst 0, 1) := by decide +kernel
theorem dX3_isOn_20 : decode cX3_isOn 20 = .ok (.ireturn, 1) := by decide +kernel
theorem dX3_isOuter_0 : decode cX3_isOuter 0 = .ok (.iload_n 1, 1) := by decide +kernel
theorem dX3_isOuter_1 : decode cX3_isOuter 1 = .ok (.ifCond .lt 27, 3) := by decide +kernel
theorem dX3_isOuter_4 : decode cX3_isOuter 4 = .ok (.iload_n 1, 1) := by decide +kernel
theorem dX3_isOuter_5 : decode cX3_isOuter 5 = .ok (.aload_n 0, 1) := by decide +kernel
theorem dX3_isOuter_6 : decode cX3_isOuter 6 = .ok (.getfield 45, 3) := by decide +kernel
theorem dX3_isOuter_9 : decode cX3_isOuter 9 = .ok (.if_icmp .ge 19, 3) := by decide +kernel
theorem dX3_isOuter_12 : decode cX3_isOuter 12 = .ok (.aload_n 0, 1) := by decide +kernel
theorem dX3_isOuter_13 : decode cX3_isOuter 13 = .ok (.getfield 11, 3) := by decide +kernel
theorem dX3_isOuter_16 : decode cX3_isOuter 16 = .ok (.iload_n 1, 1) := by decide +kernel
theorem dX3_isOuter_17 : decode cX3_isOuter 17 = .ok (.aaload, 1) := by decide +kernel
theorem dX3_isOuter_18 : decode cX3_isOuter 18 = .ok (.invokevirtual 48, 3) := by decide +kernel
theorem dX3_isOuter_21 : decode cX3_isOuter 21 = .ok (.ifCond .eq 7, 3) := by decide +kernel
theorem dX3_isOuter_24 : decode cX3_isOuter 24 = .ok (.iconst 1, 1) := by decide +kernel
theorem dX3_isOuter_25 : decode cX3_isOuter 25 = .ok (.goto 4, 3) := by decide +kernel
theorem dX3_isOuter_28 : decode cX3_isOuter 28 = .ok (.iconst 0, 1) := by decide +kernel
theorem dX3_isOuter_29 : decode cX3_isOuter 29 = .ok (.ireturn, 1) := by decide +kernel
theorem dX3_hasPlaceFor_0 : decode cX3_hasPlaceFor 0 = .ok (.iload_n 3, 1) := by decide +kernel
theorem dX3_hasPlaceFor_1 : decode cX3_hasPlaceFor 1 = .ok (.iconst (-1), 1) := by decide +kernel
theorem dX3_hasPlaceFor_2 : decode cX3_hasPlaceFor 2 = .ok (.if_icmp .ne 25, 3) := by decide +kernel
theorem dX3_hasPlaceFor_5 : decode cX3_hasPlaceFor 5 = .ok (.iload_n 1, 1) := by decide +kernel
theorem dX3_hasPlaceFor_6 : decode cX3_hasPlaceFor 6 = .ok (.aload_n 0, 1) := by decide +kernel
theorem dX3_hasPlaceFor_7 : decode cX3_hasPlaceFor 7 = .ok (.invokevirtual 52, 3) := by decide +kernel
theorem dX3_hasPlaceFor_10 : decode cX3_hasPlaceFor 10 = .ok (.if_icmp .lt 15, 3) := by decide +kernel
theorem dX3_hasPlaceFor_13 : decode cX3_hasPlaceFor 13 = .ok (.iload_n 1, 1) := by decide +kernel
theorem dX3_hasPlaceFor_14 : decode cX3_hasPlaceFor 14 = .ok (.aload_n 0, 1) := by decide +kernel
theorem dX3_hasPlaceFor_15 : decode cX3_hasPlaceFor 15 = .ok (.getfield 42, 3) := by decide +kernel
theorem dX3_hasPlaceFor_18 : decode cX3_hasPlaceFor 18 = .ok (.if_icmp .gt 7, 3) := by decide +kernel
theorem dX3_hasPlaceFor_21 : decode cX3_hasPlaceFor 21 = .ok (.iconst 1, 1) := by decide +kernel
theorem dX3_hasPlaceFor_22 : decode cX3_hasPlaceFor 22 = .ok (.goto 4, 3) := by decide +kernel
theorem dX3_hasPlaceFor_25 : decode cX3_hasPlaceFor 25 = .ok (.iconst 0, 1) := by decide +kernel
theorem dX3_hasPlaceFor_26 : decode cX3_hasPlaceFor 26 = .ok (.ireturn, 1) := by decide +kernel
theorem dX3_hasPlaceFor_27 : decode cX3_hasPlaceFor 27 = .ok (.aload_n 0, 1) := by decide +kernel
theorem dX3_hasPlaceFor_28 : decode cX3_hasPlaceFor 28 = .ok (.iload_n 3, 1) := by decide +kernel
theorem dX3_hasPlaceFor_29 : decode cX3_hasPlaceFor 29 = .ok (.invokevirtual 56, 3) := by decide +kernel
theorem dX3_hasPlaceFor_32 : decode cX3_hasPlaceFor 32 = .ok (.ifCond .eq 26, 3) := by decide +kernel
theorem dX3_hasPlaceFor_35 : decode cX3_hasPlaceFor 35 = .ok (.iload_n 1, 1) := by decide +kernel
theorem dX3_hasPlaceFor_36 : decode cX3_hasPlaceFor 36 = .ok (.ifCond .lt 22, 3) := by decide +kernel
theorem dX3_hasPlaceFor_39 : decode cX3_hasPlaceFor 39 = .ok (.iload_n 1, 1) := by decide +kernel
theorem dX3_hasPlaceFor_40 : decode cX3_hasPlaceFor 40 = .ok (.aload_n 0, 1) := by decide +kernel
theorem dX3_hasPlaceFor_41 : decode cX3_hasPlaceFor 41 = .ok (.getfield 11, 3) := by decide +kernel
theorem dX3_hasPlaceFor_44 : decode cX3_hasPlaceFor 44 = .ok (.iload_n 3, 1) := by decide +kernel
theorem dX3_hasPlaceFor_45 : decode cX3_hasPlaceFor 45 = .ok (.aaload, 1) := by decide +kernel
theorem dX3_hasPlaceFor_46 : decode cX3_hasPlaceFor 46 = .ok (.getfield 59, 3) := by decide +kernel
theorem dX3_hasPlaceFor_49 : decode cX3_hasPlaceFor 49 = .ok (.iload_n 2, 1) := by decide +kernel
theorem dX3_hasPlaceFor_50 : decode cX3_hasPlaceFor 50 = .ok (.isub, 1) := by decide +kernel
theorem dX3_hasPlaceFor_51 : decode cX3_hasPlaceFor 51 = .ok (.if_icmp .gt 7, 3) := by decide +kernel
theorem dX3_hasPlaceFor_54 : decode cX3_hasPlaceFor 54 = .ok (.iconst 1, 1) := by decide +kernel
theorem dX3_hasPlaceFor_55 : decode cX3_hasPlaceFor 55 = .ok (.goto 4, 3) := by decide +kernel
theorem dX3_hasPlaceFor_58 : decode cX3_hasPlaceFor 58 = .ok (.iconst 0, 1) := by decide +kernel
theorem dX3_hasPlaceFor_59 : decode cX3_hasPlaceFor 59 = .ok (.ireturn, 1) := by decide +kernel
theorem dX3_greatestAfter_0 : decode cX3_greatestAfter 0 = .ok (.iconst 0, 1) := by decide +kernel
theorem dX3_greatestAfter_1 : decode cX3_greatestAfter 1 = .ok (.istore_n 1, 1) := by decide +kernel
theorem dX3_greatestAfter_2 : decode cX3_greatestAfter 2 = .ok (.iconst 0, 1) := by decide +kernel
theorem dX3_greatestAfter_3 : decode cX3_greatestAfter 3 = .ok (.istore_n 2, 1) := by decide +kernel
theorem dX3_greatestAfter_4 : decode cX3_greatestAfter 4 = .ok (.iload_n 2, 1) := by decide +kernel
theorem dX3_greatestAfter_5 : decode cX3_greatestAfter 5 = .ok (.aload_n 0, 1) := by decide +kernel
theorem dX3_greatestAfter_6 : decode cX3_greatestAfter 6 = .ok (.getfield 45, 3) := by decide +kernel
theorem dX3_greatestAfter_9 : decode cX3_greatestAfter 9 = .ok (.if_icmp .ge 31, 3) := by decide +kernel
theorem dX3_greatestAfter_12 : decode cX3_greatestAfter 12 = .ok (.aload_n 0, 1) := by decide +kernel
theorem dX3_greatestAfter_13 : decode cX3_greatestAfter 13 = .ok (.getfield 11, 3) := by decide +kernel
theorem dX3_greatestAfter_16 : decode cX3_greatestAfter 16 = .ok (.iload_n 2, 1) := by decide +kernel
theorem dX3_greatestAfter_17 : decode cX3_greatestAfter 17 = .ok (.aaload, 1) := by decide +kernel
theorem dX3_greatestAfter_18 : decode cX3_greatestAfter 18 = .ok (.invokevirtual 48, 3) := by decide +kernel
theorem dX3_greatestAfter_21 : decode cX3_greatestAfter 21 = .ok (.ifCond .eq 13, 3) := by decide +kernel
theorem dX3_greatestAfter_24 : decode cX3_greatestAfter 24 = .ok (.aload_n 0, 1) := by decide +kernel
theorem dX3_greatestAfter_25 : decode cX3_greatestAfter 25 = .ok (.getfield 11, 3) := by decide +kernel
theorem dX3_greatestAfter_28 : decode cX3_greatestAfter 28 = .ok (.iload_n 2, 1) := by decide +kernel
theorem dX3_greatestAfter_29 : decode cX3_greatestAfter 29 = .ok (.aaload, 1) := by decide +kernel
theorem dX3_greatestAfter_30 : decode cX3_greatestAfter 30 = .ok (.getfield 62, 3) := by decide +kernel
theorem dX3_greatestAfter_33 : decode cX3_greatestAfter 33 = .ok (.istore_n 1, 1) := by decide +kernel
theorem dX3_greatestAfter_34 : decode cX3_greatestAfter 34 = .ok (.iinc 2 1, 3) := by decide +kernel
theorem dX3_greatestAfter_37 : decode cX3_greatestAfter 37 = .ok (.goto (-33), 3) := by decide +kernel
theorem dX3_greatestAfter_40 : decode cX3_greatestAfter 40 = .ok (.iload_n 1, 1) := by decide +kernel
theorem dX3_greatestAfter_41 : decode cX3_greatestAfter 41 = .ok (.ireturn, 1) := by decide +kernel
theorem dX3_addRequest_0 : decode cX3_addRequest 0 = .ok (.aload_n 0, 1) := by decide +kernel
theorem dX3_addRequest_1 : decode cX3_addRequest 1 = .ok (.getfield 45, 3) := by decide +kernel
theorem dX3_addRequest_4 : decode cX3_addRequest 4 = .ok (.istore 5, 2) := by decide +kernel
theorem dX3_addRequest_6 : decode cX3_addRequest 6 = .ok (.aload_n 0, 1) := by decide +kernel
theorem dX3_addRequest_7 : decode cX3_addRequest 7 = .ok (.getfield 11, 3) := by decide +kernel
theorem dX3_addRequest_10 : decode cX3_addRequest 10 = .ok (.iload 5, 2) := by decide +kernel
theorem dX3_addRequest_12 : decode cX3_addRequest 12 = .ok (.aaload, 1) := by decide +kernel
theorem dX3_addRequest_13 : decode cX3_addRequest 13 = .ok (.iload_n 1, 1) := by decide +kernel
theorem dX3_addRequest_14 : decode cX3_addRequest 14 = .ok (.iload_n 2, 1) := by decide +kernel
theorem dX3_addRequest_15 : decode cX3_addRequest 15 = .ok (.iload_n 3, 1) := by decide +kernel
theorem dX3_addRequest_16 : decode cX3_addRequest 16 = .ok (.iload 4, 2) := by decide +kernel
theorem dX3_addRequest_18 : decode cX3_addRequest 18 = .ok (.invokevirtual 65, 3) := by decide +kernel
theorem dX3_addRequest_21 : decode cX3_addRequest 21 = .ok (.aload_n 0, 1) := by decide +kernel
theorem dX3_addRequest_22 : decode cX3_addRequest 22 = .ok (.dup, 1) := by decide +kernel
theorem dX3_addRequest_23 : decode cX3_addRequest 23 = .ok (.getfield 45, 3) := by decide +kernel
theorem dX3_addRequest_26 : decode cX3_addRequest 26 = .ok (.iconst 1, 1) := by decide +kernel
theorem dX3_addRequest_27 : decode cX3_addRequest 27 = .ok (.iadd, 1) := by decide +kernel
theorem dX3_addRequest_28 : decode cX3_addRequest 28 = .ok (.putfield 45, 3) := by decide +kernel
theorem dX3_addRequest_31 : decode cX3_addRequest 31 = .ok (.iload 5, 2) := by decide +kernel
theorem dX3_addRequest_33 : decode cX3_addRequest 33 = .ok (.ireturn, 1) := by decide +kernel
theorem dX3_longestStay_0 : decode cX3_longestStay 0 = .ok (.iconst 0, 1) := by decide +kernel
theorem dX3_longestStay_1 : decode cX3_longestStay 1 = .ok (.istore_n 1, 1) := by decide +kernel
theorem dX3_longestStay_2 : decode cX3_longestStay 2 = .ok (.iconst 0, 1) := by decide +kernel
theorem dX3_longestStay_3 : decode cX3_longestStay 3 = .ok (.istore_n 2, 1) := by decide +kernel
theorem dX3_longestStay_4 : decode cX3_longestStay 4 = .ok (.iload_n 2, 1) := by decide +kernel
theorem dX3_longestStay_5 : decode cX3_longestStay 5 = .ok (.aload_n 0, 1) := by decide +kernel
theorem dX3_longestStay_6 : decode cX3_longestStay 6 = .ok (.getfield 45, 3) := by decide +kernel
theorem dX3_longestStay_9 : decode cX3_longestStay 9 = .ok (.if_icmp .ge 45, 3) := by decide +kernel
theorem dX3_longestStay_12 : decode cX3_longestStay 12 = .ok (.aload_n 0, 1) := by decide +kernel
theorem dX3_longestStay_13 : decode cX3_longestStay 13 = .ok (.getfield 11, 3) := by decide +kernel
theorem dX3_longestStay_16 : decode cX3_longestStay 16 = .ok (.iload_n 2, 1) := by decide +kernel
theorem dX3_longestStay_17 : decode cX3_longestStay 17 = .ok (.aaload, 1) := by decide +kernel
theorem dX3_longestStay_18 : decode cX3_longestStay 18 = .ok (.invokevirtual 48, 3) := by decide +kernel
theorem dX3_longestStay_21 : decode cX3_longestStay 21 = .ok (.ifCond .eq 27, 3) := by decide +kernel
theorem dX3_longestStay_24 : decode cX3_longestStay 24 = .ok (.iload_n 1, 1) := by decide +kernel
theorem dX3_longestStay_25 : decode cX3_longestStay 25 = .ok (.aload_n 0, 1) := by decide +kernel
theorem dX3_longestStay_26 : decode cX3_longestStay 26 = .ok (.getfield 11, 3) := by decide +kernel
theorem dX3_longestStay_29 : decode cX3_longestStay 29 = .ok (.iload_n 2, 1) := by decide +kernel
theorem dX3_longestStay_30 : decode cX3_longestStay 30 = .ok (.aaload, 1) := by decide +kernel
theorem dX3_longestStay_31 : decode cX3_longestStay 31 = .ok (.getfield 59, 3) := by decide +kernel
theorem dX3_longestStay_34 : decode cX3_longestStay 34 = .ok (.aload_n 0, 1) := by decide +kernel
theorem dX3_longestStay_35 : decode cX3_longestStay 35 = .ok (.getfield 11, 3) := by decide +kernel
theorem dX3_longestStay_38 : decode cX3_longestStay 38 = .ok (.iload_n 2, 1) := by decide +kernel
theorem dX3_longestStay_39 : decode cX3_longestStay 39 = .ok (.aaload, 1) := by decide +kernel
theorem dX3_longestStay_40 : decode cX3_longestStay 40 = .ok (.getfield 69, 3) := by decide +kernel
theorem dX3_longestStay_43 : decode cX3_longestStay 43 = .ok (.iadd, 1) := by decide +kernel
theorem dX3_longestStay_44 : decode cX3_longestStay 44 = .ok (.invokestatic 72, 3) := by decide +kernel
theorem dX3_longestStay_47 : decode cX3_longestStay 47 = .ok (.istore_n 1, 1) := by decide +kernel
theorem dX3_longestStay_48 : decode cX3_longestStay 48 = .ok (.iinc 2 1, 3) := by decide +kernel
theorem dX3_longestStay_51 : decode cX3_longestStay 51 = .ok (.goto (-47), 3) := by decide +kernel
theorem dX3_longestStay_54 : decode cX3_longestStay 54 = .ok (.iload_n 1, 1) := by decide +kernel
theorem dX3_longestStay_55 : decode cX3_longestStay 55 = .ok (.ireturn, 1) := by decide +kernel
theorem dX3_beginningsIn_0 : decode cX3_beginningsIn 0 = .ok (.aload_n 0, 1) := by decide +kernel
theorem dX3_beginningsIn_1 : decode cX3_beginningsIn 1 = .ok (.getfield 36, 3) := by decide +kernel
theorem dX3_beginningsIn_4 : decode cX3_beginningsIn 4 = .ok (.iconst 1, 1) := by decide +kernel
theorem dX3_beginningsIn_5 : decode cX3_beginningsIn 5 = .ok (.if_icmp .ge 7, 3) := by decide +kernel
theorem dX3_beginningsIn_8 : decode cX3_beginningsIn 8 = .ok (.iconst 0, 1) := by decide +kernel
theorem dX3_beginningsIn_9 : decode cX3_beginningsIn 9 = .ok (.goto 16, 3) := by decide +kernel
theorem dX3_beginningsIn_12 : decode cX3_beginningsIn 12 = .ok (.iload_n 1, 1) := by decide +kernel
theorem dX3_beginningsIn_13 : decode cX3_beginningsIn 13 = .ok (.aload_n 0, 1) := by decide +kernel
theorem dX3_beginningsIn_14 : decode cX3_beginningsIn 14 = .ok (.getfield 36, 3) := by decide +kernel
theorem dX3_beginningsIn_17 : decode cX3_beginningsIn 17 = .ok (.iadd, 1) := by decide +kernel
theorem dX3_beginningsIn_18 : decode cX3_beginningsIn 18 = .ok (.iconst 1, 1) := by decide +kernel
theorem dX3_beginningsIn_19 : decode cX3_beginningsIn 19 = .ok (.isub, 1) := by decide +kernel
theorem dX3_beginningsIn_20 : decode cX3_beginningsIn 20 = .ok (.aload_n 0, 1) := by decide +kernel
theorem dX3_beginningsIn_21 : decode cX3_beginningsIn 21 = .ok (.getfield 36, 3) := by decide +kernel
theorem dX3_beginningsIn_24 : decode cX3_beginningsIn 24 = .ok (.idiv, 1) := by decide +kernel
theorem dX3_beginningsIn_25 : decode cX3_beginningsIn 25 = .ok (.ireturn, 1) := by decide +kernel
theorem dX3_startJob_0 : decode cX3_startJob 0 = .ok (.iconst 0, 1) := by decide +kernel
theorem dX3_startJob_1 : decode cX3_startJob 1 = .ok (.istore_n 2, 1) := by decide +kernel
theorem dX3_startJob_2 : decode cX3_startJob 2 = .ok (.iload_n 2, 1) := by decide +kernel
theorem dX3_startJob_3 : decode cX3_startJob 3 = .ok (.aload_n 0, 1) := by decide +kernel
theorem dX3_startJob_4 : decode cX3_startJob 4 = .ok (.getfield 45, 3) := by decide +kernel
theorem dX3_startJob_7 : decode cX3_startJob 7 = .ok (.if_icmp .ge 18, 3) := by decide +kernel
theorem dX3_startJob_10 : decode cX3_startJob 10 = .ok (.aload_n 0, 1) := by decide +kernel
theorem dX3_startJob_11 : decode cX3_startJob 11 = .ok (.getfield 11, 3) := by decide +kernel
theorem dX3_startJob_14 : decode cX3_startJob 14 = .ok (.iload_n 2, 1) := by decide +kernel
theorem dX3_startJob_15 : decode cX3_startJob 15 = .ok (.aaload, 1) := by decide +kernel
theorem dX3_startJob_16 : decode cX3_startJob 16 = .ok (.invokevirtual 78, 3) := by decide +kernel
theorem dX3_startJob_19 : decode cX3_startJob 19 = .ok (.iinc 2 1, 3) := by decide +kernel
theorem dX3_startJob_22 : decode cX3_startJob 22 = .ok (.goto (-20), 3) := by decide +kernel
theorem dX3_startJob_25 : decode cX3_startJob 25 = .ok (.aload_n 0, 1) := by decide +kernel
theorem dX3_startJob_26 : decode cX3_startJob 26 = .ok (.getfield 20, 3) := by decide +kernel
theorem dX3_startJob_29 : decode cX3_startJob 29 = .ok (.iload_n 1, 1) := by decide +kernel
theorem dX3_startJob_30 : decode cX3_startJob 30 = .ok (.aload_n 0, 1) := by decide +kernel
theorem dX3_startJob_31 : decode cX3_startJob 31 = .ok (.iconst 0, 1) := by decide +kernel
theorem dX3_startJob_32 : decode cX3_startJob 32 = .ok (.invokevirtual 81, 3) := by decide +kernel
theorem dX3_startJob_35 : decode cX3_startJob 35 = .ok (.invokevirtual 85, 3) := by decide +kernel
theorem dX3_startJob_38 : decode cX3_startJob 38 = .ok (.return_, 1) := by decide +kernel
theorem dX3_endJob_0 : decode cX3_endJob 0 = .ok (.aload_n 0, 1) := by decide +kernel
theorem dX3_endJob_1 : decode cX3_endJob 1 = .ok (.getfield 20, 3) := by decide +kernel
theorem dX3_endJob_4 : decode cX3_endJob 4 = .ok (.iload_n 1, 1) := by decide +kernel
theorem dX3_endJob_5 : decode cX3_endJob 5 = .ok (.aload_n 0, 1) := by decide +kernel
theorem dX3_endJob_6 : decode cX3_endJob 6 = .ok (.getfield 39, 3) := by decide +kernel
theorem dX3_endJob_9 : decode cX3_endJob 9 = .ok (.invokevirtual 89, 3) := by decide +kernel
theorem dX3_endJob_12 : decode cX3_endJob 12 = .ok (.return_, 1) := by decide +kernel
theorem dX3_forgetJobs_0 : decode cX3_forgetJobs 0 = .ok (.iconst 0, 1) := by decide +kernel
theorem dX3_forgetJobs_1 : decode cX3_forgetJobs 1 = .ok (.istore_n 1, 1) := by decide +kernel
theorem dX3_forgetJobs_2 : decode cX3_forgetJobs 2 = .ok (.iload_n 1, 1) := by decide +kernel
theorem dX3_forgetJobs_3 : decode cX3_forgetJobs 3 = .ok (.aload_n 0, 1) := by decide +kernel
theorem dX3_forgetJobs_4 : decode cX3_forgetJobs 4 = .ok (.getfield 45, 3) := by decide +kernel
theorem dX3_forgetJobs_7 : decode cX3_forgetJobs 7 = .ok (.if_icmp .ge 18, 3) := by decide +kernel
theorem dX3_forgetJobs_10 : decode cX3_forgetJobs 10 = .ok (.aload_n 0, 1) := by decide +kernel
theorem dX3_forgetJobs_11 : decode cX3_forgetJobs 11 = .ok (.getfield 11, 3) := by decide +kernel
theorem dX3_forgetJobs_14 : decode cX3_forgetJobs 14 = .ok (.iload_n 1, 1) := by decide +kernel
theorem dX3_forgetJobs_15 : decode cX3_forgetJobs 15 = .ok (.aaload, 1) := by decide +kernel
theorem dX3_forgetJobs_16 : decode cX3_forgetJobs 16 = .ok (.invokevirtual 92, 3) := by decide +kernel
theorem dX3_forgetJobs_19 : decode cX3_forgetJobs 19 = .ok (.iinc 1 1, 3) := by decide +kernel
theorem dX3_forgetJobs_22 : decode cX3_forgetJobs 22 = .ok (.goto (-20), 3) := by decide +kernel
theorem dX3_forgetJobs_25 : decode cX3_forgetJobs 25 = .ok (.aload_n 0, 1) := by decide +kernel
theorem dX3_forgetJobs_26 : decode cX3_forgetJobs 26 = .ok (.getfield 20, 3) := by decide +kernel
theorem dX3_forgetJobs_29 : decode cX3_forgetJobs 29 = .ok (.invokevirtual 95, 3) := by decide +kernel
theorem dX3_forgetJobs_32 : decode cX3_forgetJobs 32 = .ok (.return_, 1) := by decide +kernel
theorem dX3_outerFrom_0 : decode cX3_outerFrom 0 = .ok (.iload_n 1, 1) := by decide +kernel
theorem dX3_outerFrom_1 : decode cX3_outerFrom 1 = .ok (.istore_n 2, 1) := by decide +kernel
theorem dX3_outerFrom_2 : decode cX3_outerFrom 2 = .ok (.iload_n 2, 1) := by decide +kernel
theorem dX3_outerFrom_3 : decode cX3_outerFrom 3 = .ok (.aload_n 0, 1) := by decide +kernel
theorem dX3_outerFrom_4 : decode cX3_outerFrom 4 = .ok (.getfield 45, 3) := by decide +kernel
theorem dX3_outerFrom_7 : decode cX3_outerFrom 7 = .ok (.if_icmp .ge 21, 3) := by decide +kernel
theorem dX3_outerFrom_10 : decode cX3_outerFrom 10 = .ok (.aload_n 0, 1) := by decide +kernel
theorem dX3_outerFrom_11 : decode cX3_outerFrom 11 = .ok (.getfield 11, 3) := by decide +kernel
theorem dX3_outerFrom_14 : decode cX3_outerFrom 14 = .ok (.iload_n 2, 1) := by decide +kernel
theorem dX3_outerFrom_15 : decode cX3_outerFrom 15 = .ok (.aaload, 1) := by decide +kernel
theorem dX3_outerFrom_16 : decode cX3_outerFrom 16 = .ok (.invokevirtual 48, 3) := by decide +kernel
theorem dX3_outerFrom_19 : decode cX3_outerFrom 19 = .ok (.ifCond .ne 9, 3) := by decide +kernel
theorem dX3_outerFrom_22 : decode cX3_outerFrom 22 = .ok (.iinc 2 1, 3) := by decide +kernel
theorem dX3_outerFrom_25 : decode cX3_outerFrom 25 = .ok (.goto (-23), 3) := by decide +kernel
theorem dX3_outerFrom_28 : decode cX3_outerFrom 28 = .ok (.iload_n 2, 1) := by decide +kernel
theorem dX3_outerFrom_29 : decode cX3_outerFrom 29 = .ok (.ireturn, 1) := by decide +kernel
theorem dX3_nextRequest_0 : decode cX3_nextRequest 0 = .ok (.aload_n 0, 1) := by decide +kernel
theorem dX3_nextRequest_1 : decode cX3_nextRequest 1 = .ok (.getfield 11, 3) := by decide +kernel
theorem dX3_nextRequest_4 : decode cX3_nextRequest 4 = .ok (.aload_n 0, 1) := by decide +kernel
theorem dX3_nextRequest_5 : decode cX3_nextRequest 5 = .ok (.getfield 20, 3) := by decide +kernel
theorem dX3_nextRequest_8 : decode cX3_nextRequest 8 = .ok (.getfield 98, 3) := by decide +kernel
theorem dX3_nextRequest_11 : decode cX3_nextRequest 11 = .ok (.iconst 5, 1) := by decide +kernel
theorem dX3_nextRequest_12 : decode cX3_nextRequest 12 = .ok (.invokestatic 101, 3) := by decide +kernel
theorem dX3_nextRequest_15 : decode cX3_nextRequest 15 = .ok (.aaload, 1) := by decide +kernel
theorem dX3_nextRequest_16 : decode cX3_nextRequest 16 = .ok (.areturn, 1) := by decide +kernel
theorem dX3_hasToAsk_0 : decode cX3_hasToAsk 0 = .ok (.aload_n 0, 1) := by decide +kernel
theorem dX3_hasToAsk_1 : decode cX3_hasToAsk 1 = .ok (.getfield 20, 3) := by decide +kernel
theorem dX3_hasToAsk_4 : decode cX3_hasToAsk 4 = .ok (.getfield 98, 3) := by decide +kernel
theorem dX3_hasToAsk_7 : decode cX3_hasToAsk 7 = .ok (.aload_n 0, 1) := by decide +kernel
theorem dX3_hasToAsk_8 : decode cX3_hasToAsk 8 = .ok (.getfield 45, 3) := by decide +kernel
theorem dX3_hasToAsk_11 : decode cX3_hasToAsk 11 = .ok (.if_icmp .ge 24, 3) := by decide +kernel
theorem dX3_hasToAsk_14 : decode cX3_hasToAsk 14 = .ok (.aload_n 0, 1) := by decide +kernel
theorem dX3_hasToAsk_15 : decode cX3_hasToAsk 15 = .ok (.invokevirtual 104, 3) := by decide +kernel
theorem dX3_hasToAsk_18 : decode cX3_hasToAsk 18 = .ok (.getfield 62, 3) := by decide +kernel
theorem dX3_hasToAsk_21 : decode cX3_hasToAsk 21 = .ok (.aload_n 0, 1) := by decide +kernel
theorem dX3_hasToAsk_22 : decode cX3_hasToAsk 22 = .ok (.getfield 20, 3) := by decide +kernel
theorem dX3_hasToAsk_25 : decode cX3_hasToAsk 25 = .ok (.getfield 108, 3) := by decide +kernel
theorem dX3_hasToAsk_28 : decode cX3_hasToAsk 28 = .ok (.if_icmp .ne 7, 3) := by decide +kernel
theorem dX3_hasToAsk_31 : decode cX3_hasToAsk 31 = .ok (.iconst 1, 1) := by decide +kernel
theorem dX3_hasToAsk_32 : decode cX3_hasToAsk 32 = .ok (.goto 4, 3) := by decide +kernel
theorem dX3_hasToAsk_35 : decode cX3_hasToAsk 35 = .ok (.iconst 0, 1) := by decide +kernel
theorem dX3_hasToAsk_36 : decode cX3_hasToAsk 36 = .ok (.ireturn, 1) := by decide +kernel
theorem dX3_startSpinning_0 : decode cX3_startSpinning 0 = .ok (.aload_n 0, 1) := by decide +kernel
theorem dX3_startSpinning_1 : decode cX3_startSpinning 1 = .ok (.getfield 20, 3) := by decide +kernel
theorem dX3_startSpinning_4 : decode cX3_startSpinning 4 = .ok (.iconst 2, 1) := by decide +kernel
theorem dX3_startSpinning_5 : decode cX3_startSpinning 5 = .ok (.putfield 111, 3) := by decide +kernel
theorem dX3_startSpinning_8 : decode cX3_startSpinning 8 = .ok (.aload_n 0, 1) := by decide +kernel
theorem dX3_startSpinning_9 : decode cX3_startSpinning 9 = .ok (.getfield 20, 3) := by decide +kernel
theorem dX3_startSpinning_12 : decode cX3_startSpinning 12 = .ok (.iconst 0, 1) := by decide +kernel
theorem dX3_startSpinning_13 : decode cX3_startSpinning 13 = .ok (.putfield 114, 3) := by decide +kernel
theorem dX3_startSpinning_16 : decode cX3_startSpinning 16 = .ok (.return_, 1) := by decide +kernel
theorem dX3_spinFor_0 : decode cX3_spinFor 0 = .ok (.aload_n 0, 1) := by decide +kernel
theorem dX3_spinFor_1 : decode cX3_spinFor 1 = .ok (.getfield 20, 3) := by decide +kernel
theorem dX3_spinFor_4 : decode cX3_spinFor 4 = .ok (.dup, 1) := by decide +kernel
theorem dX3_spinFor_5 : decode cX3_spinFor 5 = .ok (.getfield 114, 3) := by decide +kernel
theorem dX3_spinFor_8 : decode cX3_spinFor 8 = .ok (.iload_n 1, 1) := by decide +kernel
theorem dX3_spinFor_9 : decode cX3_spinFor 9 = .ok (.iadd, 1) := by decide +kernel
theorem dX3_spinFor_10 : decode cX3_spinFor 10 = .ok (.putfield 114, 3) := by decide +kernel
theorem dX3_spinFor_13 : decode cX3_spinFor 13 = .ok (.aload_n 0, 1) := by decide +kernel
theorem dX3_spinFor_14 : decode cX3_spinFor 14 = .ok (.invokevirtual 104, 3) := by decide +kernel
theorem dX3_spinFor_17 : decode cX3_spinFor 17 = .ok (.astore_n 2, 1) := by decide +kernel
theorem dX3_spinFor_18 : decode cX3_spinFor 18 = .ok (.aload_n 2, 1) := by decide +kernel
theorem dX3_spinFor_19 : decode cX3_spinFor 19 = .ok (.aload_n 2, 1) := by decide +kernel
theorem dX3_spinFor_20 : decode cX3_spinFor 20 = .ok (.getfield 117, 3) := by decide +kernel
theorem dX3_spinFor_23 : decode cX3_spinFor 23 = .ok (.aload_n 0, 1) := by decide +kernel
theorem dX3_spinFor_24 : decode cX3_spinFor 24 = .ok (.getfield 20, 3) := by decide +kernel
theorem dX3_spinFor_27 : decode cX3_spinFor 27 = .ok (.getfield 114, 3) := by decide +kernel
theorem dX3_spinFor_30 : decode cX3_spinFor 30 = .ok (.invokestatic 72, 3) := by decide +kernel
theorem dX3_spinFor_33 : decode cX3_spinFor 33 = .ok (.putfield 117, 3) := by decide +kernel
theorem dX3_spinFor_36 : decode cX3_spinFor 36 = .ok (.return_, 1) := by decide +kernel
theorem dX3_startHolding_0 : decode cX3_startHolding 0 = .ok (.aload_n 0, 1) := by decide +kernel
theorem dX3_startHolding_1 : decode cX3_startHolding 1 = .ok (.getfield 20, 3) := by decide +kernel
theorem dX3_startHolding_4 : decode cX3_startHolding 4 = .ok (.iconst 3, 1) := by decide +kernel
theorem dX3_startHolding_5 : decode cX3_startHolding 5 = .ok (.putfield 111, 3) := by decide +kernel
theorem dX3_startHolding_8 : decode cX3_startHolding 8 = .ok (.aload_n 0, 1) := by decide +kernel
theorem dX3_startHolding_9 : decode cX3_startHolding 9 = .ok (.getfield 20, 3) := by decide +kernel
theorem dX3_startHolding_12 : decode cX3_startHolding 12 = .ok (.aload_n 0, 1) := by decide +kernel
theorem dX3_startHolding_13 : decode cX3_startHolding 13 = .ok (.invokevirtual 104, 3) := by decide +kernel
theorem dX3_startHolding_16 : decode cX3_startHolding 16 = .ok (.getfield 120, 3) := by decide +kernel
theorem dX3_startHolding_19 : decode cX3_startHolding 19 = .ok (.putfield 123, 3) := by decide +kernel
theorem dX3_startHolding_22 : decode cX3_startHolding 22 = .ok (.return_, 1) := by decide +kernel
theorem dX3_leaveSection_0 : decode cX3_leaveSection 0 = .ok (.aload_n 0, 1) := by decide +kernel
theorem dX3_leaveSection_1 : decode cX3_leaveSection 1 = .ok (.getfield 20, 3) := by decide +kernel
theorem dX3_leaveSection_4 : decode cX3_leaveSection 4 = .ok (.iconst 1, 1) := by decide +kernel
theorem dX3_leaveSection_5 : decode cX3_leaveSection 5 = .ok (.putfield 111, 3) := by decide +kernel
theorem dX3_leaveSection_8 : decode cX3_leaveSection 8 = .ok (.aload_n 0, 1) := by decide +kernel
theorem dX3_leaveSection_9 : decode cX3_leaveSection 9 = .ok (.getfield 20, 3) := by decide +kernel
theorem dX3_leaveSection_12 : decode cX3_leaveSection 12 = .ok (.aload_n 0, 1) := by decide +kernel
theorem dX3_leaveSection_13 : decode cX3_leaveSection 13 = .ok (.aload_n 0, 1) := by decide +kernel
theorem dX3_leaveSection_14 : decode cX3_leaveSection 14 = .ok (.getfield 20, 3) := by decide +kernel
theorem dX3_leaveSection_17 : decode cX3_leaveSection 17 = .ok (.getfield 98, 3) := by decide +kernel
theorem dX3_leaveSection_20 : decode cX3_leaveSection 20 = .ok (.iconst 1, 1) := by decide +kernel
theorem dX3_leaveSection_21 : decode cX3_leaveSection 21 = .ok (.iadd, 1) := by decide +kernel
theorem dX3_leaveSection_22 : decode cX3_leaveSection 22 = .ok (.invokevirtual 81, 3) := by decide +kernel
theorem dX3_leaveSection_25 : decode cX3_leaveSection 25 = .ok (.putfield 98, 3) := by decide +kernel
theorem dX3_leaveSection_28 : decode cX3_leaveSection 28 = .ok (.return_, 1) := by decide +kernel
theorem dX3_ticksToChange_0 : decode cX3_ticksToChange 0 = .ok (.aload_n 0, 1) := by decide +kernel
theorem dX3_ticksToChange_1 : decode cX3_ticksToChange 1 = .ok (.getfield 20, 3) := by decide +kernel
theorem dX3_ticksToChange_4 : decode cX3_ticksToChange 4 = .ok (.getfield 111, 3) := by decide +kernel
theorem dX3_ticksToChange_7 : decode cX3_ticksToChange 7 = .ok (.iconst 3, 1) := by decide +kernel
theorem dX3_ticksToChange_8 : decode cX3_ticksToChange 8 = .ok (.if_icmp .ne 11, 3) := by decide +kernel
theorem dX3_ticksToChange_11 : decode cX3_ticksToChange 11 = .ok (.aload_n 0, 1) := by decide +kernel
theorem dX3_ticksToChange_12 : decode cX3_ticksToChange 12 = .ok (.getfield 20, 3) := by decide +kernel
theorem dX3_ticksToChange_15 : decode cX3_ticksToChange 15 = .ok (.getfield 123, 3) := by decide +kernel
theorem dX3_ticksToChange_18 : decode cX3_ticksToChange 18 = .ok (.ireturn, 1) := by decide +kernel
theorem dX3_ticksToChange_19 : decode cX3_ticksToChange 19 = .ok (.aload_n 0, 1) := by decide +kernel
theorem dX3_ticksToChange_20 : decode cX3_ticksToChange 20 = .ok (.getfield 20, 3) := by decide +kernel
theorem dX3_ticksToChange_23 : decode cX3_ticksToChange 23 = .ok (.getfield 98, 3) := by decide +kernel
theorem dX3_ticksToChange_26 : decode cX3_ticksToChange 26 = .ok (.aload_n 0, 1) := by decide +kernel
theorem dX3_ticksToChange_27 : decode cX3_ticksToChange 27 = .ok (.getfield 45, 3) := by decide +kernel
theorem dX3_ticksToChange_30 : decode cX3_ticksToChange 30 = .ok (.if_icmp .ge 13, 3) := by decide +kernel
theorem dX3_ticksToChange_33 : decode cX3_ticksToChange 33 = .ok (.aload_n 0, 1) := by decide +kernel
theorem dX3_ticksToChange_34 : decode cX3_ticksToChange 34 = .ok (.invokevirtual 104, 3) := by decide +kernel
theorem dX3_ticksToChange_37 : decode cX3_ticksToChange 37 = .ok (.getfield 62, 3) := by decide +kernel
theorem dX3_ticksToChange_40 : decode cX3_ticksToChange 40 = .ok (.goto 7, 3) := by decide +kernel
theorem dX3_ticksToChange_43 : decode cX3_ticksToChange 43 = .ok (.aload_n 0, 1) := by decide +kernel
theorem dX3_ticksToChange_44 : decode cX3_ticksToChange 44 = .ok (.getfield 42, 3) := by decide +kernel
theorem dX3_ticksToChange_47 : decode cX3_ticksToChange 47 = .ok (.istore_n 1, 1) := by decide +kernel
theorem dX3_ticksToChange_48 : decode cX3_ticksToChange 48 = .ok (.iload_n 1, 1) := by decide +kernel
theorem dX3_ticksToChange_49 : decode cX3_ticksToChange 49 = .ok (.aload_n 0, 1) := by decide +kernel
theorem dX3_ticksToChange_50 : decode cX3_ticksToChange 50 = .ok (.getfield 20, 3) := by decide +kernel
theorem dX3_ticksToChange_53 : decode cX3_ticksToChange 53 = .ok (.getfield 108, 3) := by decide +kernel
theorem dX3_ticksToChange_56 : decode cX3_ticksToChange 56 = .ok (.isub, 1) := by decide +kernel
theorem dX3_ticksToChange_57 : decode cX3_ticksToChange 57 = .ok (.ireturn, 1) := by decide +kernel
theorem dX3_isAllDone_0 : decode cX3_isAllDone 0 = .ok (.aload_n 0, 1) := by decide +kernel
theorem dX3_isAllDone_1 : decode cX3_isAllDone 1 = .ok (.getfield 20, 3) := by decide +kernel
theorem dX3_isAllDone_4 : decode cX3_isAllDone 4 = .ok (.getfield 111, 3) := by decide +kernel
theorem dX3_isAllDone_7 : decode cX3_isAllDone 7 = .ok (.iconst 1, 1) := by decide +kernel
theorem dX3_isAllDone_8 : decode cX3_isAllDone 8 = .ok (.if_icmp .ne 35, 3) := by decide +kernel
theorem dX3_isAllDone_11 : decode cX3_isAllDone 11 = .ok (.aload_n 0, 1) := by decide +kernel
theorem dX3_isAllDone_12 : decode cX3_isAllDone 12 = .ok (.getfield 20, 3) := by decide +kernel
theorem dX3_isAllDone_15 : decode cX3_isAllDone 15 = .ok (.getfield 108, 3) := by decide +kernel
theorem dX3_isAllDone_18 : decode cX3_isAllDone 18 = .ok (.aload_n 0, 1) := by decide +kernel
theorem dX3_isAllDone_19 : decode cX3_isAllDone 19 = .ok (.getfield 42, 3) := by decide +kernel
theorem dX3_isAllDone_22 : decode cX3_isAllDone 22 = .ok (.if_icmp .lt 21, 3) := by decide +kernel
theorem dX3_isAllDone_25 : decode cX3_isAllDone 25 = .ok (.aload_n 0, 1) := by decide +kernel
theorem dX3_isAllDone_26 : decode cX3_isAllDone 26 = .ok (.getfield 20, 3) := by decide +kernel
theorem dX3_isAllDone_29 : decode cX3_isAllDone 29 = .ok (.getfield 98, 3) := by decide +kernel
theorem dX3_isAllDone_32 : decode cX3_isAllDone 32 = .ok (.aload_n 0, 1) := by decide +kernel
theorem dX3_isAllDone_33 : decode cX3_isAllDone 33 = .ok (.getfield 45, 3) := by decide +kernel
theorem dX3_isAllDone_36 : decode cX3_isAllDone 36 = .ok (.if_icmp .lt 7, 3) := by decide +kernel
theorem dX3_isAllDone_39 : decode cX3_isAllDone 39 = .ok (.iconst 1, 1) := by decide +kernel
theorem dX3_isAllDone_40 : decode cX3_isAllDone 40 = .ok (.goto 4, 3) := by decide +kernel
theorem dX3_isAllDone_43 : decode cX3_isAllDone 43 = .ok (.iconst 0, 1) := by decide +kernel
theorem dX3_isAllDone_44 : decode cX3_isAllDone 44 = .ok (.ireturn, 1) := by decide +kernel
theorem dX4_init_0 : decode cX4_init 0 = .ok (.aload_n 0, 1) := by decide +kernel
theorem dX4_init_1 : decode cX4_init 1 = .ok (.invokespecial 1, 3) := by decide +kernel
theorem dX4_init_4 : decode cX4_init 4 = .ok (.aload_n 0, 1) := by decide +kernel
theorem dX4_init_5 : decode cX4_init 5 = .ok (.bipush 16, 2) := by decide +kernel
theorem dX4_init_7 : decode cX4_init 7 = .ok (.anewarray 9, 3) := by decide +kernel
theorem dX4_init_10 : decode cX4_init 10 = .ok (.putfield 11, 3) := by decide +kernel
theorem dX4_init_13 : decode cX4_init 13 = .ok (.aload_n 0, 1) := by decide +kernel
theorem dX4_init_14 : decode cX4_init 14 = .ok (.bipush 8, 2) := by decide +kernel
theorem dX4_init_16 : decode cX4_init 16 = .ok (.anewarray 15, 3) := by decide +kernel
theorem dX4_init_19 : decode cX4_init 19 = .ok (.putfield 17, 3) := by decide +kernel
theorem dX4_init_22 : decode cX4_init 22 = .ok (.aload_n 0, 1) := by decide +kernel
theorem dX4_init_23 : decode cX4_init 23 = .ok (.bipush 8, 2) := by decide +kernel
theorem dX4_init_25 : decode cX4_init 25 = .ok (.newarray .int, 2) := by decide +kernel
theorem dX4_init_27 : decode cX4_init 27 = .ok (.putfield 21, 3) := by decide +kernel
theorem dX4_init_30 : decode cX4_init 30 = .ok (.aload_n 0, 1) := by decide +kernel
theorem dX4_init_31 : decode cX4_init 31 = .ok (.iconst 4, 1) := by decide +kernel
theorem dX4_init_32 : decode cX4_init 32 = .ok (.bipush 8, 2) := by decide +kernel
theorem dX4_init_34 : decode cX4_init 34 = .ok (.multianewarray 25 2, 4) := by decide +kernel
theorem dX4_init_38 : decode cX4_init 38 = .ok (.putfield 27, 3) := by decide +kernel
theorem dX4_init_41 : decode cX4_init 41 = .ok (.aload_n 0, 1) := by decide +kernel
theorem dX4_init_42 : decode cX4_init 42 = .ok (.iconst 4, 1) := by decide +kernel
theorem dX4_init_43 : decode cX4_init 43 = .ok (.newarray .int, 2) := by decide +kernel
theorem dX4_init_45 : decode cX4_init 45 = .ok (.putfield 30, 3) := by decide +kernel
theorem dX4_init_48 : decode cX4_init 48 = .ok (.aload_n 0, 1) := by decide +kernel
theorem dX4_init_49 : decode cX4_init 49 = .ok (.iconst 4, 1) := by decide +kernel
theorem dX4_init_50 : decode cX4_init 50 = .ok (.newarray .int, 2) := by decide +kernel
theorem dX4_init_52 : decode cX4_init 52 = .ok (.putfield 33, 3) := by decide +kernel
theorem dX4_init_55 : decode cX4_init 55 = .ok (.iconst 0, 1) := by decide +kernel
theorem dX4_init_56 : decode cX4_init 56 = .ok (.istore_n 1, 1) := by decide +kernel
theorem dX4_init_57 : decode cX4_init 57 = .ok (.iload_n 1, 1) := by decide +kernel
theorem dX4_init_58 : decode cX4_init 58 = .ok (.bipush 16, 2) := by decide +kernel
theorem dX4_init_60 : decode cX4_init 60 = .ok (.if_icmp .ge 22, 3) := by decide +kernel
theorem dX4_init_63 : decode cX4_init 63 = .ok (.aload_n 0, 1) := by decide +kernel
theorem dX4_init_64 : decode cX4_init 64 = .ok (.getfield 11, 3) := by decide +kernel
theorem dX4_init_67 : decode cX4_init 67 = .ok (.iload_n 1, 1) := by decide +kernel
theorem dX4_init_68 : decode cX4_init 68 = .ok (.new 9, 3) := by decide +kernel
theorem dX4_init_71 : decode cX4_init 71 = .ok (.dup, 1) := by decide +kernel
theorem dX4_init_72 : decode cX4_init 72 = .ok (.invokespecial 36, 3) := by decide +kernel
theorem dX4_init_75 : decode cX4_init 75 = .ok (.aastore, 1) := by decide +kernel
theorem dX4_init_76 : decode cX4_init 76 = .ok (.iinc 1 1, 3) := by decide +kernel
theorem dX4_init_79 : decode cX4_init 79 = .ok (.goto (-22), 3) := by decide +kernel
theorem dX4_init_82 : decode cX4_init 82 = .ok (.iconst 0, 1) := by decide +kernel
theorem dX4_init_83 : decode cX4_init 83 = .ok (.istore_n 1, 1) := by decide +kernel
theorem dX4_init_84 : decode cX4_init 84 = .ok (.iload_n 1, 1) := by decide +kernel
theorem dX4_init_85 : decode cX4_init 85 = .ok (.bipush 8, 2) := by decide +kernel
theorem dX4_init_87 : decode cX4_init 87 = .ok (.if_icmp .ge 29, 3) := by decide +kernel
theorem dX4_init_90 : decode cX4_init 90 = .ok (.aload_n 0, 1) := by decide +kernel
theorem dX4_init_91 : decode cX4_init 91 = .ok (.getfield 17, 3) := by decide +kernel
theorem dX4_init_94 : decode cX4_init 94 = .ok (.iload_n 1, 1) := by decide +kernel
theorem dX4_init_95 : decode cX4_init 95 = .ok (.new 15, 3) := by decide +kernel
theorem dX4_init_98 : decode cX4_init 98 = .ok (.dup, 1) := by decide +kernel
theorem dX4_init_99 : decode cX4_init 99 = .ok (.invokespecial 37, 3) := by decide +kernel
theorem dX4_init_102 : decode cX4_init 102 = .ok (.aastore, 1) := by decide +kernel
theorem dX4_init_103 : decode cX4_init 103 = .ok (.aload_n 0, 1) := by decide +kernel
theorem dX4_init_104 : decode cX4_init 104 = .ok (.getfield 21, 3) := by decide +kernel
theorem dX4_init_107 : decode cX4_init 107 = .ok (.iload_n 1, 1) := by decide +kernel
theorem dX4_init_108 : decode cX4_init 108 = .ok (.iload_n 1, 1) := by decide +kernel
theorem dX4_init_109 : decode cX4_init 109 = .ok (.iastore, 1) := by decide +kernel
theorem dX4_init_110 : decode cX4_init 110 = .ok (.iinc 1 1, 3) := by decide +kernel
theorem dX4_init_113 : decode cX4_init 113 = .ok (.goto (-29), 3) := by decide +kernel
theorem dX4_init_116 : decode cX4_init 116 = .ok (.aload_n 0, 1) := by decide +kernel
theorem dX4_init_117 : decode cX4_init 117 = .ok (.getfield 30, 3) := by decide +kernel
theorem dX4_init_120 : decode cX4_init 120 = .ok (.iconst (-1), 1) := by decide +kernel
theorem dX4_init_121 : decode cX4_init 121 = .ok (.invokestatic 38, 3) := by decide +kernel
theorem dX4_init_124 : decode cX4_init 124 = .ok (.aload_n 0, 1) := by decide +kernel
theorem dX4_init_125 : decode cX4_init 125 = .ok (.getfield 33, 3) := by decide +kernel
theorem dX4_init_128 : decode cX4_init 128 = .ok (.iconst 0, 1) := by decide +kernel
theorem dX4_init_129 : decode cX4_init 129 = .ok (.invokestatic 38, 3) := by decide +kernel
theorem dX4_init_132 : decode cX4_init 132 = .ok (.return_, 1) := by decide +kernel
theorem dX4_task_0 : decode cX4_task 0 = .ok (.iload_n 1, 1) := by decide +kernel
theorem dX4_task_1 : decode cX4_task 1 = .ok (.iconst 0, 1) := by decide +kernel
theorem dX4_task_2 : decode cX4_task 2 = .ok (.bipush 15, 2) := by decide +kernel
theorem dX4_task_4 : decode cX4_task 4 = .ok (.invokestatic 44, 3) := by decide +kernel
theorem dX4_task_7 : decode cX4_task 7 = .ok (.ifCond .ne 11, 3) := by decide +kernel
theorem dX4_task_10 : decode cX4_task 10 = .ok (.new 48, 3) := by decide +kernel
theorem dX4_task_13 : decode cX4_task 13 = .ok (.dup, 1) := by decide +kernel
theorem dX4_task_14 : decode cX4_task 14 = .ok (.invokespecial 50, 3) := by decide +kernel
theorem dX4_task_17 : decode cX4_task 17 = .ok (.athrow, 1) := by decide +kernel
theorem dX4_task_18 : decode cX4_task 18 = .ok (.aload_n 0, 1) := by decide +kernel
theorem dX4_task_19 : decode cX4_task 19 = .ok (.getfield 51, 3) := by decide +kernel
theorem dX4_task_22 : decode cX4_task 22 = .ok (.ifCond .ne 15, 3) := by decide +kernel
theorem dX4_task_25 : decode cX4_task 25 = .ok (.aload_n 0, 1) := by decide +kernel
theorem dX4_task_26 : decode cX4_task 26 = .ok (.getfield 11, 3) := by decide +kernel
theorem dX4_task_29 : decode cX4_task 29 = .ok (.iload_n 1, 1) := by decide +kernel
theorem dX4_task_30 : decode cX4_task 30 = .ok (.aaload, 1) := by decide +kernel
theorem dX4_task_31 : decode cX4_task 31 = .ok (.getfield 55, 3) := by decide +kernel
theorem dX4_task_34 : decode cX4_task 34 = .ok (.ifCond .eq 11, 3) := by decide +kernel
theorem dX4_task_37 : decode cX4_task 37 = .ok (.new 58, 3) := by decide +kernel
theorem dX4_task_40 : decode cX4_task 40 = .ok (.dup, 1) := by decide +kernel
theorem dX4_task_41 : decode cX4_task 41 = .ok (.invokespecial 60, 3) := by decide +kernel
theorem dX4_task_44 : decode cX4_task 44 = .ok (.athrow, 1) := by decide +kernel
theorem dX4_task_45 : decode cX4_task 45 = .ok (.iload_n 2, 1) := by decide +kernel
theorem dX4_task_46 : decode cX4_task 46 = .ok (.iconst 0, 1) := by decide +kernel
theorem dX4_task_47 : decode cX4_task 47 = .ok (.iconst 3, 1) := by decide +kernel
theorem dX4_task_48 : decode cX4_task 48 = .ok (.invokestatic 44, 3) := by decide +kernel
theorem dX4_task_51 : decode cX4_task 51 = .ok (.ifCond .eq 18, 3) := by decide +kernel
theorem dX4_task_54 : decode cX4_task 54 = .ok (.iload_n 3, 1) := by decide +kernel
theorem dX4_task_55 : decode cX4_task 55 = .ok (.iconst 0, 1) := by decide +kernel
theorem dX4_task_56 : decode cX4_task 56 = .ok (.sipush 1000, 3) := by decide +kernel
theorem dX4_task_59 : decode cX4_task 59 = .ok (.invokestatic 44, 3) := by decide +kernel
theorem dX4_task_62 : decode cX4_task 62 = .ok (.ifCond .eq 7, 3) := by decide +kernel
theorem dX4_task_65 : decode cX4_task 65 = .ok (.iconst 1, 1) := by decide +kernel
theorem dX4_task_66 : decode cX4_task 66 = .ok (.goto 4, 3) := by decide +kernel
theorem dX4_task_69 : decode cX4_task 69 = .ok (.iconst 0, 1) := by decide +kernel
theorem dX4_task_70 : decode cX4_task 70 = .ok (.istore 7, 2) := by decide +kernel
theorem dX4_task_72 : decode cX4_task 72 = .ok (.iload 4, 2) := by decide +kernel
theorem dX4_task_74 : decode cX4_task 74 = .ok (.iconst 1, 1) := by decide +kernel
theorem dX4_task_75 : decode cX4_task 75 = .ok (.sipush 10000, 3) := by decide +kernel
theorem dX4_task_78 : decode cX4_task 78 = .ok (.invokestatic 44, 3) := by decide +kernel
theorem dX4_task_81 : decode cX4_task 81 = .ok (.ifCond .eq 18, 3) := by decide +kernel
theorem dX4_task_84 : decode cX4_task 84 = .ok (.iload 5, 2) := by decide +kernel
theorem dX4_task_86 : decode cX4_task 86 = .ok (.iconst 1, 1) := by decide +kernel
theorem dX4_task_87 : decode cX4_task 87 = .ok (.iload 4, 2) := by decide +kernel
theorem dX4_task_89 : decode cX4_task 89 = .ok (.invokestatic 44, 3) := by decide +kernel
theorem dX4_task_92 : decode cX4_task 92 = .ok (.ifCond .eq 7, 3) := by decide +kernel
theorem dX4_task_95 : decode cX4_task 95 = .ok (.iconst 1, 1) := by decide +kernel
theorem dX4_task_96 : decode cX4_task 96 = .ok (.goto 4, 3) := by decide +kernel
theorem dX4_task_99 : decode cX4_task 99 = .ok (.iconst 0, 1) := by decide +kernel
theorem dX4_task_100 : decode cX4_task 100 = .ok (.istore 8, 2) := by decide +kernel
theorem dX4_task_102 : decode cX4_task 102 = .ok (.iload 7, 2) := by decide +kernel
theorem dX4_task_104 : decode cX4_task 104 = .ok (.ifCond .eq 29, 3) := by decide +kernel
theorem dX4_task_107 : decode cX4_task 107 = .ok (.iload 8, 2) := by decide +kernel
theorem dX4_task_109 : decode cX4_task 109 = .ok (.ifCond .eq 24, 3) := by decide +kernel
theorem dX4_task_112 : decode cX4_task 112 = .ok (.iload 6, 2) := by decide +kernel
theorem dX4_task_114 : decode cX4_task 114 = .ok (.iconst 1, 1) := by decide +kernel
theorem dX4_task_115 : decode cX4_task 115 = .ok (.sipush 1000, 3) := by decide +kernel
theorem dX4_task_118 : decode cX4_task 118 = .ok (.invokestatic 44, 3) := by decide +kernel
theorem dX4_task_121 : decode cX4_task 121 = .ok (.ifCond .eq 12, 3) := by decide +kernel
theorem dX4_task_124 : decode cX4_task 124 = .ok (.aload_n 0, 1) := by decide +kernel
theorem dX4_task_125 : decode cX4_task 125 = .ok (.iload_n 2, 1) := by decide +kernel
theorem dX4_task_126 : decode cX4_task 126 = .ok (.iload_n 3, 1) := by decide +kernel
theorem dX4_task_127 : decode cX4_task 127 = .ok (.invokevirtual 61, 3) := by decide +kernel
theorem dX4_task_130 : decode cX4_task 130 = .ok (.ifCond .eq 11, 3) := by decide +kernel
theorem dX4_task_133 : decode cX4_task 133 = .ok (.new 65, 3) := by decide +kernel
theorem dX4_task_136 : decode cX4_task 136 = .ok (.dup, 1) := by decide +kernel
theorem dX4_task_137 : decode cX4_task 137 = .ok (.invokespecial 67, 3) := by decide +kernel
theorem dX4_task_140 : decode cX4_task 140 = .ok (.athrow, 1) := by decide +kernel
theorem dX4_task_141 : decode cX4_task 141 = .ok (.aload_n 0, 1) := by decide +kernel
theorem dX4_task_142 : decode cX4_task 142 = .ok (.getfield 11, 3) := by decide +kernel
theorem dX4_task_145 : decode cX4_task 145 = .ok (.iload_n 1, 1) := by decide +kernel
theorem dX4_task_146 : decode cX4_task 146 = .ok (.aaload, 1) := by decide +kernel
theorem dX4_task_147 : decode cX4_task 147 = .ok (.iload_n 2, 1) := by decide +kernel
theorem dX4_task_148 : decode cX4_task 148 = .ok (.iload_n 3, 1) := by decide +kernel
theorem dX4_task_149 : decode cX4_task 149 = .ok (.iload 4, 2) := by decide +kernel
theorem dX4_task_151 : decode cX4_task 151 = .ok (.iload 5, 2) := by decide +kernel
theorem dX4_task_153 : decode cX4_task 153 = .ok (.iload 6, 2) := by decide +kernel
theorem dX4_task_155 : decode cX4_task 155 = .ok (.invokevirtual 68, 3) := by decide +kernel
theorem dX4_task_158 : decode cX4_task 158 = .ok (.aload_n 0, 1) := by decide +kernel
theorem dX4_task_159 : decode cX4_task 159 = .ok (.invokevirtual 72, 3) := by decide +kernel
theorem dX4_task_162 : decode cX4_task 162 = .ok (.return_, 1) := by decide +kernel
theorem dX4_request_0 : decode cX4_request 0 = .ok (.aload_n 0, 1) := by decide +kernel
theorem dX4_request_1 : decode cX4_request 1 = .ok (.iload_n 1, 1) := by decide +kernel
theorem dX4_request_2 : decode cX4_request 2 = .ok (.invokevirtual 75, 3) := by decide +kernel
theorem dX4_request_5 : decode cX4_request 5 = .ok (.astore 6, 2) := by decide +kernel
theorem dX4_request_7 : decode cX4_request 7 = .ok (.aload_n 0, 1) := by decide +kernel
theorem dX4_request_8 : decode cX4_request 8 = .ok (.getfield 51, 3) := by decide +kernel
theorem dX4_request_11 : decode cX4_request 11 = .ok (.ifCond .ne 13, 3) := by decide +kernel
theorem dX4_request_14 : decode cX4_request 14 = .ok (.aload 6, 2) := by decide +kernel
theorem dX4_request_16 : decode cX4_request 16 = .ok (.getfield 79, 3) := by decide +kernel
theorem dX4_request_19 : decode cX4_request 19 = .ok (.bipush 6, 2) := by decide +kernel
theorem dX4_request_21 : decode cX4_request 21 = .ok (.if_icmp .lt 11, 3) := by decide +kernel
theorem dX4_request_24 : decode cX4_request 24 = .ok (.new 58, 3) := by decide +kernel
theorem dX4_request_27 : decode cX4_request 27 = .ok (.dup, 1) := by decide +kernel
theorem dX4_request_28 : decode cX4_request 28 = .ok (.invokespecial 60, 3) := by decide +kernel
theorem dX4_request_31 : decode cX4_request 31 = .ok (.athrow, 1) := by decide +kernel
theorem dX4_request_32 : decode cX4_request 32 = .ok (.iload_n 3, 1) := by decide +kernel
theorem dX4_request_33 : decode cX4_request 33 = .ok (.iconst 0, 1) := by decide +kernel
theorem dX4_request_34 : decode cX4_request 34 = .ok (.bipush 7, 2) := by decide +kernel
theorem dX4_request_36 : decode cX4_request 36 = .ok (.invokestatic 44, 3) := by decide +kernel
theorem dX4_request_39 : decode cX4_request 39 = .ok (.ifCond .eq 18, 3) := by decide +kernel
theorem dX4_request_42 : decode cX4_request 42 = .ok (.iload 4, 2) := by decide +kernel
theorem dX4_request_44 : decode cX4_request 44 = .ok (.iconst 1, 1) := by decide +kernel
theorem dX4_request_45 : decode cX4_request 45 = .ok (.bipush 100, 2) := by decide +kernel
theorem dX4_request_47 : decode cX4_request 47 = .ok (.invokestatic 44, 3) := by decide +kernel
theorem dX4_request_50 : decode cX4_request 50 = .ok (.ifCond .eq 7, 3) := by decide +kernel
theorem dX4_request_53 : decode cX4_request 53 = .ok (.iconst 1, 1) := by decide +kernel
theorem dX4_request_54 : decode cX4_request 54 = .ok (.goto 4, 3) := by decide +kernel
theorem dX4_request_57 : decode cX4_request 57 = .ok (.iconst 0, 1) := by decide +kernel
theorem dX4_request_58 : decode cX4_request 58 = .ok (.istore 7, 2) := by decide +kernel
theorem dX4_request_60 : decode cX4_request 60 = .ok (.iload 7, 2) := by decide +kernel
theorem dX4_request_62 : decode cX4_request 62 = .ok (.ifCond .eq 16, 3) := by decide +kernel
theorem dX4_request_65 : decode cX4_request 65 = .ok (.aload 6, 2) := by decide +kernel
theorem dX4_request_67 : decode cX4_request 67 = .ok (.iload_n 2, 1) := by decide +kernel
theorem dX4_request_68 : decode cX4_request 68 = .ok (.iload 4, 2) := by decide +kernel
theorem dX4_request_70 : decode cX4_request 70 = .ok (.iload 5, 2) := by decide +kernel
theorem dX4_request_72 : decode cX4_request 72 = .ok (.invokevirtual 83, 3) := by decide +kernel
theorem dX4_request_75 : decode cX4_request 75 = .ok (.ifCond .ne 11, 3) := by decide +kernel
theorem dX4_request_78 : decode cX4_request 78 = .ok (.new 65, 3) := by decide +kernel
theorem dX4_request_81 : decode cX4_request 81 = .ok (.dup, 1) := by decide +kernel
theorem dX4_request_82 : decode cX4_request 82 = .ok (.invokespecial 67, 3) := by decide +kernel
theorem dX4_request_85 : decode cX4_request 85 = .ok (.athrow, 1) := by decide +kernel
theorem dX4_request_86 : decode cX4_request 86 = .ok (.aload 6, 2) := by decide +kernel
theorem dX4_request_88 : decode cX4_request 88 = .ok (.iload_n 2, 1) := by decide +kernel
theorem dX4_request_89 : decode cX4_request 89 = .ok (.iload_n 3, 1) := by decide +kernel
theorem dX4_request_90 : decode cX4_request 90 = .ok (.iload 4, 2) := by decide +kernel
theorem dX4_request_92 : decode cX4_request 92 = .ok (.iload 5, 2) := by decide +kernel
theorem dX4_request_94 : decode cX4_request 94 = .ok (.invokevirtual 86, 3) := by decide +kernel
theorem dX4_request_97 : decode cX4_request 97 = .ok (.istore 8, 2) := by decide +kernel
theorem dX4_request_99 : decode cX4_request 99 = .ok (.aload_n 0, 1) := by decide +kernel
theorem dX4_request_100 : decode cX4_request 100 = .ok (.invokevirtual 72, 3) := by decide +kernel
theorem dX4_request_103 : decode cX4_request 103 = .ok (.iload 8, 2) := by decide +kernel
theorem dX4_request_105 : decode cX4_request 105 = .ok (.ireturn, 1) := by decide +kernel
theorem dX4_take_0 : decode cX4_take 0 = .ok (.aload_n 0, 1) := by decide +kernel
theorem dX4_take_1 : decode cX4_take 1 = .ok (.iload_n 1, 1) := by decide +kernel
theorem dX4_take_2 : decode cX4_take 2 = .ok (.invokevirtual 75, 3) := by decide +kernel
theorem dX4_take_5 : decode cX4_take 5 = .ok (.astore_n 2, 1) := by decide +kernel
theorem dX4_take_6 : decode cX4_take 6 = .ok (.aload_n 0, 1) := by decide +kernel
theorem dX4_take_7 : decode cX4_take 7 = .ok (.getfield 51, 3) := by decide +kernel
theorem dX4_take_10 : decode cX4_take 10 = .ok (.ifCond .eq 11, 3) := by decide +kernel
theorem dX4_take_13 : decode cX4_take 13 = .ok (.new 58, 3) := by decide +kernel
theorem dX4_take_16 : decode cX4_take 16 = .ok (.dup, 1) := by decide +kernel
theorem dX4_take_17 : decode cX4_take 17 = .ok (.invokespecial 60, 3) := by decide +kernel
theorem dX4_take_20 : decode cX4_take 20 = .ok (.athrow, 1) := by decide +kernel
theorem dX4_take_21 : decode cX4_take 21 = .ok (.aload_n 2, 1) := by decide +kernel
theorem dX4_take_22 : decode cX4_take 22 = .ok (.iconst 0, 1) := by decide +kernel
theorem dX4_take_23 : decode cX4_take 23 = .ok (.putfield 55, 3) := by decide +kernel
theorem dX4_take_26 : decode cX4_take 26 = .ok (.aload_n 0, 1) := by decide +kernel
theorem dX4_take_27 : decode cX4_take 27 = .ok (.invokevirtual 72, 3) := by decide +kernel
theorem dX4_take_30 : decode cX4_take 30 = .ok (.return_, 1) := by decide +kernel
theorem dX4_group_0 : decode cX4_group 0 = .ok (.iload_n 1, 1) := by decide +kernel
theorem dX4_group_1 : decode cX4_group 1 = .ok (.iconst 0, 1) := by decide +kernel
theorem dX4_group_2 : decode cX4_group 2 = .ok (.bipush 7, 2) := by decide +kernel
theorem dX4_group_4 : decode cX4_group 4 = .ok (.invokestatic 44, 3) := by decide +kernel
theorem dX4_group_7 : decode cX4_group 7 = .ok (.ifCond .ne 11, 3) := by decide +kernel
theorem dX4_group_10 : decode cX4_group 10 = .ok (.new 48, 3) := by decide +kernel
theorem dX4_group_13 : decode cX4_group 13 = .ok (.dup, 1) := by decide +kernel
theorem dX4_group_14 : decode cX4_group 14 = .ok (.invokespecial 50, 3) := by decide +kernel
theorem dX4_group_17 : decode cX4_group 17 = .ok (.athrow, 1) := by decide +kernel
theorem dX4_group_18 : decode cX4_group 18 = .ok (.aload_n 0, 1) := by decide +kernel
theorem dX4_group_19 : decode cX4_group 19 = .ok (.getfield 21, 3) := by decide +kernel
theorem dX4_group_22 : decode cX4_group 22 = .ok (.iload_n 1, 1) := by decide +kernel
theorem dX4_group_23 : decode cX4_group 23 = .ok (.iaload, 1) := by decide +kernel
theorem dX4_group_24 : decode cX4_group 24 = .ok (.ireturn, 1) := by decide +kernel
theorem dX4_spin_0 : decode cX4_spin 0 = .ok (.aload_n 0, 1) := by decide +kernel
theorem dX4_spin_1 : decode cX4_spin 1 = .ok (.iload_n 1, 1) := by decide +kernel
theorem dX4_spin_2 : decode cX4_spin 2 = .ok (.invokevirtual 75, 3) := by decide +kernel
theorem dX4_spin_5 : decode cX4_spin 5 = .ok (.iload_n 2, 1) := by decide +kernel
theorem dX4_spin_6 : decode cX4_spin 6 = .ok (.invokestatic 90, 3) := by decide +kernel
theorem dX4_spin_9 : decode cX4_spin 9 = .ok (.getfield 94, 3) := by decide +kernel
theorem dX4_spin_12 : decode cX4_spin 12 = .ok (.ireturn, 1) := by decide +kernel
theorem dX4_bound_0 : decode cX4_bound 0 = .ok (.aload_n 0, 1) := by decide +kernel
theorem dX4_bound_1 : decode cX4_bound 1 = .ok (.iload_n 1, 1) := by decide +kernel
theorem dX4_bound_2 : decode cX4_bound 2 = .ok (.invokevirtual 75, 3) := by decide +kernel
theorem dX4_bound_5 : decode cX4_bound 5 = .ok (.astore_n 3, 1) := by decide +kernel
theorem dX4_bound_6 : decode cX4_bound 6 = .ok (.iload_n 2, 1) := by decide +kernel
theorem dX4_bound_7 : decode cX4_bound 7 = .ok (.tableswitch 42 0 2 #[25, 30, 36], 25) := by decide +kernel
theorem dX4_bound_32 : decode cX4_bound 32 = .ok (.aload_n 3, 1) := by decide +kernel
theorem dX4_bound_33 : decode cX4_bound 33 = .ok (.getfield 99, 3) := by decide +kernel
theorem dX4_bound_36 : decode cX4_bound 36 = .ok (.ireturn, 1) := by decide +kernel
theorem dX4_bound_37 : decode cX4_bound 37 = .ok (.aload_n 0, 1) := by decide +kernel
theorem dX4_bound_38 : decode cX4_bound 38 = .ok (.aload_n 3, 1) := by decide +kernel
theorem dX4_bound_39 : decode cX4_bound 39 = .ok (.invokevirtual 102, 3) := by decide +kernel
theorem dX4_bound_42 : decode cX4_bound 42 = .ok (.ireturn, 1) := by decide +kernel
theorem dX4_bound_43 : decode cX4_bound 43 = .ok (.aload_n 0, 1) := by decide +kernel
theorem dX4_bound_44 : decode cX4_bound 44 = .ok (.aload_n 3, 1) := by decide +kernel
theorem dX4_bound_45 : decode cX4_bound 45 = .ok (.invokevirtual 106, 3) := by decide +kernel
theorem dX4_bound_48 : decode cX4_bound 48 = .ok (.ireturn, 1) := by decide +kernel
theorem dX4_bound_49 : decode cX4_bound 49 = .ok (.new 65, 3) := by decide +kernel
theorem dX4_bound_52 : decode cX4_bound 52 = .ok (.dup, 1) := by decide +kernel
theorem dX4_bound_53 : decode cX4_bound 53 = .ok (.invokespecial 67, 3) := by decide +kernel
theorem dX4_bound_56 : decode cX4_bound 56 = .ok (.athrow, 1) := by decide +kernel
theorem dX4_seal_0 : decode cX4_seal 0 = .ok (.aload_n 0, 1) := by decide +kernel
theorem dX4_seal_1 : decode cX4_seal 1 = .ok (.getfield 51, 3) := by decide +kernel
theorem dX4_seal_4 : decode cX4_seal 4 = .ok (.ifCond .eq 11, 3) := by decide +kernel
theorem dX4_seal_7 : decode cX4_seal 7 = .ok (.new 58, 3) := by decide +kernel
theorem dX4_seal_10 : decode cX4_seal 10 = .ok (.dup, 1) := by decide +kernel
theorem dX4_seal_11 : decode cX4_seal 11 = .ok (.invokespecial 60, 3) := by decide +kernel
theorem dX4_seal_14 : decode cX4_seal 14 = .ok (.athrow, 1) := by decide +kernel
theorem dX4_seal_15 : decode cX4_seal 15 = .ok (.iconst 0, 1) := by decide +kernel
theorem dX4_seal_16 : decode cX4_seal 16 = .ok (.istore_n 1, 1) := by decide +kernel
theorem dX4_seal_17 : decode cX4_seal 17 = .ok (.iload_n 1, 1) := by decide +kernel
theorem dX4_seal_18 : decode cX4_seal 18 = .ok (.bipush 16, 2) := by decide +kernel
theorem dX4_seal_20 : decode cX4_seal 20 = .ok (.if_icmp .ge 37, 3) := by decide +kernel
theorem dX4_seal_23 : decode cX4_seal 23 = .ok (.aload_n 0, 1) := by decide +kernel
theorem dX4_seal_24 : decode cX4_seal 24 = .ok (.getfield 11, 3) := by decide +kernel
theorem dX4_seal_27 : decode cX4_seal 27 = .ok (.iload_n 1, 1) := by decide +kernel
theorem dX4_seal_28 : decode cX4_seal 28 = .ok (.aaload, 1) := by decide +kernel
theorem dX4_seal_29 : decode cX4_seal 29 = .ok (.getfield 55, 3) := by decide +kernel
theorem dX4_seal_32 : decode cX4_seal 32 = .ok (.ifCond .eq 19, 3) := by decide +kernel
theorem dX4_seal_35 : decode cX4_seal 35 = .ok (.aload_n 0, 1) := by decide +kernel
theorem dX4_seal_36 : decode cX4_seal 36 = .ok (.aload_n 0, 1) := by decide +kernel
theorem dX4_seal_37 : decode cX4_seal 37 = .ok (.getfield 11, 3) := by decide +kernel
theorem dX4_seal_40 : decode cX4_seal 40 = .ok (.iload_n 1, 1) := by decide +kernel
theorem dX4_seal_41 : decode cX4_seal 41 = .ok (.aaload, 1) := by decide +kernel
theorem dX4_seal_42 : decode cX4_seal 42 = .ok (.invokevirtual 106, 3) := by decide +kernel
theorem dX4_seal_45 : decode cX4_seal 45 = .ok (.iconst (-1), 1) := by decide +kernel
theorem dX4_seal_46 : decode cX4_seal 46 = .ok (.if_icmp .ne 5, 3) := by decide +kernel
theorem dX4_seal_49 : decode cX4_seal 49 = .ok (.iload_n 1, 1) := by decide +kernel
theorem dX4_seal_50 : decode cX4_seal 50 = .ok (.ireturn, 1) := by decide +kernel
theorem dX4_seal_51 : decode cX4_seal 51 = .ok (.iinc 1 1, 3) := by decide +kernel
theorem dX4_seal_54 : decode cX4_seal 54 = .ok (.goto (-37), 3) := by decide +kernel
theorem dX4_seal_57 : decode cX4_seal 57 = .ok (.aload_n 0, 1) := by decide +kernel
theorem dX4_seal_58 : decode cX4_seal 58 = .ok (.iconst 1, 1) := by decide +kernel
theorem dX4_seal_59 : decode cX4_seal 59 = .ok (.putfield 51, 3) := by decide +kernel
theorem dX4_seal_62 : decode cX4_seal 62 = .ok (.iconst (-1), 1) := by decide +kernel
theorem dX4_seal_63 : decode cX4_seal 63 = .ok (.ireturn, 1) := by decide +kernel
theorem dX4_unseal_0 : decode cX4_unseal 0 = .ok (.aload_n 0, 1) := by decide +kernel
theorem dX4_unseal_1 : decode cX4_unseal 1 = .ok (.getfield 51, 3) := by decide +kernel
theorem dX4_unseal_4 : decode cX4_unseal 4 = .ok (.ifCond .eq 10, 3) := by decide +kernel
theorem dX4_unseal_7 : decode cX4_unseal 7 = .ok (.aload_n 0, 1) := by decide +kernel
theorem dX4_unseal_8 : decode cX4_unseal 8 = .ok (.invokevirtual 109, 3) := by decide +kernel
theorem dX4_unseal_11 : decode cX4_unseal 11 = .ok (.ifCond .eq 11, 3) := by decide +kernel
theorem dX4_unseal_14 : decode cX4_unseal 14 = .ok (.new 58, 3) := by decide +kernel
theorem dX4_unseal_17 : decode cX4_unseal 17 = .ok (.dup, 1) := by decide +kernel
theorem dX4_unseal_18 : decode cX4_unseal 18 = .ok (.invokespecial 60, 3) := by decide +kernel
theorem dX4_unseal_21 : decode cX4_unseal 21 = .ok (.athrow, 1) := by decide +kernel
theorem dX4_unseal_22 : decode cX4_unseal 22 = .ok (.aload_n 0, 1) := by decide +kernel
theorem dX4_unseal_23 : decode cX4_unseal 23 = .ok (.iconst 0, 1) := by decide +kernel
theorem dX4_unseal_24 : decode cX4_unseal 24 = .ok (.putfield 51, 3) := by decide +kernel
theorem dX4_unseal_27 : decode cX4_unseal 27 = .ok (.aload_n 0, 1) := by decide +kernel
theorem dX4_unseal_28 : decode cX4_unseal 28 = .ok (.iconst 0, 1) := by decide +kernel
theorem dX4_unseal_29 : decode cX4_unseal 29 = .ok (.putfield 113, 3) := by decide +kernel
theorem dX4_unseal_32 : decode cX4_unseal 32 = .ok (.aload_n 0, 1) := by decide +kernel
theorem dX4_unseal_33 : decode cX4_unseal 33 = .ok (.getfield 30, 3) := by decide +kernel
theorem dX4_unseal_36 : decode cX4_unseal 36 = .ok (.iconst (-1), 1) := by decide +kernel
theorem dX4_unseal_37 : decode cX4_unseal 37 = .ok (.invokestatic 38, 3) := by decide +kernel
theorem dX4_unseal_40 : decode cX4_unseal 40 = .ok (.aload_n 0, 1) := by decide +kernel
theorem dX4_unseal_41 : decode cX4_unseal 41 = .ok (.getfield 33, 3) := by decide +kernel
theorem dX4_unseal_44 : decode cX4_unseal 44 = .ok (.iconst 0, 1) := by decide +kernel
theorem dX4_unseal_45 : decode cX4_unseal 45 = .ok (.invokestatic 38, 3) := by decide +kernel
theorem dX4_unseal_48 : decode cX4_unseal 48 = .ok (.aload_n 0, 1) := by decide +kernel
theorem dX4_unseal_49 : decode cX4_unseal 49 = .ok (.getfield 11, 3) := by decide +kernel
theorem dX4_unseal_52 : decode cX4_unseal 52 = .ok (.astore_n 1, 1) := by decide +kernel
theorem dX4_unseal_53 : decode cX4_unseal 53 = .ok (.aload_n 1, 1) := by decide +kernel
theorem dX4_unseal_54 : decode cX4_unseal 54 = .ok (.arraylength, 1) := by decide +kernel
theorem dX4_unseal_55 : decode cX4_unseal 55 = .ok (.istore_n 2, 1) := by decide +kernel
theorem dX4_unseal_56 : decode cX4_unseal 56 = .ok (.iconst 0, 1) := by decide +kernel
theorem dX4_unseal_57 : decode cX4_unseal 57 = .ok (.istore_n 3, 1) := by decide +kernel
theorem dX4_unseal_58 : decode cX4_unseal 58 = .ok (.iload_n 3, 1) := by decide +kernel
theorem dX4_unseal_59 : decode cX4_unseal 59 = .ok (.iload_n 2, 1) := by decide +kernel
theorem dX4_unseal_60 : decode cX4_unseal 60 = .ok (.if_icmp .ge 19, 3) := by decide +kernel
theorem dX4_unseal_63 : decode cX4_unseal 63 = .ok (.aload_n 1, 1) := by decide +kernel
theorem dX4_unseal_64 : decode cX4_unseal 64 = .ok (.iload_n 3, 1) := by decide +kernel
theorem dX4_unseal_65 : decode cX4_unseal 65 = .ok (.aaload, 1) := by decide +kernel
theorem dX4_unseal_66 : decode cX4_unseal 66 = .ok (.astore 4, 2) := by decide +kernel
theorem dX4_unseal_68 : decode cX4_unseal 68 = .ok (.aload 4, 2) := by decide +kernel
theorem dX4_unseal_70 : decode cX4_unseal 70 = .ok (.invokevirtual 116, 3) := by decide +kernel
theorem dX4_unseal_73 : decode cX4_unseal 73 = .ok (.iinc 3 1, 3) := by decide +kernel
theorem dX4_unseal_76 : decode cX4_unseal 76 = .ok (.goto (-18), 3) := by decide +kernel
theorem dX4_unseal_79 : decode cX4_unseal 79 = .ok (.return_, 1) := by decide +kernel
theorem dX4_arrive_0 : decode cX4_arrive 0 = .ok (.aload_n 0, 1) := by decide +kernel
theorem dX4_arrive_1 : decode cX4_arrive 1 = .ok (.iload_n 1, 1) := by decide +kernel
theorem dX4_arrive_2 : decode cX4_arrive 2 = .ok (.invokevirtual 75, 3) := by decide +kernel
theorem dX4_arrive_5 : decode cX4_arrive 5 = .ok (.astore_n 2, 1) := by decide +kernel
theorem dX4_arrive_6 : decode cX4_arrive 6 = .ok (.aload_n 0, 1) := by decide +kernel
theorem dX4_arrive_7 : decode cX4_arrive 7 = .ok (.getfield 51, 3) := by decide +kernel
theorem dX4_arrive_10 : decode cX4_arrive 10 = .ok (.ifCond .ne 11, 3) := by decide +kernel
theorem dX4_arrive_13 : decode cX4_arrive 13 = .ok (.new 58, 3) := by decide +kernel
theorem dX4_arrive_16 : decode cX4_arrive 16 = .ok (.dup, 1) := by decide +kernel
theorem dX4_arrive_17 : decode cX4_arrive 17 = .ok (.invokespecial 60, 3) := by decide +kernel
theorem dX4_arrive_20 : decode cX4_arrive 20 = .ok (.athrow, 1) := by decide +kernel
theorem dX4_arrive_21 : decode cX4_arrive 21 = .ok (.aload_n 2, 1) := by decide +kernel
theorem dX4_arrive_22 : decode cX4_arrive 22 = .ok (.getfield 119, 3) := by decide +kernel
theorem dX4_arrive_25 : decode cX4_arrive 25 = .ok (.getfield 123, 3) := by decide +kernel
theorem dX4_arrive_28 : decode cX4_arrive 28 = .ok (.ifCond .eq 24, 3) := by decide +kernel
theorem dX4_arrive_31 : decode cX4_arrive 31 = .ok (.aload_n 0, 1) := by decide +kernel
theorem dX4_arrive_32 : decode cX4_arrive 32 = .ok (.getfield 113, 3) := by decide +kernel
theorem dX4_arrive_35 : decode cX4_arrive 35 = .ok (.aload_n 2, 1) := by decide +kernel
theorem dX4_arrive_36 : decode cX4_arrive 36 = .ok (.getfield 119, 3) := by decide +kernel
theorem dX4_arrive_39 : decode cX4_arrive 39 = .ok (.getfield 128, 3) := by decide +kernel
theorem dX4_arrive_42 : decode cX4_arrive 42 = .ok (.isub, 1) := by decide +kernel
theorem dX4_arrive_43 : decode cX4_arrive 43 = .ok (.aload_n 2, 1) := by decide +kernel
theorem dX4_arrive_44 : decode cX4_arrive 44 = .ok (.getfield 131, 3) := by decide +kernel
theorem dX4_arrive_47 : decode cX4_arrive 47 = .ok (.if_icmp .ge 5, 3) := by decide +kernel
theorem dX4_arrive_50 : decode cX4_arrive 50 = .ok (.iconst 0, 1) := by decide +kernel
theorem dX4_arrive_51 : decode cX4_arrive 51 = .ok (.ireturn, 1) := by decide +kernel
theorem dX4_arrive_52 : decode cX4_arrive 52 = .ok (.aload_n 2, 1) := by decide +kernel
theorem dX4_arrive_53 : decode cX4_arrive 53 = .ok (.aload_n 0, 1) := by decide +kernel
theorem dX4_arrive_54 : decode cX4_arrive 54 = .ok (.getfield 113, 3) := by decide +kernel
theorem dX4_arrive_57 : decode cX4_arrive 57 = .ok (.invokevirtual 134, 3) := by decide +kernel
theorem dX4_arrive_60 : decode cX4_arrive 60 = .ok (.iconst 1, 1) := by decide +kernel
theorem dX4_arrive_61 : decode cX4_arrive 61 = .ok (.ireturn, 1) := by decide +kernel
theorem dX4_shorten_0 : decode cX4_shorten 0 = .ok (.aload_n 0, 1) := by decide +kernel
theorem dX4_shorten_1 : decode cX4_shorten 1 = .ok (.iload_n 1, 1) := by decide +kernel
theorem dX4_shorten_2 : decode cX4_shorten 2 = .ok (.invokevirtual 75, 3) := by decide +kernel
theorem dX4_shorten_5 : decode cX4_shorten 5 = .ok (.iload_n 2, 1) := by decide +kernel
theorem dX4_shorten_6 : decode cX4_shorten 6 = .ok (.invokestatic 90, 3) := by decide +kernel
theorem dX4_shorten_9 : decode cX4_shorten 9 = .ok (.astore 4, 2) := by decide +kernel
theorem dX4_shorten_11 : decode cX4_shorten 11 = .ok (.aload_n 0, 1) := by decide +kernel
theorem dX4_shorten_12 : decode cX4_shorten 12 = .ok (.getfield 51, 3) := by decide +kernel
theorem dX4_shorten_15 : decode cX4_shorten 15 = .ok (.ifCond .ne 11, 3) := by decide +kernel
theorem dX4_shorten_18 : decode cX4_shorten 18 = .ok (.new 58, 3) := by decide +kernel
theorem dX4_shorten_21 : decode cX4_shorten 21 = .ok (.dup, 1) := by decide +kernel
theorem dX4_shorten_22 : decode cX4_shorten 22 = .ok (.invokespecial 60, 3) := by decide +kernel
theorem dX4_shorten_25 : decode cX4_shorten 25 = .ok (.athrow, 1) := by decide +kernel
theorem dX4_shorten_26 : decode cX4_shorten 26 = .ok (.aload 4, 2) := by decide +kernel
theorem dX4_shorten_28 : decode cX4_shorten 28 = .ok (.invokevirtual 138, 3) := by decide +kernel
theorem dX4_shorten_31 : decode cX4_shorten 31 = .ok (.ifCond .eq 16, 3) := by decide +kernel
theorem dX4_shorten_34 : decode cX4_shorten 34 = .ok (.iload_n 3, 1) := by decide +kernel
theorem dX4_shorten_35 : decode cX4_shorten 35 = .ok (.iconst 1, 1) := by decide +kernel
theorem dX4_shorten_36 : decode cX4_shorten 36 = .ok (.aload 4, 2) := by decide +kernel
theorem dX4_shorten_38 : decode cX4_shorten 38 = .ok (.getfield 141, 3) := by decide +kernel
theorem dX4_shorten_41 : decode cX4_shorten 41 = .ok (.invokestatic 44, 3) := by decide +kernel
theorem dX4_shorten_44 : decode cX4_shorten 44 = .ok (.ifCond .ne 11, 3) := by decide +kernel
theorem dX4_shorten_47 : decode cX4_shorten 47 = .ok (.new 65, 3) := by decide +kernel
theorem dX4_shorten_50 : decode cX4_shorten 50 = .ok (.dup, 1) := by decide +kernel
theorem dX4_shorten_51 : decode cX4_shorten 51 = .ok (.invokespecial 67, 3) := by decide +kernel
theorem dX4_shorten_54 : decode cX4_shorten 54 = .ok (.athrow, 1) := by decide +kernel
theorem dX4_shorten_55 : decode cX4_shorten 55 = .ok (.aload 4, 2) := by decide +kernel
theorem dX4_shorten_57 : decode cX4_shorten 57 = .ok (.iload_n 3, 1) := by decide +kernel
theorem dX4_shorten_58 : decode cX4_shorten 58 = .ok (.putfield 144, 3) := by decide +kernel
theorem dX4_shorten_61 : decode cX4_shorten 61 = .ok (.return_, 1) := by decide +kernel
theorem dX4_tick_0 : decode cX4_tick 0 = .ok (.aload_n 0, 1) := by decide +kernel
theorem dX4_tick_1 : decode cX4_tick 1 = .ok (.getfield 51, 3) := by decide +kernel
theorem dX4_tick_4 : decode cX4_tick 4 = .ok (.ifCond .ne 11, 3) := by decide +kernel
theorem dX4_tick_7 : decode cX4_tick 7 = .ok (.new 58, 3) := by decide +kernel
theorem dX4_tick_10 : decode cX4_tick 10 = .ok (.dup, 1) := by decide +kernel
theorem dX4_tick_11 : decode cX4_tick 11 = .ok (.invokespecial 60, 3) := by decide +kernel
theorem dX4_tick_14 : decode cX4_tick 14 = .ok (.athrow, 1) := by decide +kernel
theorem dX4_tick_15 : decode cX4_tick 15 = .ok (.iload_n 1, 1) := by decide +kernel
theorem dX4_tick_16 : decode cX4_tick 16 = .ok (.iconst 1, 1) := by decide +kernel
theorem dX4_tick_17 : decode cX4_tick 17 = .ok (.ldc 147, 2) := by decide +kernel
theorem dX4_tick_19 : decode cX4_tick 19 = .ok (.invokestatic 44, 3) := by decide +kernel
theorem dX4_tick_22 : decode cX4_tick 22 = .ok (.ifCond .ne 11, 3) := by decide +kernel
theorem dX4_tick_25 : decode cX4_tick 25 = .ok (.new 65, 3) := by decide +kernel
theorem dX4_tick_28 : decode cX4_tick 28 = .ok (.dup, 1) := by decide +kernel
theorem dX4_tick_29 : decode cX4_tick 29 = .ok (.invokespecial 67, 3) := by decide +kernel
theorem dX4_tick_32 : decode cX4_tick 32 = .ok (.athrow, 1) := by decide +kernel
theorem dX4_tick_33 : decode cX4_tick 33 = .ok (.iconst 0, 1) := by decide +kernel
theorem dX4_tick_34 : decode cX4_tick 34 = .ok (.istore_n 2, 1) := by decide +kernel
theorem dX4_tick_35 : decode cX4_tick 35 = .ok (.iload_n 1, 1) := by decide +kernel
theorem dX4_tick_36 : decode cX4_tick 36 = .ok (.istore_n 3, 1) := by decide +kernel
theorem dX4_tick_37 : decode cX4_tick 37 = .ok (.iload_n 3, 1) := by decide +kernel
end
section
theorem dX4_tick_38 : decode cX4_tick 38 = .ok (.ifCond .le 53, 3) := by decide +kernel
theorem dX4_tick_41 : decode cX4_tick 41 = .ok (.aload_n 0, 1) := by decide +kernel
theorem dX4_tick_42 : decode cX4_tick 42 = .ok (.invokevirtual 148, 3) := by decide +kernel
theorem dX4_tick_45 : decode cX4_tick 45 = .ok (.aload_n 0, 1) := by decide +kernel
theorem dX4_tick_46 : decode cX4_tick 46 = .ok (.invokevirtual 151, 3) := by decide +kernel
theorem dX4_tick_49 : decode cX4_tick 49 = .ok (.iconst 1, 1) := by decide +kernel
theorem dX4_tick_50 : decode cX4_tick 50 = .ok (.iload_n 3, 1) := by decide +kernel
theorem dX4_tick_51 : decode cX4_tick 51 = .ok (.aload_n 0, 1) := by decide +kernel
theorem dX4_tick_52 : decode cX4_tick 52 = .ok (.invokevirtual 154, 3) := by decide +kernel
theorem dX4_tick_55 : decode cX4_tick 55 = .ok (.invokestatic 158, 3) := by decide +kernel
theorem dX4_tick_58 : decode cX4_tick 58 = .ok (.invokestatic 164, 3) := by decide +kernel
theorem dX4_tick_61 : decode cX4_tick 61 = .ok (.istore 4, 2) := by decide +kernel
theorem dX4_tick_63 : decode cX4_tick 63 = .ok (.aload_n 0, 1) := by decide +kernel
theorem dX4_tick_64 : decode cX4_tick 64 = .ok (.dup, 1) := by decide +kernel
theorem dX4_tick_65 : decode cX4_tick 65 = .ok (.getfield 113, 3) := by decide +kernel
theorem dX4_tick_68 : decode cX4_tick 68 = .ok (.iload 4, 2) := by decide +kernel
theorem dX4_tick_70 : decode cX4_tick 70 = .ok (.iadd, 1) := by decide +kernel
theorem dX4_tick_71 : decode cX4_tick 71 = .ok (.putfield 113, 3) := by decide +kernel
theorem dX4_tick_74 : decode cX4_tick 74 = .ok (.iload_n 2, 1) := by decide +kernel
theorem dX4_tick_75 : decode cX4_tick 75 = .ok (.aload_n 0, 1) := by decide +kernel
theorem dX4_tick_76 : decode cX4_tick 76 = .ok (.iload 4, 2) := by decide +kernel
theorem dX4_tick_78 : decode cX4_tick 78 = .ok (.invokevirtual 167, 3) := by decide +kernel
theorem dX4_tick_81 : decode cX4_tick 81 = .ok (.iadd, 1) := by decide +kernel
theorem dX4_tick_82 : decode cX4_tick 82 = .ok (.istore_n 2, 1) := by decide +kernel
theorem dX4_tick_83 : decode cX4_tick 83 = .ok (.iload_n 3, 1) := by decide +kernel
theorem dX4_tick_84 : decode cX4_tick 84 = .ok (.iload 4, 2) := by decide +kernel
theorem dX4_tick_86 : decode cX4_tick 86 = .ok (.isub, 1) := by decide +kernel
theorem dX4_tick_87 : decode cX4_tick 87 = .ok (.istore_n 3, 1) := by decide +kernel
theorem dX4_tick_88 : decode cX4_tick 88 = .ok (.goto (-51), 3) := by decide +kernel
theorem dX4_tick_91 : decode cX4_tick 91 = .ok (.iload_n 2, 1) := by decide +kernel
theorem dX4_tick_92 : decode cX4_tick 92 = .ok (.ireturn, 1) := by decide +kernel
theorem dX4_core_0 : decode cX4_core 0 = .ok (.iload_n 1, 1) := by decide +kernel
theorem dX4_core_1 : decode cX4_core 1 = .ok (.iconst 0, 1) := by decide +kernel
theorem dX4_core_2 : decode cX4_core 2 = .ok (.iconst 3, 1) := by decide +kernel
theorem dX4_core_3 : decode cX4_core 3 = .ok (.invokestatic 44, 3) := by decide +kernel
theorem dX4_core_6 : decode cX4_core 6 = .ok (.ifCond .ne 11, 3) := by decide +kernel
theorem dX4_core_9 : decode cX4_core 9 = .ok (.new 48, 3) := by decide +kernel
theorem dX4_core_12 : decode cX4_core 12 = .ok (.dup, 1) := by decide +kernel
theorem dX4_core_13 : decode cX4_core 13 = .ok (.invokespecial 50, 3) := by decide +kernel
theorem dX4_core_16 : decode cX4_core 16 = .ok (.athrow, 1) := by decide +kernel
theorem dX4_core_17 : decode cX4_core 17 = .ok (.iload_n 2, 1) := by decide +kernel
theorem dX4_core_18 : decode cX4_core 18 = .ok (.iconst 0, 1) := by decide +kernel
theorem dX4_core_19 : decode cX4_core 19 = .ok (.iconst 1, 1) := by decide +kernel
theorem dX4_core_20 : decode cX4_core 20 = .ok (.invokestatic 44, 3) := by decide +kernel
theorem dX4_core_23 : decode cX4_core 23 = .ok (.ifCond .ne 11, 3) := by decide +kernel
theorem dX4_core_26 : decode cX4_core 26 = .ok (.new 65, 3) := by decide +kernel
theorem dX4_core_29 : decode cX4_core 29 = .ok (.dup, 1) := by decide +kernel
theorem dX4_core_30 : decode cX4_core 30 = .ok (.invokespecial 67, 3) := by decide +kernel
theorem dX4_core_33 : decode cX4_core 33 = .ok (.athrow, 1) := by decide +kernel
theorem dX4_core_34 : decode cX4_core 34 = .ok (.iload_n 2, 1) := by decide +kernel
theorem dX4_core_35 : decode cX4_core 35 = .ok (.ifCond .ne 12, 3) := by decide +kernel
theorem dX4_core_38 : decode cX4_core 38 = .ok (.aload_n 0, 1) := by decide +kernel
theorem dX4_core_39 : decode cX4_core 39 = .ok (.getfield 30, 3) := by decide +kernel
theorem dX4_core_42 : decode cX4_core 42 = .ok (.iload_n 1, 1) := by decide +kernel
theorem dX4_core_43 : decode cX4_core 43 = .ok (.iaload, 1) := by decide +kernel
theorem dX4_core_44 : decode cX4_core 44 = .ok (.goto 9, 3) := by decide +kernel
theorem dX4_core_47 : decode cX4_core 47 = .ok (.aload_n 0, 1) := by decide +kernel
theorem dX4_core_48 : decode cX4_core 48 = .ok (.getfield 33, 3) := by decide +kernel
theorem dX4_core_51 : decode cX4_core 51 = .ok (.iload_n 1, 1) := by decide +kernel
theorem dX4_core_52 : decode cX4_core 52 = .ok (.iaload, 1) := by decide +kernel
theorem dX4_core_53 : decode cX4_core 53 = .ok (.ireturn, 1) := by decide +kernel
theorem dX4_row_0 : decode cX4_row 0 = .ok (.iload_n 1, 1) := by decide +kernel
theorem dX4_row_1 : decode cX4_row 1 = .ok (.iconst 0, 1) := by decide +kernel
theorem dX4_row_2 : decode cX4_row 2 = .ok (.bipush 7, 2) := by decide +kernel
theorem dX4_row_4 : decode cX4_row 4 = .ok (.invokestatic 44, 3) := by decide +kernel
theorem dX4_row_7 : decode cX4_row 7 = .ok (.ifCond .ne 11, 3) := by decide +kernel
theorem dX4_row_10 : decode cX4_row 10 = .ok (.new 48, 3) := by decide +kernel
theorem dX4_row_13 : decode cX4_row 13 = .ok (.dup, 1) := by decide +kernel
theorem dX4_row_14 : decode cX4_row 14 = .ok (.invokespecial 50, 3) := by decide +kernel
theorem dX4_row_17 : decode cX4_row 17 = .ok (.athrow, 1) := by decide +kernel
theorem dX4_row_18 : decode cX4_row 18 = .ok (.aload_n 0, 1) := by decide +kernel
theorem dX4_row_19 : decode cX4_row 19 = .ok (.iload_n 1, 1) := by decide +kernel
theorem dX4_row_20 : decode cX4_row 20 = .ok (.invokevirtual 171, 3) := by decide +kernel
theorem dX4_row_23 : decode cX4_row 23 = .ok (.iload_n 2, 1) := by decide +kernel
theorem dX4_row_24 : decode cX4_row 24 = .ok (.invokevirtual 175, 3) := by decide +kernel
theorem dX4_row_27 : decode cX4_row 27 = .ok (.ireturn, 1) := by decide +kernel
theorem dX4_jobs_0 : decode cX4_jobs 0 = .ok (.aload_n 0, 1) := by decide +kernel
theorem dX4_jobs_1 : decode cX4_jobs 1 = .ok (.iload_n 1, 1) := by decide +kernel
theorem dX4_jobs_2 : decode cX4_jobs 2 = .ok (.invokevirtual 75, 3) := by decide +kernel
theorem dX4_jobs_5 : decode cX4_jobs 5 = .ok (.getfield 119, 3) := by decide +kernel
theorem dX4_jobs_8 : decode cX4_jobs 8 = .ok (.astore_n 3, 1) := by decide +kernel
theorem dX4_jobs_9 : decode cX4_jobs 9 = .ok (.iload_n 2, 1) := by decide +kernel
theorem dX4_jobs_10 : decode cX4_jobs 10 = .ok (.tableswitch 58 0 3 #[30, 35, 40, 45], 30) := by decide +kernel
theorem dX4_jobs_40 : decode cX4_jobs 40 = .ok (.aload_n 3, 1) := by decide +kernel
theorem dX4_jobs_41 : decode cX4_jobs 41 = .ok (.getfield 178, 3) := by decide +kernel
theorem dX4_jobs_44 : decode cX4_jobs 44 = .ok (.ireturn, 1) := by decide +kernel
theorem dX4_jobs_45 : decode cX4_jobs 45 = .ok (.aload_n 3, 1) := by decide +kernel
theorem dX4_jobs_46 : decode cX4_jobs 46 = .ok (.getfield 181, 3) := by decide +kernel
theorem dX4_jobs_49 : decode cX4_jobs 49 = .ok (.ireturn, 1) := by decide +kernel
theorem dX4_jobs_50 : decode cX4_jobs 50 = .ok (.aload_n 3, 1) := by decide +kernel
theorem dX4_jobs_51 : decode cX4_jobs 51 = .ok (.getfield 184, 3) := by decide +kernel
theorem dX4_jobs_54 : decode cX4_jobs 54 = .ok (.ireturn, 1) := by decide +kernel
theorem dX4_jobs_55 : decode cX4_jobs 55 = .ok (.aload_n 3, 1) := by decide +kernel
theorem dX4_jobs_56 : decode cX4_jobs 56 = .ok (.getfield 187, 3) := by decide +kernel
theorem dX4_jobs_59 : decode cX4_jobs 59 = .ok (.ifCond .eq 7, 3) := by decide +kernel
theorem dX4_jobs_62 : decode cX4_jobs 62 = .ok (.iconst 1, 1) := by decide +kernel
theorem dX4_jobs_63 : decode cX4_jobs 63 = .ok (.goto 4, 3) := by decide +kernel
theorem dX4_jobs_66 : decode cX4_jobs 66 = .ok (.iconst 0, 1) := by decide +kernel
theorem dX4_jobs_67 : decode cX4_jobs 67 = .ok (.ireturn, 1) := by decide +kernel
theorem dX4_jobs_68 : decode cX4_jobs 68 = .ok (.new 65, 3) := by decide +kernel
theorem dX4_jobs_71 : decode cX4_jobs 71 = .ok (.dup, 1) := by decide +kernel
theorem dX4_jobs_72 : decode cX4_jobs 72 = .ok (.invokespecial 67, 3) := by decide +kernel
theorem dX4_jobs_75 : decode cX4_jobs 75 = .ok (.athrow, 1) := by decide +kernel
theorem dX4_spun_0 : decode cX4_spun 0 = .ok (.aload_n 0, 1) := by decide +kernel
theorem dX4_spun_1 : decode cX4_spun 1 = .ok (.iload_n 1, 1) := by decide +kernel
theorem dX4_spun_2 : decode cX4_spun 2 = .ok (.invokevirtual 75, 3) := by decide +kernel
theorem dX4_spun_5 : decode cX4_spun 5 = .ok (.iload_n 2, 1) := by decide +kernel
theorem dX4_spun_6 : decode cX4_spun 6 = .ok (.invokestatic 90, 3) := by decide +kernel
theorem dX4_spun_9 : decode cX4_spun 9 = .ok (.getfield 190, 3) := by decide +kernel
theorem dX4_spun_12 : decode cX4_spun 12 = .ok (.ireturn, 1) := by decide +kernel
theorem dX4_late_0 : decode cX4_late 0 = .ok (.iconst 0, 1) := by decide +kernel
theorem dX4_late_1 : decode cX4_late 1 = .ok (.istore_n 1, 1) := by decide +kernel
theorem dX4_late_2 : decode cX4_late 2 = .ok (.aload_n 0, 1) := by decide +kernel
theorem dX4_late_3 : decode cX4_late 3 = .ok (.getfield 11, 3) := by decide +kernel
theorem dX4_late_6 : decode cX4_late 6 = .ok (.astore_n 2, 1) := by decide +kernel
theorem dX4_late_7 : decode cX4_late 7 = .ok (.aload_n 2, 1) := by decide +kernel
theorem dX4_late_8 : decode cX4_late 8 = .ok (.arraylength, 1) := by decide +kernel
theorem dX4_late_9 : decode cX4_late 9 = .ok (.istore_n 3, 1) := by decide +kernel
theorem dX4_late_10 : decode cX4_late 10 = .ok (.iconst 0, 1) := by decide +kernel
theorem dX4_late_11 : decode cX4_late 11 = .ok (.istore 4, 2) := by decide +kernel
theorem dX4_late_13 : decode cX4_late 13 = .ok (.iload 4, 2) := by decide +kernel
theorem dX4_late_15 : decode cX4_late 15 = .ok (.iload_n 3, 1) := by decide +kernel
theorem dX4_late_16 : decode cX4_late 16 = .ok (.if_icmp .ge 61, 3) := by decide +kernel
theorem dX4_late_19 : decode cX4_late 19 = .ok (.aload_n 2, 1) := by decide +kernel
theorem dX4_late_20 : decode cX4_late 20 = .ok (.iload 4, 2) := by decide +kernel
theorem dX4_late_22 : decode cX4_late 22 = .ok (.aaload, 1) := by decide +kernel
theorem dX4_late_23 : decode cX4_late 23 = .ok (.astore 5, 2) := by decide +kernel
theorem dX4_late_25 : decode cX4_late 25 = .ok (.iload_n 1, 1) := by decide +kernel
theorem dX4_late_26 : decode cX4_late 26 = .ok (.aload 5, 2) := by decide +kernel
theorem dX4_late_28 : decode cX4_late 28 = .ok (.getfield 119, 3) := by decide +kernel
theorem dX4_late_31 : decode cX4_late 31 = .ok (.getfield 193, 3) := by decide +kernel
theorem dX4_late_34 : decode cX4_late 34 = .ok (.iadd, 1) := by decide +kernel
theorem dX4_late_35 : decode cX4_late 35 = .ok (.istore_n 1, 1) := by decide +kernel
theorem dX4_late_36 : decode cX4_late 36 = .ok (.aload 5, 2) := by decide +kernel
theorem dX4_late_38 : decode cX4_late 38 = .ok (.getfield 119, 3) := by decide +kernel
theorem dX4_late_41 : decode cX4_late 41 = .ok (.getfield 187, 3) := by decide +kernel
theorem dX4_late_44 : decode cX4_late 44 = .ok (.ifCond .eq 27, 3) := by decide +kernel
theorem dX4_late_47 : decode cX4_late 47 = .ok (.aload_n 0, 1) := by decide +kernel
theorem dX4_late_48 : decode cX4_late 48 = .ok (.getfield 113, 3) := by decide +kernel
theorem dX4_late_51 : decode cX4_late 51 = .ok (.aload 5, 2) := by decide +kernel
theorem dX4_late_53 : decode cX4_late 53 = .ok (.getfield 119, 3) := by decide +kernel
theorem dX4_late_56 : decode cX4_late 56 = .ok (.getfield 128, 3) := by decide +kernel
theorem dX4_late_59 : decode cX4_late 59 = .ok (.isub, 1) := by decide +kernel
theorem dX4_late_60 : decode cX4_late 60 = .ok (.aload 5, 2) := by decide +kernel
theorem dX4_late_62 : decode cX4_late 62 = .ok (.getfield 196, 3) := by decide +kernel
theorem dX4_late_65 : decode cX4_late 65 = .ok (.if_icmp .le 6, 3) := by decide +kernel
theorem dX4_late_68 : decode cX4_late 68 = .ok (.iinc 1 1, 3) := by decide +kernel
theorem dX4_late_71 : decode cX4_late 71 = .ok (.iinc 4 1, 3) := by decide +kernel
theorem dX4_late_74 : decode cX4_late 74 = .ok (.goto (-61), 3) := by decide +kernel
theorem dX4_late_77 : decode cX4_late 77 = .ok (.iload_n 1, 1) := by decide +kernel
theorem dX4_late_78 : decode cX4_late 78 = .ok (.ireturn, 1) := by decide +kernel
theorem dX4_isWithin_0 : decode cX4_isWithin 0 = .ok (.iload_n 0, 1) := by decide +kernel
theorem dX4_isWithin_1 : decode cX4_isWithin 1 = .ok (.iload_n 1, 1) := by decide +kernel
theorem dX4_isWithin_2 : decode cX4_isWithin 2 = .ok (.if_icmp .lt 12, 3) := by decide +kernel
theorem dX4_isWithin_5 : decode cX4_isWithin 5 = .ok (.iload_n 0, 1) := by decide +kernel
theorem dX4_isWithin_6 : decode cX4_isWithin 6 = .ok (.iload_n 2, 1) := by decide +kernel
theorem dX4_isWithin_7 : decode cX4_isWithin 7 = .ok (.if_icmp .gt 7, 3) := by decide +kernel
theorem dX4_isWithin_10 : decode cX4_isWithin 10 = .ok (.iconst 1, 1) := by decide +kernel
theorem dX4_isWithin_11 : decode cX4_isWithin 11 = .ok (.goto 4, 3) := by decide +kernel
theorem dX4_isWithin_14 : decode cX4_isWithin 14 = .ok (.iconst 0, 1) := by decide +kernel
theorem dX4_isWithin_15 : decode cX4_isWithin 15 = .ok (.ireturn, 1) := by decide +kernel
theorem dX4_taskAt_0 : decode cX4_taskAt 0 = .ok (.iload_n 1, 1) := by decide +kernel
theorem dX4_taskAt_1 : decode cX4_taskAt 1 = .ok (.iconst 0, 1) := by decide +kernel
theorem dX4_taskAt_2 : decode cX4_taskAt 2 = .ok (.bipush 15, 2) := by decide +kernel
theorem dX4_taskAt_4 : decode cX4_taskAt 4 = .ok (.invokestatic 44, 3) := by decide +kernel
theorem dX4_taskAt_7 : decode cX4_taskAt 7 = .ok (.ifCond .eq 15, 3) := by decide +kernel
theorem dX4_taskAt_10 : decode cX4_taskAt 10 = .ok (.aload_n 0, 1) := by decide +kernel
theorem dX4_taskAt_11 : decode cX4_taskAt 11 = .ok (.getfield 11, 3) := by decide +kernel
theorem dX4_taskAt_14 : decode cX4_taskAt 14 = .ok (.iload_n 1, 1) := by decide +kernel
theorem dX4_taskAt_15 : decode cX4_taskAt 15 = .ok (.aaload, 1) := by decide +kernel
theorem dX4_taskAt_16 : decode cX4_taskAt 16 = .ok (.getfield 55, 3) := by decide +kernel
theorem dX4_taskAt_19 : decode cX4_taskAt 19 = .ok (.ifCond .ne 11, 3) := by decide +kernel
theorem dX4_taskAt_22 : decode cX4_taskAt 22 = .ok (.new 48, 3) := by decide +kernel
theorem dX4_taskAt_25 : decode cX4_taskAt 25 = .ok (.dup, 1) := by decide +kernel
theorem dX4_taskAt_26 : decode cX4_taskAt 26 = .ok (.invokespecial 50, 3) := by decide +kernel
theorem dX4_taskAt_29 : decode cX4_taskAt 29 = .ok (.athrow, 1) := by decide +kernel
theorem dX4_taskAt_30 : decode cX4_taskAt 30 = .ok (.aload_n 0, 1) := by decide +kernel
theorem dX4_taskAt_31 : decode cX4_taskAt 31 = .ok (.getfield 11, 3) := by decide +kernel
theorem dX4_taskAt_34 : decode cX4_taskAt 34 = .ok (.iload_n 1, 1) := by decide +kernel
theorem dX4_taskAt_35 : decode cX4_taskAt 35 = .ok (.aaload, 1) := by decide +kernel
theorem dX4_taskAt_36 : decode cX4_taskAt 36 = .ok (.areturn, 1) := by decide +kernel
theorem dX4_requestAt_0 : decode cX4_requestAt 0 = .ok (.iload_n 1, 1) := by decide +kernel
theorem dX4_requestAt_1 : decode cX4_requestAt 1 = .ok (.iconst 0, 1) := by decide +kernel
theorem dX4_requestAt_2 : decode cX4_requestAt 2 = .ok (.aload_n 0, 1) := by decide +kernel
theorem dX4_requestAt_3 : decode cX4_requestAt 3 = .ok (.getfield 79, 3) := by decide +kernel
theorem dX4_requestAt_6 : decode cX4_requestAt 6 = .ok (.iconst 1, 1) := by decide +kernel
theorem dX4_requestAt_7 : decode cX4_requestAt 7 = .ok (.isub, 1) := by decide +kernel
theorem dX4_requestAt_8 : decode cX4_requestAt 8 = .ok (.invokestatic 44, 3) := by decide +kernel
theorem dX4_requestAt_11 : decode cX4_requestAt 11 = .ok (.ifCond .ne 11, 3) := by decide +kernel
theorem dX4_requestAt_14 : decode cX4_requestAt 14 = .ok (.new 48, 3) := by decide +kernel
theorem dX4_requestAt_17 : decode cX4_requestAt 17 = .ok (.dup, 1) := by decide +kernel
theorem dX4_requestAt_18 : decode cX4_requestAt 18 = .ok (.invokespecial 50, 3) := by decide +kernel
theorem dX4_requestAt_21 : decode cX4_requestAt 21 = .ok (.athrow, 1) := by decide +kernel
theorem dX4_requestAt_22 : decode cX4_requestAt 22 = .ok (.aload_n 0, 1) := by decide +kernel
theorem dX4_requestAt_23 : decode cX4_requestAt 23 = .ok (.getfield 199, 3) := by decide +kernel
theorem dX4_requestAt_26 : decode cX4_requestAt 26 = .ok (.iload_n 1, 1) := by decide +kernel
theorem dX4_requestAt_27 : decode cX4_requestAt 27 = .ok (.aaload, 1) := by decide +kernel
theorem dX4_requestAt_28 : decode cX4_requestAt 28 = .ok (.areturn, 1) := by decide +kernel
theorem dX4_rowOf_0 : decode cX4_rowOf 0 = .ok (.aload_n 0, 1) := by decide +kernel
theorem dX4_rowOf_1 : decode cX4_rowOf 1 = .ok (.getfield 17, 3) := by decide +kernel
theorem dX4_rowOf_4 : decode cX4_rowOf 4 = .ok (.aload_n 0, 1) := by decide +kernel
theorem dX4_rowOf_5 : decode cX4_rowOf 5 = .ok (.getfield 21, 3) := by decide +kernel
theorem dX4_rowOf_8 : decode cX4_rowOf 8 = .ok (.iload_n 1, 1) := by decide +kernel
theorem dX4_rowOf_9 : decode cX4_rowOf 9 = .ok (.iaload, 1) := by decide +kernel
theorem dX4_rowOf_10 : decode cX4_rowOf 10 = .ok (.aaload, 1) := by decide +kernel
theorem dX4_rowOf_11 : decode cX4_rowOf 11 = .ok (.areturn, 1) := by decide +kernel
theorem dX4_isPriorityTaken_0 : decode cX4_isPriorityTaken 0 = .ok (.aload_n 0, 1) := by decide +kernel
theorem dX4_isPriorityTaken_1 : decode cX4_isPriorityTaken 1 = .ok (.getfield 11, 3) := by decide +kernel
theorem dX4_isPriorityTaken_4 : decode cX4_isPriorityTaken 4 = .ok (.astore_n 3, 1) := by decide +kernel
theorem dX4_isPriorityTaken_5 : decode cX4_isPriorityTaken 5 = .ok (.aload_n 3, 1) := by decide +kernel
theorem dX4_isPriorityTaken_6 : decode cX4_isPriorityTaken 6 = .ok (.arraylength, 1) := by decide +kernel
theorem dX4_isPriorityTaken_7 : decode cX4_isPriorityTaken 7 = .ok (.istore 4, 2) := by decide +kernel
theorem dX4_isPriorityTaken_9 : decode cX4_isPriorityTaken 9 = .ok (.iconst 0, 1) := by decide +kernel
theorem dX4_isPriorityTaken_10 : decode cX4_isPriorityTaken 10 = .ok (.istore 5, 2) := by decide +kernel
theorem dX4_isPriorityTaken_12 : decode cX4_isPriorityTaken 12 = .ok (.iload 5, 2) := by decide +kernel
theorem dX4_isPriorityTaken_14 : decode cX4_isPriorityTaken 14 = .ok (.iload 4, 2) := by decide +kernel
theorem dX4_isPriorityTaken_16 : decode cX4_isPriorityTaken 16 = .ok (.if_icmp .ge 35, 3) := by decide +kernel
theorem dX4_isPriorityTaken_19 : decode cX4_isPriorityTaken 19 = .ok (.aload_n 3, 1) := by decide +kernel
theorem dX4_isPriorityTaken_20 : decode cX4_isPriorityTaken 20 = .ok (.iload 5, 2) := by decide +kernel
theorem dX4_isPriorityTaken_22 : decode cX4_isPriorityTaken 22 = .ok (.aaload, 1) := by decide +kernel
theorem dX4_isPriorityTaken_23 : decode cX4_isPriorityTaken 23 = .ok (.astore 6, 2) := by decide +kernel
theorem dX4_isPriorityTaken_25 : decode cX4_isPriorityTaken 25 = .ok (.aload 6, 2) := by decide +kernel
theorem dX4_isPriorityTaken_27 : decode cX4_isPriorityTaken 27 = .ok (.iload_n 1, 1) := by decide +kernel
theorem dX4_isPriorityTaken_28 : decode cX4_isPriorityTaken 28 = .ok (.invokevirtual 203, 3) := by decide +kernel
theorem dX4_isPriorityTaken_31 : decode cX4_isPriorityTaken 31 = .ok (.ifCond .eq 14, 3) := by decide +kernel
theorem dX4_isPriorityTaken_34 : decode cX4_isPriorityTaken 34 = .ok (.aload 6, 2) := by decide +kernel
theorem dX4_isPriorityTaken_36 : decode cX4_isPriorityTaken 36 = .ok (.getfield 207, 3) := by decide +kernel
theorem dX4_isPriorityTaken_39 : decode cX4_isPriorityTaken 39 = .ok (.iload_n 2, 1) := by decide +kernel
theorem dX4_isPriorityTaken_40 : decode cX4_isPriorityTaken 40 = .ok (.if_icmp .ne 5, 3) := by decide +kernel
theorem dX4_isPriorityTaken_43 : decode cX4_isPriorityTaken 43 = .ok (.iconst 1, 1) := by decide +kernel
theorem dX4_isPriorityTaken_44 : decode cX4_isPriorityTaken 44 = .ok (.ireturn, 1) := by decide +kernel
theorem dX4_isPriorityTaken_45 : decode cX4_isPriorityTaken 45 = .ok (.iinc 5 1, 3) := by decide +kernel
theorem dX4_isPriorityTaken_48 : decode cX4_isPriorityTaken 48 = .ok (.goto (-36), 3) := by decide +kernel
theorem dX4_isPriorityTaken_51 : decode cX4_isPriorityTaken 51 = .ok (.iconst 0, 1) := by decide +kernel
theorem dX4_isPriorityTaken_52 : decode cX4_isPriorityTaken 52 = .ok (.ireturn, 1) := by decide +kernel
theorem dX4_isAnyJobOpen_0 : decode cX4_isAnyJobOpen 0 = .ok (.aload_n 0, 1) := by decide +kernel
theorem dX4_isAnyJobOpen_1 : decode cX4_isAnyJobOpen 1 = .ok (.getfield 11, 3) := by decide +kernel
theorem dX4_isAnyJobOpen_4 : decode cX4_isAnyJobOpen 4 = .ok (.astore_n 1, 1) := by decide +kernel
theorem dX4_isAnyJobOpen_5 : decode cX4_isAnyJobOpen 5 = .ok (.aload_n 1, 1) := by decide +kernel
theorem dX4_isAnyJobOpen_6 : decode cX4_isAnyJobOpen 6 = .ok (.arraylength, 1) := by decide +kernel
theorem dX4_isAnyJobOpen_7 : decode cX4_isAnyJobOpen 7 = .ok (.istore_n 2, 1) := by decide +kernel
theorem dX4_isAnyJobOpen_8 : decode cX4_isAnyJobOpen 8 = .ok (.iconst 0, 1) := by decide +kernel
theorem dX4_isAnyJobOpen_9 : decode cX4_isAnyJobOpen 9 = .ok (.istore_n 3, 1) := by decide +kernel
theorem dX4_isAnyJobOpen_10 : decode cX4_isAnyJobOpen 10 = .ok (.iload_n 3, 1) := by decide +kernel
theorem dX4_isAnyJobOpen_11 : decode cX4_isAnyJobOpen 11 = .ok (.iload_n 2, 1) := by decide +kernel
theorem dX4_isAnyJobOpen_12 : decode cX4_isAnyJobOpen 12 = .ok (.if_icmp .ge 27, 3) := by decide +kernel
theorem dX4_isAnyJobOpen_15 : decode cX4_isAnyJobOpen 15 = .ok (.aload_n 1, 1) := by decide +kernel
theorem dX4_isAnyJobOpen_16 : decode cX4_isAnyJobOpen 16 = .ok (.iload_n 3, 1) := by decide +kernel
theorem dX4_isAnyJobOpen_17 : decode cX4_isAnyJobOpen 17 = .ok (.aaload, 1) := by decide +kernel
theorem dX4_isAnyJobOpen_18 : decode cX4_isAnyJobOpen 18 = .ok (.astore 4, 2) := by decide +kernel
theorem dX4_isAnyJobOpen_20 : decode cX4_isAnyJobOpen 20 = .ok (.aload 4, 2) := by decide +kernel
theorem dX4_isAnyJobOpen_22 : decode cX4_isAnyJobOpen 22 = .ok (.getfield 119, 3) := by decide +kernel
theorem dX4_isAnyJobOpen_25 : decode cX4_isAnyJobOpen 25 = .ok (.getfield 187, 3) := by decide +kernel
theorem dX4_isAnyJobOpen_28 : decode cX4_isAnyJobOpen 28 = .ok (.ifCond .eq 5, 3) := by decide +kernel
theorem dX4_isAnyJobOpen_31 : decode cX4_isAnyJobOpen 31 = .ok (.iconst 1, 1) := by decide +kernel
theorem dX4_isAnyJobOpen_32 : decode cX4_isAnyJobOpen 32 = .ok (.ireturn, 1) := by decide +kernel
theorem dX4_isAnyJobOpen_33 : decode cX4_isAnyJobOpen 33 = .ok (.iinc 3 1, 3) := by decide +kernel
theorem dX4_isAnyJobOpen_36 : decode cX4_isAnyJobOpen 36 = .ok (.goto (-26), 3) := by decide +kernel
theorem dX4_isAnyJobOpen_39 : decode cX4_isAnyJobOpen 39 = .ok (.iconst 0, 1) := by decide +kernel
theorem dX4_isAnyJobOpen_40 : decode cX4_isAnyJobOpen 40 = .ok (.ireturn, 1) := by decide +kernel
theorem dX4_measure_0 : decode cX4_measure 0 = .ok (.aload_n 0, 1) := by decide +kernel
theorem dX4_measure_1 : decode cX4_measure 1 = .ok (.invokevirtual 210, 3) := by decide +kernel
theorem dX4_measure_4 : decode cX4_measure 4 = .ok (.aload_n 0, 1) := by decide +kernel
theorem dX4_measure_5 : decode cX4_measure 5 = .ok (.invokevirtual 213, 3) := by decide +kernel
theorem dX4_measure_8 : decode cX4_measure 8 = .ok (.aload_n 0, 1) := by decide +kernel
theorem dX4_measure_9 : decode cX4_measure 9 = .ok (.getfield 11, 3) := by decide +kernel
theorem dX4_measure_12 : decode cX4_measure 12 = .ok (.astore_n 1, 1) := by decide +kernel
theorem dX4_measure_13 : decode cX4_measure 13 = .ok (.aload_n 1, 1) := by decide +kernel
theorem dX4_measure_14 : decode cX4_measure 14 = .ok (.arraylength, 1) := by decide +kernel
theorem dX4_measure_15 : decode cX4_measure 15 = .ok (.istore_n 2, 1) := by decide +kernel
theorem dX4_measure_16 : decode cX4_measure 16 = .ok (.iconst 0, 1) := by decide +kernel
theorem dX4_measure_17 : decode cX4_measure 17 = .ok (.istore_n 3, 1) := by decide +kernel
theorem dX4_measure_18 : decode cX4_measure 18 = .ok (.iload_n 3, 1) := by decide +kernel
theorem dX4_measure_19 : decode cX4_measure 19 = .ok (.iload_n 2, 1) := by decide +kernel
theorem dX4_measure_20 : decode cX4_measure 20 = .ok (.if_icmp .ge 28, 3) := by decide +kernel
theorem dX4_measure_23 : decode cX4_measure 23 = .ok (.aload_n 1, 1) := by decide +kernel
theorem dX4_measure_24 : decode cX4_measure 24 = .ok (.iload_n 3, 1) := by decide +kernel
theorem dX4_measure_25 : decode cX4_measure 25 = .ok (.aaload, 1) := by decide +kernel
theorem dX4_measure_26 : decode cX4_measure 26 = .ok (.astore 4, 2) := by decide +kernel
theorem dX4_measure_28 : decode cX4_measure 28 = .ok (.aload 4, 2) := by decide +kernel
theorem dX4_measure_30 : decode cX4_measure 30 = .ok (.getfield 55, 3) := by decide +kernel
theorem dX4_measure_33 : decode cX4_measure 33 = .ok (.ifCond .eq 9, 3) := by decide +kernel
theorem dX4_measure_36 : decode cX4_measure 36 = .ok (.aload_n 0, 1) := by decide +kernel
theorem dX4_measure_37 : decode cX4_measure 37 = .ok (.aload 4, 2) := by decide +kernel
theorem dX4_measure_39 : decode cX4_measure 39 = .ok (.invokevirtual 216, 3) := by decide +kernel
theorem dX4_measure_42 : decode cX4_measure 42 = .ok (.iinc 3 1, 3) := by decide +kernel
theorem dX4_measure_45 : decode cX4_measure 45 = .ok (.goto (-27), 3) := by decide +kernel
theorem dX4_measure_48 : decode cX4_measure 48 = .ok (.return_, 1) := by decide +kernel
theorem dX4_formGroups_0 : decode cX4_formGroups 0 = .ok (.iconst 0, 1) := by decide +kernel
theorem dX4_formGroups_1 : decode cX4_formGroups 1 = .ok (.istore_n 1, 1) := by decide +kernel
theorem dX4_formGroups_2 : decode cX4_formGroups 2 = .ok (.iload_n 1, 1) := by decide +kernel
theorem dX4_formGroups_3 : decode cX4_formGroups 3 = .ok (.bipush 8, 2) := by decide +kernel
theorem dX4_formGroups_5 : decode cX4_formGroups 5 = .ok (.if_icmp .ge 16, 3) := by decide +kernel
theorem dX4_formGroups_8 : decode cX4_formGroups 8 = .ok (.aload_n 0, 1) := by decide +kernel
theorem dX4_formGroups_9 : decode cX4_formGroups 9 = .ok (.getfield 21, 3) := by decide +kernel
theorem dX4_formGroups_12 : decode cX4_formGroups 12 = .ok (.iload_n 1, 1) := by decide +kernel
theorem dX4_formGroups_13 : decode cX4_formGroups 13 = .ok (.iload_n 1, 1) := by decide +kernel
theorem dX4_formGroups_14 : decode cX4_formGroups 14 = .ok (.iastore, 1) := by decide +kernel
theorem dX4_formGroups_15 : decode cX4_formGroups 15 = .ok (.iinc 1 1, 3) := by decide +kernel
theorem dX4_formGroups_18 : decode cX4_formGroups 18 = .ok (.goto (-16), 3) := by decide +kernel
theorem dX4_formGroups_21 : decode cX4_formGroups 21 = .ok (.aload_n 0, 1) := by decide +kernel
theorem dX4_formGroups_22 : decode cX4_formGroups 22 = .ok (.getfield 11, 3) := by decide +kernel
theorem dX4_formGroups_25 : decode cX4_formGroups 25 = .ok (.astore_n 1, 1) := by decide +kernel
theorem dX4_formGroups_26 : decode cX4_formGroups 26 = .ok (.aload_n 1, 1) := by decide +kernel
theorem dX4_formGroups_27 : decode cX4_formGroups 27 = .ok (.arraylength, 1) := by decide +kernel
theorem dX4_formGroups_28 : decode cX4_formGroups 28 = .ok (.istore_n 2, 1) := by decide +kernel
theorem dX4_formGroups_29 : decode cX4_formGroups 29 = .ok (.iconst 0, 1) := by decide +kernel
theorem dX4_formGroups_30 : decode cX4_formGroups 30 = .ok (.istore_n 3, 1) := by decide +kernel
theorem dX4_formGroups_31 : decode cX4_formGroups 31 = .ok (.iload_n 3, 1) := by decide +kernel
theorem dX4_formGroups_32 : decode cX4_formGroups 32 = .ok (.iload_n 2, 1) := by decide +kernel
theorem dX4_formGroups_33 : decode cX4_formGroups 33 = .ok (.if_icmp .ge 82, 3) := by decide +kernel
theorem dX4_formGroups_36 : decode cX4_formGroups 36 = .ok (.aload_n 1, 1) := by decide +kernel
theorem dX4_formGroups_37 : decode cX4_formGroups 37 = .ok (.iload_n 3, 1) := by decide +kernel
theorem dX4_formGroups_38 : decode cX4_formGroups 38 = .ok (.aaload, 1) := by decide +kernel
theorem dX4_formGroups_39 : decode cX4_formGroups 39 = .ok (.astore 4, 2) := by decide +kernel
theorem dX4_formGroups_41 : decode cX4_formGroups 41 = .ok (.iconst 0, 1) := by decide +kernel
theorem dX4_formGroups_42 : decode cX4_formGroups 42 = .ok (.istore 5, 2) := by decide +kernel
theorem dX4_formGroups_44 : decode cX4_formGroups 44 = .ok (.aload 4, 2) := by decide +kernel
theorem dX4_formGroups_46 : decode cX4_formGroups 46 = .ok (.getfield 55, 3) := by decide +kernel
theorem dX4_formGroups_49 : decode cX4_formGroups 49 = .ok (.ifCond .eq 60, 3) := by decide +kernel
theorem dX4_formGroups_52 : decode cX4_formGroups 52 = .ok (.iload 5, 2) := by decide +kernel
theorem dX4_formGroups_54 : decode cX4_formGroups 54 = .ok (.aload 4, 2) := by decide +kernel
theorem dX4_formGroups_56 : decode cX4_formGroups 56 = .ok (.getfield 79, 3) := by decide +kernel
theorem dX4_formGroups_59 : decode cX4_formGroups 59 = .ok (.if_icmp .ge 50, 3) := by decide +kernel
theorem dX4_formGroups_62 : decode cX4_formGroups 62 = .ok (.aload 4, 2) := by decide +kernel
theorem dX4_formGroups_64 : decode cX4_formGroups 64 = .ok (.getfield 199, 3) := by decide +kernel
theorem dX4_formGroups_67 : decode cX4_formGroups 67 = .ok (.iload 5, 2) := by decide +kernel
theorem dX4_formGroups_69 : decode cX4_formGroups 69 = .ok (.aaload, 1) := by decide +kernel
theorem dX4_formGroups_70 : decode cX4_formGroups 70 = .ok (.astore 6, 2) := by decide +kernel
theorem dX4_formGroups_72 : decode cX4_formGroups 72 = .ok (.aload 6, 2) := by decide +kernel
theorem dX4_formGroups_74 : decode cX4_formGroups 74 = .ok (.invokevirtual 138, 3) := by decide +kernel
theorem dX4_formGroups_77 : decode cX4_formGroups 77 = .ok (.ifCond .ne 26, 3) := by decide +kernel
theorem dX4_formGroups_80 : decode cX4_formGroups 80 = .ok (.aload_n 0, 1) := by decide +kernel
theorem dX4_formGroups_81 : decode cX4_formGroups 81 = .ok (.aload 6, 2) := by decide +kernel
theorem dX4_formGroups_83 : decode cX4_formGroups 83 = .ok (.getfield 220, 3) := by decide +kernel
theorem dX4_formGroups_86 : decode cX4_formGroups 86 = .ok (.aload 4, 2) := by decide +kernel
theorem dX4_formGroups_88 : decode cX4_formGroups 88 = .ok (.getfield 199, 3) := by decide +kernel
theorem dX4_formGroups_91 : decode cX4_formGroups 91 = .ok (.aload 6, 2) := by decide +kernel
theorem dX4_formGroups_93 : decode cX4_formGroups 93 = .ok (.getfield 223, 3) := by decide +kernel
theorem dX4_formGroups_96 : decode cX4_formGroups 96 = .ok (.aaload, 1) := by decide +kernel
theorem dX4_formGroups_97 : decode cX4_formGroups 97 = .ok (.getfield 220, 3) := by decide +kernel
theorem dX4_formGroups_100 : decode cX4_formGroups 100 = .ok (.invokevirtual 226, 3) := by decide +kernel
theorem dX4_formGroups_103 : decode cX4_formGroups 103 = .ok (.iinc 5 1, 3) := by decide +kernel
theorem dX4_formGroups_106 : decode cX4_formGroups 106 = .ok (.goto (-62), 3) := by decide +kernel
theorem dX4_formGroups_109 : decode cX4_formGroups 109 = .ok (.iinc 3 1, 3) := by decide +kernel
theorem dX4_formGroups_112 : decode cX4_formGroups 112 = .ok (.goto (-81), 3) := by decide +kernel
theorem dX4_formGroups_115 : decode cX4_formGroups 115 = .ok (.return_, 1) := by decide +kernel
theorem dX4_joinGroups_0 : decode cX4_joinGroups 0 = .ok (.aload_n 0, 1) := by decide +kernel
theorem dX4_joinGroups_1 : decode cX4_joinGroups 1 = .ok (.getfield 21, 3) := by decide +kernel
theorem dX4_joinGroups_4 : decode cX4_joinGroups 4 = .ok (.iload_n 1, 1) := by decide +kernel
theorem dX4_joinGroups_5 : decode cX4_joinGroups 5 = .ok (.iaload, 1) := by decide +kernel
theorem dX4_joinGroups_6 : decode cX4_joinGroups 6 = .ok (.aload_n 0, 1) := by decide +kernel
theorem dX4_joinGroups_7 : decode cX4_joinGroups 7 = .ok (.getfield 21, 3) := by decide +kernel
theorem dX4_joinGroups_10 : decode cX4_joinGroups 10 = .ok (.iload_n 2, 1) := by decide +kernel
theorem dX4_joinGroups_11 : decode cX4_joinGroups 11 = .ok (.iaload, 1) := by decide +kernel
theorem dX4_joinGroups_12 : decode cX4_joinGroups 12 = .ok (.invokestatic 158, 3) := by decide +kernel
theorem dX4_joinGroups_15 : decode cX4_joinGroups 15 = .ok (.istore_n 3, 1) := by decide +kernel
theorem dX4_joinGroups_16 : decode cX4_joinGroups 16 = .ok (.aload_n 0, 1) := by decide +kernel
theorem dX4_joinGroups_17 : decode cX4_joinGroups 17 = .ok (.getfield 21, 3) := by decide +kernel
theorem dX4_joinGroups_20 : decode cX4_joinGroups 20 = .ok (.iload_n 1, 1) := by decide +kernel
theorem dX4_joinGroups_21 : decode cX4_joinGroups 21 = .ok (.iaload, 1) := by decide +kernel
theorem dX4_joinGroups_22 : decode cX4_joinGroups 22 = .ok (.aload_n 0, 1) := by decide +kernel
theorem dX4_joinGroups_23 : decode cX4_joinGroups 23 = .ok (.getfield 21, 3) := by decide +kernel
theorem dX4_joinGroups_26 : decode cX4_joinGroups 26 = .ok (.iload_n 2, 1) := by decide +kernel
theorem dX4_joinGroups_27 : decode cX4_joinGroups 27 = .ok (.iaload, 1) := by decide +kernel
theorem dX4_joinGroups_28 : decode cX4_joinGroups 28 = .ok (.invokestatic 164, 3) := by decide +kernel
theorem dX4_joinGroups_31 : decode cX4_joinGroups 31 = .ok (.istore 4, 2) := by decide +kernel
theorem dX4_joinGroups_33 : decode cX4_joinGroups 33 = .ok (.iconst 0, 1) := by decide +kernel
theorem dX4_joinGroups_34 : decode cX4_joinGroups 34 = .ok (.istore 5, 2) := by decide +kernel
theorem dX4_joinGroups_36 : decode cX4_joinGroups 36 = .ok (.iload 5, 2) := by decide +kernel
theorem dX4_joinGroups_38 : decode cX4_joinGroups 38 = .ok (.bipush 8, 2) := by decide +kernel
theorem dX4_joinGroups_40 : decode cX4_joinGroups 40 = .ok (.if_icmp .ge 29, 3) := by decide +kernel
theorem dX4_joinGroups_43 : decode cX4_joinGroups 43 = .ok (.aload_n 0, 1) := by decide +kernel
theorem dX4_joinGroups_44 : decode cX4_joinGroups 44 = .ok (.getfield 21, 3) := by decide +kernel
theorem dX4_joinGroups_47 : decode cX4_joinGroups 47 = .ok (.iload 5, 2) := by decide +kernel
theorem dX4_joinGroups_49 : decode cX4_joinGroups 49 = .ok (.iaload, 1) := by decide +kernel
theorem dX4_joinGroups_50 : decode cX4_joinGroups 50 = .ok (.iload 4, 2) := by decide +kernel
theorem dX4_joinGroups_52 : decode cX4_joinGroups 52 = .ok (.if_icmp .ne 11, 3) := by decide +kernel
theorem dX4_joinGroups_55 : decode cX4_joinGroups 55 = .ok (.aload_n 0, 1) := by decide +kernel
theorem dX4_joinGroups_56 : decode cX4_joinGroups 56 = .ok (.getfield 21, 3) := by decide +kernel
theorem dX4_joinGroups_59 : decode cX4_joinGroups 59 = .ok (.iload 5, 2) := by decide +kernel
theorem dX4_joinGroups_61 : decode cX4_joinGroups 61 = .ok (.iload_n 3, 1) := by decide +kernel
theorem dX4_joinGroups_62 : decode cX4_joinGroups 62 = .ok (.iastore, 1) := by decide +kernel
theorem dX4_joinGroups_63 : decode cX4_joinGroups 63 = .ok (.iinc 5 1, 3) := by decide +kernel
theorem dX4_joinGroups_66 : decode cX4_joinGroups 66 = .ok (.goto (-30), 3) := by decide +kernel
theorem dX4_joinGroups_69 : decode cX4_joinGroups 69 = .ok (.return_, 1) := by decide +kernel
theorem dX4_findLongest_0 : decode cX4_findLongest 0 = .ok (.iconst 0, 1) := by decide +kernel
theorem dX4_findLongest_1 : decode cX4_findLongest 1 = .ok (.istore_n 1, 1) := by decide +kernel
theorem dX4_findLongest_2 : decode cX4_findLongest 2 = .ok (.iload_n 1, 1) := by decide +kernel
theorem dX4_findLongest_3 : decode cX4_findLongest 3 = .ok (.iconst 4, 1) := by decide +kernel
theorem dX4_findLongest_4 : decode cX4_findLongest 4 = .ok (.if_icmp .ge 19, 3) := by decide +kernel
theorem dX4_findLongest_7 : decode cX4_findLongest 7 = .ok (.aload_n 0, 1) := by decide +kernel
theorem dX4_findLongest_8 : decode cX4_findLongest 8 = .ok (.getfield 27, 3) := by decide +kernel
theorem dX4_findLongest_11 : decode cX4_findLongest 11 = .ok (.iload_n 1, 1) := by decide +kernel
theorem dX4_findLongest_12 : decode cX4_findLongest 12 = .ok (.aaload, 1) := by decide +kernel
theorem dX4_findLongest_13 : decode cX4_findLongest 13 = .ok (.iconst 0, 1) := by decide +kernel
theorem dX4_findLongest_14 : decode cX4_findLongest 14 = .ok (.invokestatic 38, 3) := by decide +kernel
theorem dX4_findLongest_17 : decode cX4_findLongest 17 = .ok (.iinc 1 1, 3) := by decide +kernel
theorem dX4_findLongest_20 : decode cX4_findLongest 20 = .ok (.goto (-18), 3) := by decide +kernel
theorem dX4_findLongest_23 : decode cX4_findLongest 23 = .ok (.aload_n 0, 1) := by decide +kernel
theorem dX4_findLongest_24 : decode cX4_findLongest 24 = .ok (.getfield 11, 3) := by decide +kernel
theorem dX4_findLongest_27 : decode cX4_findLongest 27 = .ok (.astore_n 1, 1) := by decide +kernel
theorem dX4_findLongest_28 : decode cX4_findLongest 28 = .ok (.aload_n 1, 1) := by decide +kernel
theorem dX4_findLongest_29 : decode cX4_findLongest 29 = .ok (.arraylength, 1) := by decide +kernel
theorem dX4_findLongest_30 : decode cX4_findLongest 30 = .ok (.istore_n 2, 1) := by decide +kernel
theorem dX4_findLongest_31 : decode cX4_findLongest 31 = .ok (.iconst 0, 1) := by decide +kernel
theorem dX4_findLongest_32 : decode cX4_findLongest 32 = .ok (.istore_n 3, 1) := by decide +kernel
theorem dX4_findLongest_33 : decode cX4_findLongest 33 = .ok (.iload_n 3, 1) := by decide +kernel
theorem dX4_findLongest_34 : decode cX4_findLongest 34 = .ok (.iload_n 2, 1) := by decide +kernel
theorem dX4_findLongest_35 : decode cX4_findLongest 35 = .ok (.if_icmp .ge 105, 3) := by decide +kernel
theorem dX4_findLongest_38 : decode cX4_findLongest 38 = .ok (.aload_n 1, 1) := by decide +kernel
theorem dX4_findLongest_39 : decode cX4_findLongest 39 = .ok (.iload_n 3, 1) := by decide +kernel
theorem dX4_findLongest_40 : decode cX4_findLongest 40 = .ok (.aaload, 1) := by decide +kernel
theorem dX4_findLongest_41 : decode cX4_findLongest 41 = .ok (.astore 4, 2) := by decide +kernel
theorem dX4_findLongest_43 : decode cX4_findLongest 43 = .ok (.iconst 0, 1) := by decide +kernel
theorem dX4_findLongest_44 : decode cX4_findLongest 44 = .ok (.istore 5, 2) := by decide +kernel
theorem dX4_findLongest_46 : decode cX4_findLongest 46 = .ok (.aload 4, 2) := by decide +kernel
theorem dX4_findLongest_48 : decode cX4_findLongest 48 = .ok (.getfield 55, 3) := by decide +kernel
theorem dX4_findLongest_51 : decode cX4_findLongest 51 = .ok (.ifCond .eq 83, 3) := by decide +kernel
theorem dX4_findLongest_54 : decode cX4_findLongest 54 = .ok (.iload 5, 2) := by decide +kernel
theorem dX4_findLongest_56 : decode cX4_findLongest 56 = .ok (.aload 4, 2) := by decide +kernel
theorem dX4_findLongest_58 : decode cX4_findLongest 58 = .ok (.getfield 79, 3) := by decide +kernel
theorem dX4_findLongest_61 : decode cX4_findLongest 61 = .ok (.if_icmp .ge 73, 3) := by decide +kernel
theorem dX4_findLongest_64 : decode cX4_findLongest 64 = .ok (.aload 4, 2) := by decide +kernel
theorem dX4_findLongest_66 : decode cX4_findLongest 66 = .ok (.getfield 199, 3) := by decide +kernel
theorem dX4_findLongest_69 : decode cX4_findLongest 69 = .ok (.iload 5, 2) := by decide +kernel
theorem dX4_findLongest_71 : decode cX4_findLongest 71 = .ok (.aaload, 1) := by decide +kernel
theorem dX4_findLongest_72 : decode cX4_findLongest 72 = .ok (.astore 6, 2) := by decide +kernel
theorem dX4_findLongest_74 : decode cX4_findLongest 74 = .ok (.aload_n 0, 1) := by decide +kernel
theorem dX4_findLongest_75 : decode cX4_findLongest 75 = .ok (.getfield 21, 3) := by decide +kernel
theorem dX4_findLongest_78 : decode cX4_findLongest 78 = .ok (.aload 6, 2) := by decide +kernel
theorem dX4_findLongest_80 : decode cX4_findLongest 80 = .ok (.getfield 220, 3) := by decide +kernel
theorem dX4_findLongest_83 : decode cX4_findLongest 83 = .ok (.iaload, 1) := by decide +kernel
theorem dX4_findLongest_84 : decode cX4_findLongest 84 = .ok (.istore 7, 2) := by decide +kernel
theorem dX4_findLongest_86 : decode cX4_findLongest 86 = .ok (.aload 6, 2) := by decide +kernel
theorem dX4_findLongest_88 : decode cX4_findLongest 88 = .ok (.invokevirtual 138, 3) := by decide +kernel
theorem dX4_findLongest_91 : decode cX4_findLongest 91 = .ok (.ifCond .eq 37, 3) := by decide +kernel
theorem dX4_findLongest_94 : decode cX4_findLongest 94 = .ok (.aload_n 0, 1) := by decide +kernel
theorem dX4_findLongest_95 : decode cX4_findLongest 95 = .ok (.getfield 27, 3) := by decide +kernel
theorem dX4_findLongest_98 : decode cX4_findLongest 98 = .ok (.aload 4, 2) := by decide +kernel
theorem dX4_findLongest_100 : decode cX4_findLongest 100 = .ok (.getfield 230, 3) := by decide +kernel
theorem dX4_findLongest_103 : decode cX4_findLongest 103 = .ok (.aaload, 1) := by decide +kernel
theorem dX4_findLongest_104 : decode cX4_findLongest 104 = .ok (.iload 7, 2) := by decide +kernel
theorem dX4_findLongest_106 : decode cX4_findLongest 106 = .ok (.aload_n 0, 1) := by decide +kernel
theorem dX4_findLongest_107 : decode cX4_findLongest 107 = .ok (.getfield 27, 3) := by decide +kernel
theorem dX4_findLongest_110 : decode cX4_findLongest 110 = .ok (.aload 4, 2) := by decide +kernel
theorem dX4_findLongest_112 : decode cX4_findLongest 112 = .ok (.getfield 230, 3) := by decide +kernel
theorem dX4_findLongest_115 : decode cX4_findLongest 115 = .ok (.aaload, 1) := by decide +kernel
theorem dX4_findLongest_116 : decode cX4_findLongest 116 = .ok (.iload 7, 2) := by decide +kernel
theorem dX4_findLongest_118 : decode cX4_findLongest 118 = .ok (.iaload, 1) := by decide +kernel
theorem dX4_findLongest_119 : decode cX4_findLongest 119 = .ok (.aload 6, 2) := by decide +kernel
theorem dX4_findLongest_121 : decode cX4_findLongest 121 = .ok (.getfield 141, 3) := by decide +kernel
theorem dX4_findLongest_124 : decode cX4_findLongest 124 = .ok (.invokestatic 164, 3) := by decide +kernel
theorem dX4_findLongest_127 : decode cX4_findLongest 127 = .ok (.iastore, 1) := by decide +kernel
theorem dX4_findLongest_128 : decode cX4_findLongest 128 = .ok (.iinc 5 1, 3) := by decide +kernel
theorem dX4_findLongest_131 : decode cX4_findLongest 131 = .ok (.goto (-85), 3) := by decide +kernel
theorem dX4_findLongest_134 : decode cX4_findLongest 134 = .ok (.iinc 3 1, 3) := by decide +kernel
theorem dX4_findLongest_137 : decode cX4_findLongest 137 = .ok (.goto (-104), 3) := by decide +kernel
theorem dX4_findLongest_140 : decode cX4_findLongest 140 = .ok (.return_, 1) := by decide +kernel
theorem dX4_inflate_0 : decode cX4_inflate 0 = .ok (.aload_n 1, 1) := by decide +kernel
theorem dX4_inflate_1 : decode cX4_inflate 1 = .ok (.aload_n 1, 1) := by decide +kernel
theorem dX4_inflate_2 : decode cX4_inflate 2 = .ok (.getfield 233, 3) := by decide +kernel
theorem dX4_inflate_5 : decode cX4_inflate 5 = .ok (.putfield 99, 3) := by decide +kernel
theorem dX4_inflate_8 : decode cX4_inflate 8 = .ok (.iconst 0, 1) := by decide +kernel
theorem dX4_inflate_9 : decode cX4_inflate 9 = .ok (.istore_n 2, 1) := by decide +kernel
theorem dX4_inflate_10 : decode cX4_inflate 10 = .ok (.iload_n 2, 1) := by decide +kernel
theorem dX4_inflate_11 : decode cX4_inflate 11 = .ok (.aload_n 1, 1) := by decide +kernel
theorem dX4_inflate_12 : decode cX4_inflate 12 = .ok (.getfield 79, 3) := by decide +kernel
theorem dX4_inflate_15 : decode cX4_inflate 15 = .ok (.if_icmp .ge 62, 3) := by decide +kernel
theorem dX4_inflate_18 : decode cX4_inflate 18 = .ok (.aload_n 1, 1) := by decide +kernel
theorem dX4_inflate_19 : decode cX4_inflate 19 = .ok (.getfield 199, 3) := by decide +kernel
theorem dX4_inflate_22 : decode cX4_inflate 22 = .ok (.iload_n 2, 1) := by decide +kernel
theorem dX4_inflate_23 : decode cX4_inflate 23 = .ok (.aaload, 1) := by decide +kernel
theorem dX4_inflate_24 : decode cX4_inflate 24 = .ok (.astore_n 3, 1) := by decide +kernel
theorem dX4_inflate_25 : decode cX4_inflate 25 = .ok (.aload_n 3, 1) := by decide +kernel
theorem dX4_inflate_26 : decode cX4_inflate 26 = .ok (.invokevirtual 138, 3) := by decide +kernel
theorem dX4_inflate_29 : decode cX4_inflate 29 = .ok (.ifCond .eq 42, 3) := by decide +kernel
theorem dX4_inflate_32 : decode cX4_inflate 32 = .ok (.aload_n 3, 1) := by decide +kernel
theorem dX4_inflate_33 : decode cX4_inflate 33 = .ok (.aload_n 0, 1) := by decide +kernel
theorem dX4_inflate_34 : decode cX4_inflate 34 = .ok (.aload_n 1, 1) := by decide +kernel
theorem dX4_inflate_35 : decode cX4_inflate 35 = .ok (.getfield 230, 3) := by decide +kernel
theorem dX4_inflate_38 : decode cX4_inflate 38 = .ok (.aload_n 0, 1) := by decide +kernel
theorem dX4_inflate_39 : decode cX4_inflate 39 = .ok (.getfield 21, 3) := by decide +kernel
theorem dX4_inflate_42 : decode cX4_inflate 42 = .ok (.aload_n 3, 1) := by decide +kernel
theorem dX4_inflate_43 : decode cX4_inflate 43 = .ok (.getfield 220, 3) := by decide +kernel
theorem dX4_inflate_46 : decode cX4_inflate 46 = .ok (.iaload, 1) := by decide +kernel
theorem dX4_inflate_47 : decode cX4_inflate 47 = .ok (.invokevirtual 236, 3) := by decide +kernel
theorem dX4_inflate_50 : decode cX4_inflate 50 = .ok (.putfield 94, 3) := by decide +kernel
theorem dX4_inflate_53 : decode cX4_inflate 53 = .ok (.aload_n 1, 1) := by decide +kernel
theorem dX4_inflate_54 : decode cX4_inflate 54 = .ok (.dup, 1) := by decide +kernel
theorem dX4_inflate_55 : decode cX4_inflate 55 = .ok (.getfield 99, 3) := by decide +kernel
theorem dX4_inflate_58 : decode cX4_inflate 58 = .ok (.aload_n 3, 1) := by decide +kernel
theorem dX4_inflate_59 : decode cX4_inflate 59 = .ok (.getfield 141, 3) := by decide +kernel
theorem dX4_inflate_62 : decode cX4_inflate 62 = .ok (.aload_n 3, 1) := by decide +kernel
theorem dX4_inflate_63 : decode cX4_inflate 63 = .ok (.getfield 94, 3) := by decide +kernel
theorem dX4_inflate_66 : decode cX4_inflate 66 = .ok (.iadd, 1) := by decide +kernel
theorem dX4_inflate_67 : decode cX4_inflate 67 = .ok (.iadd, 1) := by decide +kernel
theorem dX4_inflate_68 : decode cX4_inflate 68 = .ok (.putfield 99, 3) := by decide +kernel
theorem dX4_inflate_71 : decode cX4_inflate 71 = .ok (.iinc 2 1, 3) := by decide +kernel
theorem dX4_inflate_74 : decode cX4_inflate 74 = .ok (.goto (-64), 3) := by decide +kernel
theorem dX4_inflate_77 : decode cX4_inflate 77 = .ok (.return_, 1) := by decide +kernel
theorem dX4_longestElsewhere_0 : decode cX4_longestElsewhere 0 = .ok (.iconst 0, 1) := by decide +kernel
theorem dX4_longestElsewhere_1 : decode cX4_longestElsewhere 1 = .ok (.istore_n 3, 1) := by decide +kernel
theorem dX4_longestElsewhere_2 : decode cX4_longestElsewhere 2 = .ok (.iconst 0, 1) := by decide +kernel
theorem dX4_longestElsewhere_3 : decode cX4_longestElsewhere 3 = .ok (.istore 4, 2) := by decide +kernel
theorem dX4_longestElsewhere_5 : decode cX4_longestElsewhere 5 = .ok (.iload 4, 2) := by decide +kernel
theorem dX4_longestElsewhere_7 : decode cX4_longestElsewhere 7 = .ok (.iconst 4, 1) := by decide +kernel
theorem dX4_longestElsewhere_8 : decode cX4_longestElsewhere 8 = .ok (.if_icmp .ge 27, 3) := by decide +kernel
theorem dX4_longestElsewhere_11 : decode cX4_longestElsewhere 11 = .ok (.iload 4, 2) := by decide +kernel
theorem dX4_longestElsewhere_13 : decode cX4_longestElsewhere 13 = .ok (.iload_n 1, 1) := by decide +kernel
theorem dX4_longestElsewhere_14 : decode cX4_longestElsewhere 14 = .ok (.if_icmp .eq 15, 3) := by decide +kernel
theorem dX4_longestElsewhere_17 : decode cX4_longestElsewhere 17 = .ok (.iload_n 3, 1) := by decide +kernel
theorem dX4_longestElsewhere_18 : decode cX4_longestElsewhere 18 = .ok (.aload_n 0, 1) := by decide +kernel
theorem dX4_longestElsewhere_19 : decode cX4_longestElsewhere 19 = .ok (.getfield 27, 3) := by decide +kernel
theorem dX4_longestElsewhere_22 : decode cX4_longestElsewhere 22 = .ok (.iload 4, 2) := by decide +kernel
theorem dX4_longestElsewhere_24 : decode cX4_longestElsewhere 24 = .ok (.aaload, 1) := by decide +kernel
theorem dX4_longestElsewhere_25 : decode cX4_longestElsewhere 25 = .ok (.iload_n 2, 1) := by decide +kernel
theorem dX4_longestElsewhere_26 : decode cX4_longestElsewhere 26 = .ok (.iaload, 1) := by decide +kernel
theorem dX4_longestElsewhere_27 : decode cX4_longestElsewhere 27 = .ok (.iadd, 1) := by decide +kernel
theorem dX4_longestElsewhere_28 : decode cX4_longestElsewhere 28 = .ok (.istore_n 3, 1) := by decide +kernel
theorem dX4_longestElsewhere_29 : decode cX4_longestElsewhere 29 = .ok (.iinc 4 1, 3) := by decide +kernel
theorem dX4_longestElsewhere_32 : decode cX4_longestElsewhere 32 = .ok (.goto (-27), 3) := by decide +kernel
theorem dX4_longestElsewhere_35 : decode cX4_longestElsewhere 35 = .ok (.iload_n 3, 1) := by decide +kernel
theorem dX4_longestElsewhere_36 : decode cX4_longestElsewhere 36 = .ok (.ireturn, 1) := by decide +kernel
theorem dX4_blockingOf_0 : decode cX4_blockingOf 0 = .ok (.iconst 0, 1) := by decide +kernel
theorem dX4_blockingOf_1 : decode cX4_blockingOf 1 = .ok (.istore_n 2, 1) := by decide +kernel
theorem dX4_blockingOf_2 : decode cX4_blockingOf 2 = .ok (.aload_n 0, 1) := by decide +kernel
theorem dX4_blockingOf_3 : decode cX4_blockingOf 3 = .ok (.getfield 11, 3) := by decide +kernel
theorem dX4_blockingOf_6 : decode cX4_blockingOf 6 = .ok (.astore_n 3, 1) := by decide +kernel
theorem dX4_blockingOf_7 : decode cX4_blockingOf 7 = .ok (.aload_n 3, 1) := by decide +kernel
theorem dX4_blockingOf_8 : decode cX4_blockingOf 8 = .ok (.arraylength, 1) := by decide +kernel
theorem dX4_blockingOf_9 : decode cX4_blockingOf 9 = .ok (.istore 4, 2) := by decide +kernel
theorem dX4_blockingOf_11 : decode cX4_blockingOf 11 = .ok (.iconst 0, 1) := by decide +kernel
theorem dX4_blockingOf_12 : decode cX4_blockingOf 12 = .ok (.istore 5, 2) := by decide +kernel
theorem dX4_blockingOf_14 : decode cX4_blockingOf 14 = .ok (.iload 5, 2) := by decide +kernel
theorem dX4_blockingOf_16 : decode cX4_blockingOf 16 = .ok (.iload 4, 2) := by decide +kernel
theorem dX4_blockingOf_18 : decode cX4_blockingOf 18 = .ok (.if_icmp .ge 51, 3) := by decide +kernel
theorem dX4_blockingOf_21 : decode cX4_blockingOf 21 = .ok (.aload_n 3, 1) := by decide +kernel
theorem dX4_blockingOf_22 : decode cX4_blockingOf 22 = .ok (.iload 5, 2) := by decide +kernel
theorem dX4_blockingOf_24 : decode cX4_blockingOf 24 = .ok (.aaload, 1) := by decide +kernel
theorem dX4_blockingOf_25 : decode cX4_blockingOf 25 = .ok (.astore 6, 2) := by decide +kernel
theorem dX4_blockingOf_27 : decode cX4_blockingOf 27 = .ok (.aload 6, 2) := by decide +kernel
theorem dX4_blockingOf_29 : decode cX4_blockingOf 29 = .ok (.aload_n 1, 1) := by decide +kernel
theorem dX4_blockingOf_30 : decode cX4_blockingOf 30 = .ok (.getfield 230, 3) := by decide +kernel
theorem dX4_blockingOf_33 : decode cX4_blockingOf 33 = .ok (.invokevirtual 203, 3) := by decide +kernel
theorem dX4_blockingOf_36 : decode cX4_blockingOf 36 = .ok (.ifCond .eq 27, 3) := by decide +kernel
theorem dX4_blockingOf_39 : decode cX4_blockingOf 39 = .ok (.aload 6, 2) := by decide +kernel
theorem dX4_blockingOf_41 : decode cX4_blockingOf 41 = .ok (.getfield 207, 3) := by decide +kernel
theorem dX4_blockingOf_44 : decode cX4_blockingOf 44 = .ok (.aload_n 1, 1) := by decide +kernel
theorem dX4_blockingOf_45 : decode cX4_blockingOf 45 = .ok (.getfield 207, 3) := by decide +kernel
theorem dX4_blockingOf_48 : decode cX4_blockingOf 48 = .ok (.if_icmp .ge 15, 3) := by decide +kernel
theorem dX4_blockingOf_51 : decode cX4_blockingOf 51 = .ok (.iload_n 2, 1) := by decide +kernel
theorem dX4_blockingOf_52 : decode cX4_blockingOf 52 = .ok (.aload 6, 2) := by decide +kernel
theorem dX4_blockingOf_54 : decode cX4_blockingOf 54 = .ok (.invokevirtual 239, 3) := by decide +kernel
theorem dX4_blockingOf_57 : decode cX4_blockingOf 57 = .ok (.iconst 1, 1) := by decide +kernel
theorem dX4_blockingOf_58 : decode cX4_blockingOf 58 = .ok (.isub, 1) := by decide +kernel
theorem dX4_blockingOf_59 : decode cX4_blockingOf 59 = .ok (.invokestatic 164, 3) := by decide +kernel
theorem dX4_blockingOf_62 : decode cX4_blockingOf 62 = .ok (.istore_n 2, 1) := by decide +kernel
theorem dX4_blockingOf_63 : decode cX4_blockingOf 63 = .ok (.iinc 5 1, 3) := by decide +kernel
theorem dX4_blockingOf_66 : decode cX4_blockingOf 66 = .ok (.goto (-52), 3) := by decide +kernel
theorem dX4_blockingOf_69 : decode cX4_blockingOf 69 = .ok (.iload_n 2, 1) := by decide +kernel
theorem dX4_blockingOf_70 : decode cX4_blockingOf 70 = .ok (.ireturn, 1) := by decide +kernel
theorem dX4_responseOf_0 : decode cX4_responseOf 0 = .ok (.aload_n 1, 1) := by decide +kernel
theorem dX4_responseOf_1 : decode cX4_responseOf 1 = .ok (.getfield 99, 3) := by decide +kernel
theorem dX4_responseOf_4 : decode cX4_responseOf 4 = .ok (.aload_n 0, 1) := by decide +kernel
theorem dX4_responseOf_5 : decode cX4_responseOf 5 = .ok (.aload_n 1, 1) := by decide +kernel
theorem dX4_responseOf_6 : decode cX4_responseOf 6 = .ok (.invokevirtual 102, 3) := by decide +kernel
theorem dX4_responseOf_9 : decode cX4_responseOf 9 = .ok (.iadd, 1) := by decide +kernel
theorem dX4_responseOf_10 : decode cX4_responseOf 10 = .ok (.istore_n 2, 1) := by decide +kernel
theorem dX4_responseOf_11 : decode cX4_responseOf 11 = .ok (.iload_n 2, 1) := by decide +kernel
theorem dX4_responseOf_12 : decode cX4_responseOf 12 = .ok (.istore_n 3, 1) := by decide +kernel
theorem dX4_responseOf_13 : decode cX4_responseOf 13 = .ok (.iconst 0, 1) := by decide +kernel
theorem dX4_responseOf_14 : decode cX4_responseOf 14 = .ok (.istore 4, 2) := by decide +kernel
theorem dX4_responseOf_16 : decode cX4_responseOf 16 = .ok (.iload 4, 2) := by decide +kernel
theorem dX4_responseOf_18 : decode cX4_responseOf 18 = .ok (.sipush 10000, 3) := by decide +kernel
theorem dX4_responseOf_21 : decode cX4_responseOf 21 = .ok (.if_icmp .gt 38, 3) := by decide +kernel
theorem dX4_responseOf_24 : decode cX4_responseOf 24 = .ok (.iload_n 3, 1) := by decide +kernel
theorem dX4_responseOf_25 : decode cX4_responseOf 25 = .ok (.aload_n 1, 1) := by decide +kernel
theorem dX4_responseOf_26 : decode cX4_responseOf 26 = .ok (.getfield 196, 3) := by decide +kernel
theorem dX4_responseOf_29 : decode cX4_responseOf 29 = .ok (.if_icmp .gt 30, 3) := by decide +kernel
theorem dX4_responseOf_32 : decode cX4_responseOf 32 = .ok (.iload_n 2, 1) := by decide +kernel
theorem dX4_responseOf_33 : decode cX4_responseOf 33 = .ok (.aload_n 0, 1) := by decide +kernel
theorem dX4_responseOf_34 : decode cX4_responseOf 34 = .ok (.aload_n 1, 1) := by decide +kernel
theorem dX4_responseOf_35 : decode cX4_responseOf 35 = .ok (.iload_n 3, 1) := by decide +kernel
theorem dX4_responseOf_36 : decode cX4_responseOf 36 = .ok (.invokevirtual 242, 3) := by decide +kernel
theorem dX4_responseOf_39 : decode cX4_responseOf 39 = .ok (.iadd, 1) := by decide +kernel
theorem dX4_responseOf_40 : decode cX4_responseOf 40 = .ok (.istore 5, 2) := by decide +kernel
theorem dX4_responseOf_42 : decode cX4_responseOf 42 = .ok (.iload 5, 2) := by decide +kernel
theorem dX4_responseOf_44 : decode cX4_responseOf 44 = .ok (.iload_n 3, 1) := by decide +kernel
theorem dX4_responseOf_45 : decode cX4_responseOf 45 = .ok (.if_icmp .ne 5, 3) := by decide +kernel
theorem dX4_responseOf_48 : decode cX4_responseOf 48 = .ok (.iload_n 3, 1) := by decide +kernel
theorem dX4_responseOf_49 : decode cX4_responseOf 49 = .ok (.ireturn, 1) := by decide +kernel
theorem dX4_responseOf_50 : decode cX4_responseOf 50 = .ok (.iload 5, 2) := by decide +kernel
theorem dX4_responseOf_52 : decode cX4_responseOf 52 = .ok (.istore_n 3, 1) := by decide +kernel
theorem dX4_responseOf_53 : decode cX4_responseOf 53 = .ok (.iinc 4 1, 3) := by decide +kernel
theorem dX4_responseOf_56 : decode cX4_responseOf 56 = .ok (.goto (-40), 3) := by decide +kernel
theorem dX4_responseOf_59 : decode cX4_responseOf 59 = .ok (.iconst (-1), 1) := by decide +kernel
theorem dX4_responseOf_60 : decode cX4_responseOf 60 = .ok (.ireturn, 1) := by decide +kernel
theorem dX4_demandAbove_0 : decode cX4_demandAbove 0 = .ok (.iconst 0, 1) := by decide +kernel
theorem dX4_demandAbove_1 : decode cX4_demandAbove 1 = .ok (.istore_n 3, 1) := by decide +kernel
theorem dX4_demandAbove_2 : decode cX4_demandAbove 2 = .ok (.aload_n 0, 1) := by decide +kernel
theorem dX4_demandAbove_3 : decode cX4_demandAbove 3 = .ok (.getfield 11, 3) := by decide +kernel
theorem dX4_demandAbove_6 : decode cX4_demandAbove 6 = .ok (.astore 4, 2) := by decide +kernel
theorem dX4_demandAbove_8 : decode cX4_demandAbove 8 = .ok (.aload 4, 2) := by decide +kernel
theorem dX4_demandAbove_10 : decode cX4_demandAbove 10 = .ok (.arraylength, 1) := by decide +kernel
theorem dX4_demandAbove_11 : decode cX4_demandAbove 11 = .ok (.istore 5, 2) := by decide +kernel
theorem dX4_demandAbove_13 : decode cX4_demandAbove 13 = .ok (.iconst 0, 1) := by decide +kernel
theorem dX4_demandAbove_14 : decode cX4_demandAbove 14 = .ok (.istore 6, 2) := by decide +kernel
theorem dX4_demandAbove_16 : decode cX4_demandAbove 16 = .ok (.iload 6, 2) := by decide +kernel
theorem dX4_demandAbove_18 : decode cX4_demandAbove 18 = .ok (.iload 5, 2) := by decide +kernel
theorem dX4_demandAbove_20 : decode cX4_demandAbove 20 = .ok (.if_icmp .ge 55, 3) := by decide +kernel
theorem dX4_demandAbove_23 : decode cX4_demandAbove 23 = .ok (.aload 4, 2) := by decide +kernel
theorem dX4_demandAbove_25 : decode cX4_demandAbove 25 = .ok (.iload 6, 2) := by decide +kernel
theorem dX4_demandAbove_27 : decode cX4_demandAbove 27 = .ok (.aaload, 1) := by decide +kernel
theorem dX4_demandAbove_28 : decode cX4_demandAbove 28 = .ok (.astore 7, 2) := by decide +kernel
theorem dX4_demandAbove_30 : decode cX4_demandAbove 30 = .ok (.aload 7, 2) := by decide +kernel
theorem dX4_demandAbove_32 : decode cX4_demandAbove 32 = .ok (.aload_n 1, 1) := by decide +kernel
theorem dX4_demandAbove_33 : decode cX4_demandAbove 33 = .ok (.getfield 230, 3) := by decide +kernel
theorem dX4_demandAbove_36 : decode cX4_demandAbove 36 = .ok (.invokevirtual 203, 3) := by decide +kernel
theorem dX4_demandAbove_39 : decode cX4_demandAbove 39 = .ok (.ifCond .eq 30, 3) := by decide +kernel
theorem dX4_demandAbove_42 : decode cX4_demandAbove 42 = .ok (.aload 7, 2) := by decide +kernel
theorem dX4_demandAbove_44 : decode cX4_demandAbove 44 = .ok (.getfield 207, 3) := by decide +kernel
theorem dX4_demandAbove_47 : decode cX4_demandAbove 47 = .ok (.aload_n 1, 1) := by decide +kernel
theorem dX4_demandAbove_48 : decode cX4_demandAbove 48 = .ok (.getfield 207, 3) := by decide +kernel
theorem dX4_demandAbove_51 : decode cX4_demandAbove 51 = .ok (.if_icmp .le 18, 3) := by decide +kernel
theorem dX4_demandAbove_54 : decode cX4_demandAbove 54 = .ok (.iload_n 3, 1) := by decide +kernel
theorem dX4_demandAbove_55 : decode cX4_demandAbove 55 = .ok (.aload 7, 2) := by decide +kernel
theorem dX4_demandAbove_57 : decode cX4_demandAbove 57 = .ok (.getfield 99, 3) := by decide +kernel
theorem dX4_demandAbove_60 : decode cX4_demandAbove 60 = .ok (.aload 7, 2) := by decide +kernel
theorem dX4_demandAbove_62 : decode cX4_demandAbove 62 = .ok (.iload_n 2, 1) := by decide +kernel
theorem dX4_demandAbove_63 : decode cX4_demandAbove 63 = .ok (.invokevirtual 246, 3) := by decide +kernel
theorem dX4_demandAbove_66 : decode cX4_demandAbove 66 = .ok (.imul, 1) := by decide +kernel
theorem dX4_demandAbove_67 : decode cX4_demandAbove 67 = .ok (.iadd, 1) := by decide +kernel
theorem dX4_demandAbove_68 : decode cX4_demandAbove 68 = .ok (.istore_n 3, 1) := by decide +kernel
theorem dX4_demandAbove_69 : decode cX4_demandAbove 69 = .ok (.iinc 6 1, 3) := by decide +kernel
theorem dX4_demandAbove_72 : decode cX4_demandAbove 72 = .ok (.goto (-56), 3) := by decide +kernel
theorem dX4_demandAbove_75 : decode cX4_demandAbove 75 = .ok (.iload_n 3, 1) := by decide +kernel
theorem dX4_demandAbove_76 : decode cX4_demandAbove 76 = .ok (.ireturn, 1) := by decide +kernel
theorem dX4_takeJobs_0 : decode cX4_takeJobs 0 = .ok (.iconst 0, 1) := by decide +kernel
theorem dX4_takeJobs_1 : decode cX4_takeJobs 1 = .ok (.istore_n 1, 1) := by decide +kernel
theorem dX4_takeJobs_2 : decode cX4_takeJobs 2 = .ok (.iload_n 1, 1) := by decide +kernel
theorem dX4_takeJobs_3 : decode cX4_takeJobs 3 = .ok (.iconst 4, 1) := by decide +kernel
theorem dX4_takeJobs_4 : decode cX4_takeJobs 4 = .ok (.if_icmp .ge 33, 3) := by decide +kernel
theorem dX4_takeJobs_7 : decode cX4_takeJobs 7 = .ok (.aload_n 0, 1) := by decide +kernel
theorem dX4_takeJobs_8 : decode cX4_takeJobs 8 = .ok (.iload_n 1, 1) := by decide +kernel
theorem dX4_takeJobs_9 : decode cX4_takeJobs 9 = .ok (.invokevirtual 249, 3) := by decide +kernel
theorem dX4_takeJobs_12 : decode cX4_takeJobs 12 = .ok (.ifCond .ne 19, 3) := by decide +kernel
theorem dX4_takeJobs_15 : decode cX4_takeJobs 15 = .ok (.aload_n 0, 1) := by decide +kernel
theorem dX4_takeJobs_16 : decode cX4_takeJobs 16 = .ok (.getfield 30, 3) := by decide +kernel
theorem dX4_takeJobs_19 : decode cX4_takeJobs 19 = .ok (.iload_n 1, 1) := by decide +kernel
theorem dX4_takeJobs_20 : decode cX4_takeJobs 20 = .ok (.aload_n 0, 1) := by decide +kernel
theorem dX4_takeJobs_21 : decode cX4_takeJobs 21 = .ok (.iload_n 1, 1) := by decide +kernel
theorem dX4_takeJobs_22 : decode cX4_takeJobs 22 = .ok (.invokevirtual 252, 3) := by decide +kernel
theorem dX4_takeJobs_25 : decode cX4_takeJobs 25 = .ok (.iastore, 1) := by decide +kernel
theorem dX4_takeJobs_26 : decode cX4_takeJobs 26 = .ok (.aload_n 0, 1) := by decide +kernel
theorem dX4_takeJobs_27 : decode cX4_takeJobs 27 = .ok (.iload_n 1, 1) := by decide +kernel
theorem dX4_takeJobs_28 : decode cX4_takeJobs 28 = .ok (.invokevirtual 255, 3) := by decide +kernel
theorem dX4_takeJobs_31 : decode cX4_takeJobs 31 = .ok (.iinc 1 1, 3) := by decide +kernel
theorem dX4_takeJobs_34 : decode cX4_takeJobs 34 = .ok (.goto (-32), 3) := by decide +kernel
theorem dX4_takeJobs_37 : decode cX4_takeJobs 37 = .ok (.return_, 1) := by decide +kernel
theorem dX4_isHeldFast_0 : decode cX4_isHeldFast 0 = .ok (.aload_n 0, 1) := by decide +kernel
theorem dX4_isHeldFast_1 : decode cX4_isHeldFast 1 = .ok (.getfield 30, 3) := by decide +kernel
theorem dX4_isHeldFast_4 : decode cX4_isHeldFast 4 = .ok (.iload_n 1, 1) := by decide +kernel
theorem dX4_isHeldFast_5 : decode cX4_isHeldFast 5 = .ok (.iaload, 1) := by decide +kernel
theorem dX4_isHeldFast_6 : decode cX4_isHeldFast 6 = .ok (.istore_n 2, 1) := by decide +kernel
theorem dX4_isHeldFast_7 : decode cX4_isHeldFast 7 = .ok (.iload_n 2, 1) := by decide +kernel
theorem dX4_isHeldFast_8 : decode cX4_isHeldFast 8 = .ok (.iconst (-1), 1) := by decide +kernel
theorem dX4_isHeldFast_9 : decode cX4_isHeldFast 9 = .ok (.if_icmp .eq 23, 3) := by decide +kernel
theorem dX4_isHeldFast_12 : decode cX4_isHeldFast 12 = .ok (.aload_n 0, 1) := by decide +kernel
theorem dX4_isHeldFast_13 : decode cX4_isHeldFast 13 = .ok (.getfield 11, 3) := by decide +kernel
theorem dX4_isHeldFast_16 : decode cX4_isHeldFast 16 = .ok (.iload_n 2, 1) := by decide +kernel
theorem dX4_isHeldFast_17 : decode cX4_isHeldFast 17 = .ok (.aaload, 1) := by decide +kernel
theorem dX4_isHeldFast_18 : decode cX4_isHeldFast 18 = .ok (.getfield 119, 3) := by decide +kernel
theorem dX4_isHeldFast_21 : decode cX4_isHeldFast 21 = .ok (.getfield 258, 3) := by decide +kernel
theorem dX4_isHeldFast_24 : decode cX4_isHeldFast 24 = .ok (.iconst 1, 1) := by decide +kernel
theorem dX4_isHeldFast_25 : decode cX4_isHeldFast 25 = .ok (.if_icmp .eq 7, 3) := by decide +kernel
theorem dX4_isHeldFast_28 : decode cX4_isHeldFast 28 = .ok (.iconst 1, 1) := by decide +kernel
theorem dX4_isHeldFast_29 : decode cX4_isHeldFast 29 = .ok (.goto 4, 3) := by decide +kernel
theorem dX4_isHeldFast_32 : decode cX4_isHeldFast 32 = .ok (.iconst 0, 1) := by decide +kernel
theorem dX4_isHeldFast_33 : decode cX4_isHeldFast 33 = .ok (.ireturn, 1) := by decide +kernel
theorem dX4_mostUrgentOn_0 : decode cX4_mostUrgentOn 0 = .ok (.iconst (-1), 1) := by decide +kernel
theorem dX4_mostUrgentOn_1 : decode cX4_mostUrgentOn 1 = .ok (.istore_n 2, 1) := by decide +kernel
theorem dX4_mostUrgentOn_2 : decode cX4_mostUrgentOn 2 = .ok (.iconst 0, 1) := by decide +kernel
theorem dX4_mostUrgentOn_3 : decode cX4_mostUrgentOn 3 = .ok (.istore_n 3, 1) := by decide +kernel
theorem dX4_mostUrgentOn_4 : decode cX4_mostUrgentOn 4 = .ok (.iload_n 3, 1) := by decide +kernel
theorem dX4_mostUrgentOn_5 : decode cX4_mostUrgentOn 5 = .ok (.bipush 16, 2) := by decide +kernel
theorem dX4_mostUrgentOn_7 : decode cX4_mostUrgentOn 7 = .ok (.if_icmp .ge 77, 3) := by decide +kernel
theorem dX4_mostUrgentOn_10 : decode cX4_mostUrgentOn 10 = .ok (.aload_n 0, 1) := by decide +kernel
theorem dX4_mostUrgentOn_11 : decode cX4_mostUrgentOn 11 = .ok (.getfield 11, 3) := by decide +kernel
theorem dX4_mostUrgentOn_14 : decode cX4_mostUrgentOn 14 = .ok (.iload_n 3, 1) := by decide +kernel
theorem dX4_mostUrgentOn_15 : decode cX4_mostUrgentOn 15 = .ok (.aaload, 1) := by decide +kernel
theorem dX4_mostUrgentOn_16 : decode cX4_mostUrgentOn 16 = .ok (.iload_n 1, 1) := by decide +kernel
theorem dX4_mostUrgentOn_17 : decode cX4_mostUrgentOn 17 = .ok (.invokevirtual 203, 3) := by decide +kernel
theorem dX4_mostUrgentOn_20 : decode cX4_mostUrgentOn 20 = .ok (.ifCond .eq 22, 3) := by decide +kernel
theorem dX4_mostUrgentOn_23 : decode cX4_mostUrgentOn 23 = .ok (.aload_n 0, 1) := by decide +kernel
theorem dX4_mostUrgentOn_24 : decode cX4_mostUrgentOn 24 = .ok (.getfield 11, 3) := by decide +kernel
theorem dX4_mostUrgentOn_27 : decode cX4_mostUrgentOn 27 = .ok (.iload_n 3, 1) := by decide +kernel
theorem dX4_mostUrgentOn_28 : decode cX4_mostUrgentOn 28 = .ok (.aaload, 1) := by decide +kernel
theorem dX4_mostUrgentOn_29 : decode cX4_mostUrgentOn 29 = .ok (.getfield 119, 3) := by decide +kernel
theorem dX4_mostUrgentOn_32 : decode cX4_mostUrgentOn 32 = .ok (.getfield 187, 3) := by decide +kernel
theorem dX4_mostUrgentOn_35 : decode cX4_mostUrgentOn 35 = .ok (.ifCond .eq 7, 3) := by decide +kernel
theorem dX4_mostUrgentOn_38 : decode cX4_mostUrgentOn 38 = .ok (.iconst 1, 1) := by decide +kernel
theorem dX4_mostUrgentOn_39 : decode cX4_mostUrgentOn 39 = .ok (.goto 4, 3) := by decide +kernel
theorem dX4_mostUrgentOn_42 : decode cX4_mostUrgentOn 42 = .ok (.iconst 0, 1) := by decide +kernel
theorem dX4_mostUrgentOn_43 : decode cX4_mostUrgentOn 43 = .ok (.istore 4, 2) := by decide +kernel
theorem dX4_mostUrgentOn_45 : decode cX4_mostUrgentOn 45 = .ok (.iload 4, 2) := by decide +kernel
theorem dX4_mostUrgentOn_47 : decode cX4_mostUrgentOn 47 = .ok (.ifCond .eq 31, 3) := by decide +kernel
theorem dX4_mostUrgentOn_50 : decode cX4_mostUrgentOn 50 = .ok (.iload_n 2, 1) := by decide +kernel
theorem dX4_mostUrgentOn_51 : decode cX4_mostUrgentOn 51 = .ok (.iconst (-1), 1) := by decide +kernel
theorem dX4_mostUrgentOn_52 : decode cX4_mostUrgentOn 52 = .ok (.if_icmp .eq 24, 3) := by decide +kernel
theorem dX4_mostUrgentOn_55 : decode cX4_mostUrgentOn 55 = .ok (.aload_n 0, 1) := by decide +kernel
theorem dX4_mostUrgentOn_56 : decode cX4_mostUrgentOn 56 = .ok (.getfield 11, 3) := by decide +kernel
theorem dX4_mostUrgentOn_59 : decode cX4_mostUrgentOn 59 = .ok (.iload_n 3, 1) := by decide +kernel
theorem dX4_mostUrgentOn_60 : decode cX4_mostUrgentOn 60 = .ok (.aaload, 1) := by decide +kernel
theorem dX4_mostUrgentOn_61 : decode cX4_mostUrgentOn 61 = .ok (.getfield 207, 3) := by decide +kernel
theorem dX4_mostUrgentOn_64 : decode cX4_mostUrgentOn 64 = .ok (.aload_n 0, 1) := by decide +kernel
theorem dX4_mostUrgentOn_65 : decode cX4_mostUrgentOn 65 = .ok (.getfield 11, 3) := by decide +kernel
theorem dX4_mostUrgentOn_68 : decode cX4_mostUrgentOn 68 = .ok (.iload_n 2, 1) := by decide +kernel
theorem dX4_mostUrgentOn_69 : decode cX4_mostUrgentOn 69 = .ok (.aaload, 1) := by decide +kernel
theorem dX4_mostUrgentOn_70 : decode cX4_mostUrgentOn 70 = .ok (.getfield 207, 3) := by decide +kernel
theorem dX4_mostUrgentOn_73 : decode cX4_mostUrgentOn 73 = .ok (.if_icmp .le 5, 3) := by decide +kernel
theorem dX4_mostUrgentOn_76 : decode cX4_mostUrgentOn 76 = .ok (.iload_n 3, 1) := by decide +kernel
theorem dX4_mostUrgentOn_77 : decode cX4_mostUrgentOn 77 = .ok (.istore_n 2, 1) := by decide +kernel
theorem dX4_mostUrgentOn_78 : decode cX4_mostUrgentOn 78 = .ok (.iinc 3 1, 3) := by decide +kernel
theorem dX4_mostUrgentOn_81 : decode cX4_mostUrgentOn 81 = .ok (.goto (-77), 3) := by decide +kernel
theorem dX4_mostUrgentOn_84 : decode cX4_mostUrgentOn 84 = .ok (.iload_n 2, 1) := by decide +kernel
theorem dX4_mostUrgentOn_85 : decode cX4_mostUrgentOn 85 = .ok (.ireturn, 1) := by decide +kernel
theorem dX4_askIfDue_0 : decode cX4_askIfDue 0 = .ok (.aload_n 0, 1) := by decide +kernel
theorem dX4_askIfDue_1 : decode cX4_askIfDue 1 = .ok (.getfield 30, 3) := by decide +kernel
theorem dX4_askIfDue_4 : decode cX4_askIfDue 4 = .ok (.iload_n 1, 1) := by decide +kernel
theorem dX4_askIfDue_5 : decode cX4_askIfDue 5 = .ok (.iaload, 1) := by decide +kernel
theorem dX4_askIfDue_6 : decode cX4_askIfDue 6 = .ok (.istore_n 2, 1) := by decide +kernel
theorem dX4_askIfDue_7 : decode cX4_askIfDue 7 = .ok (.iload_n 2, 1) := by decide +kernel
theorem dX4_askIfDue_8 : decode cX4_askIfDue 8 = .ok (.iconst (-1), 1) := by decide +kernel
theorem dX4_askIfDue_9 : decode cX4_askIfDue 9 = .ok (.if_icmp .eq 44, 3) := by decide +kernel
theorem dX4_askIfDue_12 : decode cX4_askIfDue 12 = .ok (.aload_n 0, 1) := by decide +kernel
theorem dX4_askIfDue_13 : decode cX4_askIfDue 13 = .ok (.getfield 11, 3) := by decide +kernel
theorem dX4_askIfDue_16 : decode cX4_askIfDue 16 = .ok (.iload_n 2, 1) := by decide +kernel
theorem dX4_askIfDue_17 : decode cX4_askIfDue 17 = .ok (.aaload, 1) := by decide +kernel
theorem dX4_askIfDue_18 : decode cX4_askIfDue 18 = .ok (.invokevirtual 261, 3) := by decide +kernel
theorem dX4_askIfDue_21 : decode cX4_askIfDue 21 = .ok (.ifCond .eq 32, 3) := by decide +kernel
theorem dX4_askIfDue_24 : decode cX4_askIfDue 24 = .ok (.aload_n 0, 1) := by decide +kernel
theorem dX4_askIfDue_25 : decode cX4_askIfDue 25 = .ok (.getfield 11, 3) := by decide +kernel
theorem dX4_askIfDue_28 : decode cX4_askIfDue 28 = .ok (.iload_n 2, 1) := by decide +kernel
theorem dX4_askIfDue_29 : decode cX4_askIfDue 29 = .ok (.aaload, 1) := by decide +kernel
theorem dX4_askIfDue_30 : decode cX4_askIfDue 30 = .ok (.invokevirtual 264, 3) := by decide +kernel
theorem dX4_askIfDue_33 : decode cX4_askIfDue 33 = .ok (.aload_n 0, 1) := by decide +kernel
theorem dX4_askIfDue_34 : decode cX4_askIfDue 34 = .ok (.aload_n 0, 1) := by decide +kernel
theorem dX4_askIfDue_35 : decode cX4_askIfDue 35 = .ok (.getfield 11, 3) := by decide +kernel
theorem dX4_askIfDue_38 : decode cX4_askIfDue 38 = .ok (.iload_n 2, 1) := by decide +kernel
theorem dX4_askIfDue_39 : decode cX4_askIfDue 39 = .ok (.aaload, 1) := by decide +kernel
theorem dX4_askIfDue_40 : decode cX4_askIfDue 40 = .ok (.invokevirtual 267, 3) := by decide +kernel
theorem dX4_askIfDue_43 : decode cX4_askIfDue 43 = .ok (.getfield 220, 3) := by decide +kernel
theorem dX4_askIfDue_46 : decode cX4_askIfDue 46 = .ok (.invokevirtual 171, 3) := by decide +kernel
theorem dX4_askIfDue_49 : decode cX4_askIfDue 49 = .ok (.iload_n 1, 1) := by decide +kernel
theorem dX4_askIfDue_50 : decode cX4_askIfDue 50 = .ok (.invokevirtual 271, 3) := by decide +kernel
theorem dX4_askIfDue_53 : decode cX4_askIfDue 53 = .ok (.return_, 1) := by decide +kernel
theorem dX4_letFirstsHold_0 : decode cX4_letFirstsHold 0 = .ok (.aload_n 0, 1) := by decide +kernel
theorem dX4_letFirstsHold_1 : decode cX4_letFirstsHold 1 = .ok (.getfield 17, 3) := by decide +kernel
theorem dX4_letFirstsHold_4 : decode cX4_letFirstsHold 4 = .ok (.astore_n 1, 1) := by decide +kernel
theorem dX4_letFirstsHold_5 : decode cX4_letFirstsHold 5 = .ok (.aload_n 1, 1) := by decide +kernel
theorem dX4_letFirstsHold_6 : decode cX4_letFirstsHold 6 = .ok (.arraylength, 1) := by decide +kernel
theorem dX4_letFirstsHold_7 : decode cX4_letFirstsHold 7 = .ok (.istore_n 2, 1) := by decide +kernel
theorem dX4_letFirstsHold_8 : decode cX4_letFirstsHold 8 = .ok (.iconst 0, 1) := by decide +kernel
theorem dX4_letFirstsHold_9 : decode cX4_letFirstsHold 9 = .ok (.istore_n 3, 1) := by decide +kernel
theorem dX4_letFirstsHold_10 : decode cX4_letFirstsHold 10 = .ok (.iload_n 3, 1) := by decide +kernel
theorem dX4_letFirstsHold_11 : decode cX4_letFirstsHold 11 = .ok (.iload_n 2, 1) := by decide +kernel
theorem dX4_letFirstsHold_12 : decode cX4_letFirstsHold 12 = .ok (.if_icmp .ge 74, 3) := by decide +kernel
theorem dX4_letFirstsHold_15 : decode cX4_letFirstsHold 15 = .ok (.aload_n 1, 1) := by decide +kernel
theorem dX4_letFirstsHold_16 : decode cX4_letFirstsHold 16 = .ok (.iload_n 3, 1) := by decide +kernel
theorem dX4_letFirstsHold_17 : decode cX4_letFirstsHold 17 = .ok (.aaload, 1) := by decide +kernel
theorem dX4_letFirstsHold_18 : decode cX4_letFirstsHold 18 = .ok (.astore 4, 2) := by decide +kernel
theorem dX4_letFirstsHold_20 : decode cX4_letFirstsHold 20 = .ok (.aload 4, 2) := by decide +kernel
theorem dX4_letFirstsHold_22 : decode cX4_letFirstsHold 22 = .ok (.iconst 0, 1) := by decide +kernel
theorem dX4_letFirstsHold_23 : decode cX4_letFirstsHold 23 = .ok (.invokevirtual 175, 3) := by decide +kernel
theorem dX4_letFirstsHold_26 : decode cX4_letFirstsHold 26 = .ok (.istore 5, 2) := by decide +kernel
theorem dX4_letFirstsHold_28 : decode cX4_letFirstsHold 28 = .ok (.iload 5, 2) := by decide +kernel
theorem dX4_letFirstsHold_30 : decode cX4_letFirstsHold 30 = .ok (.iconst (-1), 1) := by decide +kernel
theorem dX4_letFirstsHold_31 : decode cX4_letFirstsHold 31 = .ok (.if_icmp .ne 7, 3) := by decide +kernel
theorem dX4_letFirstsHold_34 : decode cX4_letFirstsHold 34 = .ok (.iconst (-1), 1) := by decide +kernel
theorem dX4_letFirstsHold_35 : decode cX4_letFirstsHold 35 = .ok (.goto 10, 3) := by decide +kernel
theorem dX4_letFirstsHold_38 : decode cX4_letFirstsHold 38 = .ok (.aload_n 0, 1) := by decide +kernel
theorem dX4_letFirstsHold_39 : decode cX4_letFirstsHold 39 = .ok (.getfield 30, 3) := by decide +kernel
theorem dX4_letFirstsHold_42 : decode cX4_letFirstsHold 42 = .ok (.iload 5, 2) := by decide +kernel
theorem dX4_letFirstsHold_44 : decode cX4_letFirstsHold 44 = .ok (.iaload, 1) := by decide +kernel
theorem dX4_letFirstsHold_45 : decode cX4_letFirstsHold 45 = .ok (.istore 6, 2) := by decide +kernel
theorem dX4_letFirstsHold_47 : decode cX4_letFirstsHold 47 = .ok (.iload 6, 2) := by decide +kernel
theorem dX4_letFirstsHold_49 : decode cX4_letFirstsHold 49 = .ok (.iconst (-1), 1) := by decide +kernel
theorem dX4_letFirstsHold_50 : decode cX4_letFirstsHold 50 = .ok (.if_icmp .eq 30, 3) := by decide +kernel
theorem dX4_letFirstsHold_53 : decode cX4_letFirstsHold 53 = .ok (.aload_n 0, 1) := by decide +kernel
theorem dX4_letFirstsHold_54 : decode cX4_letFirstsHold 54 = .ok (.getfield 11, 3) := by decide +kernel
theorem dX4_letFirstsHold_57 : decode cX4_letFirstsHold 57 = .ok (.iload 6, 2) := by decide +kernel
theorem dX4_letFirstsHold_59 : decode cX4_letFirstsHold 59 = .ok (.aaload, 1) := by decide +kernel
theorem dX4_letFirstsHold_60 : decode cX4_letFirstsHold 60 = .ok (.getfield 119, 3) := by decide +kernel
theorem dX4_letFirstsHold_63 : decode cX4_letFirstsHold 63 = .ok (.getfield 258, 3) := by decide +kernel
theorem dX4_letFirstsHold_66 : decode cX4_letFirstsHold 66 = .ok (.iconst 2, 1) := by decide +kernel
theorem dX4_letFirstsHold_67 : decode cX4_letFirstsHold 67 = .ok (.if_icmp .ne 13, 3) := by decide +kernel
theorem dX4_letFirstsHold_70 : decode cX4_letFirstsHold 70 = .ok (.aload_n 0, 1) := by decide +kernel
theorem dX4_letFirstsHold_71 : decode cX4_letFirstsHold 71 = .ok (.getfield 11, 3) := by decide +kernel
theorem dX4_letFirstsHold_74 : decode cX4_letFirstsHold 74 = .ok (.iload 6, 2) := by decide +kernel
theorem dX4_letFirstsHold_76 : decode cX4_letFirstsHold 76 = .ok (.aaload, 1) := by decide +kernel
theorem dX4_letFirstsHold_77 : decode cX4_letFirstsHold 77 = .ok (.invokevirtual 274, 3) := by decide +kernel
theorem dX4_letFirstsHold_80 : decode cX4_letFirstsHold 80 = .ok (.iinc 3 1, 3) := by decide +kernel
theorem dX4_letFirstsHold_83 : decode cX4_letFirstsHold 83 = .ok (.goto (-73), 3) := by decide +kernel
theorem dX4_letFirstsHold_86 : decode cX4_letFirstsHold 86 = .ok (.return_, 1) := by decide +kernel
theorem dX4_ticksAlike_0 : decode cX4_ticksAlike 0 = .ok (.ldc 147, 2) := by decide +kernel
theorem dX4_ticksAlike_2 : decode cX4_ticksAlike 2 = .ok (.istore_n 1, 1) := by decide +kernel
theorem dX4_ticksAlike_3 : decode cX4_ticksAlike 3 = .ok (.iconst 0, 1) := by decide +kernel
theorem dX4_ticksAlike_4 : decode cX4_ticksAlike 4 = .ok (.istore_n 2, 1) := by decide +kernel
theorem dX4_ticksAlike_5 : decode cX4_ticksAlike 5 = .ok (.iload_n 2, 1) := by decide +kernel
theorem dX4_ticksAlike_6 : decode cX4_ticksAlike 6 = .ok (.iconst 4, 1) := by decide +kernel
theorem dX4_ticksAlike_7 : decode cX4_ticksAlike 7 = .ok (.if_icmp .ge 51, 3) := by decide +kernel
theorem dX4_ticksAlike_10 : decode cX4_ticksAlike 10 = .ok (.aload_n 0, 1) := by decide +kernel
theorem dX4_ticksAlike_11 : decode cX4_ticksAlike 11 = .ok (.getfield 30, 3) := by decide +kernel
theorem dX4_ticksAlike_14 : decode cX4_ticksAlike 14 = .ok (.iload_n 2, 1) := by decide +kernel
theorem dX4_ticksAlike_15 : decode cX4_ticksAlike 15 = .ok (.iaload, 1) := by decide +kernel
theorem dX4_ticksAlike_16 : decode cX4_ticksAlike 16 = .ok (.istore_n 3, 1) := by decide +kernel
theorem dX4_ticksAlike_17 : decode cX4_ticksAlike 17 = .ok (.iload_n 3, 1) := by decide +kernel
theorem dX4_ticksAlike_18 : decode cX4_ticksAlike 18 = .ok (.iconst (-1), 1) := by decide +kernel
theorem dX4_ticksAlike_19 : decode cX4_ticksAlike 19 = .ok (.if_icmp .eq 33, 3) := by decide +kernel
theorem dX4_ticksAlike_22 : decode cX4_ticksAlike 22 = .ok (.aload_n 0, 1) := by decide +kernel
theorem dX4_ticksAlike_23 : decode cX4_ticksAlike 23 = .ok (.getfield 11, 3) := by decide +kernel
theorem dX4_ticksAlike_26 : decode cX4_ticksAlike 26 = .ok (.iload_n 3, 1) := by decide +kernel
theorem dX4_ticksAlike_27 : decode cX4_ticksAlike 27 = .ok (.aaload, 1) := by decide +kernel
theorem dX4_ticksAlike_28 : decode cX4_ticksAlike 28 = .ok (.getfield 119, 3) := by decide +kernel
theorem dX4_ticksAlike_31 : decode cX4_ticksAlike 31 = .ok (.getfield 258, 3) := by decide +kernel
theorem dX4_ticksAlike_34 : decode cX4_ticksAlike 34 = .ok (.iconst 2, 1) := by decide +kernel
theorem dX4_ticksAlike_35 : decode cX4_ticksAlike 35 = .ok (.if_icmp .eq 17, 3) := by decide +kernel
theorem dX4_ticksAlike_38 : decode cX4_ticksAlike 38 = .ok (.iload_n 1, 1) := by decide +kernel
theorem dX4_ticksAlike_39 : decode cX4_ticksAlike 39 = .ok (.aload_n 0, 1) := by decide +kernel
theorem dX4_ticksAlike_40 : decode cX4_ticksAlike 40 = .ok (.getfield 11, 3) := by decide +kernel
theorem dX4_ticksAlike_43 : decode cX4_ticksAlike 43 = .ok (.iload_n 3, 1) := by decide +kernel
theorem dX4_ticksAlike_44 : decode cX4_ticksAlike 44 = .ok (.aaload, 1) := by decide +kernel
theorem dX4_ticksAlike_45 : decode cX4_ticksAlike 45 = .ok (.invokevirtual 277, 3) := by decide +kernel
theorem dX4_ticksAlike_48 : decode cX4_ticksAlike 48 = .ok (.invokestatic 158, 3) := by decide +kernel
theorem dX4_ticksAlike_51 : decode cX4_ticksAlike 51 = .ok (.istore_n 1, 1) := by decide +kernel
theorem dX4_ticksAlike_52 : decode cX4_ticksAlike 52 = .ok (.iinc 2 1, 3) := by decide +kernel
theorem dX4_ticksAlike_55 : decode cX4_ticksAlike 55 = .ok (.goto (-50), 3) := by decide +kernel
theorem dX4_ticksAlike_58 : decode cX4_ticksAlike 58 = .ok (.iload_n 1, 1) := by decide +kernel
theorem dX4_ticksAlike_59 : decode cX4_ticksAlike 59 = .ok (.ireturn, 1) := by decide +kernel
theorem dX4_workOn_0 : decode cX4_workOn 0 = .ok (.iconst 0, 1) := by decide +kernel
theorem dX4_workOn_1 : decode cX4_workOn 1 = .ok (.istore_n 2, 1) := by decide +kernel
theorem dX4_workOn_2 : decode cX4_workOn 2 = .ok (.iconst 0, 1) := by decide +kernel
theorem dX4_workOn_3 : decode cX4_workOn 3 = .ok (.istore_n 3, 1) := by decide +kernel
theorem dX4_workOn_4 : decode cX4_workOn 4 = .ok (.iload_n 3, 1) := by decide +kernel
theorem dX4_workOn_5 : decode cX4_workOn 5 = .ok (.iconst 4, 1) := by decide +kernel
theorem dX4_workOn_6 : decode cX4_workOn 6 = .ok (.if_icmp .ge 70, 3) := by decide +kernel
theorem dX4_workOn_9 : decode cX4_workOn 9 = .ok (.aload_n 0, 1) := by decide +kernel
theorem dX4_workOn_10 : decode cX4_workOn 10 = .ok (.getfield 30, 3) := by decide +kernel
theorem dX4_workOn_13 : decode cX4_workOn 13 = .ok (.iload_n 3, 1) := by decide +kernel
theorem dX4_workOn_14 : decode cX4_workOn 14 = .ok (.iaload, 1) := by decide +kernel
theorem dX4_workOn_15 : decode cX4_workOn 15 = .ok (.istore 4, 2) := by decide +kernel
theorem dX4_workOn_17 : decode cX4_workOn 17 = .ok (.aload_n 0, 1) := by decide +kernel
theorem dX4_workOn_18 : decode cX4_workOn 18 = .ok (.getfield 33, 3) := by decide +kernel
theorem dX4_workOn_21 : decode cX4_workOn 21 = .ok (.iload_n 3, 1) := by decide +kernel
theorem dX4_workOn_22 : decode cX4_workOn 22 = .ok (.iload 4, 2) := by decide +kernel
theorem dX4_workOn_24 : decode cX4_workOn 24 = .ok (.iconst (-1), 1) := by decide +kernel
theorem dX4_workOn_25 : decode cX4_workOn 25 = .ok (.if_icmp .ne 7, 3) := by decide +kernel
theorem dX4_workOn_28 : decode cX4_workOn 28 = .ok (.iconst 0, 1) := by decide +kernel
theorem dX4_workOn_29 : decode cX4_workOn 29 = .ok (.goto 16, 3) := by decide +kernel
theorem dX4_workOn_32 : decode cX4_workOn 32 = .ok (.aload_n 0, 1) := by decide +kernel
theorem dX4_workOn_33 : decode cX4_workOn 33 = .ok (.getfield 11, 3) := by decide +kernel
theorem dX4_workOn_36 : decode cX4_workOn 36 = .ok (.iload 4, 2) := by decide +kernel
theorem dX4_workOn_38 : decode cX4_workOn 38 = .ok (.aaload, 1) := by decide +kernel
theorem dX4_workOn_39 : decode cX4_workOn 39 = .ok (.getfield 119, 3) := by decide +kernel
theorem dX4_workOn_42 : decode cX4_workOn 42 = .ok (.getfield 258, 3) := by decide +kernel
theorem dX4_workOn_45 : decode cX4_workOn 45 = .ok (.iastore, 1) := by decide +kernel
theorem dX4_workOn_46 : decode cX4_workOn 46 = .ok (.iload 4, 2) := by decide +kernel
theorem dX4_workOn_48 : decode cX4_workOn 48 = .ok (.iconst (-1), 1) := by decide +kernel
theorem dX4_workOn_49 : decode cX4_workOn 49 = .ok (.if_icmp .eq 21, 3) := by decide +kernel
theorem dX4_workOn_52 : decode cX4_workOn 52 = .ok (.aload_n 0, 1) := by decide +kernel
theorem dX4_workOn_53 : decode cX4_workOn 53 = .ok (.aload_n 0, 1) := by decide +kernel
theorem dX4_workOn_54 : decode cX4_workOn 54 = .ok (.getfield 11, 3) := by decide +kernel
theorem dX4_workOn_57 : decode cX4_workOn 57 = .ok (.iload 4, 2) := by decide +kernel
theorem dX4_workOn_59 : decode cX4_workOn 59 = .ok (.aaload, 1) := by decide +kernel
theorem dX4_workOn_60 : decode cX4_workOn 60 = .ok (.iload_n 1, 1) := by decide +kernel
theorem dX4_workOn_61 : decode cX4_workOn 61 = .ok (.invokevirtual 280, 3) := by decide +kernel
theorem dX4_workOn_64 : decode cX4_workOn 64 = .ok (.ifCond .eq 6, 3) := by decide +kernel
theorem dX4_workOn_67 : decode cX4_workOn 67 = .ok (.iinc 2 1, 3) := by decide +kernel
theorem dX4_workOn_70 : decode cX4_workOn 70 = .ok (.iinc 3 1, 3) := by decide +kernel
theorem dX4_workOn_73 : decode cX4_workOn 73 = .ok (.goto (-69), 3) := by decide +kernel
theorem dX4_workOn_76 : decode cX4_workOn 76 = .ok (.iload_n 2, 1) := by decide +kernel
theorem dX4_workOn_77 : decode cX4_workOn 77 = .ok (.ireturn, 1) := by decide +kernel
theorem dX4_workOnJob_0 : decode cX4_workOnJob 0 = .ok (.aload_n 1, 1) := by decide +kernel
theorem dX4_workOnJob_1 : decode cX4_workOnJob 1 = .ok (.getfield 119, 3) := by decide +kernel
theorem dX4_workOnJob_4 : decode cX4_workOnJob 4 = .ok (.getfield 258, 3) := by decide +kernel
theorem dX4_workOnJob_7 : decode cX4_workOnJob 7 = .ok (.iconst 2, 1) := by decide +kernel
theorem dX4_workOnJob_8 : decode cX4_workOnJob 8 = .ok (.if_icmp .ne 10, 3) := by decide +kernel
theorem dX4_workOnJob_11 : decode cX4_workOnJob 11 = .ok (.aload_n 1, 1) := by decide +kernel
theorem dX4_workOnJob_12 : decode cX4_workOnJob 12 = .ok (.iload_n 2, 1) := by decide +kernel
theorem dX4_workOnJob_13 : decode cX4_workOnJob 13 = .ok (.invokevirtual 284, 3) := by decide +kernel
theorem dX4_workOnJob_16 : decode cX4_workOnJob 16 = .ok (.iconst 0, 1) := by decide +kernel
theorem dX4_workOnJob_17 : decode cX4_workOnJob 17 = .ok (.ireturn, 1) := by decide +kernel
theorem dX4_workOnJob_18 : decode cX4_workOnJob 18 = .ok (.aload_n 1, 1) := by decide +kernel
theorem dX4_workOnJob_19 : decode cX4_workOnJob 19 = .ok (.getfield 119, 3) := by decide +kernel
theorem dX4_workOnJob_22 : decode cX4_workOnJob 22 = .ok (.getfield 258, 3) := by decide +kernel
theorem dX4_workOnJob_25 : decode cX4_workOnJob 25 = .ok (.iconst 1, 1) := by decide +kernel
theorem dX4_workOnJob_26 : decode cX4_workOnJob 26 = .ok (.if_icmp .ne 19, 3) := by decide +kernel
theorem dX4_workOnJob_29 : decode cX4_workOnJob 29 = .ok (.aload_n 1, 1) := by decide +kernel
theorem dX4_workOnJob_30 : decode cX4_workOnJob 30 = .ok (.getfield 119, 3) := by decide +kernel
theorem dX4_workOnJob_33 : decode cX4_workOnJob 33 = .ok (.dup, 1) := by decide +kernel
theorem dX4_workOnJob_34 : decode cX4_workOnJob 34 = .ok (.getfield 287, 3) := by decide +kernel
theorem dX4_workOnJob_37 : decode cX4_workOnJob 37 = .ok (.iload_n 2, 1) := by decide +kernel
theorem dX4_workOnJob_38 : decode cX4_workOnJob 38 = .ok (.iadd, 1) := by decide +kernel
theorem dX4_workOnJob_39 : decode cX4_workOnJob 39 = .ok (.putfield 287, 3) := by decide +kernel
theorem dX4_workOnJob_42 : decode cX4_workOnJob 42 = .ok (.goto 9, 3) := by decide +kernel
theorem dX4_workOnJob_45 : decode cX4_workOnJob 45 = .ok (.aload_n 0, 1) := by decide +kernel
theorem dX4_workOnJob_46 : decode cX4_workOnJob 46 = .ok (.aload_n 1, 1) := by decide +kernel
theorem dX4_workOnJob_47 : decode cX4_workOnJob 47 = .ok (.iload_n 2, 1) := by decide +kernel
theorem dX4_workOnJob_48 : decode cX4_workOnJob 48 = .ok (.invokevirtual 290, 3) := by decide +kernel
theorem dX4_workOnJob_51 : decode cX4_workOnJob 51 = .ok (.aload_n 1, 1) := by decide +kernel
theorem dX4_workOnJob_52 : decode cX4_workOnJob 52 = .ok (.invokevirtual 294, 3) := by decide +kernel
theorem dX4_workOnJob_55 : decode cX4_workOnJob 55 = .ok (.ifCond .ne 5, 3) := by decide +kernel
theorem dX4_workOnJob_58 : decode cX4_workOnJob 58 = .ok (.iconst 0, 1) := by decide +kernel
theorem dX4_workOnJob_59 : decode cX4_workOnJob 59 = .ok (.ireturn, 1) := by decide +kernel
theorem dX4_workOnJob_60 : decode cX4_workOnJob 60 = .ok (.aload_n 1, 1) := by decide +kernel
theorem dX4_workOnJob_61 : decode cX4_workOnJob 61 = .ok (.aload_n 0, 1) := by decide +kernel
theorem dX4_workOnJob_62 : decode cX4_workOnJob 62 = .ok (.getfield 113, 3) := by decide +kernel
theorem dX4_workOnJob_65 : decode cX4_workOnJob 65 = .ok (.invokevirtual 297, 3) := by decide +kernel
theorem dX4_workOnJob_68 : decode cX4_workOnJob 68 = .ok (.iconst 1, 1) := by decide +kernel
theorem dX4_workOnJob_69 : decode cX4_workOnJob 69 = .ok (.ireturn, 1) := by decide +kernel
theorem dX4_holdFor_0 : decode cX4_holdFor 0 = .ok (.aload_n 1, 1) := by decide +kernel
theorem dX4_holdFor_1 : decode cX4_holdFor 1 = .ok (.getfield 119, 3) := by decide +kernel
theorem dX4_holdFor_4 : decode cX4_holdFor 4 = .ok (.dup, 1) := by decide +kernel
theorem dX4_holdFor_5 : decode cX4_holdFor 5 = .ok (.getfield 300, 3) := by decide +kernel
theorem dX4_holdFor_8 : decode cX4_holdFor 8 = .ok (.iload_n 2, 1) := by decide +kernel
theorem dX4_holdFor_9 : decode cX4_holdFor 9 = .ok (.isub, 1) := by decide +kernel
theorem dX4_holdFor_10 : decode cX4_holdFor 10 = .ok (.putfield 300, 3) := by decide +kernel
theorem dX4_holdFor_13 : decode cX4_holdFor 13 = .ok (.aload_n 1, 1) := by decide +kernel
theorem dX4_holdFor_14 : decode cX4_holdFor 14 = .ok (.getfield 119, 3) := by decide +kernel
theorem dX4_holdFor_17 : decode cX4_holdFor 17 = .ok (.getfield 300, 3) := by decide +kernel
theorem dX4_holdFor_20 : decode cX4_holdFor 20 = .ok (.ifCond .gt 21, 3) := by decide +kernel
theorem dX4_holdFor_23 : decode cX4_holdFor 23 = .ok (.aload_n 0, 1) := by decide +kernel
theorem dX4_holdFor_24 : decode cX4_holdFor 24 = .ok (.aload_n 1, 1) := by decide +kernel
theorem dX4_holdFor_25 : decode cX4_holdFor 25 = .ok (.invokevirtual 267, 3) := by decide +kernel
theorem dX4_holdFor_28 : decode cX4_holdFor 28 = .ok (.getfield 220, 3) := by decide +kernel
theorem dX4_holdFor_31 : decode cX4_holdFor 31 = .ok (.invokevirtual 171, 3) := by decide +kernel
theorem dX4_holdFor_34 : decode cX4_holdFor 34 = .ok (.invokevirtual 303, 3) := by decide +kernel
theorem dX4_holdFor_37 : decode cX4_holdFor 37 = .ok (.aload_n 1, 1) := by decide +kernel
theorem dX4_holdFor_38 : decode cX4_holdFor 38 = .ok (.invokevirtual 306, 3) := by decide +kernel
theorem dX4_holdFor_41 : decode cX4_holdFor 41 = .ok (.return_, 1) := by decide +kernel
theorem dX5_init_0 : decode cX5_init 0 = .ok (.aload_n 0, 1) := by decide +kernel
theorem dX5_init_1 : decode cX5_init 1 = .ok (.invokespecial 1, 3) := by decide +kernel
theorem dX5_init_4 : decode cX5_init 4 = .ok (.aload_n 0, 1) := by decide +kernel
theorem dX5_init_5 : decode cX5_init 5 = .ok (.bipush 16, 2) := by decide +kernel
theorem dX5_init_7 : decode cX5_init 7 = .ok (.newarray .int, 2) := by decide +kernel
theorem dX5_init_9 : decode cX5_init 9 = .ok (.putfield 7, 3) := by decide +kernel
theorem dX5_init_12 : decode cX5_init 12 = .ok (.aload_n 0, 1) := by decide +kernel
theorem dX5_init_13 : decode cX5_init 13 = .ok (.bipush 16, 2) := by decide +kernel
theorem dX5_init_15 : decode cX5_init 15 = .ok (.newarray .int, 2) := by decide +kernel
theorem dX5_init_17 : decode cX5_init 17 = .ok (.putfield 13, 3) := by decide +kernel
theorem dX5_init_20 : decode cX5_init 20 = .ok (.aload_n 0, 1) := by decide +kernel
theorem dX5_init_21 : decode cX5_init 21 = .ok (.bipush 16, 2) := by decide +kernel
theorem dX5_init_23 : decode cX5_init 23 = .ok (.newarray .int, 2) := by decide +kernel
theorem dX5_init_25 : decode cX5_init 25 = .ok (.putfield 16, 3) := by decide +kernel
theorem dX5_init_28 : decode cX5_init 28 = .ok (.aload_n 0, 1) := by decide +kernel
theorem dX5_init_29 : decode cX5_init 29 = .ok (.bipush 16, 2) := by decide +kernel
theorem dX5_init_31 : decode cX5_init 31 = .ok (.newarray .int, 2) := by decide +kernel
theorem dX5_init_33 : decode cX5_init 33 = .ok (.putfield 19, 3) := by decide +kernel
theorem dX5_init_36 : decode cX5_init 36 = .ok (.aload_n 0, 1) := by decide +kernel
theorem dX5_init_37 : decode cX5_init 37 = .ok (.bipush 16, 2) := by decide +kernel
theorem dX5_init_39 : decode cX5_init 39 = .ok (.newarray .int, 2) := by decide +kernel
theorem dX5_init_41 : decode cX5_init 41 = .ok (.putfield 22, 3) := by decide +kernel
theorem dX5_init_44 : decode cX5_init 44 = .ok (.aload_n 0, 1) := by decide +kernel
theorem dX5_init_45 : decode cX5_init 45 = .ok (.bipush 16, 2) := by decide +kernel
theorem dX5_init_47 : decode cX5_init 47 = .ok (.newarray .int, 2) := by decide +kernel
theorem dX5_init_49 : decode cX5_init 49 = .ok (.putfield 25, 3) := by decide +kernel
theorem dX5_init_52 : decode cX5_init 52 = .ok (.aload_n 0, 1) := by decide +kernel
theorem dX5_init_53 : decode cX5_init 53 = .ok (.bipush 96, 2) := by decide +kernel
theorem dX5_init_55 : decode cX5_init 55 = .ok (.newarray .int, 2) := by decide +kernel
theorem dX5_init_57 : decode cX5_init 57 = .ok (.putfield 28, 3) := by decide +kernel
theorem dX5_init_60 : decode cX5_init 60 = .ok (.aload_n 0, 1) := by decide +kernel
theorem dX5_init_61 : decode cX5_init 61 = .ok (.bipush 96, 2) := by decide +kernel
theorem dX5_init_63 : decode cX5_init 63 = .ok (.newarray .int, 2) := by decide +kernel
theorem dX5_init_65 : decode cX5_init 65 = .ok (.putfield 31, 3) := by decide +kernel
theorem dX5_init_68 : decode cX5_init 68 = .ok (.aload_n 0, 1) := by decide +kernel
theorem dX5_init_69 : decode cX5_init 69 = .ok (.bipush 96, 2) := by decide +kernel
theorem dX5_init_71 : decode cX5_init 71 = .ok (.newarray .int, 2) := by decide +kernel
theorem dX5_init_73 : decode cX5_init 73 = .ok (.putfield 34, 3) := by decide +kernel
theorem dX5_init_76 : decode cX5_init 76 = .ok (.aload_n 0, 1) := by decide +kernel
theorem dX5_init_77 : decode cX5_init 77 = .ok (.bipush 96, 2) := by decide +kernel
theorem dX5_init_79 : decode cX5_init 79 = .ok (.newarray .int, 2) := by decide +kernel
theorem dX5_init_81 : decode cX5_init 81 = .ok (.putfield 37, 3) := by decide +kernel
theorem dX5_init_84 : decode cX5_init 84 = .ok (.aload_n 0, 1) := by decide +kernel
theorem dX5_init_85 : decode cX5_init 85 = .ok (.bipush 8, 2) := by decide +kernel
theorem dX5_init_87 : decode cX5_init 87 = .ok (.newarray .int, 2) := by decide +kernel
theorem dX5_init_89 : decode cX5_init 89 = .ok (.putfield 40, 3) := by decide +kernel
theorem dX5_init_92 : decode cX5_init 92 = .ok (.aload_n 0, 1) := by decide +kernel
theorem dX5_init_93 : decode cX5_init 93 = .ok (.bipush 16, 2) := by decide +kernel
theorem dX5_init_95 : decode cX5_init 95 = .ok (.newarray .boolean, 2) := by decide +kernel
theorem dX5_init_97 : decode cX5_init 97 = .ok (.putfield 43, 3) := by decide +kernel
theorem dX5_init_100 : decode cX5_init 100 = .ok (.aload_n 0, 1) := by decide +kernel
theorem dX5_init_101 : decode cX5_init 101 = .ok (.bipush 16, 2) := by decide +kernel
theorem dX5_init_103 : decode cX5_init 103 = .ok (.newarray .boolean, 2) := by decide +kernel
theorem dX5_init_105 : decode cX5_init 105 = .ok (.putfield 47, 3) := by decide +kernel
theorem dX5_init_108 : decode cX5_init 108 = .ok (.aload_n 0, 1) := by decide +kernel
theorem dX5_init_109 : decode cX5_init 109 = .ok (.bipush 16, 2) := by decide +kernel
theorem dX5_init_111 : decode cX5_init 111 = .ok (.newarray .int, 2) := by decide +kernel
theorem dX5_init_113 : decode cX5_init 113 = .ok (.putfield 50, 3) := by decide +kernel
theorem dX5_init_116 : decode cX5_init 116 = .ok (.aload_n 0, 1) := by decide +kernel
end
section
theorem dX5_init_117 : decode cX5_init 117 = .ok (.bipush 16, 2) := by decide +kernel
theorem dX5_init_119 : decode cX5_init 119 = .ok (.newarray .int, 2) := by decide +kernel
theorem dX5_init_121 : decode cX5_init 121 = .ok (.putfield 53, 3) := by decide +kernel
theorem dX5_init_124 : decode cX5_init 124 = .ok (.aload_n 0, 1) := by decide +kernel
theorem dX5_init_125 : decode cX5_init 125 = .ok (.bipush 16, 2) := by decide +kernel
theorem dX5_init_127 : decode cX5_init 127 = .ok (.newarray .int, 2) := by decide +kernel
theorem dX5_init_129 : decode cX5_init 129 = .ok (.putfield 56, 3) := by decide +kernel
theorem dX5_init_132 : decode cX5_init 132 = .ok (.aload_n 0, 1) := by decide +kernel
theorem dX5_init_133 : decode cX5_init 133 = .ok (.bipush 16, 2) := by decide +kernel
theorem dX5_init_135 : decode cX5_init 135 = .ok (.newarray .int, 2) := by decide +kernel
theorem dX5_init_137 : decode cX5_init 137 = .ok (.putfield 59, 3) := by decide +kernel
theorem dX5_init_140 : decode cX5_init 140 = .ok (.aload_n 0, 1) := by decide +kernel
theorem dX5_init_141 : decode cX5_init 141 = .ok (.bipush 16, 2) := by decide +kernel
theorem dX5_init_143 : decode cX5_init 143 = .ok (.newarray .int, 2) := by decide +kernel
theorem dX5_init_145 : decode cX5_init 145 = .ok (.putfield 62, 3) := by decide +kernel
theorem dX5_init_148 : decode cX5_init 148 = .ok (.aload_n 0, 1) := by decide +kernel
theorem dX5_init_149 : decode cX5_init 149 = .ok (.bipush 96, 2) := by decide +kernel
theorem dX5_init_151 : decode cX5_init 151 = .ok (.newarray .int, 2) := by decide +kernel
theorem dX5_init_153 : decode cX5_init 153 = .ok (.putfield 65, 3) := by decide +kernel
theorem dX5_init_156 : decode cX5_init 156 = .ok (.aload_n 0, 1) := by decide +kernel
theorem dX5_init_157 : decode cX5_init 157 = .ok (.bipush 96, 2) := by decide +kernel
theorem dX5_init_159 : decode cX5_init 159 = .ok (.newarray .int, 2) := by decide +kernel
theorem dX5_init_161 : decode cX5_init 161 = .ok (.putfield 68, 3) := by decide +kernel
theorem dX5_init_164 : decode cX5_init 164 = .ok (.aload_n 0, 1) := by decide +kernel
theorem dX5_init_165 : decode cX5_init 165 = .ok (.bipush 16, 2) := by decide +kernel
theorem dX5_init_167 : decode cX5_init 167 = .ok (.newarray .int, 2) := by decide +kernel
theorem dX5_init_169 : decode cX5_init 169 = .ok (.putfield 71, 3) := by decide +kernel
theorem dX5_init_172 : decode cX5_init 172 = .ok (.aload_n 0, 1) := by decide +kernel
theorem dX5_init_173 : decode cX5_init 173 = .ok (.bipush 16, 2) := by decide +kernel
theorem dX5_init_175 : decode cX5_init 175 = .ok (.newarray .int, 2) := by decide +kernel
theorem dX5_init_177 : decode cX5_init 177 = .ok (.putfield 74, 3) := by decide +kernel
theorem dX5_init_180 : decode cX5_init 180 = .ok (.aload_n 0, 1) := by decide +kernel
theorem dX5_init_181 : decode cX5_init 181 = .ok (.bipush 16, 2) := by decide +kernel
theorem dX5_init_183 : decode cX5_init 183 = .ok (.newarray .int, 2) := by decide +kernel
theorem dX5_init_185 : decode cX5_init 185 = .ok (.putfield 77, 3) := by decide +kernel
theorem dX5_init_188 : decode cX5_init 188 = .ok (.aload_n 0, 1) := by decide +kernel
theorem dX5_init_189 : decode cX5_init 189 = .ok (.bipush 96, 2) := by decide +kernel
theorem dX5_init_191 : decode cX5_init 191 = .ok (.newarray .int, 2) := by decide +kernel
theorem dX5_init_193 : decode cX5_init 193 = .ok (.putfield 80, 3) := by decide +kernel
theorem dX5_init_196 : decode cX5_init 196 = .ok (.aload_n 0, 1) := by decide +kernel
theorem dX5_init_197 : decode cX5_init 197 = .ok (.iconst 4, 1) := by decide +kernel
theorem dX5_init_198 : decode cX5_init 198 = .ok (.newarray .int, 2) := by decide +kernel
theorem dX5_init_200 : decode cX5_init 200 = .ok (.putfield 83, 3) := by decide +kernel
theorem dX5_init_203 : decode cX5_init 203 = .ok (.aload_n 0, 1) := by decide +kernel
theorem dX5_init_204 : decode cX5_init 204 = .ok (.iconst 4, 1) := by decide +kernel
theorem dX5_init_205 : decode cX5_init 205 = .ok (.newarray .int, 2) := by decide +kernel
theorem dX5_init_207 : decode cX5_init 207 = .ok (.putfield 86, 3) := by decide +kernel
theorem dX5_init_210 : decode cX5_init 210 = .ok (.aload_n 0, 1) := by decide +kernel
theorem dX5_init_211 : decode cX5_init 211 = .ok (.iconst 4, 1) := by decide +kernel
theorem dX5_init_212 : decode cX5_init 212 = .ok (.newarray .int, 2) := by decide +kernel
theorem dX5_init_214 : decode cX5_init 214 = .ok (.putfield 89, 3) := by decide +kernel
theorem dX5_init_217 : decode cX5_init 217 = .ok (.aload_n 0, 1) := by decide +kernel
theorem dX5_init_218 : decode cX5_init 218 = .ok (.iconst 4, 1) := by decide +kernel
theorem dX5_init_219 : decode cX5_init 219 = .ok (.newarray .int, 2) := by decide +kernel
theorem dX5_init_221 : decode cX5_init 221 = .ok (.putfield 92, 3) := by decide +kernel
theorem dX5_init_224 : decode cX5_init 224 = .ok (.aload_n 0, 1) := by decide +kernel
theorem dX5_init_225 : decode cX5_init 225 = .ok (.bipush 32, 2) := by decide +kernel
theorem dX5_init_227 : decode cX5_init 227 = .ok (.newarray .int, 2) := by decide +kernel
theorem dX5_init_229 : decode cX5_init 229 = .ok (.putfield 95, 3) := by decide +kernel
theorem dX5_init_232 : decode cX5_init 232 = .ok (.aload_n 0, 1) := by decide +kernel
theorem dX5_init_233 : decode cX5_init 233 = .ok (.bipush 8, 2) := by decide +kernel
theorem dX5_init_235 : decode cX5_init 235 = .ok (.newarray .int, 2) := by decide +kernel
theorem dX5_init_237 : decode cX5_init 237 = .ok (.putfield 98, 3) := by decide +kernel
theorem dX5_init_240 : decode cX5_init 240 = .ok (.iconst 0, 1) := by decide +kernel
theorem dX5_init_241 : decode cX5_init 241 = .ok (.istore_n 1, 1) := by decide +kernel
theorem dX5_init_242 : decode cX5_init 242 = .ok (.iload_n 1, 1) := by decide +kernel
theorem dX5_init_243 : decode cX5_init 243 = .ok (.bipush 16, 2) := by decide +kernel
theorem dX5_init_245 : decode cX5_init 245 = .ok (.if_icmp .ge 16, 3) := by decide +kernel
theorem dX5_init_248 : decode cX5_init 248 = .ok (.aload_n 0, 1) := by decide +kernel
theorem dX5_init_249 : decode cX5_init 249 = .ok (.getfield 7, 3) := by decide +kernel
theorem dX5_init_252 : decode cX5_init 252 = .ok (.iload_n 1, 1) := by decide +kernel
theorem dX5_init_253 : decode cX5_init 253 = .ok (.iconst (-1), 1) := by decide +kernel
theorem dX5_init_254 : decode cX5_init 254 = .ok (.iastore, 1) := by decide +kernel
theorem dX5_init_255 : decode cX5_init 255 = .ok (.iinc 1 1, 3) := by decide +kernel
theorem dX5_init_258 : decode cX5_init 258 = .ok (.goto (-16), 3) := by decide +kernel
theorem dX5_init_261 : decode cX5_init 261 = .ok (.aload_n 0, 1) := by decide +kernel
theorem dX5_init_262 : decode cX5_init 262 = .ok (.invokevirtual 101, 3) := by decide +kernel
theorem dX5_init_265 : decode cX5_init 265 = .ok (.return_, 1) := by decide +kernel
theorem dX5_thrown_0 : decode cX5_thrown 0 = .ok (.aload_n 0, 1) := by decide +kernel
theorem dX5_thrown_1 : decode cX5_thrown 1 = .ok (.getfield 104, 3) := by decide +kernel
theorem dX5_thrown_4 : decode cX5_thrown 4 = .ok (.ireturn, 1) := by decide +kernel
theorem dX5_refused_0 : decode cX5_refused 0 = .ok (.aload_n 0, 1) := by decide +kernel
theorem dX5_refused_1 : decode cX5_refused 1 = .ok (.iload_n 1, 1) := by decide +kernel
theorem dX5_refused_2 : decode cX5_refused 2 = .ok (.ifCond .eq 7, 3) := by decide +kernel
theorem dX5_refused_5 : decode cX5_refused 5 = .ok (.iconst 1, 1) := by decide +kernel
theorem dX5_refused_6 : decode cX5_refused 6 = .ok (.goto 20, 3) := by decide +kernel
theorem dX5_refused_9 : decode cX5_refused 9 = .ok (.iload_n 2, 1) := by decide +kernel
theorem dX5_refused_10 : decode cX5_refused 10 = .ok (.ifCond .eq 7, 3) := by decide +kernel
theorem dX5_refused_13 : decode cX5_refused 13 = .ok (.iconst 2, 1) := by decide +kernel
theorem dX5_refused_14 : decode cX5_refused 14 = .ok (.goto 12, 3) := by decide +kernel
theorem dX5_refused_17 : decode cX5_refused 17 = .ok (.iload_n 3, 1) := by decide +kernel
theorem dX5_refused_18 : decode cX5_refused 18 = .ok (.ifCond .eq 7, 3) := by decide +kernel
theorem dX5_refused_21 : decode cX5_refused 21 = .ok (.iconst 3, 1) := by decide +kernel
theorem dX5_refused_22 : decode cX5_refused 22 = .ok (.goto 4, 3) := by decide +kernel
theorem dX5_refused_25 : decode cX5_refused 25 = .ok (.iconst 0, 1) := by decide +kernel
theorem dX5_refused_26 : decode cX5_refused 26 = .ok (.putfield 104, 3) := by decide +kernel
theorem dX5_refused_29 : decode cX5_refused 29 = .ok (.aload_n 0, 1) := by decide +kernel
theorem dX5_refused_30 : decode cX5_refused 30 = .ok (.getfield 104, 3) := by decide +kernel
theorem dX5_refused_33 : decode cX5_refused 33 = .ok (.ifCond .le 7, 3) := by decide +kernel
theorem dX5_refused_36 : decode cX5_refused 36 = .ok (.iconst 1, 1) := by decide +kernel
theorem dX5_refused_37 : decode cX5_refused 37 = .ok (.goto 4, 3) := by decide +kernel
theorem dX5_refused_40 : decode cX5_refused 40 = .ok (.iconst 0, 1) := by decide +kernel
theorem dX5_refused_41 : decode cX5_refused 41 = .ok (.ireturn, 1) := by decide +kernel
theorem dX5_isTask_0 : decode cX5_isTask 0 = .ok (.iload_n 1, 1) := by decide +kernel
theorem dX5_isTask_1 : decode cX5_isTask 1 = .ok (.ifCond .lt 22, 3) := by decide +kernel
theorem dX5_isTask_4 : decode cX5_isTask 4 = .ok (.iload_n 1, 1) := by decide +kernel
theorem dX5_isTask_5 : decode cX5_isTask 5 = .ok (.bipush 16, 2) := by decide +kernel
theorem dX5_isTask_7 : decode cX5_isTask 7 = .ok (.if_icmp .ge 16, 3) := by decide +kernel
theorem dX5_isTask_10 : decode cX5_isTask 10 = .ok (.aload_n 0, 1) := by decide +kernel
theorem dX5_isTask_11 : decode cX5_isTask 11 = .ok (.getfield 7, 3) := by decide +kernel
theorem dX5_isTask_14 : decode cX5_isTask 14 = .ok (.iload_n 1, 1) := by decide +kernel
theorem dX5_isTask_15 : decode cX5_isTask 15 = .ok (.iaload, 1) := by decide +kernel
theorem dX5_isTask_16 : decode cX5_isTask 16 = .ok (.ifCond .lt 7, 3) := by decide +kernel
theorem dX5_isTask_19 : decode cX5_isTask 19 = .ok (.iconst 1, 1) := by decide +kernel
theorem dX5_isTask_20 : decode cX5_isTask 20 = .ok (.goto 4, 3) := by decide +kernel
theorem dX5_isTask_23 : decode cX5_isTask 23 = .ok (.iconst 0, 1) := by decide +kernel
theorem dX5_isTask_24 : decode cX5_isTask 24 = .ok (.ireturn, 1) := by decide +kernel
theorem dX5_isRequest_0 : decode cX5_isRequest 0 = .ok (.aload_n 0, 1) := by decide +kernel
theorem dX5_isRequest_1 : decode cX5_isRequest 1 = .ok (.iload_n 1, 1) := by decide +kernel
theorem dX5_isRequest_2 : decode cX5_isRequest 2 = .ok (.invokevirtual 108, 3) := by decide +kernel
theorem dX5_isRequest_5 : decode cX5_isRequest 5 = .ok (.ifCond .eq 21, 3) := by decide +kernel
theorem dX5_isRequest_8 : decode cX5_isRequest 8 = .ok (.iload_n 2, 1) := by decide +kernel
theorem dX5_isRequest_9 : decode cX5_isRequest 9 = .ok (.ifCond .lt 17, 3) := by decide +kernel
theorem dX5_isRequest_12 : decode cX5_isRequest 12 = .ok (.iload_n 2, 1) := by decide +kernel
theorem dX5_isRequest_13 : decode cX5_isRequest 13 = .ok (.aload_n 0, 1) := by decide +kernel
theorem dX5_isRequest_14 : decode cX5_isRequest 14 = .ok (.getfield 25, 3) := by decide +kernel
theorem dX5_isRequest_17 : decode cX5_isRequest 17 = .ok (.iload_n 1, 1) := by decide +kernel
theorem dX5_isRequest_18 : decode cX5_isRequest 18 = .ok (.iaload, 1) := by decide +kernel
theorem dX5_isRequest_19 : decode cX5_isRequest 19 = .ok (.if_icmp .ge 7, 3) := by decide +kernel
theorem dX5_isRequest_22 : decode cX5_isRequest 22 = .ok (.iconst 1, 1) := by decide +kernel
theorem dX5_isRequest_23 : decode cX5_isRequest 23 = .ok (.goto 4, 3) := by decide +kernel
theorem dX5_isRequest_26 : decode cX5_isRequest 26 = .ok (.iconst 0, 1) := by decide +kernel
theorem dX5_isRequest_27 : decode cX5_isRequest 27 = .ok (.ireturn, 1) := by decide +kernel
theorem dX5_within_0 : decode cX5_within 0 = .ok (.iload_n 0, 1) := by decide +kernel
theorem dX5_within_1 : decode cX5_within 1 = .ok (.iload_n 1, 1) := by decide +kernel
theorem dX5_within_2 : decode cX5_within 2 = .ok (.if_icmp .lt 12, 3) := by decide +kernel
theorem dX5_within_5 : decode cX5_within 5 = .ok (.iload_n 0, 1) := by decide +kernel
theorem dX5_within_6 : decode cX5_within 6 = .ok (.iload_n 2, 1) := by decide +kernel
theorem dX5_within_7 : decode cX5_within 7 = .ok (.if_icmp .gt 7, 3) := by decide +kernel
theorem dX5_within_10 : decode cX5_within 10 = .ok (.iconst 1, 1) := by decide +kernel
theorem dX5_within_11 : decode cX5_within 11 = .ok (.goto 4, 3) := by decide +kernel
theorem dX5_within_14 : decode cX5_within 14 = .ok (.iconst 0, 1) := by decide +kernel
theorem dX5_within_15 : decode cX5_within 15 = .ok (.ireturn, 1) := by decide +kernel
theorem dX5_hasPriority_0 : decode cX5_hasPriority 0 = .ok (.iconst 0, 1) := by decide +kernel
theorem dX5_hasPriority_1 : decode cX5_hasPriority 1 = .ok (.istore_n 3, 1) := by decide +kernel
theorem dX5_hasPriority_2 : decode cX5_hasPriority 2 = .ok (.iload_n 3, 1) := by decide +kernel
theorem dX5_hasPriority_3 : decode cX5_hasPriority 3 = .ok (.bipush 16, 2) := by decide +kernel
theorem dX5_hasPriority_5 : decode cX5_hasPriority 5 = .ok (.if_icmp .ge 35, 3) := by decide +kernel
theorem dX5_hasPriority_8 : decode cX5_hasPriority 8 = .ok (.aload_n 0, 1) := by decide +kernel
theorem dX5_hasPriority_9 : decode cX5_hasPriority 9 = .ok (.getfield 7, 3) := by decide +kernel
theorem dX5_hasPriority_12 : decode cX5_hasPriority 12 = .ok (.iload_n 3, 1) := by decide +kernel
theorem dX5_hasPriority_13 : decode cX5_hasPriority 13 = .ok (.iaload, 1) := by decide +kernel
theorem dX5_hasPriority_14 : decode cX5_hasPriority 14 = .ok (.iload_n 1, 1) := by decide +kernel
theorem dX5_hasPriority_15 : decode cX5_hasPriority 15 = .ok (.if_icmp .ne 19, 3) := by decide +kernel
theorem dX5_hasPriority_18 : decode cX5_hasPriority 18 = .ok (.iload_n 1, 1) := by decide +kernel
theorem dX5_hasPriority_19 : decode cX5_hasPriority 19 = .ok (.ifCond .lt 15, 3) := by decide +kernel
theorem dX5_hasPriority_22 : decode cX5_hasPriority 22 = .ok (.aload_n 0, 1) := by decide +kernel
theorem dX5_hasPriority_23 : decode cX5_hasPriority 23 = .ok (.getfield 13, 3) := by decide +kernel
theorem dX5_hasPriority_26 : decode cX5_hasPriority 26 = .ok (.iload_n 3, 1) := by decide +kernel
theorem dX5_hasPriority_27 : decode cX5_hasPriority 27 = .ok (.iaload, 1) := by decide +kernel
theorem dX5_hasPriority_28 : decode cX5_hasPriority 28 = .ok (.iload_n 2, 1) := by decide +kernel
theorem dX5_hasPriority_29 : decode cX5_hasPriority 29 = .ok (.if_icmp .ne 5, 3) := by decide +kernel
theorem dX5_hasPriority_32 : decode cX5_hasPriority 32 = .ok (.iconst 1, 1) := by decide +kernel
theorem dX5_hasPriority_33 : decode cX5_hasPriority 33 = .ok (.ireturn, 1) := by decide +kernel
theorem dX5_hasPriority_34 : decode cX5_hasPriority 34 = .ok (.iinc 3 1, 3) := by decide +kernel
theorem dX5_hasPriority_37 : decode cX5_hasPriority 37 = .ok (.goto (-35), 3) := by decide +kernel
theorem dX5_hasPriority_40 : decode cX5_hasPriority 40 = .ok (.iconst 0, 1) := by decide +kernel
theorem dX5_hasPriority_41 : decode cX5_hasPriority 41 = .ok (.ireturn, 1) := by decide +kernel
theorem dX5_task_0 : decode cX5_task 0 = .ok (.iload_n 1, 1) := by decide +kernel
theorem dX5_task_1 : decode cX5_task 1 = .ok (.iconst 0, 1) := by decide +kernel
theorem dX5_task_2 : decode cX5_task 2 = .ok (.bipush 15, 2) := by decide +kernel
theorem dX5_task_4 : decode cX5_task 4 = .ok (.invokestatic 112, 3) := by decide +kernel
theorem dX5_task_7 : decode cX5_task 7 = .ok (.ifCond .ne 7, 3) := by decide +kernel
theorem dX5_task_10 : decode cX5_task 10 = .ok (.iconst 1, 1) := by decide +kernel
theorem dX5_task_11 : decode cX5_task 11 = .ok (.goto 4, 3) := by decide +kernel
theorem dX5_task_14 : decode cX5_task 14 = .ok (.iconst 0, 1) := by decide +kernel
theorem dX5_task_15 : decode cX5_task 15 = .ok (.istore 7, 2) := by decide +kernel
theorem dX5_task_17 : decode cX5_task 17 = .ok (.iload 7, 2) := by decide +kernel
theorem dX5_task_19 : decode cX5_task 19 = .ok (.ifCond .ne 23, 3) := by decide +kernel
theorem dX5_task_22 : decode cX5_task 22 = .ok (.aload_n 0, 1) := by decide +kernel
theorem dX5_task_23 : decode cX5_task 23 = .ok (.getfield 116, 3) := by decide +kernel
theorem dX5_task_26 : decode cX5_task 26 = .ok (.ifCond .ne 12, 3) := by decide +kernel
theorem dX5_task_29 : decode cX5_task 29 = .ok (.aload_n 0, 1) := by decide +kernel
theorem dX5_task_30 : decode cX5_task 30 = .ok (.getfield 7, 3) := by decide +kernel
theorem dX5_task_33 : decode cX5_task 33 = .ok (.iload_n 1, 1) := by decide +kernel
theorem dX5_task_34 : decode cX5_task 34 = .ok (.iaload, 1) := by decide +kernel
theorem dX5_task_35 : decode cX5_task 35 = .ok (.ifCond .lt 7, 3) := by decide +kernel
theorem dX5_task_38 : decode cX5_task 38 = .ok (.iconst 1, 1) := by decide +kernel
theorem dX5_task_39 : decode cX5_task 39 = .ok (.goto 4, 3) := by decide +kernel
theorem dX5_task_42 : decode cX5_task 42 = .ok (.iconst 0, 1) := by decide +kernel
theorem dX5_task_43 : decode cX5_task 43 = .ok (.istore 8, 2) := by decide +kernel
theorem dX5_task_45 : decode cX5_task 45 = .ok (.iload_n 2, 1) := by decide +kernel
theorem dX5_task_46 : decode cX5_task 46 = .ok (.iconst 0, 1) := by decide +kernel
theorem dX5_task_47 : decode cX5_task 47 = .ok (.iconst 3, 1) := by decide +kernel
theorem dX5_task_48 : decode cX5_task 48 = .ok (.invokestatic 112, 3) := by decide +kernel
theorem dX5_task_51 : decode cX5_task 51 = .ok (.ifCond .eq 62, 3) := by decide +kernel
theorem dX5_task_54 : decode cX5_task 54 = .ok (.iload_n 3, 1) := by decide +kernel
theorem dX5_task_55 : decode cX5_task 55 = .ok (.iconst 0, 1) := by decide +kernel
theorem dX5_task_56 : decode cX5_task 56 = .ok (.sipush 1000, 3) := by decide +kernel
theorem dX5_task_59 : decode cX5_task 59 = .ok (.invokestatic 112, 3) := by decide +kernel
theorem dX5_task_62 : decode cX5_task 62 = .ok (.ifCond .eq 51, 3) := by decide +kernel
theorem dX5_task_65 : decode cX5_task 65 = .ok (.iload 4, 2) := by decide +kernel
theorem dX5_task_67 : decode cX5_task 67 = .ok (.iconst 1, 1) := by decide +kernel
theorem dX5_task_68 : decode cX5_task 68 = .ok (.sipush 10000, 3) := by decide +kernel
theorem dX5_task_71 : decode cX5_task 71 = .ok (.invokestatic 112, 3) := by decide +kernel
theorem dX5_task_74 : decode cX5_task 74 = .ok (.ifCond .eq 39, 3) := by decide +kernel
theorem dX5_task_77 : decode cX5_task 77 = .ok (.iload 5, 2) := by decide +kernel
theorem dX5_task_79 : decode cX5_task 79 = .ok (.iconst 1, 1) := by decide +kernel
theorem dX5_task_80 : decode cX5_task 80 = .ok (.iload 4, 2) := by decide +kernel
theorem dX5_task_82 : decode cX5_task 82 = .ok (.invokestatic 112, 3) := by decide +kernel
theorem dX5_task_85 : decode cX5_task 85 = .ok (.ifCond .eq 28, 3) := by decide +kernel
theorem dX5_task_88 : decode cX5_task 88 = .ok (.iload 6, 2) := by decide +kernel
theorem dX5_task_90 : decode cX5_task 90 = .ok (.iconst 1, 1) := by decide +kernel
theorem dX5_task_91 : decode cX5_task 91 = .ok (.sipush 1000, 3) := by decide +kernel
theorem dX5_task_94 : decode cX5_task 94 = .ok (.invokestatic 112, 3) := by decide +kernel
theorem dX5_task_97 : decode cX5_task 97 = .ok (.ifCond .eq 16, 3) := by decide +kernel
theorem dX5_task_100 : decode cX5_task 100 = .ok (.aload_n 0, 1) := by decide +kernel
theorem dX5_task_101 : decode cX5_task 101 = .ok (.iload_n 2, 1) := by decide +kernel
theorem dX5_task_102 : decode cX5_task 102 = .ok (.iload_n 3, 1) := by decide +kernel
theorem dX5_task_103 : decode cX5_task 103 = .ok (.invokevirtual 120, 3) := by decide +kernel
theorem dX5_task_106 : decode cX5_task 106 = .ok (.ifCond .ne 7, 3) := by decide +kernel
theorem dX5_task_109 : decode cX5_task 109 = .ok (.iconst 1, 1) := by decide +kernel
theorem dX5_task_110 : decode cX5_task 110 = .ok (.goto 4, 3) := by decide +kernel
theorem dX5_task_113 : decode cX5_task 113 = .ok (.iconst 0, 1) := by decide +kernel
theorem dX5_task_114 : decode cX5_task 114 = .ok (.istore 9, 2) := by decide +kernel
theorem dX5_task_116 : decode cX5_task 116 = .ok (.aload_n 0, 1) := by decide +kernel
theorem dX5_task_117 : decode cX5_task 117 = .ok (.iload 7, 2) := by decide +kernel
theorem dX5_task_119 : decode cX5_task 119 = .ok (.iload 8, 2) := by decide +kernel
theorem dX5_task_121 : decode cX5_task 121 = .ok (.iload 9, 2) := by decide +kernel
theorem dX5_task_123 : decode cX5_task 123 = .ok (.ifCond .ne 7, 3) := by decide +kernel
theorem dX5_task_126 : decode cX5_task 126 = .ok (.iconst 1, 1) := by decide +kernel
theorem dX5_task_127 : decode cX5_task 127 = .ok (.goto 4, 3) := by decide +kernel
theorem dX5_task_130 : decode cX5_task 130 = .ok (.iconst 0, 1) := by decide +kernel
theorem dX5_task_131 : decode cX5_task 131 = .ok (.invokevirtual 124, 3) := by decide +kernel
theorem dX5_task_134 : decode cX5_task 134 = .ok (.ifCond .eq 4, 3) := by decide +kernel
theorem dX5_task_137 : decode cX5_task 137 = .ok (.return_, 1) := by decide +kernel
theorem dX5_task_138 : decode cX5_task 138 = .ok (.aload_n 0, 1) := by decide +kernel
theorem dX5_task_139 : decode cX5_task 139 = .ok (.getfield 7, 3) := by decide +kernel
theorem dX5_task_142 : decode cX5_task 142 = .ok (.iload_n 1, 1) := by decide +kernel
theorem dX5_task_143 : decode cX5_task 143 = .ok (.iload_n 2, 1) := by decide +kernel
theorem dX5_task_144 : decode cX5_task 144 = .ok (.iastore, 1) := by decide +kernel
theorem dX5_task_145 : decode cX5_task 145 = .ok (.aload_n 0, 1) := by decide +kernel
theorem dX5_task_146 : decode cX5_task 146 = .ok (.getfield 13, 3) := by decide +kernel
theorem dX5_task_149 : decode cX5_task 149 = .ok (.iload_n 1, 1) := by decide +kernel
theorem dX5_task_150 : decode cX5_task 150 = .ok (.iload_n 3, 1) := by decide +kernel
theorem dX5_task_151 : decode cX5_task 151 = .ok (.iastore, 1) := by decide +kernel
theorem dX5_task_152 : decode cX5_task 152 = .ok (.aload_n 0, 1) := by decide +kernel
theorem dX5_task_153 : decode cX5_task 153 = .ok (.getfield 16, 3) := by decide +kernel
theorem dX5_task_156 : decode cX5_task 156 = .ok (.iload_n 1, 1) := by decide +kernel
theorem dX5_task_157 : decode cX5_task 157 = .ok (.iload 4, 2) := by decide +kernel
theorem dX5_task_159 : decode cX5_task 159 = .ok (.iastore, 1) := by decide +kernel
theorem dX5_task_160 : decode cX5_task 160 = .ok (.aload_n 0, 1) := by decide +kernel
theorem dX5_task_161 : decode cX5_task 161 = .ok (.getfield 19, 3) := by decide +kernel
theorem dX5_task_164 : decode cX5_task 164 = .ok (.iload_n 1, 1) := by decide +kernel
theorem dX5_task_165 : decode cX5_task 165 = .ok (.iload 5, 2) := by decide +kernel
theorem dX5_task_167 : decode cX5_task 167 = .ok (.iastore, 1) := by decide +kernel
theorem dX5_task_168 : decode cX5_task 168 = .ok (.aload_n 0, 1) := by decide +kernel
theorem dX5_task_169 : decode cX5_task 169 = .ok (.getfield 22, 3) := by decide +kernel
theorem dX5_task_172 : decode cX5_task 172 = .ok (.iload_n 1, 1) := by decide +kernel
theorem dX5_task_173 : decode cX5_task 173 = .ok (.iload 6, 2) := by decide +kernel
theorem dX5_task_175 : decode cX5_task 175 = .ok (.iastore, 1) := by decide +kernel
theorem dX5_task_176 : decode cX5_task 176 = .ok (.aload_n 0, 1) := by decide +kernel
theorem dX5_task_177 : decode cX5_task 177 = .ok (.getfield 25, 3) := by decide +kernel
theorem dX5_task_180 : decode cX5_task 180 = .ok (.iload_n 1, 1) := by decide +kernel
theorem dX5_task_181 : decode cX5_task 181 = .ok (.iconst 0, 1) := by decide +kernel
theorem dX5_task_182 : decode cX5_task 182 = .ok (.iastore, 1) := by decide +kernel
theorem dX5_task_183 : decode cX5_task 183 = .ok (.return_, 1) := by decide +kernel
theorem dX5_outerBefore_0 : decode cX5_outerBefore 0 = .ok (.aload_n 0, 1) := by decide +kernel
theorem dX5_outerBefore_1 : decode cX5_outerBefore 1 = .ok (.getfield 25, 3) := by decide +kernel
theorem dX5_outerBefore_4 : decode cX5_outerBefore 4 = .ok (.iload_n 1, 1) := by decide +kernel
theorem dX5_outerBefore_5 : decode cX5_outerBefore 5 = .ok (.iaload, 1) := by decide +kernel
theorem dX5_outerBefore_6 : decode cX5_outerBefore 6 = .ok (.iconst 1, 1) := by decide +kernel
theorem dX5_outerBefore_7 : decode cX5_outerBefore 7 = .ok (.isub, 1) := by decide +kernel
theorem dX5_outerBefore_8 : decode cX5_outerBefore 8 = .ok (.istore_n 2, 1) := by decide +kernel
theorem dX5_outerBefore_9 : decode cX5_outerBefore 9 = .ok (.iload_n 2, 1) := by decide +kernel
theorem dX5_outerBefore_10 : decode cX5_outerBefore 10 = .ok (.ifCond .lt 23, 3) := by decide +kernel
theorem dX5_outerBefore_13 : decode cX5_outerBefore 13 = .ok (.aload_n 0, 1) := by decide +kernel
theorem dX5_outerBefore_14 : decode cX5_outerBefore 14 = .ok (.getfield 37, 3) := by decide +kernel
theorem dX5_outerBefore_17 : decode cX5_outerBefore 17 = .ok (.bipush 6, 2) := by decide +kernel
theorem dX5_outerBefore_19 : decode cX5_outerBefore 19 = .ok (.iload_n 1, 1) := by decide +kernel
theorem dX5_outerBefore_20 : decode cX5_outerBefore 20 = .ok (.imul, 1) := by decide +kernel
theorem dX5_outerBefore_21 : decode cX5_outerBefore 21 = .ok (.iload_n 2, 1) := by decide +kernel
theorem dX5_outerBefore_22 : decode cX5_outerBefore 22 = .ok (.iadd, 1) := by decide +kernel
theorem dX5_outerBefore_23 : decode cX5_outerBefore 23 = .ok (.iaload, 1) := by decide +kernel
theorem dX5_outerBefore_24 : decode cX5_outerBefore 24 = .ok (.ifCond .lt 9, 3) := by decide +kernel
theorem dX5_outerBefore_27 : decode cX5_outerBefore 27 = .ok (.iinc 2 (-1), 3) := by decide +kernel
theorem dX5_outerBefore_30 : decode cX5_outerBefore 30 = .ok (.goto (-21), 3) := by decide +kernel
theorem dX5_outerBefore_33 : decode cX5_outerBefore 33 = .ok (.iload_n 2, 1) := by decide +kernel
theorem dX5_outerBefore_34 : decode cX5_outerBefore 34 = .ok (.ireturn, 1) := by decide +kernel
theorem dX5_mayBe_0 : decode cX5_mayBe 0 = .ok (.iload_n 3, 1) := by decide +kernel
theorem dX5_mayBe_1 : decode cX5_mayBe 1 = .ok (.iconst 0, 1) := by decide +kernel
theorem dX5_mayBe_2 : decode cX5_mayBe 2 = .ok (.bipush 7, 2) := by decide +kernel
theorem dX5_mayBe_4 : decode cX5_mayBe 4 = .ok (.invokestatic 112, 3) := by decide +kernel
theorem dX5_mayBe_7 : decode cX5_mayBe 7 = .ok (.ifCond .eq 18, 3) := by decide +kernel
theorem dX5_mayBe_10 : decode cX5_mayBe 10 = .ok (.iload 4, 2) := by decide +kernel
theorem dX5_mayBe_12 : decode cX5_mayBe 12 = .ok (.iconst 1, 1) := by decide +kernel
theorem dX5_mayBe_13 : decode cX5_mayBe 13 = .ok (.bipush 100, 2) := by decide +kernel
theorem dX5_mayBe_15 : decode cX5_mayBe 15 = .ok (.invokestatic 112, 3) := by decide +kernel
theorem dX5_mayBe_18 : decode cX5_mayBe 18 = .ok (.ifCond .eq 7, 3) := by decide +kernel
theorem dX5_mayBe_21 : decode cX5_mayBe 21 = .ok (.iload_n 2, 1) := by decide +kernel
theorem dX5_mayBe_22 : decode cX5_mayBe 22 = .ok (.ifCond .ge 5, 3) := by decide +kernel
theorem dX5_mayBe_25 : decode cX5_mayBe 25 = .ok (.iconst 0, 1) := by decide +kernel
theorem dX5_mayBe_26 : decode cX5_mayBe 26 = .ok (.ireturn, 1) := by decide +kernel
theorem dX5_mayBe_27 : decode cX5_mayBe 27 = .ok (.iload 5, 2) := by decide +kernel
theorem dX5_mayBe_29 : decode cX5_mayBe 29 = .ok (.iconst (-1), 1) := by decide +kernel
theorem dX5_mayBe_30 : decode cX5_mayBe 30 = .ok (.if_icmp .ne 47, 3) := by decide +kernel
theorem dX5_mayBe_33 : decode cX5_mayBe 33 = .ok (.aload_n 0, 1) := by decide +kernel
theorem dX5_mayBe_34 : decode cX5_mayBe 34 = .ok (.iload_n 1, 1) := by decide +kernel
theorem dX5_mayBe_35 : decode cX5_mayBe 35 = .ok (.invokevirtual 128, 3) := by decide +kernel
theorem dX5_mayBe_38 : decode cX5_mayBe 38 = .ok (.istore 6, 2) := by decide +kernel
theorem dX5_mayBe_40 : decode cX5_mayBe 40 = .ok (.iload_n 2, 1) := by decide +kernel
theorem dX5_mayBe_41 : decode cX5_mayBe 41 = .ok (.aload_n 0, 1) := by decide +kernel
theorem dX5_mayBe_42 : decode cX5_mayBe 42 = .ok (.getfield 22, 3) := by decide +kernel
theorem dX5_mayBe_45 : decode cX5_mayBe 45 = .ok (.iload_n 1, 1) := by decide +kernel
theorem dX5_mayBe_46 : decode cX5_mayBe 46 = .ok (.iaload, 1) := by decide +kernel
theorem dX5_mayBe_47 : decode cX5_mayBe 47 = .ok (.if_icmp .gt 28, 3) := by decide +kernel
theorem dX5_mayBe_50 : decode cX5_mayBe 50 = .ok (.iload 6, 2) := by decide +kernel
theorem dX5_mayBe_52 : decode cX5_mayBe 52 = .ok (.ifCond .lt 19, 3) := by decide +kernel
theorem dX5_mayBe_55 : decode cX5_mayBe 55 = .ok (.iload_n 2, 1) := by decide +kernel
theorem dX5_mayBe_56 : decode cX5_mayBe 56 = .ok (.aload_n 0, 1) := by decide +kernel
theorem dX5_mayBe_57 : decode cX5_mayBe 57 = .ok (.getfield 28, 3) := by decide +kernel
theorem dX5_mayBe_60 : decode cX5_mayBe 60 = .ok (.bipush 6, 2) := by decide +kernel
theorem dX5_mayBe_62 : decode cX5_mayBe 62 = .ok (.iload_n 1, 1) := by decide +kernel
theorem dX5_mayBe_63 : decode cX5_mayBe 63 = .ok (.imul, 1) := by decide +kernel
theorem dX5_mayBe_64 : decode cX5_mayBe 64 = .ok (.iload 6, 2) := by decide +kernel
theorem dX5_mayBe_66 : decode cX5_mayBe 66 = .ok (.iadd, 1) := by decide +kernel
theorem dX5_mayBe_67 : decode cX5_mayBe 67 = .ok (.iaload, 1) := by decide +kernel
theorem dX5_mayBe_68 : decode cX5_mayBe 68 = .ok (.if_icmp .lt 7, 3) := by decide +kernel
theorem dX5_mayBe_71 : decode cX5_mayBe 71 = .ok (.iconst 1, 1) := by decide +kernel
theorem dX5_mayBe_72 : decode cX5_mayBe 72 = .ok (.goto 4, 3) := by decide +kernel
theorem dX5_mayBe_75 : decode cX5_mayBe 75 = .ok (.iconst 0, 1) := by decide +kernel
theorem dX5_mayBe_76 : decode cX5_mayBe 76 = .ok (.ireturn, 1) := by decide +kernel
theorem dX5_mayBe_77 : decode cX5_mayBe 77 = .ok (.aload_n 0, 1) := by decide +kernel
theorem dX5_mayBe_78 : decode cX5_mayBe 78 = .ok (.iload_n 1, 1) := by decide +kernel
theorem dX5_mayBe_79 : decode cX5_mayBe 79 = .ok (.iload 5, 2) := by decide +kernel
theorem dX5_mayBe_81 : decode cX5_mayBe 81 = .ok (.invokevirtual 132, 3) := by decide +kernel
theorem dX5_mayBe_84 : decode cX5_mayBe 84 = .ok (.ifCond .eq 48, 3) := by decide +kernel
theorem dX5_mayBe_87 : decode cX5_mayBe 87 = .ok (.aload_n 0, 1) := by decide +kernel
theorem dX5_mayBe_88 : decode cX5_mayBe 88 = .ok (.getfield 37, 3) := by decide +kernel
theorem dX5_mayBe_91 : decode cX5_mayBe 91 = .ok (.bipush 6, 2) := by decide +kernel
theorem dX5_mayBe_93 : decode cX5_mayBe 93 = .ok (.iload_n 1, 1) := by decide +kernel
theorem dX5_mayBe_94 : decode cX5_mayBe 94 = .ok (.imul, 1) := by decide +kernel
theorem dX5_mayBe_95 : decode cX5_mayBe 95 = .ok (.iload 5, 2) := by decide +kernel
theorem dX5_mayBe_97 : decode cX5_mayBe 97 = .ok (.iadd, 1) := by decide +kernel
theorem dX5_mayBe_98 : decode cX5_mayBe 98 = .ok (.iaload, 1) := by decide +kernel
theorem dX5_mayBe_99 : decode cX5_mayBe 99 = .ok (.iconst (-1), 1) := by decide +kernel
theorem dX5_mayBe_100 : decode cX5_mayBe 100 = .ok (.if_icmp .ne 32, 3) := by decide +kernel
theorem dX5_mayBe_103 : decode cX5_mayBe 103 = .ok (.iload_n 2, 1) := by decide +kernel
theorem dX5_mayBe_104 : decode cX5_mayBe 104 = .ok (.bipush 100, 2) := by decide +kernel
theorem dX5_mayBe_106 : decode cX5_mayBe 106 = .ok (.if_icmp .gt 26, 3) := by decide +kernel
theorem dX5_mayBe_109 : decode cX5_mayBe 109 = .ok (.iload_n 2, 1) := by decide +kernel
theorem dX5_mayBe_110 : decode cX5_mayBe 110 = .ok (.iload 4, 2) := by decide +kernel
theorem dX5_mayBe_112 : decode cX5_mayBe 112 = .ok (.iadd, 1) := by decide +kernel
theorem dX5_mayBe_113 : decode cX5_mayBe 113 = .ok (.aload_n 0, 1) := by decide +kernel
theorem dX5_mayBe_114 : decode cX5_mayBe 114 = .ok (.getfield 34, 3) := by decide +kernel
theorem dX5_mayBe_117 : decode cX5_mayBe 117 = .ok (.bipush 6, 2) := by decide +kernel
theorem dX5_mayBe_119 : decode cX5_mayBe 119 = .ok (.iload_n 1, 1) := by decide +kernel
theorem dX5_mayBe_120 : decode cX5_mayBe 120 = .ok (.imul, 1) := by decide +kernel
theorem dX5_mayBe_121 : decode cX5_mayBe 121 = .ok (.iload 5, 2) := by decide +kernel
theorem dX5_mayBe_123 : decode cX5_mayBe 123 = .ok (.iadd, 1) := by decide +kernel
theorem dX5_mayBe_124 : decode cX5_mayBe 124 = .ok (.iaload, 1) := by decide +kernel
theorem dX5_mayBe_125 : decode cX5_mayBe 125 = .ok (.if_icmp .gt 7, 3) := by decide +kernel
theorem dX5_mayBe_128 : decode cX5_mayBe 128 = .ok (.iconst 1, 1) := by decide +kernel
theorem dX5_mayBe_129 : decode cX5_mayBe 129 = .ok (.goto 4, 3) := by decide +kernel
theorem dX5_mayBe_132 : decode cX5_mayBe 132 = .ok (.iconst 0, 1) := by decide +kernel
theorem dX5_mayBe_133 : decode cX5_mayBe 133 = .ok (.ireturn, 1) := by decide +kernel
theorem dX5_request_0 : decode cX5_request 0 = .ok (.aload_n 0, 1) := by decide +kernel
theorem dX5_request_1 : decode cX5_request 1 = .ok (.iload_n 1, 1) := by decide +kernel
theorem dX5_request_2 : decode cX5_request 2 = .ok (.invokevirtual 108, 3) := by decide +kernel
theorem dX5_request_5 : decode cX5_request 5 = .ok (.ifCond .ne 7, 3) := by decide +kernel
theorem dX5_request_8 : decode cX5_request 8 = .ok (.iconst 1, 1) := by decide +kernel
theorem dX5_request_9 : decode cX5_request 9 = .ok (.goto 4, 3) := by decide +kernel
theorem dX5_request_12 : decode cX5_request 12 = .ok (.iconst 0, 1) := by decide +kernel
theorem dX5_request_13 : decode cX5_request 13 = .ok (.istore 6, 2) := by decide +kernel
theorem dX5_request_15 : decode cX5_request 15 = .ok (.iload 6, 2) := by decide +kernel
theorem dX5_request_17 : decode cX5_request 17 = .ok (.ifCond .ne 25, 3) := by decide +kernel
theorem dX5_request_20 : decode cX5_request 20 = .ok (.aload_n 0, 1) := by decide +kernel
theorem dX5_request_21 : decode cX5_request 21 = .ok (.getfield 116, 3) := by decide +kernel
theorem dX5_request_24 : decode cX5_request 24 = .ok (.ifCond .ne 14, 3) := by decide +kernel
theorem dX5_request_27 : decode cX5_request 27 = .ok (.aload_n 0, 1) := by decide +kernel
theorem dX5_request_28 : decode cX5_request 28 = .ok (.getfield 25, 3) := by decide +kernel
theorem dX5_request_31 : decode cX5_request 31 = .ok (.iload_n 1, 1) := by decide +kernel
theorem dX5_request_32 : decode cX5_request 32 = .ok (.iaload, 1) := by decide +kernel
theorem dX5_request_33 : decode cX5_request 33 = .ok (.bipush 6, 2) := by decide +kernel
theorem dX5_request_35 : decode cX5_request 35 = .ok (.if_icmp .ne 7, 3) := by decide +kernel
theorem dX5_request_38 : decode cX5_request 38 = .ok (.iconst 1, 1) := by decide +kernel
theorem dX5_request_39 : decode cX5_request 39 = .ok (.goto 4, 3) := by decide +kernel
theorem dX5_request_42 : decode cX5_request 42 = .ok (.iconst 0, 1) := by decide +kernel
theorem dX5_request_43 : decode cX5_request 43 = .ok (.istore 7, 2) := by decide +kernel
theorem dX5_request_45 : decode cX5_request 45 = .ok (.aload_n 0, 1) := by decide +kernel
theorem dX5_request_46 : decode cX5_request 46 = .ok (.iload 6, 2) := by decide +kernel
theorem dX5_request_48 : decode cX5_request 48 = .ok (.iload 7, 2) := by decide +kernel
theorem dX5_request_50 : decode cX5_request 50 = .ok (.iload 6, 2) := by decide +kernel
theorem dX5_request_52 : decode cX5_request 52 = .ok (.ifCond .ne 26, 3) := by decide +kernel
theorem dX5_request_55 : decode cX5_request 55 = .ok (.iload 7, 2) := by decide +kernel
theorem dX5_request_57 : decode cX5_request 57 = .ok (.ifCond .ne 21, 3) := by decide +kernel
theorem dX5_request_60 : decode cX5_request 60 = .ok (.aload_n 0, 1) := by decide +kernel
theorem dX5_request_61 : decode cX5_request 61 = .ok (.iload_n 1, 1) := by decide +kernel
theorem dX5_request_62 : decode cX5_request 62 = .ok (.iload_n 2, 1) := by decide +kernel
theorem dX5_request_63 : decode cX5_request 63 = .ok (.iload_n 3, 1) := by decide +kernel
theorem dX5_request_64 : decode cX5_request 64 = .ok (.iload 4, 2) := by decide +kernel
theorem dX5_request_66 : decode cX5_request 66 = .ok (.iload 5, 2) := by decide +kernel
theorem dX5_request_68 : decode cX5_request 68 = .ok (.invokevirtual 135, 3) := by decide +kernel
theorem dX5_request_71 : decode cX5_request 71 = .ok (.ifCond .ne 7, 3) := by decide +kernel
theorem dX5_request_74 : decode cX5_request 74 = .ok (.iconst 1, 1) := by decide +kernel
theorem dX5_request_75 : decode cX5_request 75 = .ok (.goto 4, 3) := by decide +kernel
theorem dX5_request_78 : decode cX5_request 78 = .ok (.iconst 0, 1) := by decide +kernel
theorem dX5_request_79 : decode cX5_request 79 = .ok (.invokevirtual 124, 3) := by decide +kernel
theorem dX5_request_82 : decode cX5_request 82 = .ok (.ifCond .eq 5, 3) := by decide +kernel
theorem dX5_request_85 : decode cX5_request 85 = .ok (.iconst 0, 1) := by decide +kernel
theorem dX5_request_86 : decode cX5_request 86 = .ok (.ireturn, 1) := by decide +kernel
theorem dX5_request_87 : decode cX5_request 87 = .ok (.bipush 6, 2) := by decide +kernel
theorem dX5_request_89 : decode cX5_request 89 = .ok (.iload_n 1, 1) := by decide +kernel
theorem dX5_request_90 : decode cX5_request 90 = .ok (.imul, 1) := by decide +kernel
theorem dX5_request_91 : decode cX5_request 91 = .ok (.aload_n 0, 1) := by decide +kernel
theorem dX5_request_92 : decode cX5_request 92 = .ok (.getfield 25, 3) := by decide +kernel
theorem dX5_request_95 : decode cX5_request 95 = .ok (.iload_n 1, 1) := by decide +kernel
theorem dX5_request_96 : decode cX5_request 96 = .ok (.iaload, 1) := by decide +kernel
theorem dX5_request_97 : decode cX5_request 97 = .ok (.iadd, 1) := by decide +kernel
theorem dX5_request_98 : decode cX5_request 98 = .ok (.istore 8, 2) := by decide +kernel
theorem dX5_request_100 : decode cX5_request 100 = .ok (.aload_n 0, 1) := by decide +kernel
theorem dX5_request_101 : decode cX5_request 101 = .ok (.getfield 28, 3) := by decide +kernel
theorem dX5_request_104 : decode cX5_request 104 = .ok (.iload 8, 2) := by decide +kernel
theorem dX5_request_106 : decode cX5_request 106 = .ok (.iload_n 2, 1) := by decide +kernel
theorem dX5_request_107 : decode cX5_request 107 = .ok (.iastore, 1) := by decide +kernel
theorem dX5_request_108 : decode cX5_request 108 = .ok (.aload_n 0, 1) := by decide +kernel
theorem dX5_request_109 : decode cX5_request 109 = .ok (.getfield 31, 3) := by decide +kernel
theorem dX5_request_112 : decode cX5_request 112 = .ok (.iload 8, 2) := by decide +kernel
theorem dX5_request_114 : decode cX5_request 114 = .ok (.iload_n 3, 1) := by decide +kernel
theorem dX5_request_115 : decode cX5_request 115 = .ok (.iastore, 1) := by decide +kernel
theorem dX5_request_116 : decode cX5_request 116 = .ok (.aload_n 0, 1) := by decide +kernel
theorem dX5_request_117 : decode cX5_request 117 = .ok (.getfield 34, 3) := by decide +kernel
theorem dX5_request_120 : decode cX5_request 120 = .ok (.iload 8, 2) := by decide +kernel
theorem dX5_request_122 : decode cX5_request 122 = .ok (.iload 4, 2) := by decide +kernel
theorem dX5_request_124 : decode cX5_request 124 = .ok (.iastore, 1) := by decide +kernel
theorem dX5_request_125 : decode cX5_request 125 = .ok (.aload_n 0, 1) := by decide +kernel
theorem dX5_request_126 : decode cX5_request 126 = .ok (.getfield 37, 3) := by decide +kernel
theorem dX5_request_129 : decode cX5_request 129 = .ok (.iload 8, 2) := by decide +kernel
theorem dX5_request_131 : decode cX5_request 131 = .ok (.iload 5, 2) := by decide +kernel
theorem dX5_request_133 : decode cX5_request 133 = .ok (.iastore, 1) := by decide +kernel
theorem dX5_request_134 : decode cX5_request 134 = .ok (.aload_n 0, 1) := by decide +kernel
theorem dX5_request_135 : decode cX5_request 135 = .ok (.getfield 68, 3) := by decide +kernel
theorem dX5_request_138 : decode cX5_request 138 = .ok (.iload 8, 2) := by decide +kernel
theorem dX5_request_140 : decode cX5_request 140 = .ok (.iload 4, 2) := by decide +kernel
theorem dX5_request_142 : decode cX5_request 142 = .ok (.iastore, 1) := by decide +kernel
theorem dX5_request_143 : decode cX5_request 143 = .ok (.aload_n 0, 1) := by decide +kernel
theorem dX5_request_144 : decode cX5_request 144 = .ok (.getfield 25, 3) := by decide +kernel
theorem dX5_request_147 : decode cX5_request 147 = .ok (.iload_n 1, 1) := by decide +kernel
theorem dX5_request_148 : decode cX5_request 148 = .ok (.dup2, 1) := by decide +kernel
theorem dX5_request_149 : decode cX5_request 149 = .ok (.iaload, 1) := by decide +kernel
theorem dX5_request_150 : decode cX5_request 150 = .ok (.iconst 1, 1) := by decide +kernel
theorem dX5_request_151 : decode cX5_request 151 = .ok (.iadd, 1) := by decide +kernel
theorem dX5_request_152 : decode cX5_request 152 = .ok (.iastore, 1) := by decide +kernel
theorem dX5_request_153 : decode cX5_request 153 = .ok (.aload_n 0, 1) := by decide +kernel
theorem dX5_request_154 : decode cX5_request 154 = .ok (.getfield 25, 3) := by decide +kernel
theorem dX5_request_157 : decode cX5_request 157 = .ok (.iload_n 1, 1) := by decide +kernel
theorem dX5_request_158 : decode cX5_request 158 = .ok (.iaload, 1) := by decide +kernel
theorem dX5_request_159 : decode cX5_request 159 = .ok (.iconst 1, 1) := by decide +kernel
theorem dX5_request_160 : decode cX5_request 160 = .ok (.isub, 1) := by decide +kernel
theorem dX5_request_161 : decode cX5_request 161 = .ok (.ireturn, 1) := by decide +kernel
theorem dX5_take_0 : decode cX5_take 0 = .ok (.aload_n 0, 1) := by decide +kernel
theorem dX5_take_1 : decode cX5_take 1 = .ok (.aload_n 0, 1) := by decide +kernel
theorem dX5_take_2 : decode cX5_take 2 = .ok (.iload_n 1, 1) := by decide +kernel
theorem dX5_take_3 : decode cX5_take 3 = .ok (.invokevirtual 108, 3) := by decide +kernel
theorem dX5_take_6 : decode cX5_take 6 = .ok (.ifCond .ne 7, 3) := by decide +kernel
theorem dX5_take_9 : decode cX5_take 9 = .ok (.iconst 1, 1) := by decide +kernel
theorem dX5_take_10 : decode cX5_take 10 = .ok (.goto 4, 3) := by decide +kernel
theorem dX5_take_13 : decode cX5_take 13 = .ok (.iconst 0, 1) := by decide +kernel
theorem dX5_take_14 : decode cX5_take 14 = .ok (.aload_n 0, 1) := by decide +kernel
theorem dX5_take_15 : decode cX5_take 15 = .ok (.getfield 116, 3) := by decide +kernel
theorem dX5_take_18 : decode cX5_take 18 = .ok (.iconst 0, 1) := by decide +kernel
theorem dX5_take_19 : decode cX5_take 19 = .ok (.invokevirtual 124, 3) := by decide +kernel
theorem dX5_take_22 : decode cX5_take 22 = .ok (.ifCond .ne 17, 3) := by decide +kernel
theorem dX5_take_25 : decode cX5_take 25 = .ok (.aload_n 0, 1) := by decide +kernel
theorem dX5_take_26 : decode cX5_take 26 = .ok (.getfield 7, 3) := by decide +kernel
theorem dX5_take_29 : decode cX5_take 29 = .ok (.iload_n 1, 1) := by decide +kernel
theorem dX5_take_30 : decode cX5_take 30 = .ok (.iconst (-1), 1) := by decide +kernel
theorem dX5_take_31 : decode cX5_take 31 = .ok (.iastore, 1) := by decide +kernel
theorem dX5_take_32 : decode cX5_take 32 = .ok (.aload_n 0, 1) := by decide +kernel
theorem dX5_take_33 : decode cX5_take 33 = .ok (.getfield 25, 3) := by decide +kernel
theorem dX5_take_36 : decode cX5_take 36 = .ok (.iload_n 1, 1) := by decide +kernel
theorem dX5_take_37 : decode cX5_take 37 = .ok (.iconst 0, 1) := by decide +kernel
theorem dX5_take_38 : decode cX5_take 38 = .ok (.iastore, 1) := by decide +kernel
theorem dX5_take_39 : decode cX5_take 39 = .ok (.return_, 1) := by decide +kernel
theorem dX5_findGroups_0 : decode cX5_findGroups 0 = .ok (.iconst 0, 1) := by decide +kernel
theorem dX5_findGroups_1 : decode cX5_findGroups 1 = .ok (.istore_n 1, 1) := by decide +kernel
theorem dX5_findGroups_2 : decode cX5_findGroups 2 = .ok (.iload_n 1, 1) := by decide +kernel
theorem dX5_findGroups_3 : decode cX5_findGroups 3 = .ok (.bipush 8, 2) := by decide +kernel
theorem dX5_findGroups_5 : decode cX5_findGroups 5 = .ok (.if_icmp .ge 16, 3) := by decide +kernel
theorem dX5_findGroups_8 : decode cX5_findGroups 8 = .ok (.aload_n 0, 1) := by decide +kernel
theorem dX5_findGroups_9 : decode cX5_findGroups 9 = .ok (.getfield 40, 3) := by decide +kernel
theorem dX5_findGroups_12 : decode cX5_findGroups 12 = .ok (.iload_n 1, 1) := by decide +kernel
theorem dX5_findGroups_13 : decode cX5_findGroups 13 = .ok (.iload_n 1, 1) := by decide +kernel
theorem dX5_findGroups_14 : decode cX5_findGroups 14 = .ok (.iastore, 1) := by decide +kernel
theorem dX5_findGroups_15 : decode cX5_findGroups 15 = .ok (.iinc 1 1, 3) := by decide +kernel
theorem dX5_findGroups_18 : decode cX5_findGroups 18 = .ok (.goto (-16), 3) := by decide +kernel
theorem dX5_findGroups_21 : decode cX5_findGroups 21 = .ok (.iconst 1, 1) := by decide +kernel
theorem dX5_findGroups_22 : decode cX5_findGroups 22 = .ok (.istore_n 1, 1) := by decide +kernel
theorem dX5_findGroups_23 : decode cX5_findGroups 23 = .ok (.iload_n 1, 1) := by decide +kernel
theorem dX5_findGroups_24 : decode cX5_findGroups 24 = .ok (.ifCond .eq 166, 3) := by decide +kernel
theorem dX5_findGroups_27 : decode cX5_findGroups 27 = .ok (.iconst 0, 1) := by decide +kernel
theorem dX5_findGroups_28 : decode cX5_findGroups 28 = .ok (.istore_n 1, 1) := by decide +kernel
theorem dX5_findGroups_29 : decode cX5_findGroups 29 = .ok (.iconst 0, 1) := by decide +kernel
theorem dX5_findGroups_30 : decode cX5_findGroups 30 = .ok (.istore_n 2, 1) := by decide +kernel
theorem dX5_findGroups_31 : decode cX5_findGroups 31 = .ok (.iload_n 2, 1) := by decide +kernel
theorem dX5_findGroups_32 : decode cX5_findGroups 32 = .ok (.bipush 16, 2) := by decide +kernel
theorem dX5_findGroups_34 : decode cX5_findGroups 34 = .ok (.if_icmp .ge 153, 3) := by decide +kernel
theorem dX5_findGroups_37 : decode cX5_findGroups 37 = .ok (.iconst 0, 1) := by decide +kernel
theorem dX5_findGroups_38 : decode cX5_findGroups 38 = .ok (.istore_n 3, 1) := by decide +kernel
theorem dX5_findGroups_39 : decode cX5_findGroups 39 = .ok (.iload_n 3, 1) := by decide +kernel
theorem dX5_findGroups_40 : decode cX5_findGroups 40 = .ok (.aload_n 0, 1) := by decide +kernel
theorem dX5_findGroups_41 : decode cX5_findGroups 41 = .ok (.getfield 25, 3) := by decide +kernel
theorem dX5_findGroups_44 : decode cX5_findGroups 44 = .ok (.iload_n 2, 1) := by decide +kernel
theorem dX5_findGroups_45 : decode cX5_findGroups 45 = .ok (.iaload, 1) := by decide +kernel
theorem dX5_findGroups_46 : decode cX5_findGroups 46 = .ok (.if_icmp .ge 135, 3) := by decide +kernel
theorem dX5_findGroups_49 : decode cX5_findGroups 49 = .ok (.aload_n 0, 1) := by decide +kernel
theorem dX5_findGroups_50 : decode cX5_findGroups 50 = .ok (.getfield 37, 3) := by decide +kernel
theorem dX5_findGroups_53 : decode cX5_findGroups 53 = .ok (.bipush 6, 2) := by decide +kernel
theorem dX5_findGroups_55 : decode cX5_findGroups 55 = .ok (.iload_n 2, 1) := by decide +kernel
theorem dX5_findGroups_56 : decode cX5_findGroups 56 = .ok (.imul, 1) := by decide +kernel
theorem dX5_findGroups_57 : decode cX5_findGroups 57 = .ok (.iload_n 3, 1) := by decide +kernel
theorem dX5_findGroups_58 : decode cX5_findGroups 58 = .ok (.iadd, 1) := by decide +kernel
theorem dX5_findGroups_59 : decode cX5_findGroups 59 = .ok (.iaload, 1) := by decide +kernel
theorem dX5_findGroups_60 : decode cX5_findGroups 60 = .ok (.istore 4, 2) := by decide +kernel
theorem dX5_findGroups_62 : decode cX5_findGroups 62 = .ok (.iload 4, 2) := by decide +kernel
theorem dX5_findGroups_64 : decode cX5_findGroups 64 = .ok (.ifCond .lt 111, 3) := by decide +kernel
theorem dX5_findGroups_67 : decode cX5_findGroups 67 = .ok (.aload_n 0, 1) := by decide +kernel
theorem dX5_findGroups_68 : decode cX5_findGroups 68 = .ok (.getfield 31, 3) := by decide +kernel
theorem dX5_findGroups_71 : decode cX5_findGroups 71 = .ok (.bipush 6, 2) := by decide +kernel
theorem dX5_findGroups_73 : decode cX5_findGroups 73 = .ok (.iload_n 2, 1) := by decide +kernel
theorem dX5_findGroups_74 : decode cX5_findGroups 74 = .ok (.imul, 1) := by decide +kernel
theorem dX5_findGroups_75 : decode cX5_findGroups 75 = .ok (.iload_n 3, 1) := by decide +kernel
theorem dX5_findGroups_76 : decode cX5_findGroups 76 = .ok (.iadd, 1) := by decide +kernel
theorem dX5_findGroups_77 : decode cX5_findGroups 77 = .ok (.iaload, 1) := by decide +kernel
theorem dX5_findGroups_78 : decode cX5_findGroups 78 = .ok (.istore 5, 2) := by decide +kernel
theorem dX5_findGroups_80 : decode cX5_findGroups 80 = .ok (.aload_n 0, 1) := by decide +kernel
theorem dX5_findGroups_81 : decode cX5_findGroups 81 = .ok (.getfield 31, 3) := by decide +kernel
theorem dX5_findGroups_84 : decode cX5_findGroups 84 = .ok (.bipush 6, 2) := by decide +kernel
theorem dX5_findGroups_86 : decode cX5_findGroups 86 = .ok (.iload_n 2, 1) := by decide +kernel
theorem dX5_findGroups_87 : decode cX5_findGroups 87 = .ok (.imul, 1) := by decide +kernel
theorem dX5_findGroups_88 : decode cX5_findGroups 88 = .ok (.iload 4, 2) := by decide +kernel
theorem dX5_findGroups_90 : decode cX5_findGroups 90 = .ok (.iadd, 1) := by decide +kernel
theorem dX5_findGroups_91 : decode cX5_findGroups 91 = .ok (.iaload, 1) := by decide +kernel
theorem dX5_findGroups_92 : decode cX5_findGroups 92 = .ok (.istore 6, 2) := by decide +kernel
theorem dX5_findGroups_94 : decode cX5_findGroups 94 = .ok (.iload_n 1, 1) := by decide +kernel
theorem dX5_findGroups_95 : decode cX5_findGroups 95 = .ok (.ifCond .ne 20, 3) := by decide +kernel
theorem dX5_findGroups_98 : decode cX5_findGroups 98 = .ok (.aload_n 0, 1) := by decide +kernel
theorem dX5_findGroups_99 : decode cX5_findGroups 99 = .ok (.getfield 40, 3) := by decide +kernel
theorem dX5_findGroups_102 : decode cX5_findGroups 102 = .ok (.iload 5, 2) := by decide +kernel
theorem dX5_findGroups_104 : decode cX5_findGroups 104 = .ok (.iaload, 1) := by decide +kernel
theorem dX5_findGroups_105 : decode cX5_findGroups 105 = .ok (.aload_n 0, 1) := by decide +kernel
theorem dX5_findGroups_106 : decode cX5_findGroups 106 = .ok (.getfield 40, 3) := by decide +kernel
theorem dX5_findGroups_109 : decode cX5_findGroups 109 = .ok (.iload 6, 2) := by decide +kernel
theorem dX5_findGroups_111 : decode cX5_findGroups 111 = .ok (.iaload, 1) := by decide +kernel
theorem dX5_findGroups_112 : decode cX5_findGroups 112 = .ok (.if_icmp .eq 7, 3) := by decide +kernel
theorem dX5_findGroups_115 : decode cX5_findGroups 115 = .ok (.iconst 1, 1) := by decide +kernel
theorem dX5_findGroups_116 : decode cX5_findGroups 116 = .ok (.goto 4, 3) := by decide +kernel
theorem dX5_findGroups_119 : decode cX5_findGroups 119 = .ok (.iconst 0, 1) := by decide +kernel
theorem dX5_findGroups_120 : decode cX5_findGroups 120 = .ok (.istore_n 1, 1) := by decide +kernel
theorem dX5_findGroups_121 : decode cX5_findGroups 121 = .ok (.aload_n 0, 1) := by decide +kernel
theorem dX5_findGroups_122 : decode cX5_findGroups 122 = .ok (.getfield 40, 3) := by decide +kernel
theorem dX5_findGroups_125 : decode cX5_findGroups 125 = .ok (.iload 5, 2) := by decide +kernel
theorem dX5_findGroups_127 : decode cX5_findGroups 127 = .ok (.iaload, 1) := by decide +kernel
theorem dX5_findGroups_128 : decode cX5_findGroups 128 = .ok (.aload_n 0, 1) := by decide +kernel
theorem dX5_findGroups_129 : decode cX5_findGroups 129 = .ok (.getfield 40, 3) := by decide +kernel
theorem dX5_findGroups_132 : decode cX5_findGroups 132 = .ok (.iload 6, 2) := by decide +kernel
theorem dX5_findGroups_134 : decode cX5_findGroups 134 = .ok (.iaload, 1) := by decide +kernel
theorem dX5_findGroups_135 : decode cX5_findGroups 135 = .ok (.if_icmp .ge 13, 3) := by decide +kernel
theorem dX5_findGroups_138 : decode cX5_findGroups 138 = .ok (.aload_n 0, 1) := by decide +kernel
theorem dX5_findGroups_139 : decode cX5_findGroups 139 = .ok (.getfield 40, 3) := by decide +kernel
theorem dX5_findGroups_142 : decode cX5_findGroups 142 = .ok (.iload 5, 2) := by decide +kernel
theorem dX5_findGroups_144 : decode cX5_findGroups 144 = .ok (.iaload, 1) := by decide +kernel
theorem dX5_findGroups_145 : decode cX5_findGroups 145 = .ok (.goto 10, 3) := by decide +kernel
theorem dX5_findGroups_148 : decode cX5_findGroups 148 = .ok (.aload_n 0, 1) := by decide +kernel
theorem dX5_findGroups_149 : decode cX5_findGroups 149 = .ok (.getfield 40, 3) := by decide +kernel
theorem dX5_findGroups_152 : decode cX5_findGroups 152 = .ok (.iload 6, 2) := by decide +kernel
theorem dX5_findGroups_154 : decode cX5_findGroups 154 = .ok (.iaload, 1) := by decide +kernel
theorem dX5_findGroups_155 : decode cX5_findGroups 155 = .ok (.istore 7, 2) := by decide +kernel
theorem dX5_findGroups_157 : decode cX5_findGroups 157 = .ok (.aload_n 0, 1) := by decide +kernel
theorem dX5_findGroups_158 : decode cX5_findGroups 158 = .ok (.getfield 40, 3) := by decide +kernel
theorem dX5_findGroups_161 : decode cX5_findGroups 161 = .ok (.iload 5, 2) := by decide +kernel
theorem dX5_findGroups_163 : decode cX5_findGroups 163 = .ok (.iload 7, 2) := by decide +kernel
theorem dX5_findGroups_165 : decode cX5_findGroups 165 = .ok (.iastore, 1) := by decide +kernel
theorem dX5_findGroups_166 : decode cX5_findGroups 166 = .ok (.aload_n 0, 1) := by decide +kernel
theorem dX5_findGroups_167 : decode cX5_findGroups 167 = .ok (.getfield 40, 3) := by decide +kernel
theorem dX5_findGroups_170 : decode cX5_findGroups 170 = .ok (.iload 6, 2) := by decide +kernel
theorem dX5_findGroups_172 : decode cX5_findGroups 172 = .ok (.iload 7, 2) := by decide +kernel
theorem dX5_findGroups_174 : decode cX5_findGroups 174 = .ok (.iastore, 1) := by decide +kernel
theorem dX5_findGroups_175 : decode cX5_findGroups 175 = .ok (.iinc 3 1, 3) := by decide +kernel
theorem dX5_findGroups_178 : decode cX5_findGroups 178 = .ok (.goto (-139), 3) := by decide +kernel
theorem dX5_findGroups_181 : decode cX5_findGroups 181 = .ok (.iinc 2 1, 3) := by decide +kernel
theorem dX5_findGroups_184 : decode cX5_findGroups 184 = .ok (.goto (-153), 3) := by decide +kernel
theorem dX5_findGroups_187 : decode cX5_findGroups 187 = .ok (.goto (-164), 3) := by decide +kernel
theorem dX5_findGroups_190 : decode cX5_findGroups 190 = .ok (.return_, 1) := by decide +kernel
theorem dX5_group_0 : decode cX5_group 0 = .ok (.aload_n 0, 1) := by decide +kernel
theorem dX5_group_1 : decode cX5_group 1 = .ok (.iload_n 1, 1) := by decide +kernel
theorem dX5_group_2 : decode cX5_group 2 = .ok (.iconst 0, 1) := by decide +kernel
theorem dX5_group_3 : decode cX5_group 3 = .ok (.bipush 7, 2) := by decide +kernel
theorem dX5_group_5 : decode cX5_group 5 = .ok (.invokestatic 112, 3) := by decide +kernel
theorem dX5_group_8 : decode cX5_group 8 = .ok (.ifCond .ne 7, 3) := by decide +kernel
theorem dX5_group_11 : decode cX5_group 11 = .ok (.iconst 1, 1) := by decide +kernel
theorem dX5_group_12 : decode cX5_group 12 = .ok (.goto 4, 3) := by decide +kernel
theorem dX5_group_15 : decode cX5_group 15 = .ok (.iconst 0, 1) := by decide +kernel
theorem dX5_group_16 : decode cX5_group 16 = .ok (.iconst 0, 1) := by decide +kernel
theorem dX5_group_17 : decode cX5_group 17 = .ok (.iconst 0, 1) := by decide +kernel
theorem dX5_group_18 : decode cX5_group 18 = .ok (.invokevirtual 124, 3) := by decide +kernel
theorem dX5_group_21 : decode cX5_group 21 = .ok (.ifCond .eq 5, 3) := by decide +kernel
theorem dX5_group_24 : decode cX5_group 24 = .ok (.iconst 0, 1) := by decide +kernel
theorem dX5_group_25 : decode cX5_group 25 = .ok (.ireturn, 1) := by decide +kernel
theorem dX5_group_26 : decode cX5_group 26 = .ok (.aload_n 0, 1) := by decide +kernel
theorem dX5_group_27 : decode cX5_group 27 = .ok (.invokevirtual 139, 3) := by decide +kernel
theorem dX5_group_30 : decode cX5_group 30 = .ok (.aload_n 0, 1) := by decide +kernel
theorem dX5_group_31 : decode cX5_group 31 = .ok (.getfield 40, 3) := by decide +kernel
theorem dX5_group_34 : decode cX5_group 34 = .ok (.iload_n 1, 1) := by decide +kernel
theorem dX5_group_35 : decode cX5_group 35 = .ok (.iaload, 1) := by decide +kernel
theorem dX5_group_36 : decode cX5_group 36 = .ok (.ireturn, 1) := by decide +kernel
theorem dX5_isOuter_0 : decode cX5_isOuter 0 = .ok (.aload_n 0, 1) := by decide +kernel
theorem dX5_isOuter_1 : decode cX5_isOuter 1 = .ok (.getfield 37, 3) := by decide +kernel
theorem dX5_isOuter_4 : decode cX5_isOuter 4 = .ok (.bipush 6, 2) := by decide +kernel
theorem dX5_isOuter_6 : decode cX5_isOuter 6 = .ok (.iload_n 1, 1) := by decide +kernel
theorem dX5_isOuter_7 : decode cX5_isOuter 7 = .ok (.imul, 1) := by decide +kernel
theorem dX5_isOuter_8 : decode cX5_isOuter 8 = .ok (.iload_n 2, 1) := by decide +kernel
theorem dX5_isOuter_9 : decode cX5_isOuter 9 = .ok (.iadd, 1) := by decide +kernel
theorem dX5_isOuter_10 : decode cX5_isOuter 10 = .ok (.iaload, 1) := by decide +kernel
theorem dX5_isOuter_11 : decode cX5_isOuter 11 = .ok (.iconst (-1), 1) := by decide +kernel
theorem dX5_isOuter_12 : decode cX5_isOuter 12 = .ok (.if_icmp .ne 7, 3) := by decide +kernel
theorem dX5_isOuter_15 : decode cX5_isOuter 15 = .ok (.iconst 1, 1) := by decide +kernel
theorem dX5_isOuter_16 : decode cX5_isOuter 16 = .ok (.goto 4, 3) := by decide +kernel
theorem dX5_isOuter_19 : decode cX5_isOuter 19 = .ok (.iconst 0, 1) := by decide +kernel
theorem dX5_isOuter_20 : decode cX5_isOuter 20 = .ok (.ireturn, 1) := by decide +kernel
theorem dX5_spinOf_0 : decode cX5_spinOf 0 = .ok (.iconst 0, 1) := by decide +kernel
theorem dX5_spinOf_1 : decode cX5_spinOf 1 = .ok (.istore_n 3, 1) := by decide +kernel
theorem dX5_spinOf_2 : decode cX5_spinOf 2 = .ok (.iconst 0, 1) := by decide +kernel
theorem dX5_spinOf_3 : decode cX5_spinOf 3 = .ok (.istore 4, 2) := by decide +kernel
theorem dX5_spinOf_5 : decode cX5_spinOf 5 = .ok (.iload 4, 2) := by decide +kernel
theorem dX5_spinOf_7 : decode cX5_spinOf 7 = .ok (.iconst 4, 1) := by decide +kernel
theorem dX5_spinOf_8 : decode cX5_spinOf 8 = .ok (.if_icmp .ge 175, 3) := by decide +kernel
theorem dX5_spinOf_11 : decode cX5_spinOf 11 = .ok (.iconst 0, 1) := by decide +kernel
theorem dX5_spinOf_12 : decode cX5_spinOf 12 = .ok (.istore 5, 2) := by decide +kernel
theorem dX5_spinOf_14 : decode cX5_spinOf 14 = .ok (.iconst 0, 1) := by decide +kernel
theorem dX5_spinOf_15 : decode cX5_spinOf 15 = .ok (.istore 6, 2) := by decide +kernel
theorem dX5_spinOf_17 : decode cX5_spinOf 17 = .ok (.iload 6, 2) := by decide +kernel
theorem dX5_spinOf_19 : decode cX5_spinOf 19 = .ok (.bipush 16, 2) := by decide +kernel
theorem dX5_spinOf_21 : decode cX5_spinOf 21 = .ok (.if_icmp .ge 151, 3) := by decide +kernel
theorem dX5_spinOf_24 : decode cX5_spinOf 24 = .ok (.iconst 0, 1) := by decide +kernel
theorem dX5_spinOf_25 : decode cX5_spinOf 25 = .ok (.istore 7, 2) := by decide +kernel
theorem dX5_spinOf_27 : decode cX5_spinOf 27 = .ok (.iload 7, 2) := by decide +kernel
theorem dX5_spinOf_29 : decode cX5_spinOf 29 = .ok (.aload_n 0, 1) := by decide +kernel
theorem dX5_spinOf_30 : decode cX5_spinOf 30 = .ok (.getfield 25, 3) := by decide +kernel
theorem dX5_spinOf_33 : decode cX5_spinOf 33 = .ok (.iload 6, 2) := by decide +kernel
theorem dX5_spinOf_35 : decode cX5_spinOf 35 = .ok (.iaload, 1) := by decide +kernel
theorem dX5_spinOf_36 : decode cX5_spinOf 36 = .ok (.if_icmp .ge 130, 3) := by decide +kernel
theorem dX5_spinOf_39 : decode cX5_spinOf 39 = .ok (.aload_n 0, 1) := by decide +kernel
theorem dX5_spinOf_40 : decode cX5_spinOf 40 = .ok (.getfield 7, 3) := by decide +kernel
theorem dX5_spinOf_43 : decode cX5_spinOf 43 = .ok (.iload 6, 2) := by decide +kernel
theorem dX5_spinOf_45 : decode cX5_spinOf 45 = .ok (.iaload, 1) := by decide +kernel
theorem dX5_spinOf_46 : decode cX5_spinOf 46 = .ok (.iload 4, 2) := by decide +kernel
theorem dX5_spinOf_48 : decode cX5_spinOf 48 = .ok (.if_icmp .ne 118, 3) := by decide +kernel
theorem dX5_spinOf_51 : decode cX5_spinOf 51 = .ok (.iload 4, 2) := by decide +kernel
theorem dX5_spinOf_53 : decode cX5_spinOf 53 = .ok (.aload_n 0, 1) := by decide +kernel
theorem dX5_spinOf_54 : decode cX5_spinOf 54 = .ok (.getfield 7, 3) := by decide +kernel
theorem dX5_spinOf_57 : decode cX5_spinOf 57 = .ok (.iload_n 1, 1) := by decide +kernel
theorem dX5_spinOf_58 : decode cX5_spinOf 58 = .ok (.iaload, 1) := by decide +kernel
theorem dX5_spinOf_59 : decode cX5_spinOf 59 = .ok (.if_icmp .eq 107, 3) := by decide +kernel
theorem dX5_spinOf_62 : decode cX5_spinOf 62 = .ok (.aload_n 0, 1) := by decide +kernel
theorem dX5_spinOf_63 : decode cX5_spinOf 63 = .ok (.iload 6, 2) := by decide +kernel
theorem dX5_spinOf_65 : decode cX5_spinOf 65 = .ok (.iload 7, 2) := by decide +kernel
theorem dX5_spinOf_67 : decode cX5_spinOf 67 = .ok (.invokevirtual 142, 3) := by decide +kernel
theorem dX5_spinOf_70 : decode cX5_spinOf 70 = .ok (.ifCond .eq 44, 3) := by decide +kernel
theorem dX5_spinOf_73 : decode cX5_spinOf 73 = .ok (.aload_n 0, 1) := by decide +kernel
theorem dX5_spinOf_74 : decode cX5_spinOf 74 = .ok (.getfield 40, 3) := by decide +kernel
theorem dX5_spinOf_77 : decode cX5_spinOf 77 = .ok (.aload_n 0, 1) := by decide +kernel
theorem dX5_spinOf_78 : decode cX5_spinOf 78 = .ok (.getfield 31, 3) := by decide +kernel
theorem dX5_spinOf_81 : decode cX5_spinOf 81 = .ok (.bipush 6, 2) := by decide +kernel
theorem dX5_spinOf_83 : decode cX5_spinOf 83 = .ok (.iload 6, 2) := by decide +kernel
theorem dX5_spinOf_85 : decode cX5_spinOf 85 = .ok (.imul, 1) := by decide +kernel
theorem dX5_spinOf_86 : decode cX5_spinOf 86 = .ok (.iload 7, 2) := by decide +kernel
theorem dX5_spinOf_88 : decode cX5_spinOf 88 = .ok (.iadd, 1) := by decide +kernel
theorem dX5_spinOf_89 : decode cX5_spinOf 89 = .ok (.iaload, 1) := by decide +kernel
theorem dX5_spinOf_90 : decode cX5_spinOf 90 = .ok (.iaload, 1) := by decide +kernel
theorem dX5_spinOf_91 : decode cX5_spinOf 91 = .ok (.aload_n 0, 1) := by decide +kernel
theorem dX5_spinOf_92 : decode cX5_spinOf 92 = .ok (.getfield 40, 3) := by decide +kernel
theorem dX5_spinOf_95 : decode cX5_spinOf 95 = .ok (.aload_n 0, 1) := by decide +kernel
theorem dX5_spinOf_96 : decode cX5_spinOf 96 = .ok (.getfield 31, 3) := by decide +kernel
theorem dX5_spinOf_99 : decode cX5_spinOf 99 = .ok (.bipush 6, 2) := by decide +kernel
theorem dX5_spinOf_101 : decode cX5_spinOf 101 = .ok (.iload_n 1, 1) := by decide +kernel
theorem dX5_spinOf_102 : decode cX5_spinOf 102 = .ok (.imul, 1) := by decide +kernel
theorem dX5_spinOf_103 : decode cX5_spinOf 103 = .ok (.iload_n 2, 1) := by decide +kernel
theorem dX5_spinOf_104 : decode cX5_spinOf 104 = .ok (.iadd, 1) := by decide +kernel
theorem dX5_spinOf_105 : decode cX5_spinOf 105 = .ok (.iaload, 1) := by decide +kernel
theorem dX5_spinOf_106 : decode cX5_spinOf 106 = .ok (.iaload, 1) := by decide +kernel
theorem dX5_spinOf_107 : decode cX5_spinOf 107 = .ok (.if_icmp .ne 7, 3) := by decide +kernel
theorem dX5_spinOf_110 : decode cX5_spinOf 110 = .ok (.iconst 1, 1) := by decide +kernel
theorem dX5_spinOf_111 : decode cX5_spinOf 111 = .ok (.goto 4, 3) := by decide +kernel
theorem dX5_spinOf_114 : decode cX5_spinOf 114 = .ok (.iconst 0, 1) := by decide +kernel
theorem dX5_spinOf_115 : decode cX5_spinOf 115 = .ok (.istore 8, 2) := by decide +kernel
theorem dX5_spinOf_117 : decode cX5_spinOf 117 = .ok (.iload 8, 2) := by decide +kernel
theorem dX5_spinOf_119 : decode cX5_spinOf 119 = .ok (.ifCond .eq 37, 3) := by decide +kernel
theorem dX5_spinOf_122 : decode cX5_spinOf 122 = .ok (.aload_n 0, 1) := by decide +kernel
theorem dX5_spinOf_123 : decode cX5_spinOf 123 = .ok (.getfield 34, 3) := by decide +kernel
theorem dX5_spinOf_126 : decode cX5_spinOf 126 = .ok (.bipush 6, 2) := by decide +kernel
theorem dX5_spinOf_128 : decode cX5_spinOf 128 = .ok (.iload 6, 2) := by decide +kernel
theorem dX5_spinOf_130 : decode cX5_spinOf 130 = .ok (.imul, 1) := by decide +kernel
theorem dX5_spinOf_131 : decode cX5_spinOf 131 = .ok (.iload 7, 2) := by decide +kernel
theorem dX5_spinOf_133 : decode cX5_spinOf 133 = .ok (.iadd, 1) := by decide +kernel
theorem dX5_spinOf_134 : decode cX5_spinOf 134 = .ok (.iaload, 1) := by decide +kernel
theorem dX5_spinOf_135 : decode cX5_spinOf 135 = .ok (.iload 5, 2) := by decide +kernel
theorem dX5_spinOf_137 : decode cX5_spinOf 137 = .ok (.if_icmp .le 19, 3) := by decide +kernel
theorem dX5_spinOf_140 : decode cX5_spinOf 140 = .ok (.aload_n 0, 1) := by decide +kernel
theorem dX5_spinOf_141 : decode cX5_spinOf 141 = .ok (.getfield 34, 3) := by decide +kernel
theorem dX5_spinOf_144 : decode cX5_spinOf 144 = .ok (.bipush 6, 2) := by decide +kernel
theorem dX5_spinOf_146 : decode cX5_spinOf 146 = .ok (.iload 6, 2) := by decide +kernel
theorem dX5_spinOf_148 : decode cX5_spinOf 148 = .ok (.imul, 1) := by decide +kernel
theorem dX5_spinOf_149 : decode cX5_spinOf 149 = .ok (.iload 7, 2) := by decide +kernel
theorem dX5_spinOf_151 : decode cX5_spinOf 151 = .ok (.iadd, 1) := by decide +kernel
theorem dX5_spinOf_152 : decode cX5_spinOf 152 = .ok (.iaload, 1) := by decide +kernel
theorem dX5_spinOf_153 : decode cX5_spinOf 153 = .ok (.goto 5, 3) := by decide +kernel
theorem dX5_spinOf_156 : decode cX5_spinOf 156 = .ok (.iload 5, 2) := by decide +kernel
theorem dX5_spinOf_158 : decode cX5_spinOf 158 = .ok (.istore 5, 2) := by decide +kernel
theorem dX5_spinOf_160 : decode cX5_spinOf 160 = .ok (.iinc 7 1, 3) := by decide +kernel
theorem dX5_spinOf_163 : decode cX5_spinOf 163 = .ok (.goto (-136), 3) := by decide +kernel
theorem dX5_spinOf_166 : decode cX5_spinOf 166 = .ok (.iinc 6 1, 3) := by decide +kernel
theorem dX5_spinOf_169 : decode cX5_spinOf 169 = .ok (.goto (-152), 3) := by decide +kernel
theorem dX5_spinOf_172 : decode cX5_spinOf 172 = .ok (.iload_n 3, 1) := by decide +kernel
theorem dX5_spinOf_173 : decode cX5_spinOf 173 = .ok (.iload 5, 2) := by decide +kernel
theorem dX5_spinOf_175 : decode cX5_spinOf 175 = .ok (.iadd, 1) := by decide +kernel
theorem dX5_spinOf_176 : decode cX5_spinOf 176 = .ok (.istore_n 3, 1) := by decide +kernel
theorem dX5_spinOf_177 : decode cX5_spinOf 177 = .ok (.iinc 4 1, 3) := by decide +kernel
theorem dX5_spinOf_180 : decode cX5_spinOf 180 = .ok (.goto (-175), 3) := by decide +kernel
theorem dX5_spinOf_183 : decode cX5_spinOf 183 = .ok (.iload_n 3, 1) := by decide +kernel
theorem dX5_spinOf_184 : decode cX5_spinOf 184 = .ok (.ireturn, 1) := by decide +kernel
theorem dX5_spin_0 : decode cX5_spin 0 = .ok (.aload_n 0, 1) := by decide +kernel
theorem dX5_spin_1 : decode cX5_spin 1 = .ok (.aload_n 0, 1) := by decide +kernel
theorem dX5_spin_2 : decode cX5_spin 2 = .ok (.iload_n 1, 1) := by decide +kernel
theorem dX5_spin_3 : decode cX5_spin 3 = .ok (.iload_n 2, 1) := by decide +kernel
theorem dX5_spin_4 : decode cX5_spin 4 = .ok (.invokevirtual 132, 3) := by decide +kernel
theorem dX5_spin_7 : decode cX5_spin 7 = .ok (.ifCond .ne 7, 3) := by decide +kernel
theorem dX5_spin_10 : decode cX5_spin 10 = .ok (.iconst 1, 1) := by decide +kernel
theorem dX5_spin_11 : decode cX5_spin 11 = .ok (.goto 4, 3) := by decide +kernel
theorem dX5_spin_14 : decode cX5_spin 14 = .ok (.iconst 0, 1) := by decide +kernel
theorem dX5_spin_15 : decode cX5_spin 15 = .ok (.iconst 0, 1) := by decide +kernel
theorem dX5_spin_16 : decode cX5_spin 16 = .ok (.iconst 0, 1) := by decide +kernel
theorem dX5_spin_17 : decode cX5_spin 17 = .ok (.invokevirtual 124, 3) := by decide +kernel
theorem dX5_spin_20 : decode cX5_spin 20 = .ok (.ifCond .eq 5, 3) := by decide +kernel
theorem dX5_spin_23 : decode cX5_spin 23 = .ok (.iconst 0, 1) := by decide +kernel
theorem dX5_spin_24 : decode cX5_spin 24 = .ok (.ireturn, 1) := by decide +kernel
theorem dX5_spin_25 : decode cX5_spin 25 = .ok (.aload_n 0, 1) := by decide +kernel
theorem dX5_spin_26 : decode cX5_spin 26 = .ok (.invokevirtual 139, 3) := by decide +kernel
theorem dX5_spin_29 : decode cX5_spin 29 = .ok (.aload_n 0, 1) := by decide +kernel
theorem dX5_spin_30 : decode cX5_spin 30 = .ok (.iload_n 1, 1) := by decide +kernel
theorem dX5_spin_31 : decode cX5_spin 31 = .ok (.iload_n 2, 1) := by decide +kernel
theorem dX5_spin_32 : decode cX5_spin 32 = .ok (.invokevirtual 142, 3) := by decide +kernel
theorem dX5_spin_35 : decode cX5_spin 35 = .ok (.ifCond .eq 12, 3) := by decide +kernel
theorem dX5_spin_38 : decode cX5_spin 38 = .ok (.aload_n 0, 1) := by decide +kernel
theorem dX5_spin_39 : decode cX5_spin 39 = .ok (.iload_n 1, 1) := by decide +kernel
theorem dX5_spin_40 : decode cX5_spin 40 = .ok (.iload_n 2, 1) := by decide +kernel
theorem dX5_spin_41 : decode cX5_spin 41 = .ok (.invokevirtual 145, 3) := by decide +kernel
theorem dX5_spin_44 : decode cX5_spin 44 = .ok (.goto 4, 3) := by decide +kernel
theorem dX5_spin_47 : decode cX5_spin 47 = .ok (.iconst 0, 1) := by decide +kernel
theorem dX5_spin_48 : decode cX5_spin 48 = .ok (.ireturn, 1) := by decide +kernel
theorem dX5_inflated_0 : decode cX5_inflated 0 = .ok (.aload_n 0, 1) := by decide +kernel
theorem dX5_inflated_1 : decode cX5_inflated 1 = .ok (.getfield 22, 3) := by decide +kernel
theorem dX5_inflated_4 : decode cX5_inflated 4 = .ok (.iload_n 1, 1) := by decide +kernel
theorem dX5_inflated_5 : decode cX5_inflated 5 = .ok (.iaload, 1) := by decide +kernel
theorem dX5_inflated_6 : decode cX5_inflated 6 = .ok (.istore_n 2, 1) := by decide +kernel
theorem dX5_inflated_7 : decode cX5_inflated 7 = .ok (.iconst 0, 1) := by decide +kernel
theorem dX5_inflated_8 : decode cX5_inflated 8 = .ok (.istore_n 3, 1) := by decide +kernel
theorem dX5_inflated_9 : decode cX5_inflated 9 = .ok (.iload_n 3, 1) := by decide +kernel
theorem dX5_inflated_10 : decode cX5_inflated 10 = .ok (.aload_n 0, 1) := by decide +kernel
theorem dX5_inflated_11 : decode cX5_inflated 11 = .ok (.getfield 25, 3) := by decide +kernel
theorem dX5_inflated_14 : decode cX5_inflated 14 = .ok (.iload_n 1, 1) := by decide +kernel
theorem dX5_inflated_15 : decode cX5_inflated 15 = .ok (.iaload, 1) := by decide +kernel
theorem dX5_inflated_16 : decode cX5_inflated 16 = .ok (.if_icmp .ge 43, 3) := by decide +kernel
theorem dX5_inflated_19 : decode cX5_inflated 19 = .ok (.aload_n 0, 1) := by decide +kernel
theorem dX5_inflated_20 : decode cX5_inflated 20 = .ok (.iload_n 1, 1) := by decide +kernel
theorem dX5_inflated_21 : decode cX5_inflated 21 = .ok (.iload_n 3, 1) := by decide +kernel
theorem dX5_inflated_22 : decode cX5_inflated 22 = .ok (.invokevirtual 142, 3) := by decide +kernel
theorem dX5_inflated_25 : decode cX5_inflated 25 = .ok (.ifCond .eq 26, 3) := by decide +kernel
theorem dX5_inflated_28 : decode cX5_inflated 28 = .ok (.iload_n 2, 1) := by decide +kernel
theorem dX5_inflated_29 : decode cX5_inflated 29 = .ok (.aload_n 0, 1) := by decide +kernel
theorem dX5_inflated_30 : decode cX5_inflated 30 = .ok (.getfield 34, 3) := by decide +kernel
theorem dX5_inflated_33 : decode cX5_inflated 33 = .ok (.bipush 6, 2) := by decide +kernel
theorem dX5_inflated_35 : decode cX5_inflated 35 = .ok (.iload_n 1, 1) := by decide +kernel
theorem dX5_inflated_36 : decode cX5_inflated 36 = .ok (.imul, 1) := by decide +kernel
theorem dX5_inflated_37 : decode cX5_inflated 37 = .ok (.iload_n 3, 1) := by decide +kernel
theorem dX5_inflated_38 : decode cX5_inflated 38 = .ok (.iadd, 1) := by decide +kernel
theorem dX5_inflated_39 : decode cX5_inflated 39 = .ok (.iaload, 1) := by decide +kernel
theorem dX5_inflated_40 : decode cX5_inflated 40 = .ok (.iadd, 1) := by decide +kernel
theorem dX5_inflated_41 : decode cX5_inflated 41 = .ok (.aload_n 0, 1) := by decide +kernel
theorem dX5_inflated_42 : decode cX5_inflated 42 = .ok (.iload_n 1, 1) := by decide +kernel
theorem dX5_inflated_43 : decode cX5_inflated 43 = .ok (.iload_n 3, 1) := by decide +kernel
theorem dX5_inflated_44 : decode cX5_inflated 44 = .ok (.invokevirtual 145, 3) := by decide +kernel
theorem dX5_inflated_47 : decode cX5_inflated 47 = .ok (.iadd, 1) := by decide +kernel
theorem dX5_inflated_48 : decode cX5_inflated 48 = .ok (.goto 4, 3) := by decide +kernel
theorem dX5_inflated_51 : decode cX5_inflated 51 = .ok (.iload_n 2, 1) := by decide +kernel
theorem dX5_inflated_52 : decode cX5_inflated 52 = .ok (.istore_n 2, 1) := by decide +kernel
theorem dX5_inflated_53 : decode cX5_inflated 53 = .ok (.iinc 3 1, 3) := by decide +kernel
theorem dX5_inflated_56 : decode cX5_inflated 56 = .ok (.goto (-47), 3) := by decide +kernel
theorem dX5_inflated_59 : decode cX5_inflated 59 = .ok (.iload_n 2, 1) := by decide +kernel
theorem dX5_inflated_60 : decode cX5_inflated 60 = .ok (.ireturn, 1) := by decide +kernel
theorem dX5_blocking_0 : decode cX5_blocking 0 = .ok (.iconst 0, 1) := by decide +kernel
theorem dX5_blocking_1 : decode cX5_blocking 1 = .ok (.istore_n 2, 1) := by decide +kernel
theorem dX5_blocking_2 : decode cX5_blocking 2 = .ok (.iconst 0, 1) := by decide +kernel
theorem dX5_blocking_3 : decode cX5_blocking 3 = .ok (.istore_n 3, 1) := by decide +kernel
theorem dX5_blocking_4 : decode cX5_blocking 4 = .ok (.iload_n 3, 1) := by decide +kernel
theorem dX5_blocking_5 : decode cX5_blocking 5 = .ok (.bipush 16, 2) := by decide +kernel
theorem dX5_blocking_7 : decode cX5_blocking 7 = .ok (.if_icmp .ge 110, 3) := by decide +kernel
theorem dX5_blocking_10 : decode cX5_blocking 10 = .ok (.iconst 0, 1) := by decide +kernel
theorem dX5_blocking_11 : decode cX5_blocking 11 = .ok (.istore 4, 2) := by decide +kernel
theorem dX5_blocking_13 : decode cX5_blocking 13 = .ok (.iload 4, 2) := by decide +kernel
theorem dX5_blocking_15 : decode cX5_blocking 15 = .ok (.aload_n 0, 1) := by decide +kernel
theorem dX5_blocking_16 : decode cX5_blocking 16 = .ok (.getfield 25, 3) := by decide +kernel
theorem dX5_blocking_19 : decode cX5_blocking 19 = .ok (.iload_n 3, 1) := by decide +kernel
theorem dX5_blocking_20 : decode cX5_blocking 20 = .ok (.iaload, 1) := by decide +kernel
theorem dX5_blocking_21 : decode cX5_blocking 21 = .ok (.if_icmp .ge 90, 3) := by decide +kernel
theorem dX5_blocking_24 : decode cX5_blocking 24 = .ok (.aload_n 0, 1) := by decide +kernel
theorem dX5_blocking_25 : decode cX5_blocking 25 = .ok (.getfield 7, 3) := by decide +kernel
theorem dX5_blocking_28 : decode cX5_blocking 28 = .ok (.iload_n 3, 1) := by decide +kernel
theorem dX5_blocking_29 : decode cX5_blocking 29 = .ok (.iaload, 1) := by decide +kernel
theorem dX5_blocking_30 : decode cX5_blocking 30 = .ok (.aload_n 0, 1) := by decide +kernel
theorem dX5_blocking_31 : decode cX5_blocking 31 = .ok (.getfield 7, 3) := by decide +kernel
theorem dX5_blocking_34 : decode cX5_blocking 34 = .ok (.iload_n 1, 1) := by decide +kernel
theorem dX5_blocking_35 : decode cX5_blocking 35 = .ok (.iaload, 1) := by decide +kernel
theorem dX5_blocking_36 : decode cX5_blocking 36 = .ok (.if_icmp .ne 75, 3) := by decide +kernel
theorem dX5_blocking_39 : decode cX5_blocking 39 = .ok (.aload_n 0, 1) := by decide +kernel
theorem dX5_blocking_40 : decode cX5_blocking 40 = .ok (.getfield 13, 3) := by decide +kernel
theorem dX5_blocking_43 : decode cX5_blocking 43 = .ok (.iload_n 3, 1) := by decide +kernel
theorem dX5_blocking_44 : decode cX5_blocking 44 = .ok (.iaload, 1) := by decide +kernel
theorem dX5_blocking_45 : decode cX5_blocking 45 = .ok (.aload_n 0, 1) := by decide +kernel
theorem dX5_blocking_46 : decode cX5_blocking 46 = .ok (.getfield 13, 3) := by decide +kernel
theorem dX5_blocking_49 : decode cX5_blocking 49 = .ok (.iload_n 1, 1) := by decide +kernel
theorem dX5_blocking_50 : decode cX5_blocking 50 = .ok (.iaload, 1) := by decide +kernel
theorem dX5_blocking_51 : decode cX5_blocking 51 = .ok (.if_icmp .ge 60, 3) := by decide +kernel
theorem dX5_blocking_54 : decode cX5_blocking 54 = .ok (.aload_n 0, 1) := by decide +kernel
theorem dX5_blocking_55 : decode cX5_blocking 55 = .ok (.iload_n 3, 1) := by decide +kernel
theorem dX5_blocking_56 : decode cX5_blocking 56 = .ok (.iload 4, 2) := by decide +kernel
theorem dX5_blocking_58 : decode cX5_blocking 58 = .ok (.invokevirtual 142, 3) := by decide +kernel
theorem dX5_blocking_61 : decode cX5_blocking 61 = .ok (.ifCond .eq 28, 3) := by decide +kernel
theorem dX5_blocking_64 : decode cX5_blocking 64 = .ok (.aload_n 0, 1) := by decide +kernel
theorem dX5_blocking_65 : decode cX5_blocking 65 = .ok (.getfield 34, 3) := by decide +kernel
theorem dX5_blocking_68 : decode cX5_blocking 68 = .ok (.bipush 6, 2) := by decide +kernel
theorem dX5_blocking_70 : decode cX5_blocking 70 = .ok (.iload_n 3, 1) := by decide +kernel
theorem dX5_blocking_71 : decode cX5_blocking 71 = .ok (.imul, 1) := by decide +kernel
theorem dX5_blocking_72 : decode cX5_blocking 72 = .ok (.iload 4, 2) := by decide +kernel
theorem dX5_blocking_74 : decode cX5_blocking 74 = .ok (.iadd, 1) := by decide +kernel
theorem dX5_blocking_75 : decode cX5_blocking 75 = .ok (.iaload, 1) := by decide +kernel
theorem dX5_blocking_76 : decode cX5_blocking 76 = .ok (.aload_n 0, 1) := by decide +kernel
theorem dX5_blocking_77 : decode cX5_blocking 77 = .ok (.iload_n 3, 1) := by decide +kernel
theorem dX5_blocking_78 : decode cX5_blocking 78 = .ok (.iload 4, 2) := by decide +kernel
theorem dX5_blocking_80 : decode cX5_blocking 80 = .ok (.invokevirtual 145, 3) := by decide +kernel
theorem dX5_blocking_83 : decode cX5_blocking 83 = .ok (.iadd, 1) := by decide +kernel
theorem dX5_blocking_84 : decode cX5_blocking 84 = .ok (.iconst 1, 1) := by decide +kernel
theorem dX5_blocking_85 : decode cX5_blocking 85 = .ok (.isub, 1) := by decide +kernel
theorem dX5_blocking_86 : decode cX5_blocking 86 = .ok (.goto 4, 3) := by decide +kernel
theorem dX5_blocking_89 : decode cX5_blocking 89 = .ok (.iconst 0, 1) := by decide +kernel
theorem dX5_blocking_90 : decode cX5_blocking 90 = .ok (.istore 5, 2) := by decide +kernel
theorem dX5_blocking_92 : decode cX5_blocking 92 = .ok (.iload 5, 2) := by decide +kernel
theorem dX5_blocking_94 : decode cX5_blocking 94 = .ok (.iload_n 2, 1) := by decide +kernel
theorem dX5_blocking_95 : decode cX5_blocking 95 = .ok (.if_icmp .le 8, 3) := by decide +kernel
theorem dX5_blocking_98 : decode cX5_blocking 98 = .ok (.iload 5, 2) := by decide +kernel
theorem dX5_blocking_100 : decode cX5_blocking 100 = .ok (.goto 4, 3) := by decide +kernel
theorem dX5_blocking_103 : decode cX5_blocking 103 = .ok (.iload_n 2, 1) := by decide +kernel
theorem dX5_blocking_104 : decode cX5_blocking 104 = .ok (.istore_n 2, 1) := by decide +kernel
theorem dX5_blocking_105 : decode cX5_blocking 105 = .ok (.iinc 4 1, 3) := by decide +kernel
theorem dX5_blocking_108 : decode cX5_blocking 108 = .ok (.goto (-95), 3) := by decide +kernel
theorem dX5_blocking_111 : decode cX5_blocking 111 = .ok (.iinc 3 1, 3) := by decide +kernel
theorem dX5_blocking_114 : decode cX5_blocking 114 = .ok (.goto (-110), 3) := by decide +kernel
theorem dX5_blocking_117 : decode cX5_blocking 117 = .ok (.iload_n 2, 1) := by decide +kernel
theorem dX5_blocking_118 : decode cX5_blocking 118 = .ok (.ireturn, 1) := by decide +kernel
theorem dX5_responseOf_0 : decode cX5_responseOf 0 = .ok (.aload_n 0, 1) := by decide +kernel
theorem dX5_responseOf_1 : decode cX5_responseOf 1 = .ok (.iload_n 1, 1) := by decide +kernel
theorem dX5_responseOf_2 : decode cX5_responseOf 2 = .ok (.invokevirtual 149, 3) := by decide +kernel
theorem dX5_responseOf_5 : decode cX5_responseOf 5 = .ok (.aload_n 0, 1) := by decide +kernel
theorem dX5_responseOf_6 : decode cX5_responseOf 6 = .ok (.iload_n 1, 1) := by decide +kernel
theorem dX5_responseOf_7 : decode cX5_responseOf 7 = .ok (.invokevirtual 152, 3) := by decide +kernel
theorem dX5_responseOf_10 : decode cX5_responseOf 10 = .ok (.iadd, 1) := by decide +kernel
theorem dX5_responseOf_11 : decode cX5_responseOf 11 = .ok (.istore_n 2, 1) := by decide +kernel
theorem dX5_responseOf_12 : decode cX5_responseOf 12 = .ok (.iload_n 2, 1) := by decide +kernel
theorem dX5_responseOf_13 : decode cX5_responseOf 13 = .ok (.istore_n 3, 1) := by decide +kernel
theorem dX5_responseOf_14 : decode cX5_responseOf 14 = .ok (.iconst 1, 1) := by decide +kernel
theorem dX5_responseOf_15 : decode cX5_responseOf 15 = .ok (.istore 4, 2) := by decide +kernel
theorem dX5_responseOf_17 : decode cX5_responseOf 17 = .ok (.iload 4, 2) := by decide +kernel
theorem dX5_responseOf_19 : decode cX5_responseOf 19 = .ok (.ifCond .eq 120, 3) := by decide +kernel
theorem dX5_responseOf_22 : decode cX5_responseOf 22 = .ok (.iload_n 3, 1) := by decide +kernel
theorem dX5_responseOf_23 : decode cX5_responseOf 23 = .ok (.aload_n 0, 1) := by decide +kernel
theorem dX5_responseOf_24 : decode cX5_responseOf 24 = .ok (.getfield 19, 3) := by decide +kernel
theorem dX5_responseOf_27 : decode cX5_responseOf 27 = .ok (.iload_n 1, 1) := by decide +kernel
theorem dX5_responseOf_28 : decode cX5_responseOf 28 = .ok (.iaload, 1) := by decide +kernel
theorem dX5_responseOf_29 : decode cX5_responseOf 29 = .ok (.if_icmp .gt 110, 3) := by decide +kernel
theorem dX5_responseOf_32 : decode cX5_responseOf 32 = .ok (.iload_n 2, 1) := by decide +kernel
theorem dX5_responseOf_33 : decode cX5_responseOf 33 = .ok (.istore 5, 2) := by decide +kernel
theorem dX5_responseOf_35 : decode cX5_responseOf 35 = .ok (.iconst 0, 1) := by decide +kernel
theorem dX5_responseOf_36 : decode cX5_responseOf 36 = .ok (.istore 6, 2) := by decide +kernel
theorem dX5_responseOf_38 : decode cX5_responseOf 38 = .ok (.iload 6, 2) := by decide +kernel
theorem dX5_responseOf_40 : decode cX5_responseOf 40 = .ok (.bipush 16, 2) := by decide +kernel
theorem dX5_responseOf_42 : decode cX5_responseOf 42 = .ok (.if_icmp .ge 78, 3) := by decide +kernel
theorem dX5_responseOf_45 : decode cX5_responseOf 45 = .ok (.iload 6, 2) := by decide +kernel
theorem dX5_responseOf_47 : decode cX5_responseOf 47 = .ok (.iload_n 1, 1) := by decide +kernel
theorem dX5_responseOf_48 : decode cX5_responseOf 48 = .ok (.if_icmp .eq 66, 3) := by decide +kernel
theorem dX5_responseOf_51 : decode cX5_responseOf 51 = .ok (.aload_n 0, 1) := by decide +kernel
theorem dX5_responseOf_52 : decode cX5_responseOf 52 = .ok (.getfield 7, 3) := by decide +kernel
theorem dX5_responseOf_55 : decode cX5_responseOf 55 = .ok (.iload 6, 2) := by decide +kernel
theorem dX5_responseOf_57 : decode cX5_responseOf 57 = .ok (.iaload, 1) := by decide +kernel
theorem dX5_responseOf_58 : decode cX5_responseOf 58 = .ok (.aload_n 0, 1) := by decide +kernel
theorem dX5_responseOf_59 : decode cX5_responseOf 59 = .ok (.getfield 7, 3) := by decide +kernel
theorem dX5_responseOf_62 : decode cX5_responseOf 62 = .ok (.iload_n 1, 1) := by decide +kernel
theorem dX5_responseOf_63 : decode cX5_responseOf 63 = .ok (.iaload, 1) := by decide +kernel
theorem dX5_responseOf_64 : decode cX5_responseOf 64 = .ok (.if_icmp .ne 50, 3) := by decide +kernel
theorem dX5_responseOf_67 : decode cX5_responseOf 67 = .ok (.aload_n 0, 1) := by decide +kernel
theorem dX5_responseOf_68 : decode cX5_responseOf 68 = .ok (.getfield 13, 3) := by decide +kernel
theorem dX5_responseOf_71 : decode cX5_responseOf 71 = .ok (.iload 6, 2) := by decide +kernel
theorem dX5_responseOf_73 : decode cX5_responseOf 73 = .ok (.iaload, 1) := by decide +kernel
theorem dX5_responseOf_74 : decode cX5_responseOf 74 = .ok (.aload_n 0, 1) := by decide +kernel
theorem dX5_responseOf_75 : decode cX5_responseOf 75 = .ok (.getfield 13, 3) := by decide +kernel
theorem dX5_responseOf_78 : decode cX5_responseOf 78 = .ok (.iload_n 1, 1) := by decide +kernel
theorem dX5_responseOf_79 : decode cX5_responseOf 79 = .ok (.iaload, 1) := by decide +kernel
theorem dX5_responseOf_80 : decode cX5_responseOf 80 = .ok (.if_icmp .le 34, 3) := by decide +kernel
theorem dX5_responseOf_83 : decode cX5_responseOf 83 = .ok (.iload 5, 2) := by decide +kernel
theorem dX5_responseOf_85 : decode cX5_responseOf 85 = .ok (.iload_n 3, 1) := by decide +kernel
theorem dX5_responseOf_86 : decode cX5_responseOf 86 = .ok (.aload_n 0, 1) := by decide +kernel
theorem dX5_responseOf_87 : decode cX5_responseOf 87 = .ok (.getfield 16, 3) := by decide +kernel
theorem dX5_responseOf_90 : decode cX5_responseOf 90 = .ok (.iload 6, 2) := by decide +kernel
theorem dX5_responseOf_92 : decode cX5_responseOf 92 = .ok (.iaload, 1) := by decide +kernel
theorem dX5_responseOf_93 : decode cX5_responseOf 93 = .ok (.iadd, 1) := by decide +kernel
theorem dX5_responseOf_94 : decode cX5_responseOf 94 = .ok (.iconst 1, 1) := by decide +kernel
theorem dX5_responseOf_95 : decode cX5_responseOf 95 = .ok (.isub, 1) := by decide +kernel
theorem dX5_responseOf_96 : decode cX5_responseOf 96 = .ok (.aload_n 0, 1) := by decide +kernel
theorem dX5_responseOf_97 : decode cX5_responseOf 97 = .ok (.getfield 16, 3) := by decide +kernel
theorem dX5_responseOf_100 : decode cX5_responseOf 100 = .ok (.iload 6, 2) := by decide +kernel
theorem dX5_responseOf_102 : decode cX5_responseOf 102 = .ok (.iaload, 1) := by decide +kernel
theorem dX5_responseOf_103 : decode cX5_responseOf 103 = .ok (.idiv, 1) := by decide +kernel
theorem dX5_responseOf_104 : decode cX5_responseOf 104 = .ok (.aload_n 0, 1) := by decide +kernel
theorem dX5_responseOf_105 : decode cX5_responseOf 105 = .ok (.iload 6, 2) := by decide +kernel
theorem dX5_responseOf_107 : decode cX5_responseOf 107 = .ok (.invokevirtual 149, 3) := by decide +kernel
theorem dX5_responseOf_110 : decode cX5_responseOf 110 = .ok (.imul, 1) := by decide +kernel
theorem dX5_responseOf_111 : decode cX5_responseOf 111 = .ok (.iadd, 1) := by decide +kernel
theorem dX5_responseOf_112 : decode cX5_responseOf 112 = .ok (.istore 5, 2) := by decide +kernel
theorem dX5_responseOf_114 : decode cX5_responseOf 114 = .ok (.iinc 6 1, 3) := by decide +kernel
theorem dX5_responseOf_117 : decode cX5_responseOf 117 = .ok (.goto (-79), 3) := by decide +kernel
theorem dX5_responseOf_120 : decode cX5_responseOf 120 = .ok (.iload 5, 2) := by decide +kernel
theorem dX5_responseOf_122 : decode cX5_responseOf 122 = .ok (.iload_n 3, 1) := by decide +kernel
theorem dX5_responseOf_123 : decode cX5_responseOf 123 = .ok (.if_icmp .le 7, 3) := by decide +kernel
theorem dX5_responseOf_126 : decode cX5_responseOf 126 = .ok (.iconst 1, 1) := by decide +kernel
theorem dX5_responseOf_127 : decode cX5_responseOf 127 = .ok (.goto 4, 3) := by decide +kernel
theorem dX5_responseOf_130 : decode cX5_responseOf 130 = .ok (.iconst 0, 1) := by decide +kernel
theorem dX5_responseOf_131 : decode cX5_responseOf 131 = .ok (.istore 4, 2) := by decide +kernel
theorem dX5_responseOf_133 : decode cX5_responseOf 133 = .ok (.iload 5, 2) := by decide +kernel
theorem dX5_responseOf_135 : decode cX5_responseOf 135 = .ok (.istore_n 3, 1) := by decide +kernel
theorem dX5_responseOf_136 : decode cX5_responseOf 136 = .ok (.goto (-119), 3) := by decide +kernel
theorem dX5_responseOf_139 : decode cX5_responseOf 139 = .ok (.iload_n 3, 1) := by decide +kernel
theorem dX5_responseOf_140 : decode cX5_responseOf 140 = .ok (.aload_n 0, 1) := by decide +kernel
theorem dX5_responseOf_141 : decode cX5_responseOf 141 = .ok (.getfield 19, 3) := by decide +kernel
theorem dX5_responseOf_144 : decode cX5_responseOf 144 = .ok (.iload_n 1, 1) := by decide +kernel
theorem dX5_responseOf_145 : decode cX5_responseOf 145 = .ok (.iaload, 1) := by decide +kernel
theorem dX5_responseOf_146 : decode cX5_responseOf 146 = .ok (.if_icmp .gt 7, 3) := by decide +kernel
theorem dX5_responseOf_149 : decode cX5_responseOf 149 = .ok (.iload_n 3, 1) := by decide +kernel
theorem dX5_responseOf_150 : decode cX5_responseOf 150 = .ok (.goto 4, 3) := by decide +kernel
theorem dX5_responseOf_153 : decode cX5_responseOf 153 = .ok (.iconst (-1), 1) := by decide +kernel
theorem dX5_responseOf_154 : decode cX5_responseOf 154 = .ok (.ireturn, 1) := by decide +kernel
theorem dX5_bound_0 : decode cX5_bound 0 = .ok (.aload_n 0, 1) := by decide +kernel
theorem dX5_bound_1 : decode cX5_bound 1 = .ok (.aload_n 0, 1) := by decide +kernel
theorem dX5_bound_2 : decode cX5_bound 2 = .ok (.iload_n 1, 1) := by decide +kernel
theorem dX5_bound_3 : decode cX5_bound 3 = .ok (.invokevirtual 108, 3) := by decide +kernel
theorem dX5_bound_6 : decode cX5_bound 6 = .ok (.ifCond .ne 7, 3) := by decide +kernel
theorem dX5_bound_9 : decode cX5_bound 9 = .ok (.iconst 1, 1) := by decide +kernel
theorem dX5_bound_10 : decode cX5_bound 10 = .ok (.goto 4, 3) := by decide +kernel
theorem dX5_bound_13 : decode cX5_bound 13 = .ok (.iconst 0, 1) := by decide +kernel
theorem dX5_bound_14 : decode cX5_bound 14 = .ok (.iload_n 2, 1) := by decide +kernel
theorem dX5_bound_15 : decode cX5_bound 15 = .ok (.iconst 0, 1) := by decide +kernel
theorem dX5_bound_16 : decode cX5_bound 16 = .ok (.iconst 2, 1) := by decide +kernel
theorem dX5_bound_17 : decode cX5_bound 17 = .ok (.invokestatic 112, 3) := by decide +kernel
theorem dX5_bound_20 : decode cX5_bound 20 = .ok (.ifCond .ne 7, 3) := by decide +kernel
theorem dX5_bound_23 : decode cX5_bound 23 = .ok (.iconst 1, 1) := by decide +kernel
theorem dX5_bound_24 : decode cX5_bound 24 = .ok (.goto 4, 3) := by decide +kernel
theorem dX5_bound_27 : decode cX5_bound 27 = .ok (.iconst 0, 1) := by decide +kernel
theorem dX5_bound_28 : decode cX5_bound 28 = .ok (.iconst 0, 1) := by decide +kernel
theorem dX5_bound_29 : decode cX5_bound 29 = .ok (.invokevirtual 124, 3) := by decide +kernel
theorem dX5_bound_32 : decode cX5_bound 32 = .ok (.ifCond .eq 5, 3) := by decide +kernel
theorem dX5_bound_35 : decode cX5_bound 35 = .ok (.iconst 0, 1) := by decide +kernel
theorem dX5_bound_36 : decode cX5_bound 36 = .ok (.ireturn, 1) := by decide +kernel
theorem dX5_bound_37 : decode cX5_bound 37 = .ok (.aload_n 0, 1) := by decide +kernel
theorem dX5_bound_38 : decode cX5_bound 38 = .ok (.invokevirtual 139, 3) := by decide +kernel
theorem dX5_bound_41 : decode cX5_bound 41 = .ok (.iload_n 2, 1) := by decide +kernel
theorem dX5_bound_42 : decode cX5_bound 42 = .ok (.ifCond .ne 11, 3) := by decide +kernel
theorem dX5_bound_45 : decode cX5_bound 45 = .ok (.aload_n 0, 1) := by decide +kernel
theorem dX5_bound_46 : decode cX5_bound 46 = .ok (.iload_n 1, 1) := by decide +kernel
theorem dX5_bound_47 : decode cX5_bound 47 = .ok (.invokevirtual 149, 3) := by decide +kernel
theorem dX5_bound_50 : decode cX5_bound 50 = .ok (.goto 21, 3) := by decide +kernel
theorem dX5_bound_53 : decode cX5_bound 53 = .ok (.iload_n 2, 1) := by decide +kernel
theorem dX5_bound_54 : decode cX5_bound 54 = .ok (.iconst 1, 1) := by decide +kernel
theorem dX5_bound_55 : decode cX5_bound 55 = .ok (.if_icmp .ne 11, 3) := by decide +kernel
theorem dX5_bound_58 : decode cX5_bound 58 = .ok (.aload_n 0, 1) := by decide +kernel
theorem dX5_bound_59 : decode cX5_bound 59 = .ok (.iload_n 1, 1) := by decide +kernel
theorem dX5_bound_60 : decode cX5_bound 60 = .ok (.invokevirtual 152, 3) := by decide +kernel
theorem dX5_bound_63 : decode cX5_bound 63 = .ok (.goto 8, 3) := by decide +kernel
theorem dX5_bound_66 : decode cX5_bound 66 = .ok (.aload_n 0, 1) := by decide +kernel
theorem dX5_bound_67 : decode cX5_bound 67 = .ok (.iload_n 1, 1) := by decide +kernel
theorem dX5_bound_68 : decode cX5_bound 68 = .ok (.invokevirtual 155, 3) := by decide +kernel
theorem dX5_bound_71 : decode cX5_bound 71 = .ok (.ireturn, 1) := by decide +kernel
theorem dX5_seal_0 : decode cX5_seal 0 = .ok (.aload_n 0, 1) := by decide +kernel
end
section
theorem dX5_seal_1 : decode cX5_seal 1 = .ok (.aload_n 0, 1) := by decide +kernel
theorem dX5_seal_2 : decode cX5_seal 2 = .ok (.getfield 116, 3) := by decide +kernel
theorem dX5_seal_5 : decode cX5_seal 5 = .ok (.iconst 0, 1) := by decide +kernel
theorem dX5_seal_6 : decode cX5_seal 6 = .ok (.iconst 0, 1) := by decide +kernel
theorem dX5_seal_7 : decode cX5_seal 7 = .ok (.invokevirtual 124, 3) := by decide +kernel
theorem dX5_seal_10 : decode cX5_seal 10 = .ok (.ifCond .eq 5, 3) := by decide +kernel
theorem dX5_seal_13 : decode cX5_seal 13 = .ok (.iconst 0, 1) := by decide +kernel
theorem dX5_seal_14 : decode cX5_seal 14 = .ok (.ireturn, 1) := by decide +kernel
theorem dX5_seal_15 : decode cX5_seal 15 = .ok (.aload_n 0, 1) := by decide +kernel
theorem dX5_seal_16 : decode cX5_seal 16 = .ok (.invokevirtual 139, 3) := by decide +kernel
theorem dX5_seal_19 : decode cX5_seal 19 = .ok (.iconst 0, 1) := by decide +kernel
theorem dX5_seal_20 : decode cX5_seal 20 = .ok (.istore_n 1, 1) := by decide +kernel
theorem dX5_seal_21 : decode cX5_seal 21 = .ok (.iload_n 1, 1) := by decide +kernel
theorem dX5_seal_22 : decode cX5_seal 22 = .ok (.bipush 16, 2) := by decide +kernel
theorem dX5_seal_24 : decode cX5_seal 24 = .ok (.if_icmp .ge 28, 3) := by decide +kernel
theorem dX5_seal_27 : decode cX5_seal 27 = .ok (.aload_n 0, 1) := by decide +kernel
theorem dX5_seal_28 : decode cX5_seal 28 = .ok (.getfield 7, 3) := by decide +kernel
theorem dX5_seal_31 : decode cX5_seal 31 = .ok (.iload_n 1, 1) := by decide +kernel
theorem dX5_seal_32 : decode cX5_seal 32 = .ok (.iaload, 1) := by decide +kernel
theorem dX5_seal_33 : decode cX5_seal 33 = .ok (.ifCond .lt 13, 3) := by decide +kernel
theorem dX5_seal_36 : decode cX5_seal 36 = .ok (.aload_n 0, 1) := by decide +kernel
theorem dX5_seal_37 : decode cX5_seal 37 = .ok (.iload_n 1, 1) := by decide +kernel
theorem dX5_seal_38 : decode cX5_seal 38 = .ok (.invokevirtual 155, 3) := by decide +kernel
theorem dX5_seal_41 : decode cX5_seal 41 = .ok (.ifCond .ge 5, 3) := by decide +kernel
theorem dX5_seal_44 : decode cX5_seal 44 = .ok (.iload_n 1, 1) := by decide +kernel
theorem dX5_seal_45 : decode cX5_seal 45 = .ok (.ireturn, 1) := by decide +kernel
theorem dX5_seal_46 : decode cX5_seal 46 = .ok (.iinc 1 1, 3) := by decide +kernel
theorem dX5_seal_49 : decode cX5_seal 49 = .ok (.goto (-28), 3) := by decide +kernel
theorem dX5_seal_52 : decode cX5_seal 52 = .ok (.aload_n 0, 1) := by decide +kernel
theorem dX5_seal_53 : decode cX5_seal 53 = .ok (.iconst 1, 1) := by decide +kernel
theorem dX5_seal_54 : decode cX5_seal 54 = .ok (.putfield 116, 3) := by decide +kernel
theorem dX5_seal_57 : decode cX5_seal 57 = .ok (.aload_n 0, 1) := by decide +kernel
theorem dX5_seal_58 : decode cX5_seal 58 = .ok (.invokevirtual 101, 3) := by decide +kernel
theorem dX5_seal_61 : decode cX5_seal 61 = .ok (.iconst (-1), 1) := by decide +kernel
theorem dX5_seal_62 : decode cX5_seal 62 = .ok (.ireturn, 1) := by decide +kernel
theorem dX5_forget_0 : decode cX5_forget 0 = .ok (.aload_n 0, 1) := by decide +kernel
theorem dX5_forget_1 : decode cX5_forget 1 = .ok (.iconst 0, 1) := by decide +kernel
theorem dX5_forget_2 : decode cX5_forget 2 = .ok (.putfield 158, 3) := by decide +kernel
theorem dX5_forget_5 : decode cX5_forget 5 = .ok (.aload_n 0, 1) := by decide +kernel
theorem dX5_forget_6 : decode cX5_forget 6 = .ok (.iconst 0, 1) := by decide +kernel
theorem dX5_forget_7 : decode cX5_forget 7 = .ok (.putfield 161, 3) := by decide +kernel
theorem dX5_forget_10 : decode cX5_forget 10 = .ok (.iconst 0, 1) := by decide +kernel
theorem dX5_forget_11 : decode cX5_forget 11 = .ok (.istore_n 1, 1) := by decide +kernel
theorem dX5_forget_12 : decode cX5_forget 12 = .ok (.iload_n 1, 1) := by decide +kernel
theorem dX5_forget_13 : decode cX5_forget 13 = .ok (.bipush 16, 2) := by decide +kernel
theorem dX5_forget_15 : decode cX5_forget 15 = .ok (.if_icmp .ge 44, 3) := by decide +kernel
theorem dX5_forget_18 : decode cX5_forget 18 = .ok (.aload_n 0, 1) := by decide +kernel
theorem dX5_forget_19 : decode cX5_forget 19 = .ok (.getfield 43, 3) := by decide +kernel
theorem dX5_forget_22 : decode cX5_forget 22 = .ok (.iload_n 1, 1) := by decide +kernel
theorem dX5_forget_23 : decode cX5_forget 23 = .ok (.iconst 0, 1) := by decide +kernel
theorem dX5_forget_24 : decode cX5_forget 24 = .ok (.bastore, 1) := by decide +kernel
theorem dX5_forget_25 : decode cX5_forget 25 = .ok (.aload_n 0, 1) := by decide +kernel
theorem dX5_forget_26 : decode cX5_forget 26 = .ok (.getfield 47, 3) := by decide +kernel
theorem dX5_forget_29 : decode cX5_forget 29 = .ok (.iload_n 1, 1) := by decide +kernel
theorem dX5_forget_30 : decode cX5_forget 30 = .ok (.iconst 0, 1) := by decide +kernel
theorem dX5_forget_31 : decode cX5_forget 31 = .ok (.bastore, 1) := by decide +kernel
theorem dX5_forget_32 : decode cX5_forget 32 = .ok (.aload_n 0, 1) := by decide +kernel
theorem dX5_forget_33 : decode cX5_forget 33 = .ok (.getfield 71, 3) := by decide +kernel
theorem dX5_forget_36 : decode cX5_forget 36 = .ok (.iload_n 1, 1) := by decide +kernel
theorem dX5_forget_37 : decode cX5_forget 37 = .ok (.iconst 0, 1) := by decide +kernel
theorem dX5_forget_38 : decode cX5_forget 38 = .ok (.iastore, 1) := by decide +kernel
theorem dX5_forget_39 : decode cX5_forget 39 = .ok (.aload_n 0, 1) := by decide +kernel
theorem dX5_forget_40 : decode cX5_forget 40 = .ok (.getfield 74, 3) := by decide +kernel
theorem dX5_forget_43 : decode cX5_forget 43 = .ok (.iload_n 1, 1) := by decide +kernel
theorem dX5_forget_44 : decode cX5_forget 44 = .ok (.iconst 0, 1) := by decide +kernel
theorem dX5_forget_45 : decode cX5_forget 45 = .ok (.iastore, 1) := by decide +kernel
theorem dX5_forget_46 : decode cX5_forget 46 = .ok (.aload_n 0, 1) := by decide +kernel
theorem dX5_forget_47 : decode cX5_forget 47 = .ok (.getfield 77, 3) := by decide +kernel
theorem dX5_forget_50 : decode cX5_forget 50 = .ok (.iload_n 1, 1) := by decide +kernel
theorem dX5_forget_51 : decode cX5_forget 51 = .ok (.iconst 0, 1) := by decide +kernel
theorem dX5_forget_52 : decode cX5_forget 52 = .ok (.iastore, 1) := by decide +kernel
theorem dX5_forget_53 : decode cX5_forget 53 = .ok (.iinc 1 1, 3) := by decide +kernel
theorem dX5_forget_56 : decode cX5_forget 56 = .ok (.goto (-44), 3) := by decide +kernel
theorem dX5_forget_59 : decode cX5_forget 59 = .ok (.iconst 0, 1) := by decide +kernel
theorem dX5_forget_60 : decode cX5_forget 60 = .ok (.istore_n 1, 1) := by decide +kernel
theorem dX5_forget_61 : decode cX5_forget 61 = .ok (.iload_n 1, 1) := by decide +kernel
theorem dX5_forget_62 : decode cX5_forget 62 = .ok (.bipush 96, 2) := by decide +kernel
theorem dX5_forget_64 : decode cX5_forget 64 = .ok (.if_icmp .ge 28, 3) := by decide +kernel
theorem dX5_forget_67 : decode cX5_forget 67 = .ok (.aload_n 0, 1) := by decide +kernel
theorem dX5_forget_68 : decode cX5_forget 68 = .ok (.getfield 80, 3) := by decide +kernel
theorem dX5_forget_71 : decode cX5_forget 71 = .ok (.iload_n 1, 1) := by decide +kernel
theorem dX5_forget_72 : decode cX5_forget 72 = .ok (.iconst 0, 1) := by decide +kernel
theorem dX5_forget_73 : decode cX5_forget 73 = .ok (.iastore, 1) := by decide +kernel
theorem dX5_forget_74 : decode cX5_forget 74 = .ok (.aload_n 0, 1) := by decide +kernel
theorem dX5_forget_75 : decode cX5_forget 75 = .ok (.getfield 68, 3) := by decide +kernel
theorem dX5_forget_78 : decode cX5_forget 78 = .ok (.iload_n 1, 1) := by decide +kernel
theorem dX5_forget_79 : decode cX5_forget 79 = .ok (.aload_n 0, 1) := by decide +kernel
theorem dX5_forget_80 : decode cX5_forget 80 = .ok (.getfield 34, 3) := by decide +kernel
theorem dX5_forget_83 : decode cX5_forget 83 = .ok (.iload_n 1, 1) := by decide +kernel
theorem dX5_forget_84 : decode cX5_forget 84 = .ok (.iaload, 1) := by decide +kernel
theorem dX5_forget_85 : decode cX5_forget 85 = .ok (.iastore, 1) := by decide +kernel
theorem dX5_forget_86 : decode cX5_forget 86 = .ok (.iinc 1 1, 3) := by decide +kernel
theorem dX5_forget_89 : decode cX5_forget 89 = .ok (.goto (-28), 3) := by decide +kernel
theorem dX5_forget_92 : decode cX5_forget 92 = .ok (.iconst 0, 1) := by decide +kernel
theorem dX5_forget_93 : decode cX5_forget 93 = .ok (.istore_n 1, 1) := by decide +kernel
theorem dX5_forget_94 : decode cX5_forget 94 = .ok (.iload_n 1, 1) := by decide +kernel
theorem dX5_forget_95 : decode cX5_forget 95 = .ok (.iconst 4, 1) := by decide +kernel
theorem dX5_forget_96 : decode cX5_forget 96 = .ok (.if_icmp .ge 37, 3) := by decide +kernel
theorem dX5_forget_99 : decode cX5_forget 99 = .ok (.aload_n 0, 1) := by decide +kernel
theorem dX5_forget_100 : decode cX5_forget 100 = .ok (.getfield 83, 3) := by decide +kernel
theorem dX5_forget_103 : decode cX5_forget 103 = .ok (.iload_n 1, 1) := by decide +kernel
theorem dX5_forget_104 : decode cX5_forget 104 = .ok (.iconst (-1), 1) := by decide +kernel
theorem dX5_forget_105 : decode cX5_forget 105 = .ok (.iastore, 1) := by decide +kernel
theorem dX5_forget_106 : decode cX5_forget 106 = .ok (.aload_n 0, 1) := by decide +kernel
theorem dX5_forget_107 : decode cX5_forget 107 = .ok (.getfield 86, 3) := by decide +kernel
theorem dX5_forget_110 : decode cX5_forget 110 = .ok (.iload_n 1, 1) := by decide +kernel
theorem dX5_forget_111 : decode cX5_forget 111 = .ok (.iconst 0, 1) := by decide +kernel
theorem dX5_forget_112 : decode cX5_forget 112 = .ok (.iastore, 1) := by decide +kernel
theorem dX5_forget_113 : decode cX5_forget 113 = .ok (.aload_n 0, 1) := by decide +kernel
theorem dX5_forget_114 : decode cX5_forget 114 = .ok (.getfield 89, 3) := by decide +kernel
theorem dX5_forget_117 : decode cX5_forget 117 = .ok (.iload_n 1, 1) := by decide +kernel
theorem dX5_forget_118 : decode cX5_forget 118 = .ok (.iconst (-1), 1) := by decide +kernel
theorem dX5_forget_119 : decode cX5_forget 119 = .ok (.iastore, 1) := by decide +kernel
theorem dX5_forget_120 : decode cX5_forget 120 = .ok (.aload_n 0, 1) := by decide +kernel
theorem dX5_forget_121 : decode cX5_forget 121 = .ok (.getfield 92, 3) := by decide +kernel
theorem dX5_forget_124 : decode cX5_forget 124 = .ok (.iload_n 1, 1) := by decide +kernel
theorem dX5_forget_125 : decode cX5_forget 125 = .ok (.iconst 0, 1) := by decide +kernel
theorem dX5_forget_126 : decode cX5_forget 126 = .ok (.iastore, 1) := by decide +kernel
theorem dX5_forget_127 : decode cX5_forget 127 = .ok (.iinc 1 1, 3) := by decide +kernel
theorem dX5_forget_130 : decode cX5_forget 130 = .ok (.goto (-36), 3) := by decide +kernel
theorem dX5_forget_133 : decode cX5_forget 133 = .ok (.iconst 0, 1) := by decide +kernel
theorem dX5_forget_134 : decode cX5_forget 134 = .ok (.istore_n 1, 1) := by decide +kernel
theorem dX5_forget_135 : decode cX5_forget 135 = .ok (.iload_n 1, 1) := by decide +kernel
theorem dX5_forget_136 : decode cX5_forget 136 = .ok (.bipush 8, 2) := by decide +kernel
theorem dX5_forget_138 : decode cX5_forget 138 = .ok (.if_icmp .ge 16, 3) := by decide +kernel
theorem dX5_forget_141 : decode cX5_forget 141 = .ok (.aload_n 0, 1) := by decide +kernel
theorem dX5_forget_142 : decode cX5_forget 142 = .ok (.getfield 98, 3) := by decide +kernel
theorem dX5_forget_145 : decode cX5_forget 145 = .ok (.iload_n 1, 1) := by decide +kernel
theorem dX5_forget_146 : decode cX5_forget 146 = .ok (.iconst 0, 1) := by decide +kernel
theorem dX5_forget_147 : decode cX5_forget 147 = .ok (.iastore, 1) := by decide +kernel
theorem dX5_forget_148 : decode cX5_forget 148 = .ok (.iinc 1 1, 3) := by decide +kernel
theorem dX5_forget_151 : decode cX5_forget 151 = .ok (.goto (-16), 3) := by decide +kernel
theorem dX5_forget_154 : decode cX5_forget 154 = .ok (.return_, 1) := by decide +kernel
theorem dX5_hasOpen_0 : decode cX5_hasOpen 0 = .ok (.iconst 0, 1) := by decide +kernel
theorem dX5_hasOpen_1 : decode cX5_hasOpen 1 = .ok (.istore_n 1, 1) := by decide +kernel
theorem dX5_hasOpen_2 : decode cX5_hasOpen 2 = .ok (.iconst 0, 1) := by decide +kernel
theorem dX5_hasOpen_3 : decode cX5_hasOpen 3 = .ok (.istore_n 2, 1) := by decide +kernel
theorem dX5_hasOpen_4 : decode cX5_hasOpen 4 = .ok (.iload_n 2, 1) := by decide +kernel
theorem dX5_hasOpen_5 : decode cX5_hasOpen 5 = .ok (.bipush 16, 2) := by decide +kernel
theorem dX5_hasOpen_7 : decode cX5_hasOpen 7 = .ok (.if_icmp .ge 28, 3) := by decide +kernel
theorem dX5_hasOpen_10 : decode cX5_hasOpen 10 = .ok (.iload_n 1, 1) := by decide +kernel
theorem dX5_hasOpen_11 : decode cX5_hasOpen 11 = .ok (.ifCond .ne 12, 3) := by decide +kernel
theorem dX5_hasOpen_14 : decode cX5_hasOpen 14 = .ok (.aload_n 0, 1) := by decide +kernel
theorem dX5_hasOpen_15 : decode cX5_hasOpen 15 = .ok (.getfield 43, 3) := by decide +kernel
theorem dX5_hasOpen_18 : decode cX5_hasOpen 18 = .ok (.iload_n 2, 1) := by decide +kernel
theorem dX5_hasOpen_19 : decode cX5_hasOpen 19 = .ok (.baload, 1) := by decide +kernel
theorem dX5_hasOpen_20 : decode cX5_hasOpen 20 = .ok (.ifCond .eq 7, 3) := by decide +kernel
theorem dX5_hasOpen_23 : decode cX5_hasOpen 23 = .ok (.iconst 1, 1) := by decide +kernel
theorem dX5_hasOpen_24 : decode cX5_hasOpen 24 = .ok (.goto 4, 3) := by decide +kernel
theorem dX5_hasOpen_27 : decode cX5_hasOpen 27 = .ok (.iconst 0, 1) := by decide +kernel
theorem dX5_hasOpen_28 : decode cX5_hasOpen 28 = .ok (.istore_n 1, 1) := by decide +kernel
theorem dX5_hasOpen_29 : decode cX5_hasOpen 29 = .ok (.iinc 2 1, 3) := by decide +kernel
theorem dX5_hasOpen_32 : decode cX5_hasOpen 32 = .ok (.goto (-28), 3) := by decide +kernel
theorem dX5_hasOpen_35 : decode cX5_hasOpen 35 = .ok (.iload_n 1, 1) := by decide +kernel
theorem dX5_hasOpen_36 : decode cX5_hasOpen 36 = .ok (.ireturn, 1) := by decide +kernel
theorem dX5_unseal_0 : decode cX5_unseal 0 = .ok (.aload_n 0, 1) := by decide +kernel
theorem dX5_unseal_1 : decode cX5_unseal 1 = .ok (.aload_n 0, 1) := by decide +kernel
theorem dX5_unseal_2 : decode cX5_unseal 2 = .ok (.getfield 116, 3) := by decide +kernel
theorem dX5_unseal_5 : decode cX5_unseal 5 = .ok (.ifCond .eq 10, 3) := by decide +kernel
theorem dX5_unseal_8 : decode cX5_unseal 8 = .ok (.aload_n 0, 1) := by decide +kernel
theorem dX5_unseal_9 : decode cX5_unseal 9 = .ok (.invokevirtual 164, 3) := by decide +kernel
theorem dX5_unseal_12 : decode cX5_unseal 12 = .ok (.ifCond .eq 7, 3) := by decide +kernel
theorem dX5_unseal_15 : decode cX5_unseal 15 = .ok (.iconst 1, 1) := by decide +kernel
theorem dX5_unseal_16 : decode cX5_unseal 16 = .ok (.goto 4, 3) := by decide +kernel
theorem dX5_unseal_19 : decode cX5_unseal 19 = .ok (.iconst 0, 1) := by decide +kernel
theorem dX5_unseal_20 : decode cX5_unseal 20 = .ok (.iconst 0, 1) := by decide +kernel
theorem dX5_unseal_21 : decode cX5_unseal 21 = .ok (.iconst 0, 1) := by decide +kernel
theorem dX5_unseal_22 : decode cX5_unseal 22 = .ok (.invokevirtual 124, 3) := by decide +kernel
theorem dX5_unseal_25 : decode cX5_unseal 25 = .ok (.ifCond .ne 12, 3) := by decide +kernel
theorem dX5_unseal_28 : decode cX5_unseal 28 = .ok (.aload_n 0, 1) := by decide +kernel
theorem dX5_unseal_29 : decode cX5_unseal 29 = .ok (.iconst 0, 1) := by decide +kernel
theorem dX5_unseal_30 : decode cX5_unseal 30 = .ok (.putfield 116, 3) := by decide +kernel
theorem dX5_unseal_33 : decode cX5_unseal 33 = .ok (.aload_n 0, 1) := by decide +kernel
theorem dX5_unseal_34 : decode cX5_unseal 34 = .ok (.invokevirtual 101, 3) := by decide +kernel
theorem dX5_unseal_37 : decode cX5_unseal 37 = .ok (.return_, 1) := by decide +kernel
theorem dX5_arrive_0 : decode cX5_arrive 0 = .ok (.aload_n 0, 1) := by decide +kernel
theorem dX5_arrive_1 : decode cX5_arrive 1 = .ok (.aload_n 0, 1) := by decide +kernel
theorem dX5_arrive_2 : decode cX5_arrive 2 = .ok (.iload_n 1, 1) := by decide +kernel
theorem dX5_arrive_3 : decode cX5_arrive 3 = .ok (.invokevirtual 108, 3) := by decide +kernel
theorem dX5_arrive_6 : decode cX5_arrive 6 = .ok (.ifCond .ne 7, 3) := by decide +kernel
theorem dX5_arrive_9 : decode cX5_arrive 9 = .ok (.iconst 1, 1) := by decide +kernel
theorem dX5_arrive_10 : decode cX5_arrive 10 = .ok (.goto 4, 3) := by decide +kernel
theorem dX5_arrive_13 : decode cX5_arrive 13 = .ok (.iconst 0, 1) := by decide +kernel
theorem dX5_arrive_14 : decode cX5_arrive 14 = .ok (.aload_n 0, 1) := by decide +kernel
theorem dX5_arrive_15 : decode cX5_arrive 15 = .ok (.getfield 116, 3) := by decide +kernel
theorem dX5_arrive_18 : decode cX5_arrive 18 = .ok (.ifCond .ne 7, 3) := by decide +kernel
theorem dX5_arrive_21 : decode cX5_arrive 21 = .ok (.iconst 1, 1) := by decide +kernel
theorem dX5_arrive_22 : decode cX5_arrive 22 = .ok (.goto 4, 3) := by decide +kernel
theorem dX5_arrive_25 : decode cX5_arrive 25 = .ok (.iconst 0, 1) := by decide +kernel
theorem dX5_arrive_26 : decode cX5_arrive 26 = .ok (.iconst 0, 1) := by decide +kernel
theorem dX5_arrive_27 : decode cX5_arrive 27 = .ok (.invokevirtual 124, 3) := by decide +kernel
theorem dX5_arrive_30 : decode cX5_arrive 30 = .ok (.ifCond .eq 5, 3) := by decide +kernel
theorem dX5_arrive_33 : decode cX5_arrive 33 = .ok (.iconst 0, 1) := by decide +kernel
theorem dX5_arrive_34 : decode cX5_arrive 34 = .ok (.ireturn, 1) := by decide +kernel
theorem dX5_arrive_35 : decode cX5_arrive 35 = .ok (.aload_n 0, 1) := by decide +kernel
theorem dX5_arrive_36 : decode cX5_arrive 36 = .ok (.getfield 47, 3) := by decide +kernel
theorem dX5_arrive_39 : decode cX5_arrive 39 = .ok (.iload_n 1, 1) := by decide +kernel
theorem dX5_arrive_40 : decode cX5_arrive 40 = .ok (.baload, 1) := by decide +kernel
theorem dX5_arrive_41 : decode cX5_arrive 41 = .ok (.ifCond .eq 25, 3) := by decide +kernel
theorem dX5_arrive_44 : decode cX5_arrive 44 = .ok (.aload_n 0, 1) := by decide +kernel
theorem dX5_arrive_45 : decode cX5_arrive 45 = .ok (.getfield 158, 3) := by decide +kernel
theorem dX5_arrive_48 : decode cX5_arrive 48 = .ok (.aload_n 0, 1) := by decide +kernel
theorem dX5_arrive_49 : decode cX5_arrive 49 = .ok (.getfield 50, 3) := by decide +kernel
theorem dX5_arrive_52 : decode cX5_arrive 52 = .ok (.iload_n 1, 1) := by decide +kernel
theorem dX5_arrive_53 : decode cX5_arrive 53 = .ok (.iaload, 1) := by decide +kernel
theorem dX5_arrive_54 : decode cX5_arrive 54 = .ok (.isub, 1) := by decide +kernel
theorem dX5_arrive_55 : decode cX5_arrive 55 = .ok (.aload_n 0, 1) := by decide +kernel
theorem dX5_arrive_56 : decode cX5_arrive 56 = .ok (.getfield 16, 3) := by decide +kernel
theorem dX5_arrive_59 : decode cX5_arrive 59 = .ok (.iload_n 1, 1) := by decide +kernel
theorem dX5_arrive_60 : decode cX5_arrive 60 = .ok (.iaload, 1) := by decide +kernel
theorem dX5_arrive_61 : decode cX5_arrive 61 = .ok (.if_icmp .ge 5, 3) := by decide +kernel
theorem dX5_arrive_64 : decode cX5_arrive 64 = .ok (.iconst 0, 1) := by decide +kernel
theorem dX5_arrive_65 : decode cX5_arrive 65 = .ok (.ireturn, 1) := by decide +kernel
theorem dX5_arrive_66 : decode cX5_arrive 66 = .ok (.aload_n 0, 1) := by decide +kernel
theorem dX5_arrive_67 : decode cX5_arrive 67 = .ok (.getfield 47, 3) := by decide +kernel
theorem dX5_arrive_70 : decode cX5_arrive 70 = .ok (.iload_n 1, 1) := by decide +kernel
theorem dX5_arrive_71 : decode cX5_arrive 71 = .ok (.iconst 1, 1) := by decide +kernel
theorem dX5_arrive_72 : decode cX5_arrive 72 = .ok (.bastore, 1) := by decide +kernel
theorem dX5_arrive_73 : decode cX5_arrive 73 = .ok (.aload_n 0, 1) := by decide +kernel
theorem dX5_arrive_74 : decode cX5_arrive 74 = .ok (.getfield 43, 3) := by decide +kernel
theorem dX5_arrive_77 : decode cX5_arrive 77 = .ok (.iload_n 1, 1) := by decide +kernel
theorem dX5_arrive_78 : decode cX5_arrive 78 = .ok (.iconst 1, 1) := by decide +kernel
theorem dX5_arrive_79 : decode cX5_arrive 79 = .ok (.bastore, 1) := by decide +kernel
theorem dX5_arrive_80 : decode cX5_arrive 80 = .ok (.aload_n 0, 1) := by decide +kernel
theorem dX5_arrive_81 : decode cX5_arrive 81 = .ok (.getfield 50, 3) := by decide +kernel
theorem dX5_arrive_84 : decode cX5_arrive 84 = .ok (.iload_n 1, 1) := by decide +kernel
theorem dX5_arrive_85 : decode cX5_arrive 85 = .ok (.aload_n 0, 1) := by decide +kernel
theorem dX5_arrive_86 : decode cX5_arrive 86 = .ok (.getfield 158, 3) := by decide +kernel
theorem dX5_arrive_89 : decode cX5_arrive 89 = .ok (.iastore, 1) := by decide +kernel
theorem dX5_arrive_90 : decode cX5_arrive 90 = .ok (.aload_n 0, 1) := by decide +kernel
theorem dX5_arrive_91 : decode cX5_arrive 91 = .ok (.getfield 53, 3) := by decide +kernel
theorem dX5_arrive_94 : decode cX5_arrive 94 = .ok (.iload_n 1, 1) := by decide +kernel
theorem dX5_arrive_95 : decode cX5_arrive 95 = .ok (.iconst 0, 1) := by decide +kernel
theorem dX5_arrive_96 : decode cX5_arrive 96 = .ok (.iastore, 1) := by decide +kernel
theorem dX5_arrive_97 : decode cX5_arrive 97 = .ok (.aload_n 0, 1) := by decide +kernel
theorem dX5_arrive_98 : decode cX5_arrive 98 = .ok (.getfield 56, 3) := by decide +kernel
theorem dX5_arrive_101 : decode cX5_arrive 101 = .ok (.iload_n 1, 1) := by decide +kernel
theorem dX5_arrive_102 : decode cX5_arrive 102 = .ok (.iconst (-1), 1) := by decide +kernel
theorem dX5_arrive_103 : decode cX5_arrive 103 = .ok (.iastore, 1) := by decide +kernel
theorem dX5_arrive_104 : decode cX5_arrive 104 = .ok (.aload_n 0, 1) := by decide +kernel
theorem dX5_arrive_105 : decode cX5_arrive 105 = .ok (.iload_n 1, 1) := by decide +kernel
theorem dX5_arrive_106 : decode cX5_arrive 106 = .ok (.invokevirtual 168, 3) := by decide +kernel
theorem dX5_arrive_109 : decode cX5_arrive 109 = .ok (.iconst 0, 1) := by decide +kernel
theorem dX5_arrive_110 : decode cX5_arrive 110 = .ok (.istore_n 2, 1) := by decide +kernel
theorem dX5_arrive_111 : decode cX5_arrive 111 = .ok (.iload_n 2, 1) := by decide +kernel
theorem dX5_arrive_112 : decode cX5_arrive 112 = .ok (.aload_n 0, 1) := by decide +kernel
theorem dX5_arrive_113 : decode cX5_arrive 113 = .ok (.getfield 25, 3) := by decide +kernel
theorem dX5_arrive_116 : decode cX5_arrive 116 = .ok (.iload_n 1, 1) := by decide +kernel
theorem dX5_arrive_117 : decode cX5_arrive 117 = .ok (.iaload, 1) := by decide +kernel
theorem dX5_arrive_118 : decode cX5_arrive 118 = .ok (.if_icmp .ge 53, 3) := by decide +kernel
theorem dX5_arrive_121 : decode cX5_arrive 121 = .ok (.aload_n 0, 1) := by decide +kernel
theorem dX5_arrive_122 : decode cX5_arrive 122 = .ok (.getfield 65, 3) := by decide +kernel
theorem dX5_arrive_125 : decode cX5_arrive 125 = .ok (.bipush 6, 2) := by decide +kernel
theorem dX5_arrive_127 : decode cX5_arrive 127 = .ok (.iload_n 1, 1) := by decide +kernel
theorem dX5_arrive_128 : decode cX5_arrive 128 = .ok (.imul, 1) := by decide +kernel
theorem dX5_arrive_129 : decode cX5_arrive 129 = .ok (.iload_n 2, 1) := by decide +kernel
theorem dX5_arrive_130 : decode cX5_arrive 130 = .ok (.iadd, 1) := by decide +kernel
theorem dX5_arrive_131 : decode cX5_arrive 131 = .ok (.aload_n 0, 1) := by decide +kernel
theorem dX5_arrive_132 : decode cX5_arrive 132 = .ok (.getfield 68, 3) := by decide +kernel
theorem dX5_arrive_135 : decode cX5_arrive 135 = .ok (.bipush 6, 2) := by decide +kernel
theorem dX5_arrive_137 : decode cX5_arrive 137 = .ok (.iload_n 1, 1) := by decide +kernel
theorem dX5_arrive_138 : decode cX5_arrive 138 = .ok (.imul, 1) := by decide +kernel
theorem dX5_arrive_139 : decode cX5_arrive 139 = .ok (.iload_n 2, 1) := by decide +kernel
theorem dX5_arrive_140 : decode cX5_arrive 140 = .ok (.iadd, 1) := by decide +kernel
theorem dX5_arrive_141 : decode cX5_arrive 141 = .ok (.iaload, 1) := by decide +kernel
theorem dX5_arrive_142 : decode cX5_arrive 142 = .ok (.iastore, 1) := by decide +kernel
theorem dX5_arrive_143 : decode cX5_arrive 143 = .ok (.aload_n 0, 1) := by decide +kernel
theorem dX5_arrive_144 : decode cX5_arrive 144 = .ok (.getfield 68, 3) := by decide +kernel
theorem dX5_arrive_147 : decode cX5_arrive 147 = .ok (.bipush 6, 2) := by decide +kernel
theorem dX5_arrive_149 : decode cX5_arrive 149 = .ok (.iload_n 1, 1) := by decide +kernel
theorem dX5_arrive_150 : decode cX5_arrive 150 = .ok (.imul, 1) := by decide +kernel
theorem dX5_arrive_151 : decode cX5_arrive 151 = .ok (.iload_n 2, 1) := by decide +kernel
theorem dX5_arrive_152 : decode cX5_arrive 152 = .ok (.iadd, 1) := by decide +kernel
theorem dX5_arrive_153 : decode cX5_arrive 153 = .ok (.aload_n 0, 1) := by decide +kernel
theorem dX5_arrive_154 : decode cX5_arrive 154 = .ok (.getfield 34, 3) := by decide +kernel
theorem dX5_arrive_157 : decode cX5_arrive 157 = .ok (.bipush 6, 2) := by decide +kernel
theorem dX5_arrive_159 : decode cX5_arrive 159 = .ok (.iload_n 1, 1) := by decide +kernel
theorem dX5_arrive_160 : decode cX5_arrive 160 = .ok (.imul, 1) := by decide +kernel
theorem dX5_arrive_161 : decode cX5_arrive 161 = .ok (.iload_n 2, 1) := by decide +kernel
theorem dX5_arrive_162 : decode cX5_arrive 162 = .ok (.iadd, 1) := by decide +kernel
theorem dX5_arrive_163 : decode cX5_arrive 163 = .ok (.iaload, 1) := by decide +kernel
theorem dX5_arrive_164 : decode cX5_arrive 164 = .ok (.iastore, 1) := by decide +kernel
theorem dX5_arrive_165 : decode cX5_arrive 165 = .ok (.iinc 2 1, 3) := by decide +kernel
theorem dX5_arrive_168 : decode cX5_arrive 168 = .ok (.goto (-57), 3) := by decide +kernel
theorem dX5_arrive_171 : decode cX5_arrive 171 = .ok (.iconst 1, 1) := by decide +kernel
theorem dX5_arrive_172 : decode cX5_arrive 172 = .ok (.ireturn, 1) := by decide +kernel
theorem dX5_goToNext_0 : decode cX5_goToNext 0 = .ok (.aload_n 0, 1) := by decide +kernel
theorem dX5_goToNext_1 : decode cX5_goToNext 1 = .ok (.getfield 56, 3) := by decide +kernel
theorem dX5_goToNext_4 : decode cX5_goToNext 4 = .ok (.iload_n 1, 1) := by decide +kernel
theorem dX5_goToNext_5 : decode cX5_goToNext 5 = .ok (.iaload, 1) := by decide +kernel
theorem dX5_goToNext_6 : decode cX5_goToNext 6 = .ok (.iconst 1, 1) := by decide +kernel
theorem dX5_goToNext_7 : decode cX5_goToNext 7 = .ok (.iadd, 1) := by decide +kernel
theorem dX5_goToNext_8 : decode cX5_goToNext 8 = .ok (.istore_n 2, 1) := by decide +kernel
theorem dX5_goToNext_9 : decode cX5_goToNext 9 = .ok (.iload_n 2, 1) := by decide +kernel
theorem dX5_goToNext_10 : decode cX5_goToNext 10 = .ok (.aload_n 0, 1) := by decide +kernel
theorem dX5_goToNext_11 : decode cX5_goToNext 11 = .ok (.getfield 25, 3) := by decide +kernel
theorem dX5_goToNext_14 : decode cX5_goToNext 14 = .ok (.iload_n 1, 1) := by decide +kernel
theorem dX5_goToNext_15 : decode cX5_goToNext 15 = .ok (.iaload, 1) := by decide +kernel
theorem dX5_goToNext_16 : decode cX5_goToNext 16 = .ok (.if_icmp .ge 18, 3) := by decide +kernel
theorem dX5_goToNext_19 : decode cX5_goToNext 19 = .ok (.aload_n 0, 1) := by decide +kernel
theorem dX5_goToNext_20 : decode cX5_goToNext 20 = .ok (.iload_n 1, 1) := by decide +kernel
theorem dX5_goToNext_21 : decode cX5_goToNext 21 = .ok (.iload_n 2, 1) := by decide +kernel
theorem dX5_goToNext_22 : decode cX5_goToNext 22 = .ok (.invokevirtual 142, 3) := by decide +kernel
theorem dX5_goToNext_25 : decode cX5_goToNext 25 = .ok (.ifCond .ne 9, 3) := by decide +kernel
theorem dX5_goToNext_28 : decode cX5_goToNext 28 = .ok (.iinc 2 1, 3) := by decide +kernel
theorem dX5_goToNext_31 : decode cX5_goToNext 31 = .ok (.goto (-22), 3) := by decide +kernel
theorem dX5_goToNext_34 : decode cX5_goToNext 34 = .ok (.aload_n 0, 1) := by decide +kernel
theorem dX5_goToNext_35 : decode cX5_goToNext 35 = .ok (.getfield 56, 3) := by decide +kernel
theorem dX5_goToNext_38 : decode cX5_goToNext 38 = .ok (.iload_n 1, 1) := by decide +kernel
theorem dX5_goToNext_39 : decode cX5_goToNext 39 = .ok (.iload_n 2, 1) := by decide +kernel
theorem dX5_goToNext_40 : decode cX5_goToNext 40 = .ok (.iastore, 1) := by decide +kernel
theorem dX5_goToNext_41 : decode cX5_goToNext 41 = .ok (.return_, 1) := by decide +kernel
theorem dX5_shorten_0 : decode cX5_shorten 0 = .ok (.aload_n 0, 1) := by decide +kernel
theorem dX5_shorten_1 : decode cX5_shorten 1 = .ok (.aload_n 0, 1) := by decide +kernel
theorem dX5_shorten_2 : decode cX5_shorten 2 = .ok (.iload_n 1, 1) := by decide +kernel
theorem dX5_shorten_3 : decode cX5_shorten 3 = .ok (.iload_n 2, 1) := by decide +kernel
theorem dX5_shorten_4 : decode cX5_shorten 4 = .ok (.invokevirtual 132, 3) := by decide +kernel
theorem dX5_shorten_7 : decode cX5_shorten 7 = .ok (.ifCond .ne 7, 3) := by decide +kernel
theorem dX5_shorten_10 : decode cX5_shorten 10 = .ok (.iconst 1, 1) := by decide +kernel
theorem dX5_shorten_11 : decode cX5_shorten 11 = .ok (.goto 4, 3) := by decide +kernel
theorem dX5_shorten_14 : decode cX5_shorten 14 = .ok (.iconst 0, 1) := by decide +kernel
theorem dX5_shorten_15 : decode cX5_shorten 15 = .ok (.aload_n 0, 1) := by decide +kernel
theorem dX5_shorten_16 : decode cX5_shorten 16 = .ok (.getfield 116, 3) := by decide +kernel
theorem dX5_shorten_19 : decode cX5_shorten 19 = .ok (.ifCond .ne 7, 3) := by decide +kernel
theorem dX5_shorten_22 : decode cX5_shorten 22 = .ok (.iconst 1, 1) := by decide +kernel
theorem dX5_shorten_23 : decode cX5_shorten 23 = .ok (.goto 4, 3) := by decide +kernel
theorem dX5_shorten_26 : decode cX5_shorten 26 = .ok (.iconst 0, 1) := by decide +kernel
theorem dX5_shorten_27 : decode cX5_shorten 27 = .ok (.aload_n 0, 1) := by decide +kernel
theorem dX5_shorten_28 : decode cX5_shorten 28 = .ok (.iload_n 1, 1) := by decide +kernel
theorem dX5_shorten_29 : decode cX5_shorten 29 = .ok (.iload_n 2, 1) := by decide +kernel
theorem dX5_shorten_30 : decode cX5_shorten 30 = .ok (.invokevirtual 132, 3) := by decide +kernel
theorem dX5_shorten_33 : decode cX5_shorten 33 = .ok (.ifCond .eq 35, 3) := by decide +kernel
theorem dX5_shorten_36 : decode cX5_shorten 36 = .ok (.aload_n 0, 1) := by decide +kernel
theorem dX5_shorten_37 : decode cX5_shorten 37 = .ok (.iload_n 1, 1) := by decide +kernel
theorem dX5_shorten_38 : decode cX5_shorten 38 = .ok (.iload_n 2, 1) := by decide +kernel
theorem dX5_shorten_39 : decode cX5_shorten 39 = .ok (.invokevirtual 142, 3) := by decide +kernel
theorem dX5_shorten_42 : decode cX5_shorten 42 = .ok (.ifCond .eq 22, 3) := by decide +kernel
theorem dX5_shorten_45 : decode cX5_shorten 45 = .ok (.iload_n 3, 1) := by decide +kernel
theorem dX5_shorten_46 : decode cX5_shorten 46 = .ok (.iconst 1, 1) := by decide +kernel
theorem dX5_shorten_47 : decode cX5_shorten 47 = .ok (.aload_n 0, 1) := by decide +kernel
theorem dX5_shorten_48 : decode cX5_shorten 48 = .ok (.getfield 34, 3) := by decide +kernel
theorem dX5_shorten_51 : decode cX5_shorten 51 = .ok (.bipush 6, 2) := by decide +kernel
theorem dX5_shorten_53 : decode cX5_shorten 53 = .ok (.iload_n 1, 1) := by decide +kernel
theorem dX5_shorten_54 : decode cX5_shorten 54 = .ok (.imul, 1) := by decide +kernel
theorem dX5_shorten_55 : decode cX5_shorten 55 = .ok (.iload_n 2, 1) := by decide +kernel
theorem dX5_shorten_56 : decode cX5_shorten 56 = .ok (.iadd, 1) := by decide +kernel
theorem dX5_shorten_57 : decode cX5_shorten 57 = .ok (.iaload, 1) := by decide +kernel
theorem dX5_shorten_58 : decode cX5_shorten 58 = .ok (.invokestatic 112, 3) := by decide +kernel
theorem dX5_shorten_61 : decode cX5_shorten 61 = .ok (.ifCond .ne 7, 3) := by decide +kernel
theorem dX5_shorten_64 : decode cX5_shorten 64 = .ok (.iconst 1, 1) := by decide +kernel
theorem dX5_shorten_65 : decode cX5_shorten 65 = .ok (.goto 4, 3) := by decide +kernel
theorem dX5_shorten_68 : decode cX5_shorten 68 = .ok (.iconst 0, 1) := by decide +kernel
theorem dX5_shorten_69 : decode cX5_shorten 69 = .ok (.invokevirtual 124, 3) := by decide +kernel
theorem dX5_shorten_72 : decode cX5_shorten 72 = .ok (.ifCond .ne 15, 3) := by decide +kernel
theorem dX5_shorten_75 : decode cX5_shorten 75 = .ok (.aload_n 0, 1) := by decide +kernel
theorem dX5_shorten_76 : decode cX5_shorten 76 = .ok (.getfield 68, 3) := by decide +kernel
theorem dX5_shorten_79 : decode cX5_shorten 79 = .ok (.bipush 6, 2) := by decide +kernel
theorem dX5_shorten_81 : decode cX5_shorten 81 = .ok (.iload_n 1, 1) := by decide +kernel
theorem dX5_shorten_82 : decode cX5_shorten 82 = .ok (.imul, 1) := by decide +kernel
theorem dX5_shorten_83 : decode cX5_shorten 83 = .ok (.iload_n 2, 1) := by decide +kernel
theorem dX5_shorten_84 : decode cX5_shorten 84 = .ok (.iadd, 1) := by decide +kernel
theorem dX5_shorten_85 : decode cX5_shorten 85 = .ok (.iload_n 3, 1) := by decide +kernel
theorem dX5_shorten_86 : decode cX5_shorten 86 = .ok (.iastore, 1) := by decide +kernel
theorem dX5_shorten_87 : decode cX5_shorten 87 = .ok (.return_, 1) := by decide +kernel
theorem dX5_groupOf_0 : decode cX5_groupOf 0 = .ok (.aload_n 0, 1) := by decide +kernel
theorem dX5_groupOf_1 : decode cX5_groupOf 1 = .ok (.getfield 40, 3) := by decide +kernel
theorem dX5_groupOf_4 : decode cX5_groupOf 4 = .ok (.aload_n 0, 1) := by decide +kernel
theorem dX5_groupOf_5 : decode cX5_groupOf 5 = .ok (.getfield 31, 3) := by decide +kernel
theorem dX5_groupOf_8 : decode cX5_groupOf 8 = .ok (.bipush 6, 2) := by decide +kernel
theorem dX5_groupOf_10 : decode cX5_groupOf 10 = .ok (.iload_n 1, 1) := by decide +kernel
theorem dX5_groupOf_11 : decode cX5_groupOf 11 = .ok (.imul, 1) := by decide +kernel
theorem dX5_groupOf_12 : decode cX5_groupOf 12 = .ok (.aload_n 0, 1) := by decide +kernel
theorem dX5_groupOf_13 : decode cX5_groupOf 13 = .ok (.getfield 56, 3) := by decide +kernel
theorem dX5_groupOf_16 : decode cX5_groupOf 16 = .ok (.iload_n 1, 1) := by decide +kernel
theorem dX5_groupOf_17 : decode cX5_groupOf 17 = .ok (.iaload, 1) := by decide +kernel
theorem dX5_groupOf_18 : decode cX5_groupOf 18 = .ok (.iadd, 1) := by decide +kernel
theorem dX5_groupOf_19 : decode cX5_groupOf 19 = .ok (.iaload, 1) := by decide +kernel
theorem dX5_groupOf_20 : decode cX5_groupOf 20 = .ok (.iaload, 1) := by decide +kernel
theorem dX5_groupOf_21 : decode cX5_groupOf 21 = .ok (.ireturn, 1) := by decide +kernel
theorem dX5_choose_0 : decode cX5_choose 0 = .ok (.aload_n 0, 1) := by decide +kernel
theorem dX5_choose_1 : decode cX5_choose 1 = .ok (.getfield 86, 3) := by decide +kernel
theorem dX5_choose_4 : decode cX5_choose 4 = .ok (.iload_n 1, 1) := by decide +kernel
theorem dX5_choose_5 : decode cX5_choose 5 = .ok (.iaload, 1) := by decide +kernel
theorem dX5_choose_6 : decode cX5_choose 6 = .ok (.iconst 1, 1) := by decide +kernel
theorem dX5_choose_7 : decode cX5_choose 7 = .ok (.if_icmp .le 4, 3) := by decide +kernel
theorem dX5_choose_10 : decode cX5_choose 10 = .ok (.return_, 1) := by decide +kernel
theorem dX5_choose_11 : decode cX5_choose 11 = .ok (.aload_n 0, 1) := by decide +kernel
theorem dX5_choose_12 : decode cX5_choose 12 = .ok (.getfield 83, 3) := by decide +kernel
theorem dX5_choose_15 : decode cX5_choose 15 = .ok (.iload_n 1, 1) := by decide +kernel
theorem dX5_choose_16 : decode cX5_choose 16 = .ok (.iconst (-1), 1) := by decide +kernel
theorem dX5_choose_17 : decode cX5_choose 17 = .ok (.iastore, 1) := by decide +kernel
theorem dX5_choose_18 : decode cX5_choose 18 = .ok (.iconst 0, 1) := by decide +kernel
theorem dX5_choose_19 : decode cX5_choose 19 = .ok (.istore_n 2, 1) := by decide +kernel
theorem dX5_choose_20 : decode cX5_choose 20 = .ok (.iload_n 2, 1) := by decide +kernel
theorem dX5_choose_21 : decode cX5_choose 21 = .ok (.bipush 16, 2) := by decide +kernel
theorem dX5_choose_23 : decode cX5_choose 23 = .ok (.if_icmp .ge 64, 3) := by decide +kernel
theorem dX5_choose_26 : decode cX5_choose 26 = .ok (.aload_n 0, 1) := by decide +kernel
theorem dX5_choose_27 : decode cX5_choose 27 = .ok (.getfield 43, 3) := by decide +kernel
theorem dX5_choose_30 : decode cX5_choose 30 = .ok (.iload_n 2, 1) := by decide +kernel
theorem dX5_choose_31 : decode cX5_choose 31 = .ok (.baload, 1) := by decide +kernel
theorem dX5_choose_32 : decode cX5_choose 32 = .ok (.ifCond .eq 49, 3) := by decide +kernel
theorem dX5_choose_35 : decode cX5_choose 35 = .ok (.aload_n 0, 1) := by decide +kernel
theorem dX5_choose_36 : decode cX5_choose 36 = .ok (.getfield 7, 3) := by decide +kernel
theorem dX5_choose_39 : decode cX5_choose 39 = .ok (.iload_n 2, 1) := by decide +kernel
theorem dX5_choose_40 : decode cX5_choose 40 = .ok (.iaload, 1) := by decide +kernel
theorem dX5_choose_41 : decode cX5_choose 41 = .ok (.iload_n 1, 1) := by decide +kernel
theorem dX5_choose_42 : decode cX5_choose 42 = .ok (.if_icmp .ne 39, 3) := by decide +kernel
theorem dX5_choose_45 : decode cX5_choose 45 = .ok (.aload_n 0, 1) := by decide +kernel
theorem dX5_choose_46 : decode cX5_choose 46 = .ok (.getfield 83, 3) := by decide +kernel
theorem dX5_choose_49 : decode cX5_choose 49 = .ok (.iload_n 1, 1) := by decide +kernel
theorem dX5_choose_50 : decode cX5_choose 50 = .ok (.iaload, 1) := by decide +kernel
theorem dX5_choose_51 : decode cX5_choose 51 = .ok (.ifCond .lt 23, 3) := by decide +kernel
theorem dX5_choose_54 : decode cX5_choose 54 = .ok (.aload_n 0, 1) := by decide +kernel
theorem dX5_choose_55 : decode cX5_choose 55 = .ok (.getfield 13, 3) := by decide +kernel
theorem dX5_choose_58 : decode cX5_choose 58 = .ok (.iload_n 2, 1) := by decide +kernel
theorem dX5_choose_59 : decode cX5_choose 59 = .ok (.iaload, 1) := by decide +kernel
theorem dX5_choose_60 : decode cX5_choose 60 = .ok (.aload_n 0, 1) := by decide +kernel
theorem dX5_choose_61 : decode cX5_choose 61 = .ok (.getfield 13, 3) := by decide +kernel
theorem dX5_choose_64 : decode cX5_choose 64 = .ok (.aload_n 0, 1) := by decide +kernel
theorem dX5_choose_65 : decode cX5_choose 65 = .ok (.getfield 83, 3) := by decide +kernel
theorem dX5_choose_68 : decode cX5_choose 68 = .ok (.iload_n 1, 1) := by decide +kernel
theorem dX5_choose_69 : decode cX5_choose 69 = .ok (.iaload, 1) := by decide +kernel
theorem dX5_choose_70 : decode cX5_choose 70 = .ok (.iaload, 1) := by decide +kernel
theorem dX5_choose_71 : decode cX5_choose 71 = .ok (.if_icmp .le 10, 3) := by decide +kernel
theorem dX5_choose_74 : decode cX5_choose 74 = .ok (.aload_n 0, 1) := by decide +kernel
theorem dX5_choose_75 : decode cX5_choose 75 = .ok (.getfield 83, 3) := by decide +kernel
theorem dX5_choose_78 : decode cX5_choose 78 = .ok (.iload_n 1, 1) := by decide +kernel
theorem dX5_choose_79 : decode cX5_choose 79 = .ok (.iload_n 2, 1) := by decide +kernel
theorem dX5_choose_80 : decode cX5_choose 80 = .ok (.iastore, 1) := by decide +kernel
theorem dX5_choose_81 : decode cX5_choose 81 = .ok (.iinc 2 1, 3) := by decide +kernel
theorem dX5_choose_84 : decode cX5_choose 84 = .ok (.goto (-64), 3) := by decide +kernel
theorem dX5_choose_87 : decode cX5_choose 87 = .ok (.aload_n 0, 1) := by decide +kernel
theorem dX5_choose_88 : decode cX5_choose 88 = .ok (.getfield 86, 3) := by decide +kernel
theorem dX5_choose_91 : decode cX5_choose 91 = .ok (.iload_n 1, 1) := by decide +kernel
theorem dX5_choose_92 : decode cX5_choose 92 = .ok (.aload_n 0, 1) := by decide +kernel
theorem dX5_choose_93 : decode cX5_choose 93 = .ok (.getfield 83, 3) := by decide +kernel
theorem dX5_choose_96 : decode cX5_choose 96 = .ok (.iload_n 1, 1) := by decide +kernel
theorem dX5_choose_97 : decode cX5_choose 97 = .ok (.iaload, 1) := by decide +kernel
theorem dX5_choose_98 : decode cX5_choose 98 = .ok (.ifCond .ge 7, 3) := by decide +kernel
theorem dX5_choose_101 : decode cX5_choose 101 = .ok (.iconst 0, 1) := by decide +kernel
theorem dX5_choose_102 : decode cX5_choose 102 = .ok (.goto 4, 3) := by decide +kernel
theorem dX5_choose_105 : decode cX5_choose 105 = .ok (.iconst 1, 1) := by decide +kernel
theorem dX5_choose_106 : decode cX5_choose 106 = .ok (.iastore, 1) := by decide +kernel
theorem dX5_choose_107 : decode cX5_choose 107 = .ok (.aload_n 0, 1) := by decide +kernel
theorem dX5_choose_108 : decode cX5_choose 108 = .ok (.getfield 83, 3) := by decide +kernel
theorem dX5_choose_111 : decode cX5_choose 111 = .ok (.iload_n 1, 1) := by decide +kernel
theorem dX5_choose_112 : decode cX5_choose 112 = .ok (.iaload, 1) := by decide +kernel
theorem dX5_choose_113 : decode cX5_choose 113 = .ok (.istore_n 2, 1) := by decide +kernel
theorem dX5_choose_114 : decode cX5_choose 114 = .ok (.iload_n 2, 1) := by decide +kernel
theorem dX5_choose_115 : decode cX5_choose 115 = .ok (.ifCond .lt 111, 3) := by decide +kernel
theorem dX5_choose_118 : decode cX5_choose 118 = .ok (.aload_n 0, 1) := by decide +kernel
theorem dX5_choose_119 : decode cX5_choose 119 = .ok (.getfield 56, 3) := by decide +kernel
theorem dX5_choose_122 : decode cX5_choose 122 = .ok (.iload_n 2, 1) := by decide +kernel
theorem dX5_choose_123 : decode cX5_choose 123 = .ok (.iaload, 1) := by decide +kernel
theorem dX5_choose_124 : decode cX5_choose 124 = .ok (.aload_n 0, 1) := by decide +kernel
theorem dX5_choose_125 : decode cX5_choose 125 = .ok (.getfield 25, 3) := by decide +kernel
theorem dX5_choose_128 : decode cX5_choose 128 = .ok (.iload_n 2, 1) := by decide +kernel
theorem dX5_choose_129 : decode cX5_choose 129 = .ok (.iaload, 1) := by decide +kernel
theorem dX5_choose_130 : decode cX5_choose 130 = .ok (.if_icmp .ge 96, 3) := by decide +kernel
theorem dX5_choose_133 : decode cX5_choose 133 = .ok (.aload_n 0, 1) := by decide +kernel
theorem dX5_choose_134 : decode cX5_choose 134 = .ok (.getfield 53, 3) := by decide +kernel
theorem dX5_choose_137 : decode cX5_choose 137 = .ok (.iload_n 2, 1) := by decide +kernel
theorem dX5_choose_138 : decode cX5_choose 138 = .ok (.iaload, 1) := by decide +kernel
theorem dX5_choose_139 : decode cX5_choose 139 = .ok (.aload_n 0, 1) := by decide +kernel
theorem dX5_choose_140 : decode cX5_choose 140 = .ok (.getfield 28, 3) := by decide +kernel
theorem dX5_choose_143 : decode cX5_choose 143 = .ok (.bipush 6, 2) := by decide +kernel
theorem dX5_choose_145 : decode cX5_choose 145 = .ok (.iload_n 2, 1) := by decide +kernel
theorem dX5_choose_146 : decode cX5_choose 146 = .ok (.imul, 1) := by decide +kernel
theorem dX5_choose_147 : decode cX5_choose 147 = .ok (.aload_n 0, 1) := by decide +kernel
theorem dX5_choose_148 : decode cX5_choose 148 = .ok (.getfield 56, 3) := by decide +kernel
theorem dX5_choose_151 : decode cX5_choose 151 = .ok (.iload_n 2, 1) := by decide +kernel
theorem dX5_choose_152 : decode cX5_choose 152 = .ok (.iaload, 1) := by decide +kernel
theorem dX5_choose_153 : decode cX5_choose 153 = .ok (.iadd, 1) := by decide +kernel
theorem dX5_choose_154 : decode cX5_choose 154 = .ok (.iaload, 1) := by decide +kernel
theorem dX5_choose_155 : decode cX5_choose 155 = .ok (.if_icmp .ne 71, 3) := by decide +kernel
theorem dX5_choose_158 : decode cX5_choose 158 = .ok (.aload_n 0, 1) := by decide +kernel
theorem dX5_choose_159 : decode cX5_choose 159 = .ok (.iload_n 2, 1) := by decide +kernel
theorem dX5_choose_160 : decode cX5_choose 160 = .ok (.invokevirtual 172, 3) := by decide +kernel
theorem dX5_choose_163 : decode cX5_choose 163 = .ok (.istore_n 3, 1) := by decide +kernel
theorem dX5_choose_164 : decode cX5_choose 164 = .ok (.aload_n 0, 1) := by decide +kernel
theorem dX5_choose_165 : decode cX5_choose 165 = .ok (.getfield 95, 3) := by decide +kernel
theorem dX5_choose_168 : decode cX5_choose 168 = .ok (.iconst 4, 1) := by decide +kernel
theorem dX5_choose_169 : decode cX5_choose 169 = .ok (.iload_n 3, 1) := by decide +kernel
theorem dX5_choose_170 : decode cX5_choose 170 = .ok (.imul, 1) := by decide +kernel
theorem dX5_choose_171 : decode cX5_choose 171 = .ok (.aload_n 0, 1) := by decide +kernel
theorem dX5_choose_172 : decode cX5_choose 172 = .ok (.getfield 98, 3) := by decide +kernel
theorem dX5_choose_175 : decode cX5_choose 175 = .ok (.iload_n 3, 1) := by decide +kernel
theorem dX5_choose_176 : decode cX5_choose 176 = .ok (.iaload, 1) := by decide +kernel
theorem dX5_choose_177 : decode cX5_choose 177 = .ok (.iadd, 1) := by decide +kernel
theorem dX5_choose_178 : decode cX5_choose 178 = .ok (.iload_n 1, 1) := by decide +kernel
theorem dX5_choose_179 : decode cX5_choose 179 = .ok (.iastore, 1) := by decide +kernel
theorem dX5_choose_180 : decode cX5_choose 180 = .ok (.aload_n 0, 1) := by decide +kernel
theorem dX5_choose_181 : decode cX5_choose 181 = .ok (.getfield 98, 3) := by decide +kernel
theorem dX5_choose_184 : decode cX5_choose 184 = .ok (.iload_n 3, 1) := by decide +kernel
theorem dX5_choose_185 : decode cX5_choose 185 = .ok (.dup2, 1) := by decide +kernel
theorem dX5_choose_186 : decode cX5_choose 186 = .ok (.iaload, 1) := by decide +kernel
theorem dX5_choose_187 : decode cX5_choose 187 = .ok (.iconst 1, 1) := by decide +kernel
theorem dX5_choose_188 : decode cX5_choose 188 = .ok (.iadd, 1) := by decide +kernel
theorem dX5_choose_189 : decode cX5_choose 189 = .ok (.iastore, 1) := by decide +kernel
theorem dX5_choose_190 : decode cX5_choose 190 = .ok (.aload_n 0, 1) := by decide +kernel
theorem dX5_choose_191 : decode cX5_choose 191 = .ok (.getfield 86, 3) := by decide +kernel
theorem dX5_choose_194 : decode cX5_choose 194 = .ok (.iload_n 1, 1) := by decide +kernel
theorem dX5_choose_195 : decode cX5_choose 195 = .ok (.iconst 2, 1) := by decide +kernel
theorem dX5_choose_196 : decode cX5_choose 196 = .ok (.iastore, 1) := by decide +kernel
theorem dX5_choose_197 : decode cX5_choose 197 = .ok (.aload_n 0, 1) := by decide +kernel
theorem dX5_choose_198 : decode cX5_choose 198 = .ok (.getfield 62, 3) := by decide +kernel
theorem dX5_choose_201 : decode cX5_choose 201 = .ok (.iload_n 2, 1) := by decide +kernel
theorem dX5_choose_202 : decode cX5_choose 202 = .ok (.iconst 0, 1) := by decide +kernel
theorem dX5_choose_203 : decode cX5_choose 203 = .ok (.iastore, 1) := by decide +kernel
theorem dX5_choose_204 : decode cX5_choose 204 = .ok (.aload_n 0, 1) := by decide +kernel
theorem dX5_choose_205 : decode cX5_choose 205 = .ok (.getfield 59, 3) := by decide +kernel
theorem dX5_choose_208 : decode cX5_choose 208 = .ok (.iload_n 2, 1) := by decide +kernel
theorem dX5_choose_209 : decode cX5_choose 209 = .ok (.aload_n 0, 1) := by decide +kernel
theorem dX5_choose_210 : decode cX5_choose 210 = .ok (.getfield 65, 3) := by decide +kernel
theorem dX5_choose_213 : decode cX5_choose 213 = .ok (.bipush 6, 2) := by decide +kernel
theorem dX5_choose_215 : decode cX5_choose 215 = .ok (.iload_n 2, 1) := by decide +kernel
theorem dX5_choose_216 : decode cX5_choose 216 = .ok (.imul, 1) := by decide +kernel
theorem dX5_choose_217 : decode cX5_choose 217 = .ok (.aload_n 0, 1) := by decide +kernel
theorem dX5_choose_218 : decode cX5_choose 218 = .ok (.getfield 56, 3) := by decide +kernel
theorem dX5_choose_221 : decode cX5_choose 221 = .ok (.iload_n 2, 1) := by decide +kernel
theorem dX5_choose_222 : decode cX5_choose 222 = .ok (.iaload, 1) := by decide +kernel
theorem dX5_choose_223 : decode cX5_choose 223 = .ok (.iadd, 1) := by decide +kernel
theorem dX5_choose_224 : decode cX5_choose 224 = .ok (.iaload, 1) := by decide +kernel
theorem dX5_choose_225 : decode cX5_choose 225 = .ok (.iastore, 1) := by decide +kernel
theorem dX5_choose_226 : decode cX5_choose 226 = .ok (.return_, 1) := by decide +kernel
theorem dX5_goOn_0 : decode cX5_goOn 0 = .ok (.aload_n 0, 1) := by decide +kernel
theorem dX5_goOn_1 : decode cX5_goOn 1 = .ok (.getfield 83, 3) := by decide +kernel
theorem dX5_goOn_4 : decode cX5_goOn 4 = .ok (.iload_n 1, 1) := by decide +kernel
theorem dX5_goOn_5 : decode cX5_goOn 5 = .ok (.iaload, 1) := by decide +kernel
theorem dX5_goOn_6 : decode cX5_goOn 6 = .ok (.istore_n 2, 1) := by decide +kernel
theorem dX5_goOn_7 : decode cX5_goOn 7 = .ok (.aload_n 0, 1) := by decide +kernel
theorem dX5_goOn_8 : decode cX5_goOn 8 = .ok (.getfield 89, 3) := by decide +kernel
theorem dX5_goOn_11 : decode cX5_goOn 11 = .ok (.iload_n 1, 1) := by decide +kernel
theorem dX5_goOn_12 : decode cX5_goOn 12 = .ok (.iload_n 2, 1) := by decide +kernel
theorem dX5_goOn_13 : decode cX5_goOn 13 = .ok (.iastore, 1) := by decide +kernel
theorem dX5_goOn_14 : decode cX5_goOn 14 = .ok (.aload_n 0, 1) := by decide +kernel
theorem dX5_goOn_15 : decode cX5_goOn 15 = .ok (.getfield 92, 3) := by decide +kernel
theorem dX5_goOn_18 : decode cX5_goOn 18 = .ok (.iload_n 1, 1) := by decide +kernel
theorem dX5_goOn_19 : decode cX5_goOn 19 = .ok (.aload_n 0, 1) := by decide +kernel
theorem dX5_goOn_20 : decode cX5_goOn 20 = .ok (.getfield 86, 3) := by decide +kernel
theorem dX5_goOn_23 : decode cX5_goOn 23 = .ok (.iload_n 1, 1) := by decide +kernel
theorem dX5_goOn_24 : decode cX5_goOn 24 = .ok (.iaload, 1) := by decide +kernel
theorem dX5_goOn_25 : decode cX5_goOn 25 = .ok (.iastore, 1) := by decide +kernel
theorem dX5_goOn_26 : decode cX5_goOn 26 = .ok (.iload_n 2, 1) := by decide +kernel
theorem dX5_goOn_27 : decode cX5_goOn 27 = .ok (.ifCond .ge 5, 3) := by decide +kernel
theorem dX5_goOn_30 : decode cX5_goOn 30 = .ok (.iconst 0, 1) := by decide +kernel
theorem dX5_goOn_31 : decode cX5_goOn 31 = .ok (.ireturn, 1) := by decide +kernel
theorem dX5_goOn_32 : decode cX5_goOn 32 = .ok (.aload_n 0, 1) := by decide +kernel
theorem dX5_goOn_33 : decode cX5_goOn 33 = .ok (.getfield 86, 3) := by decide +kernel
theorem dX5_goOn_36 : decode cX5_goOn 36 = .ok (.iload_n 1, 1) := by decide +kernel
theorem dX5_goOn_37 : decode cX5_goOn 37 = .ok (.iaload, 1) := by decide +kernel
theorem dX5_goOn_38 : decode cX5_goOn 38 = .ok (.iconst 1, 1) := by decide +kernel
theorem dX5_goOn_39 : decode cX5_goOn 39 = .ok (.if_icmp .ne 16, 3) := by decide +kernel
theorem dX5_goOn_42 : decode cX5_goOn 42 = .ok (.aload_n 0, 1) := by decide +kernel
theorem dX5_goOn_43 : decode cX5_goOn 43 = .ok (.getfield 53, 3) := by decide +kernel
theorem dX5_goOn_46 : decode cX5_goOn 46 = .ok (.iload_n 2, 1) := by decide +kernel
theorem dX5_goOn_47 : decode cX5_goOn 47 = .ok (.dup2, 1) := by decide +kernel
theorem dX5_goOn_48 : decode cX5_goOn 48 = .ok (.iaload, 1) := by decide +kernel
theorem dX5_goOn_49 : decode cX5_goOn 49 = .ok (.iconst 1, 1) := by decide +kernel
theorem dX5_goOn_50 : decode cX5_goOn 50 = .ok (.iadd, 1) := by decide +kernel
theorem dX5_goOn_51 : decode cX5_goOn 51 = .ok (.iastore, 1) := by decide +kernel
theorem dX5_goOn_52 : decode cX5_goOn 52 = .ok (.goto 108, 3) := by decide +kernel
theorem dX5_goOn_55 : decode cX5_goOn 55 = .ok (.aload_n 0, 1) := by decide +kernel
theorem dX5_goOn_56 : decode cX5_goOn 56 = .ok (.getfield 86, 3) := by decide +kernel
theorem dX5_goOn_59 : decode cX5_goOn 59 = .ok (.iload_n 1, 1) := by decide +kernel
theorem dX5_goOn_60 : decode cX5_goOn 60 = .ok (.iaload, 1) := by decide +kernel
theorem dX5_goOn_61 : decode cX5_goOn 61 = .ok (.iconst 2, 1) := by decide +kernel
theorem dX5_goOn_62 : decode cX5_goOn 62 = .ok (.if_icmp .ne 64, 3) := by decide +kernel
theorem dX5_goOn_65 : decode cX5_goOn 65 = .ok (.aload_n 0, 1) := by decide +kernel
theorem dX5_goOn_66 : decode cX5_goOn 66 = .ok (.getfield 62, 3) := by decide +kernel
theorem dX5_goOn_69 : decode cX5_goOn 69 = .ok (.iload_n 2, 1) := by decide +kernel
theorem dX5_goOn_70 : decode cX5_goOn 70 = .ok (.dup2, 1) := by decide +kernel
theorem dX5_goOn_71 : decode cX5_goOn 71 = .ok (.iaload, 1) := by decide +kernel
theorem dX5_goOn_72 : decode cX5_goOn 72 = .ok (.iconst 1, 1) := by decide +kernel
theorem dX5_goOn_73 : decode cX5_goOn 73 = .ok (.iadd, 1) := by decide +kernel
theorem dX5_goOn_74 : decode cX5_goOn 74 = .ok (.iastore, 1) := by decide +kernel
theorem dX5_goOn_75 : decode cX5_goOn 75 = .ok (.bipush 6, 2) := by decide +kernel
theorem dX5_goOn_77 : decode cX5_goOn 77 = .ok (.iload_n 2, 1) := by decide +kernel
theorem dX5_goOn_78 : decode cX5_goOn 78 = .ok (.imul, 1) := by decide +kernel
theorem dX5_goOn_79 : decode cX5_goOn 79 = .ok (.aload_n 0, 1) := by decide +kernel
theorem dX5_goOn_80 : decode cX5_goOn 80 = .ok (.getfield 56, 3) := by decide +kernel
theorem dX5_goOn_83 : decode cX5_goOn 83 = .ok (.iload_n 2, 1) := by decide +kernel
theorem dX5_goOn_84 : decode cX5_goOn 84 = .ok (.iaload, 1) := by decide +kernel
theorem dX5_goOn_85 : decode cX5_goOn 85 = .ok (.iadd, 1) := by decide +kernel
theorem dX5_goOn_86 : decode cX5_goOn 86 = .ok (.istore_n 3, 1) := by decide +kernel
theorem dX5_goOn_87 : decode cX5_goOn 87 = .ok (.aload_n 0, 1) := by decide +kernel
theorem dX5_goOn_88 : decode cX5_goOn 88 = .ok (.getfield 80, 3) := by decide +kernel
theorem dX5_goOn_91 : decode cX5_goOn 91 = .ok (.iload_n 3, 1) := by decide +kernel
theorem dX5_goOn_92 : decode cX5_goOn 92 = .ok (.aload_n 0, 1) := by decide +kernel
theorem dX5_goOn_93 : decode cX5_goOn 93 = .ok (.getfield 62, 3) := by decide +kernel
theorem dX5_goOn_96 : decode cX5_goOn 96 = .ok (.iload_n 2, 1) := by decide +kernel
theorem dX5_goOn_97 : decode cX5_goOn 97 = .ok (.iaload, 1) := by decide +kernel
theorem dX5_goOn_98 : decode cX5_goOn 98 = .ok (.aload_n 0, 1) := by decide +kernel
theorem dX5_goOn_99 : decode cX5_goOn 99 = .ok (.getfield 80, 3) := by decide +kernel
theorem dX5_goOn_102 : decode cX5_goOn 102 = .ok (.iload_n 3, 1) := by decide +kernel
theorem dX5_goOn_103 : decode cX5_goOn 103 = .ok (.iaload, 1) := by decide +kernel
theorem dX5_goOn_104 : decode cX5_goOn 104 = .ok (.if_icmp .le 12, 3) := by decide +kernel
theorem dX5_goOn_107 : decode cX5_goOn 107 = .ok (.aload_n 0, 1) := by decide +kernel
theorem dX5_goOn_108 : decode cX5_goOn 108 = .ok (.getfield 62, 3) := by decide +kernel
theorem dX5_goOn_111 : decode cX5_goOn 111 = .ok (.iload_n 2, 1) := by decide +kernel
theorem dX5_goOn_112 : decode cX5_goOn 112 = .ok (.iaload, 1) := by decide +kernel
theorem dX5_goOn_113 : decode cX5_goOn 113 = .ok (.goto 9, 3) := by decide +kernel
theorem dX5_goOn_116 : decode cX5_goOn 116 = .ok (.aload_n 0, 1) := by decide +kernel
theorem dX5_goOn_117 : decode cX5_goOn 117 = .ok (.getfield 80, 3) := by decide +kernel
theorem dX5_goOn_120 : decode cX5_goOn 120 = .ok (.iload_n 3, 1) := by decide +kernel
theorem dX5_goOn_121 : decode cX5_goOn 121 = .ok (.iaload, 1) := by decide +kernel
theorem dX5_goOn_122 : decode cX5_goOn 122 = .ok (.iastore, 1) := by decide +kernel
theorem dX5_goOn_123 : decode cX5_goOn 123 = .ok (.goto 37, 3) := by decide +kernel
theorem dX5_goOn_126 : decode cX5_goOn 126 = .ok (.aload_n 0, 1) := by decide +kernel
theorem dX5_goOn_127 : decode cX5_goOn 127 = .ok (.getfield 59, 3) := by decide +kernel
theorem dX5_goOn_130 : decode cX5_goOn 130 = .ok (.iload_n 2, 1) := by decide +kernel
theorem dX5_goOn_131 : decode cX5_goOn 131 = .ok (.dup2, 1) := by decide +kernel
theorem dX5_goOn_132 : decode cX5_goOn 132 = .ok (.iaload, 1) := by decide +kernel
theorem dX5_goOn_133 : decode cX5_goOn 133 = .ok (.iconst 1, 1) := by decide +kernel
theorem dX5_goOn_134 : decode cX5_goOn 134 = .ok (.isub, 1) := by decide +kernel
theorem dX5_goOn_135 : decode cX5_goOn 135 = .ok (.iastore, 1) := by decide +kernel
theorem dX5_goOn_136 : decode cX5_goOn 136 = .ok (.aload_n 0, 1) := by decide +kernel
theorem dX5_goOn_137 : decode cX5_goOn 137 = .ok (.getfield 59, 3) := by decide +kernel
theorem dX5_goOn_140 : decode cX5_goOn 140 = .ok (.iload_n 2, 1) := by decide +kernel
theorem dX5_goOn_141 : decode cX5_goOn 141 = .ok (.iaload, 1) := by decide +kernel
theorem dX5_goOn_142 : decode cX5_goOn 142 = .ok (.ifCond .ne 18, 3) := by decide +kernel
theorem dX5_goOn_145 : decode cX5_goOn 145 = .ok (.aload_n 0, 1) := by decide +kernel
theorem dX5_goOn_146 : decode cX5_goOn 146 = .ok (.iload_n 1, 1) := by decide +kernel
theorem dX5_goOn_147 : decode cX5_goOn 147 = .ok (.aload_n 0, 1) := by decide +kernel
theorem dX5_goOn_148 : decode cX5_goOn 148 = .ok (.iload_n 2, 1) := by decide +kernel
theorem dX5_goOn_149 : decode cX5_goOn 149 = .ok (.invokevirtual 172, 3) := by decide +kernel
theorem dX5_goOn_152 : decode cX5_goOn 152 = .ok (.invokevirtual 175, 3) := by decide +kernel
theorem dX5_goOn_155 : decode cX5_goOn 155 = .ok (.aload_n 0, 1) := by decide +kernel
theorem dX5_goOn_156 : decode cX5_goOn 156 = .ok (.iload_n 2, 1) := by decide +kernel
theorem dX5_goOn_157 : decode cX5_goOn 157 = .ok (.invokevirtual 168, 3) := by decide +kernel
theorem dX5_goOn_160 : decode cX5_goOn 160 = .ok (.aload_n 0, 1) := by decide +kernel
theorem dX5_goOn_161 : decode cX5_goOn 161 = .ok (.getfield 86, 3) := by decide +kernel
theorem dX5_goOn_164 : decode cX5_goOn 164 = .ok (.iload_n 1, 1) := by decide +kernel
theorem dX5_goOn_165 : decode cX5_goOn 165 = .ok (.iaload, 1) := by decide +kernel
theorem dX5_goOn_166 : decode cX5_goOn 166 = .ok (.iconst 1, 1) := by decide +kernel
theorem dX5_goOn_167 : decode cX5_goOn 167 = .ok (.if_icmp .gt 33, 3) := by decide +kernel
theorem dX5_goOn_170 : decode cX5_goOn 170 = .ok (.aload_n 0, 1) := by decide +kernel
theorem dX5_goOn_171 : decode cX5_goOn 171 = .ok (.getfield 53, 3) := by decide +kernel
theorem dX5_goOn_174 : decode cX5_goOn 174 = .ok (.iload_n 2, 1) := by decide +kernel
theorem dX5_goOn_175 : decode cX5_goOn 175 = .ok (.iaload, 1) := by decide +kernel
theorem dX5_goOn_176 : decode cX5_goOn 176 = .ok (.aload_n 0, 1) := by decide +kernel
theorem dX5_goOn_177 : decode cX5_goOn 177 = .ok (.getfield 22, 3) := by decide +kernel
theorem dX5_goOn_180 : decode cX5_goOn 180 = .ok (.iload_n 2, 1) := by decide +kernel
theorem dX5_goOn_181 : decode cX5_goOn 181 = .ok (.iaload, 1) := by decide +kernel
theorem dX5_goOn_182 : decode cX5_goOn 182 = .ok (.if_icmp .lt 18, 3) := by decide +kernel
theorem dX5_goOn_185 : decode cX5_goOn 185 = .ok (.aload_n 0, 1) := by decide +kernel
theorem dX5_goOn_186 : decode cX5_goOn 186 = .ok (.getfield 56, 3) := by decide +kernel
theorem dX5_goOn_189 : decode cX5_goOn 189 = .ok (.iload_n 2, 1) := by decide +kernel
theorem dX5_goOn_190 : decode cX5_goOn 190 = .ok (.iaload, 1) := by decide +kernel
theorem dX5_goOn_191 : decode cX5_goOn 191 = .ok (.aload_n 0, 1) := by decide +kernel
theorem dX5_goOn_192 : decode cX5_goOn 192 = .ok (.getfield 25, 3) := by decide +kernel
theorem dX5_goOn_195 : decode cX5_goOn 195 = .ok (.iload_n 2, 1) := by decide +kernel
theorem dX5_goOn_196 : decode cX5_goOn 196 = .ok (.iaload, 1) := by decide +kernel
theorem dX5_goOn_197 : decode cX5_goOn 197 = .ok (.if_icmp .ge 5, 3) := by decide +kernel
theorem dX5_goOn_200 : decode cX5_goOn 200 = .ok (.iconst 0, 1) := by decide +kernel
theorem dX5_goOn_201 : decode cX5_goOn 201 = .ok (.ireturn, 1) := by decide +kernel
theorem dX5_goOn_202 : decode cX5_goOn 202 = .ok (.aload_n 0, 1) := by decide +kernel
theorem dX5_goOn_203 : decode cX5_goOn 203 = .ok (.iload_n 2, 1) := by decide +kernel
theorem dX5_goOn_204 : decode cX5_goOn 204 = .ok (.invokevirtual 179, 3) := by decide +kernel
theorem dX5_goOn_207 : decode cX5_goOn 207 = .ok (.iconst 1, 1) := by decide +kernel
theorem dX5_goOn_208 : decode cX5_goOn 208 = .ok (.ireturn, 1) := by decide +kernel
theorem dX5_leave_0 : decode cX5_leave 0 = .ok (.iconst 1, 1) := by decide +kernel
theorem dX5_leave_1 : decode cX5_leave 1 = .ok (.istore_n 3, 1) := by decide +kernel
theorem dX5_leave_2 : decode cX5_leave 2 = .ok (.iload_n 3, 1) := by decide +kernel
theorem dX5_leave_3 : decode cX5_leave 3 = .ok (.aload_n 0, 1) := by decide +kernel
theorem dX5_leave_4 : decode cX5_leave 4 = .ok (.getfield 98, 3) := by decide +kernel
theorem dX5_leave_7 : decode cX5_leave 7 = .ok (.iload_n 2, 1) := by decide +kernel
theorem dX5_leave_8 : decode cX5_leave 8 = .ok (.iaload, 1) := by decide +kernel
theorem dX5_leave_9 : decode cX5_leave 9 = .ok (.if_icmp .ge 31, 3) := by decide +kernel
theorem dX5_leave_12 : decode cX5_leave 12 = .ok (.aload_n 0, 1) := by decide +kernel
theorem dX5_leave_13 : decode cX5_leave 13 = .ok (.getfield 95, 3) := by decide +kernel
theorem dX5_leave_16 : decode cX5_leave 16 = .ok (.iconst 4, 1) := by decide +kernel
theorem dX5_leave_17 : decode cX5_leave 17 = .ok (.iload_n 2, 1) := by decide +kernel
theorem dX5_leave_18 : decode cX5_leave 18 = .ok (.imul, 1) := by decide +kernel
theorem dX5_leave_19 : decode cX5_leave 19 = .ok (.iload_n 3, 1) := by decide +kernel
theorem dX5_leave_20 : decode cX5_leave 20 = .ok (.iadd, 1) := by decide +kernel
theorem dX5_leave_21 : decode cX5_leave 21 = .ok (.iconst 1, 1) := by decide +kernel
theorem dX5_leave_22 : decode cX5_leave 22 = .ok (.isub, 1) := by decide +kernel
theorem dX5_leave_23 : decode cX5_leave 23 = .ok (.aload_n 0, 1) := by decide +kernel
theorem dX5_leave_24 : decode cX5_leave 24 = .ok (.getfield 95, 3) := by decide +kernel
theorem dX5_leave_27 : decode cX5_leave 27 = .ok (.iconst 4, 1) := by decide +kernel
theorem dX5_leave_28 : decode cX5_leave 28 = .ok (.iload_n 2, 1) := by decide +kernel
theorem dX5_leave_29 : decode cX5_leave 29 = .ok (.imul, 1) := by decide +kernel
theorem dX5_leave_30 : decode cX5_leave 30 = .ok (.iload_n 3, 1) := by decide +kernel
theorem dX5_leave_31 : decode cX5_leave 31 = .ok (.iadd, 1) := by decide +kernel
theorem dX5_leave_32 : decode cX5_leave 32 = .ok (.iaload, 1) := by decide +kernel
theorem dX5_leave_33 : decode cX5_leave 33 = .ok (.iastore, 1) := by decide +kernel
theorem dX5_leave_34 : decode cX5_leave 34 = .ok (.iinc 3 1, 3) := by decide +kernel
theorem dX5_leave_37 : decode cX5_leave 37 = .ok (.goto (-35), 3) := by decide +kernel
theorem dX5_leave_40 : decode cX5_leave 40 = .ok (.aload_n 0, 1) := by decide +kernel
theorem dX5_leave_41 : decode cX5_leave 41 = .ok (.getfield 98, 3) := by decide +kernel
theorem dX5_leave_44 : decode cX5_leave 44 = .ok (.iload_n 2, 1) := by decide +kernel
theorem dX5_leave_45 : decode cX5_leave 45 = .ok (.dup2, 1) := by decide +kernel
theorem dX5_leave_46 : decode cX5_leave 46 = .ok (.iaload, 1) := by decide +kernel
theorem dX5_leave_47 : decode cX5_leave 47 = .ok (.iconst 1, 1) := by decide +kernel
theorem dX5_leave_48 : decode cX5_leave 48 = .ok (.isub, 1) := by decide +kernel
theorem dX5_leave_49 : decode cX5_leave 49 = .ok (.iastore, 1) := by decide +kernel
theorem dX5_leave_50 : decode cX5_leave 50 = .ok (.aload_n 0, 1) := by decide +kernel
theorem dX5_leave_51 : decode cX5_leave 51 = .ok (.getfield 86, 3) := by decide +kernel
theorem dX5_leave_54 : decode cX5_leave 54 = .ok (.iload_n 1, 1) := by decide +kernel
theorem dX5_leave_55 : decode cX5_leave 55 = .ok (.iconst 1, 1) := by decide +kernel
theorem dX5_leave_56 : decode cX5_leave 56 = .ok (.iastore, 1) := by decide +kernel
theorem dX5_leave_57 : decode cX5_leave 57 = .ok (.return_, 1) := by decide +kernel
theorem dX5_end_0 : decode cX5_end 0 = .ok (.aload_n 0, 1) := by decide +kernel
theorem dX5_end_1 : decode cX5_end 1 = .ok (.getfield 43, 3) := by decide +kernel
theorem dX5_end_4 : decode cX5_end 4 = .ok (.iload_n 1, 1) := by decide +kernel
theorem dX5_end_5 : decode cX5_end 5 = .ok (.iconst 0, 1) := by decide +kernel
theorem dX5_end_6 : decode cX5_end 6 = .ok (.bastore, 1) := by decide +kernel
theorem dX5_end_7 : decode cX5_end 7 = .ok (.aload_n 0, 1) := by decide +kernel
theorem dX5_end_8 : decode cX5_end 8 = .ok (.getfield 71, 3) := by decide +kernel
theorem dX5_end_11 : decode cX5_end 11 = .ok (.iload_n 1, 1) := by decide +kernel
theorem dX5_end_12 : decode cX5_end 12 = .ok (.dup2, 1) := by decide +kernel
theorem dX5_end_13 : decode cX5_end 13 = .ok (.iaload, 1) := by decide +kernel
theorem dX5_end_14 : decode cX5_end 14 = .ok (.iconst 1, 1) := by decide +kernel
theorem dX5_end_15 : decode cX5_end 15 = .ok (.iadd, 1) := by decide +kernel
theorem dX5_end_16 : decode cX5_end 16 = .ok (.iastore, 1) := by decide +kernel
theorem dX5_end_17 : decode cX5_end 17 = .ok (.aload_n 0, 1) := by decide +kernel
theorem dX5_end_18 : decode cX5_end 18 = .ok (.getfield 77, 3) := by decide +kernel
theorem dX5_end_21 : decode cX5_end 21 = .ok (.iload_n 1, 1) := by decide +kernel
theorem dX5_end_22 : decode cX5_end 22 = .ok (.aload_n 0, 1) := by decide +kernel
theorem dX5_end_23 : decode cX5_end 23 = .ok (.getfield 158, 3) := by decide +kernel
theorem dX5_end_26 : decode cX5_end 26 = .ok (.iconst 1, 1) := by decide +kernel
theorem dX5_end_27 : decode cX5_end 27 = .ok (.iadd, 1) := by decide +kernel
theorem dX5_end_28 : decode cX5_end 28 = .ok (.aload_n 0, 1) := by decide +kernel
theorem dX5_end_29 : decode cX5_end 29 = .ok (.getfield 50, 3) := by decide +kernel
theorem dX5_end_32 : decode cX5_end 32 = .ok (.iload_n 1, 1) := by decide +kernel
theorem dX5_end_33 : decode cX5_end 33 = .ok (.iaload, 1) := by decide +kernel
theorem dX5_end_34 : decode cX5_end 34 = .ok (.isub, 1) := by decide +kernel
theorem dX5_end_35 : decode cX5_end 35 = .ok (.iastore, 1) := by decide +kernel
theorem dX5_end_36 : decode cX5_end 36 = .ok (.aload_n 0, 1) := by decide +kernel
theorem dX5_end_37 : decode cX5_end 37 = .ok (.getfield 74, 3) := by decide +kernel
theorem dX5_end_40 : decode cX5_end 40 = .ok (.iload_n 1, 1) := by decide +kernel
theorem dX5_end_41 : decode cX5_end 41 = .ok (.aload_n 0, 1) := by decide +kernel
theorem dX5_end_42 : decode cX5_end 42 = .ok (.getfield 77, 3) := by decide +kernel
theorem dX5_end_45 : decode cX5_end 45 = .ok (.iload_n 1, 1) := by decide +kernel
theorem dX5_end_46 : decode cX5_end 46 = .ok (.iaload, 1) := by decide +kernel
theorem dX5_end_47 : decode cX5_end 47 = .ok (.aload_n 0, 1) := by decide +kernel
theorem dX5_end_48 : decode cX5_end 48 = .ok (.getfield 74, 3) := by decide +kernel
theorem dX5_end_51 : decode cX5_end 51 = .ok (.iload_n 1, 1) := by decide +kernel
theorem dX5_end_52 : decode cX5_end 52 = .ok (.iaload, 1) := by decide +kernel
theorem dX5_end_53 : decode cX5_end 53 = .ok (.if_icmp .le 12, 3) := by decide +kernel
theorem dX5_end_56 : decode cX5_end 56 = .ok (.aload_n 0, 1) := by decide +kernel
theorem dX5_end_57 : decode cX5_end 57 = .ok (.getfield 77, 3) := by decide +kernel
theorem dX5_end_60 : decode cX5_end 60 = .ok (.iload_n 1, 1) := by decide +kernel
theorem dX5_end_61 : decode cX5_end 61 = .ok (.iaload, 1) := by decide +kernel
theorem dX5_end_62 : decode cX5_end 62 = .ok (.goto 9, 3) := by decide +kernel
theorem dX5_end_65 : decode cX5_end 65 = .ok (.aload_n 0, 1) := by decide +kernel
theorem dX5_end_66 : decode cX5_end 66 = .ok (.getfield 74, 3) := by decide +kernel
theorem dX5_end_69 : decode cX5_end 69 = .ok (.iload_n 1, 1) := by decide +kernel
theorem dX5_end_70 : decode cX5_end 70 = .ok (.iaload, 1) := by decide +kernel
theorem dX5_end_71 : decode cX5_end 71 = .ok (.iastore, 1) := by decide +kernel
theorem dX5_end_72 : decode cX5_end 72 = .ok (.aload_n 0, 1) := by decide +kernel
theorem dX5_end_73 : decode cX5_end 73 = .ok (.aload_n 0, 1) := by decide +kernel
theorem dX5_end_74 : decode cX5_end 74 = .ok (.getfield 77, 3) := by decide +kernel
theorem dX5_end_77 : decode cX5_end 77 = .ok (.iload_n 1, 1) := by decide +kernel
theorem dX5_end_78 : decode cX5_end 78 = .ok (.iaload, 1) := by decide +kernel
theorem dX5_end_79 : decode cX5_end 79 = .ok (.aload_n 0, 1) := by decide +kernel
theorem dX5_end_80 : decode cX5_end 80 = .ok (.getfield 19, 3) := by decide +kernel
theorem dX5_end_83 : decode cX5_end 83 = .ok (.iload_n 1, 1) := by decide +kernel
theorem dX5_end_84 : decode cX5_end 84 = .ok (.iaload, 1) := by decide +kernel
theorem dX5_end_85 : decode cX5_end 85 = .ok (.if_icmp .le 12, 3) := by decide +kernel
theorem dX5_end_88 : decode cX5_end 88 = .ok (.aload_n 0, 1) := by decide +kernel
theorem dX5_end_89 : decode cX5_end 89 = .ok (.getfield 161, 3) := by decide +kernel
theorem dX5_end_92 : decode cX5_end 92 = .ok (.iconst 1, 1) := by decide +kernel
theorem dX5_end_93 : decode cX5_end 93 = .ok (.iadd, 1) := by decide +kernel
theorem dX5_end_94 : decode cX5_end 94 = .ok (.goto 7, 3) := by decide +kernel
theorem dX5_end_97 : decode cX5_end 97 = .ok (.aload_n 0, 1) := by decide +kernel
theorem dX5_end_98 : decode cX5_end 98 = .ok (.getfield 161, 3) := by decide +kernel
theorem dX5_end_101 : decode cX5_end 101 = .ok (.putfield 161, 3) := by decide +kernel
theorem dX5_end_104 : decode cX5_end 104 = .ok (.return_, 1) := by decide +kernel
theorem dX5_tick_0 : decode cX5_tick 0 = .ok (.aload_n 0, 1) := by decide +kernel
theorem dX5_tick_1 : decode cX5_tick 1 = .ok (.aload_n 0, 1) := by decide +kernel
theorem dX5_tick_2 : decode cX5_tick 2 = .ok (.getfield 116, 3) := by decide +kernel
theorem dX5_tick_5 : decode cX5_tick 5 = .ok (.ifCond .ne 7, 3) := by decide +kernel
theorem dX5_tick_8 : decode cX5_tick 8 = .ok (.iconst 1, 1) := by decide +kernel
theorem dX5_tick_9 : decode cX5_tick 9 = .ok (.goto 4, 3) := by decide +kernel
theorem dX5_tick_12 : decode cX5_tick 12 = .ok (.iconst 0, 1) := by decide +kernel
theorem dX5_tick_13 : decode cX5_tick 13 = .ok (.iload_n 1, 1) := by decide +kernel
theorem dX5_tick_14 : decode cX5_tick 14 = .ok (.iconst 1, 1) := by decide +kernel
theorem dX5_tick_15 : decode cX5_tick 15 = .ok (.ldc 182, 2) := by decide +kernel
theorem dX5_tick_17 : decode cX5_tick 17 = .ok (.invokestatic 112, 3) := by decide +kernel
theorem dX5_tick_20 : decode cX5_tick 20 = .ok (.ifCond .ne 7, 3) := by decide +kernel
theorem dX5_tick_23 : decode cX5_tick 23 = .ok (.iconst 1, 1) := by decide +kernel
theorem dX5_tick_24 : decode cX5_tick 24 = .ok (.goto 4, 3) := by decide +kernel
theorem dX5_tick_27 : decode cX5_tick 27 = .ok (.iconst 0, 1) := by decide +kernel
theorem dX5_tick_28 : decode cX5_tick 28 = .ok (.iconst 0, 1) := by decide +kernel
theorem dX5_tick_29 : decode cX5_tick 29 = .ok (.invokevirtual 124, 3) := by decide +kernel
theorem dX5_tick_32 : decode cX5_tick 32 = .ok (.ifCond .eq 5, 3) := by decide +kernel
theorem dX5_tick_35 : decode cX5_tick 35 = .ok (.iconst 0, 1) := by decide +kernel
theorem dX5_tick_36 : decode cX5_tick 36 = .ok (.ireturn, 1) := by decide +kernel
theorem dX5_tick_37 : decode cX5_tick 37 = .ok (.iconst 0, 1) := by decide +kernel
theorem dX5_tick_38 : decode cX5_tick 38 = .ok (.istore_n 2, 1) := by decide +kernel
theorem dX5_tick_39 : decode cX5_tick 39 = .ok (.iconst 0, 1) := by decide +kernel
theorem dX5_tick_40 : decode cX5_tick 40 = .ok (.istore_n 3, 1) := by decide +kernel
theorem dX5_tick_41 : decode cX5_tick 41 = .ok (.iload_n 3, 1) := by decide +kernel
theorem dX5_tick_42 : decode cX5_tick 42 = .ok (.iload_n 1, 1) := by decide +kernel
theorem dX5_tick_43 : decode cX5_tick 43 = .ok (.if_icmp .ge 194, 3) := by decide +kernel
theorem dX5_tick_46 : decode cX5_tick 46 = .ok (.iconst 0, 1) := by decide +kernel
theorem dX5_tick_47 : decode cX5_tick 47 = .ok (.istore 4, 2) := by decide +kernel
theorem dX5_tick_49 : decode cX5_tick 49 = .ok (.iload 4, 2) := by decide +kernel
theorem dX5_tick_51 : decode cX5_tick 51 = .ok (.iconst 4, 1) := by decide +kernel
theorem dX5_tick_52 : decode cX5_tick 52 = .ok (.if_icmp .ge 15, 3) := by decide +kernel
theorem dX5_tick_55 : decode cX5_tick 55 = .ok (.aload_n 0, 1) := by decide +kernel
theorem dX5_tick_56 : decode cX5_tick 56 = .ok (.iload 4, 2) := by decide +kernel
theorem dX5_tick_58 : decode cX5_tick 58 = .ok (.invokevirtual 183, 3) := by decide +kernel
theorem dX5_tick_61 : decode cX5_tick 61 = .ok (.iinc 4 1, 3) := by decide +kernel
theorem dX5_tick_64 : decode cX5_tick 64 = .ok (.goto (-15), 3) := by decide +kernel
theorem dX5_tick_67 : decode cX5_tick 67 = .ok (.iconst 0, 1) := by decide +kernel
theorem dX5_tick_68 : decode cX5_tick 68 = .ok (.istore 4, 2) := by decide +kernel
theorem dX5_tick_70 : decode cX5_tick 70 = .ok (.iload 4, 2) := by decide +kernel
theorem dX5_tick_72 : decode cX5_tick 72 = .ok (.bipush 8, 2) := by decide +kernel
theorem dX5_tick_74 : decode cX5_tick 74 = .ok (.if_icmp .ge 34, 3) := by decide +kernel
theorem dX5_tick_77 : decode cX5_tick 77 = .ok (.aload_n 0, 1) := by decide +kernel
theorem dX5_tick_78 : decode cX5_tick 78 = .ok (.getfield 98, 3) := by decide +kernel
theorem dX5_tick_81 : decode cX5_tick 81 = .ok (.iload 4, 2) := by decide +kernel
theorem dX5_tick_83 : decode cX5_tick 83 = .ok (.iaload, 1) := by decide +kernel
theorem dX5_tick_84 : decode cX5_tick 84 = .ok (.ifCond .le 18, 3) := by decide +kernel
theorem dX5_tick_87 : decode cX5_tick 87 = .ok (.aload_n 0, 1) := by decide +kernel
theorem dX5_tick_88 : decode cX5_tick 88 = .ok (.getfield 86, 3) := by decide +kernel
theorem dX5_tick_91 : decode cX5_tick 91 = .ok (.aload_n 0, 1) := by decide +kernel
theorem dX5_tick_92 : decode cX5_tick 92 = .ok (.getfield 95, 3) := by decide +kernel
theorem dX5_tick_95 : decode cX5_tick 95 = .ok (.iconst 4, 1) := by decide +kernel
theorem dX5_tick_96 : decode cX5_tick 96 = .ok (.iload 4, 2) := by decide +kernel
theorem dX5_tick_98 : decode cX5_tick 98 = .ok (.imul, 1) := by decide +kernel
theorem dX5_tick_99 : decode cX5_tick 99 = .ok (.iaload, 1) := by decide +kernel
theorem dX5_tick_100 : decode cX5_tick 100 = .ok (.iconst 3, 1) := by decide +kernel
theorem dX5_tick_101 : decode cX5_tick 101 = .ok (.iastore, 1) := by decide +kernel
theorem dX5_tick_102 : decode cX5_tick 102 = .ok (.iinc 4 1, 3) := by decide +kernel
theorem dX5_tick_105 : decode cX5_tick 105 = .ok (.goto (-35), 3) := by decide +kernel
theorem dX5_tick_108 : decode cX5_tick 108 = .ok (.iconst 0, 1) := by decide +kernel
theorem dX5_tick_109 : decode cX5_tick 109 = .ok (.istore 4, 2) := by decide +kernel
theorem dX5_tick_111 : decode cX5_tick 111 = .ok (.iload 4, 2) := by decide +kernel
theorem dX5_tick_113 : decode cX5_tick 113 = .ok (.iconst 4, 1) := by decide +kernel
theorem dX5_tick_114 : decode cX5_tick 114 = .ok (.if_icmp .ge 18, 3) := by decide +kernel
theorem dX5_tick_117 : decode cX5_tick 117 = .ok (.iload_n 2, 1) := by decide +kernel
theorem dX5_tick_118 : decode cX5_tick 118 = .ok (.aload_n 0, 1) := by decide +kernel
theorem dX5_tick_119 : decode cX5_tick 119 = .ok (.iload 4, 2) := by decide +kernel
theorem dX5_tick_121 : decode cX5_tick 121 = .ok (.invokevirtual 186, 3) := by decide +kernel
theorem dX5_tick_124 : decode cX5_tick 124 = .ok (.iadd, 1) := by decide +kernel
theorem dX5_tick_125 : decode cX5_tick 125 = .ok (.istore_n 2, 1) := by decide +kernel
theorem dX5_tick_126 : decode cX5_tick 126 = .ok (.iinc 4 1, 3) := by decide +kernel
theorem dX5_tick_129 : decode cX5_tick 129 = .ok (.goto (-18), 3) := by decide +kernel
theorem dX5_tick_132 : decode cX5_tick 132 = .ok (.aload_n 0, 1) := by decide +kernel
theorem dX5_tick_133 : decode cX5_tick 133 = .ok (.dup, 1) := by decide +kernel
theorem dX5_tick_134 : decode cX5_tick 134 = .ok (.getfield 158, 3) := by decide +kernel
theorem dX5_tick_137 : decode cX5_tick 137 = .ok (.iconst 1, 1) := by decide +kernel
theorem dX5_tick_138 : decode cX5_tick 138 = .ok (.iadd, 1) := by decide +kernel
theorem dX5_tick_139 : decode cX5_tick 139 = .ok (.putfield 158, 3) := by decide +kernel
theorem dX5_tick_142 : decode cX5_tick 142 = .ok (.aload_n 0, 1) := by decide +kernel
theorem dX5_tick_143 : decode cX5_tick 143 = .ok (.invokevirtual 164, 3) := by decide +kernel
theorem dX5_tick_146 : decode cX5_tick 146 = .ok (.ifCond .ne 85, 3) := by decide +kernel
theorem dX5_tick_149 : decode cX5_tick 149 = .ok (.iload_n 3, 1) := by decide +kernel
theorem dX5_tick_150 : decode cX5_tick 150 = .ok (.iconst 1, 1) := by decide +kernel
theorem dX5_tick_151 : decode cX5_tick 151 = .ok (.iadd, 1) := by decide +kernel
theorem dX5_tick_152 : decode cX5_tick 152 = .ok (.iload_n 1, 1) := by decide +kernel
theorem dX5_tick_153 : decode cX5_tick 153 = .ok (.if_icmp .ge 7, 3) := by decide +kernel
theorem dX5_tick_156 : decode cX5_tick 156 = .ok (.iconst 1, 1) := by decide +kernel
theorem dX5_tick_157 : decode cX5_tick 157 = .ok (.goto 4, 3) := by decide +kernel
theorem dX5_tick_160 : decode cX5_tick 160 = .ok (.iconst 0, 1) := by decide +kernel
theorem dX5_tick_161 : decode cX5_tick 161 = .ok (.istore 4, 2) := by decide +kernel
theorem dX5_tick_163 : decode cX5_tick 163 = .ok (.iconst 0, 1) := by decide +kernel
theorem dX5_tick_164 : decode cX5_tick 164 = .ok (.istore 5, 2) := by decide +kernel
theorem dX5_tick_166 : decode cX5_tick 166 = .ok (.iload 5, 2) := by decide +kernel
theorem dX5_tick_168 : decode cX5_tick 168 = .ok (.iconst 4, 1) := by decide +kernel
theorem dX5_tick_169 : decode cX5_tick 169 = .ok (.if_icmp .ge 46, 3) := by decide +kernel
theorem dX5_tick_172 : decode cX5_tick 172 = .ok (.iload 4, 2) := by decide +kernel
theorem dX5_tick_174 : decode cX5_tick 174 = .ok (.ifCond .eq 41, 3) := by decide +kernel
theorem dX5_tick_177 : decode cX5_tick 177 = .ok (.aload_n 0, 1) := by decide +kernel
theorem dX5_tick_178 : decode cX5_tick 178 = .ok (.getfield 89, 3) := by decide +kernel
theorem dX5_tick_181 : decode cX5_tick 181 = .ok (.iload 5, 2) := by decide +kernel
theorem dX5_tick_183 : decode cX5_tick 183 = .ok (.iconst (-1), 1) := by decide +kernel
theorem dX5_tick_184 : decode cX5_tick 184 = .ok (.iastore, 1) := by decide +kernel
theorem dX5_tick_185 : decode cX5_tick 185 = .ok (.aload_n 0, 1) := by decide +kernel
theorem dX5_tick_186 : decode cX5_tick 186 = .ok (.getfield 92, 3) := by decide +kernel
theorem dX5_tick_189 : decode cX5_tick 189 = .ok (.iload 5, 2) := by decide +kernel
theorem dX5_tick_191 : decode cX5_tick 191 = .ok (.iconst 0, 1) := by decide +kernel
theorem dX5_tick_192 : decode cX5_tick 192 = .ok (.iastore, 1) := by decide +kernel
theorem dX5_tick_193 : decode cX5_tick 193 = .ok (.aload_n 0, 1) := by decide +kernel
theorem dX5_tick_194 : decode cX5_tick 194 = .ok (.getfield 83, 3) := by decide +kernel
theorem dX5_tick_197 : decode cX5_tick 197 = .ok (.iload 5, 2) := by decide +kernel
theorem dX5_tick_199 : decode cX5_tick 199 = .ok (.iconst (-1), 1) := by decide +kernel
theorem dX5_tick_200 : decode cX5_tick 200 = .ok (.iastore, 1) := by decide +kernel
theorem dX5_tick_201 : decode cX5_tick 201 = .ok (.aload_n 0, 1) := by decide +kernel
theorem dX5_tick_202 : decode cX5_tick 202 = .ok (.getfield 86, 3) := by decide +kernel
theorem dX5_tick_205 : decode cX5_tick 205 = .ok (.iload 5, 2) := by decide +kernel
theorem dX5_tick_207 : decode cX5_tick 207 = .ok (.iconst 0, 1) := by decide +kernel
theorem dX5_tick_208 : decode cX5_tick 208 = .ok (.iastore, 1) := by decide +kernel
theorem dX5_tick_209 : decode cX5_tick 209 = .ok (.iinc 5 1, 3) := by decide +kernel
theorem dX5_tick_212 : decode cX5_tick 212 = .ok (.goto (-46), 3) := by decide +kernel
theorem dX5_tick_215 : decode cX5_tick 215 = .ok (.aload_n 0, 1) := by decide +kernel
theorem dX5_tick_216 : decode cX5_tick 216 = .ok (.aload_n 0, 1) := by decide +kernel
theorem dX5_tick_217 : decode cX5_tick 217 = .ok (.getfield 158, 3) := by decide +kernel
theorem dX5_tick_220 : decode cX5_tick 220 = .ok (.iload_n 1, 1) := by decide +kernel
theorem dX5_tick_221 : decode cX5_tick 221 = .ok (.iadd, 1) := by decide +kernel
theorem dX5_tick_222 : decode cX5_tick 222 = .ok (.iload_n 3, 1) := by decide +kernel
theorem dX5_tick_223 : decode cX5_tick 223 = .ok (.isub, 1) := by decide +kernel
theorem dX5_tick_224 : decode cX5_tick 224 = .ok (.iconst 1, 1) := by decide +kernel
theorem dX5_tick_225 : decode cX5_tick 225 = .ok (.isub, 1) := by decide +kernel
theorem dX5_tick_226 : decode cX5_tick 226 = .ok (.putfield 158, 3) := by decide +kernel
theorem dX5_tick_229 : decode cX5_tick 229 = .ok (.iload_n 1, 1) := by decide +kernel
theorem dX5_tick_230 : decode cX5_tick 230 = .ok (.istore_n 3, 1) := by decide +kernel
theorem dX5_tick_231 : decode cX5_tick 231 = .ok (.iinc 3 1, 3) := by decide +kernel
theorem dX5_tick_234 : decode cX5_tick 234 = .ok (.goto (-193), 3) := by decide +kernel
theorem dX5_tick_237 : decode cX5_tick 237 = .ok (.iload_n 2, 1) := by decide +kernel
theorem dX5_tick_238 : decode cX5_tick 238 = .ok (.ireturn, 1) := by decide +kernel
theorem dX5_core_0 : decode cX5_core 0 = .ok (.aload_n 0, 1) := by decide +kernel
theorem dX5_core_1 : decode cX5_core 1 = .ok (.iload_n 1, 1) := by decide +kernel
theorem dX5_core_2 : decode cX5_core 2 = .ok (.iconst 0, 1) := by decide +kernel
theorem dX5_core_3 : decode cX5_core 3 = .ok (.iconst 3, 1) := by decide +kernel
theorem dX5_core_4 : decode cX5_core 4 = .ok (.invokestatic 112, 3) := by decide +kernel
theorem dX5_core_7 : decode cX5_core 7 = .ok (.ifCond .ne 7, 3) := by decide +kernel
theorem dX5_core_10 : decode cX5_core 10 = .ok (.iconst 1, 1) := by decide +kernel
theorem dX5_core_11 : decode cX5_core 11 = .ok (.goto 4, 3) := by decide +kernel
theorem dX5_core_14 : decode cX5_core 14 = .ok (.iconst 0, 1) := by decide +kernel
theorem dX5_core_15 : decode cX5_core 15 = .ok (.iload_n 2, 1) := by decide +kernel
theorem dX5_core_16 : decode cX5_core 16 = .ok (.iconst 0, 1) := by decide +kernel
theorem dX5_core_17 : decode cX5_core 17 = .ok (.iconst 1, 1) := by decide +kernel
theorem dX5_core_18 : decode cX5_core 18 = .ok (.invokestatic 112, 3) := by decide +kernel
theorem dX5_core_21 : decode cX5_core 21 = .ok (.ifCond .ne 7, 3) := by decide +kernel
theorem dX5_core_24 : decode cX5_core 24 = .ok (.iconst 1, 1) := by decide +kernel
theorem dX5_core_25 : decode cX5_core 25 = .ok (.goto 4, 3) := by decide +kernel
theorem dX5_core_28 : decode cX5_core 28 = .ok (.iconst 0, 1) := by decide +kernel
theorem dX5_core_29 : decode cX5_core 29 = .ok (.iconst 0, 1) := by decide +kernel
theorem dX5_core_30 : decode cX5_core 30 = .ok (.invokevirtual 124, 3) := by decide +kernel
theorem dX5_core_33 : decode cX5_core 33 = .ok (.ifCond .eq 7, 3) := by decide +kernel
theorem dX5_core_36 : decode cX5_core 36 = .ok (.iconst 0, 1) := by decide +kernel
theorem dX5_core_37 : decode cX5_core 37 = .ok (.goto 22, 3) := by decide +kernel
theorem dX5_core_40 : decode cX5_core 40 = .ok (.iload_n 2, 1) := by decide +kernel
theorem dX5_core_41 : decode cX5_core 41 = .ok (.ifCond .ne 12, 3) := by decide +kernel
theorem dX5_core_44 : decode cX5_core 44 = .ok (.aload_n 0, 1) := by decide +kernel
theorem dX5_core_45 : decode cX5_core 45 = .ok (.getfield 89, 3) := by decide +kernel
theorem dX5_core_48 : decode cX5_core 48 = .ok (.iload_n 1, 1) := by decide +kernel
theorem dX5_core_49 : decode cX5_core 49 = .ok (.iaload, 1) := by decide +kernel
theorem dX5_core_50 : decode cX5_core 50 = .ok (.goto 9, 3) := by decide +kernel
theorem dX5_core_53 : decode cX5_core 53 = .ok (.aload_n 0, 1) := by decide +kernel
theorem dX5_core_54 : decode cX5_core 54 = .ok (.getfield 92, 3) := by decide +kernel
theorem dX5_core_57 : decode cX5_core 57 = .ok (.iload_n 1, 1) := by decide +kernel
theorem dX5_core_58 : decode cX5_core 58 = .ok (.iaload, 1) := by decide +kernel
theorem dX5_core_59 : decode cX5_core 59 = .ok (.ireturn, 1) := by decide +kernel
theorem dX5_row_0 : decode cX5_row 0 = .ok (.aload_n 0, 1) := by decide +kernel
theorem dX5_row_1 : decode cX5_row 1 = .ok (.iload_n 1, 1) := by decide +kernel
theorem dX5_row_2 : decode cX5_row 2 = .ok (.iconst 0, 1) := by decide +kernel
theorem dX5_row_3 : decode cX5_row 3 = .ok (.bipush 7, 2) := by decide +kernel
theorem dX5_row_5 : decode cX5_row 5 = .ok (.invokestatic 112, 3) := by decide +kernel
theorem dX5_row_8 : decode cX5_row 8 = .ok (.ifCond .ne 7, 3) := by decide +kernel
theorem dX5_row_11 : decode cX5_row 11 = .ok (.iconst 1, 1) := by decide +kernel
theorem dX5_row_12 : decode cX5_row 12 = .ok (.goto 4, 3) := by decide +kernel
theorem dX5_row_15 : decode cX5_row 15 = .ok (.iconst 0, 1) := by decide +kernel
theorem dX5_row_16 : decode cX5_row 16 = .ok (.iconst 0, 1) := by decide +kernel
theorem dX5_row_17 : decode cX5_row 17 = .ok (.iconst 0, 1) := by decide +kernel
theorem dX5_row_18 : decode cX5_row 18 = .ok (.invokevirtual 124, 3) := by decide +kernel
theorem dX5_row_21 : decode cX5_row 21 = .ok (.ifCond .eq 5, 3) := by decide +kernel
theorem dX5_row_24 : decode cX5_row 24 = .ok (.iconst 0, 1) := by decide +kernel
theorem dX5_row_25 : decode cX5_row 25 = .ok (.ireturn, 1) := by decide +kernel
theorem dX5_row_26 : decode cX5_row 26 = .ok (.aload_n 0, 1) := by decide +kernel
theorem dX5_row_27 : decode cX5_row 27 = .ok (.invokevirtual 139, 3) := by decide +kernel
theorem dX5_row_30 : decode cX5_row 30 = .ok (.aload_n 0, 1) := by decide +kernel
theorem dX5_row_31 : decode cX5_row 31 = .ok (.getfield 40, 3) := by decide +kernel
theorem dX5_row_34 : decode cX5_row 34 = .ok (.iload_n 1, 1) := by decide +kernel
theorem dX5_row_35 : decode cX5_row 35 = .ok (.iaload, 1) := by decide +kernel
theorem dX5_row_36 : decode cX5_row 36 = .ok (.istore_n 3, 1) := by decide +kernel
theorem dX5_row_37 : decode cX5_row 37 = .ok (.iload_n 2, 1) := by decide +kernel
theorem dX5_row_38 : decode cX5_row 38 = .ok (.iconst 0, 1) := by decide +kernel
theorem dX5_row_39 : decode cX5_row 39 = .ok (.aload_n 0, 1) := by decide +kernel
theorem dX5_row_40 : decode cX5_row 40 = .ok (.getfield 98, 3) := by decide +kernel
theorem dX5_row_43 : decode cX5_row 43 = .ok (.iload_n 3, 1) := by decide +kernel
theorem dX5_row_44 : decode cX5_row 44 = .ok (.iaload, 1) := by decide +kernel
theorem dX5_row_45 : decode cX5_row 45 = .ok (.iconst 1, 1) := by decide +kernel
theorem dX5_row_46 : decode cX5_row 46 = .ok (.isub, 1) := by decide +kernel
theorem dX5_row_47 : decode cX5_row 47 = .ok (.invokestatic 112, 3) := by decide +kernel
theorem dX5_row_50 : decode cX5_row 50 = .ok (.ifCond .eq 16, 3) := by decide +kernel
theorem dX5_row_53 : decode cX5_row 53 = .ok (.aload_n 0, 1) := by decide +kernel
theorem dX5_row_54 : decode cX5_row 54 = .ok (.getfield 95, 3) := by decide +kernel
theorem dX5_row_57 : decode cX5_row 57 = .ok (.iconst 4, 1) := by decide +kernel
theorem dX5_row_58 : decode cX5_row 58 = .ok (.iload_n 3, 1) := by decide +kernel
theorem dX5_row_59 : decode cX5_row 59 = .ok (.imul, 1) := by decide +kernel
theorem dX5_row_60 : decode cX5_row 60 = .ok (.iload_n 2, 1) := by decide +kernel
theorem dX5_row_61 : decode cX5_row 61 = .ok (.iadd, 1) := by decide +kernel
theorem dX5_row_62 : decode cX5_row 62 = .ok (.iaload, 1) := by decide +kernel
theorem dX5_row_63 : decode cX5_row 63 = .ok (.goto 4, 3) := by decide +kernel
theorem dX5_row_66 : decode cX5_row 66 = .ok (.iconst (-1), 1) := by decide +kernel
theorem dX5_row_67 : decode cX5_row 67 = .ok (.ireturn, 1) := by decide +kernel
theorem dX5_jobs_0 : decode cX5_jobs 0 = .ok (.aload_n 0, 1) := by decide +kernel
theorem dX5_jobs_1 : decode cX5_jobs 1 = .ok (.aload_n 0, 1) := by decide +kernel
theorem dX5_jobs_2 : decode cX5_jobs 2 = .ok (.iload_n 1, 1) := by decide +kernel
theorem dX5_jobs_3 : decode cX5_jobs 3 = .ok (.invokevirtual 108, 3) := by decide +kernel
theorem dX5_jobs_6 : decode cX5_jobs 6 = .ok (.ifCond .ne 7, 3) := by decide +kernel
theorem dX5_jobs_9 : decode cX5_jobs 9 = .ok (.iconst 1, 1) := by decide +kernel
theorem dX5_jobs_10 : decode cX5_jobs 10 = .ok (.goto 4, 3) := by decide +kernel
theorem dX5_jobs_13 : decode cX5_jobs 13 = .ok (.iconst 0, 1) := by decide +kernel
theorem dX5_jobs_14 : decode cX5_jobs 14 = .ok (.iload_n 2, 1) := by decide +kernel
theorem dX5_jobs_15 : decode cX5_jobs 15 = .ok (.iconst 0, 1) := by decide +kernel
theorem dX5_jobs_16 : decode cX5_jobs 16 = .ok (.iconst 3, 1) := by decide +kernel
theorem dX5_jobs_17 : decode cX5_jobs 17 = .ok (.invokestatic 112, 3) := by decide +kernel
theorem dX5_jobs_20 : decode cX5_jobs 20 = .ok (.ifCond .ne 7, 3) := by decide +kernel
theorem dX5_jobs_23 : decode cX5_jobs 23 = .ok (.iconst 1, 1) := by decide +kernel
theorem dX5_jobs_24 : decode cX5_jobs 24 = .ok (.goto 4, 3) := by decide +kernel
theorem dX5_jobs_27 : decode cX5_jobs 27 = .ok (.iconst 0, 1) := by decide +kernel
theorem dX5_jobs_28 : decode cX5_jobs 28 = .ok (.iconst 0, 1) := by decide +kernel
theorem dX5_jobs_29 : decode cX5_jobs 29 = .ok (.invokevirtual 124, 3) := by decide +kernel
end
section
theorem dX5_jobs_32 : decode cX5_jobs 32 = .ok (.ifCond .eq 5, 3) := by decide +kernel
theorem dX5_jobs_35 : decode cX5_jobs 35 = .ok (.iconst 0, 1) := by decide +kernel
theorem dX5_jobs_36 : decode cX5_jobs 36 = .ok (.ireturn, 1) := by decide +kernel
theorem dX5_jobs_37 : decode cX5_jobs 37 = .ok (.iload_n 2, 1) := by decide +kernel
theorem dX5_jobs_38 : decode cX5_jobs 38 = .ok (.ifCond .ne 12, 3) := by decide +kernel
theorem dX5_jobs_41 : decode cX5_jobs 41 = .ok (.aload_n 0, 1) := by decide +kernel
theorem dX5_jobs_42 : decode cX5_jobs 42 = .ok (.getfield 71, 3) := by decide +kernel
theorem dX5_jobs_45 : decode cX5_jobs 45 = .ok (.iload_n 1, 1) := by decide +kernel
theorem dX5_jobs_46 : decode cX5_jobs 46 = .ok (.iaload, 1) := by decide +kernel
theorem dX5_jobs_47 : decode cX5_jobs 47 = .ok (.goto 45, 3) := by decide +kernel
theorem dX5_jobs_50 : decode cX5_jobs 50 = .ok (.iload_n 2, 1) := by decide +kernel
theorem dX5_jobs_51 : decode cX5_jobs 51 = .ok (.iconst 1, 1) := by decide +kernel
theorem dX5_jobs_52 : decode cX5_jobs 52 = .ok (.if_icmp .ne 12, 3) := by decide +kernel
theorem dX5_jobs_55 : decode cX5_jobs 55 = .ok (.aload_n 0, 1) := by decide +kernel
theorem dX5_jobs_56 : decode cX5_jobs 56 = .ok (.getfield 74, 3) := by decide +kernel
theorem dX5_jobs_59 : decode cX5_jobs 59 = .ok (.iload_n 1, 1) := by decide +kernel
theorem dX5_jobs_60 : decode cX5_jobs 60 = .ok (.iaload, 1) := by decide +kernel
theorem dX5_jobs_61 : decode cX5_jobs 61 = .ok (.goto 31, 3) := by decide +kernel
theorem dX5_jobs_64 : decode cX5_jobs 64 = .ok (.iload_n 2, 1) := by decide +kernel
theorem dX5_jobs_65 : decode cX5_jobs 65 = .ok (.iconst 2, 1) := by decide +kernel
theorem dX5_jobs_66 : decode cX5_jobs 66 = .ok (.if_icmp .ne 12, 3) := by decide +kernel
theorem dX5_jobs_69 : decode cX5_jobs 69 = .ok (.aload_n 0, 1) := by decide +kernel
theorem dX5_jobs_70 : decode cX5_jobs 70 = .ok (.getfield 77, 3) := by decide +kernel
theorem dX5_jobs_73 : decode cX5_jobs 73 = .ok (.iload_n 1, 1) := by decide +kernel
theorem dX5_jobs_74 : decode cX5_jobs 74 = .ok (.iaload, 1) := by decide +kernel
theorem dX5_jobs_75 : decode cX5_jobs 75 = .ok (.goto 17, 3) := by decide +kernel
theorem dX5_jobs_78 : decode cX5_jobs 78 = .ok (.aload_n 0, 1) := by decide +kernel
theorem dX5_jobs_79 : decode cX5_jobs 79 = .ok (.getfield 43, 3) := by decide +kernel
theorem dX5_jobs_82 : decode cX5_jobs 82 = .ok (.iload_n 1, 1) := by decide +kernel
theorem dX5_jobs_83 : decode cX5_jobs 83 = .ok (.baload, 1) := by decide +kernel
theorem dX5_jobs_84 : decode cX5_jobs 84 = .ok (.ifCond .eq 7, 3) := by decide +kernel
theorem dX5_jobs_87 : decode cX5_jobs 87 = .ok (.iconst 1, 1) := by decide +kernel
theorem dX5_jobs_88 : decode cX5_jobs 88 = .ok (.goto 4, 3) := by decide +kernel
theorem dX5_jobs_91 : decode cX5_jobs 91 = .ok (.iconst 0, 1) := by decide +kernel
theorem dX5_jobs_92 : decode cX5_jobs 92 = .ok (.ireturn, 1) := by decide +kernel
theorem dX5_spun_0 : decode cX5_spun 0 = .ok (.aload_n 0, 1) := by decide +kernel
theorem dX5_spun_1 : decode cX5_spun 1 = .ok (.aload_n 0, 1) := by decide +kernel
theorem dX5_spun_2 : decode cX5_spun 2 = .ok (.iload_n 1, 1) := by decide +kernel
theorem dX5_spun_3 : decode cX5_spun 3 = .ok (.iload_n 2, 1) := by decide +kernel
theorem dX5_spun_4 : decode cX5_spun 4 = .ok (.invokevirtual 132, 3) := by decide +kernel
theorem dX5_spun_7 : decode cX5_spun 7 = .ok (.ifCond .ne 7, 3) := by decide +kernel
theorem dX5_spun_10 : decode cX5_spun 10 = .ok (.iconst 1, 1) := by decide +kernel
theorem dX5_spun_11 : decode cX5_spun 11 = .ok (.goto 4, 3) := by decide +kernel
theorem dX5_spun_14 : decode cX5_spun 14 = .ok (.iconst 0, 1) := by decide +kernel
theorem dX5_spun_15 : decode cX5_spun 15 = .ok (.iconst 0, 1) := by decide +kernel
theorem dX5_spun_16 : decode cX5_spun 16 = .ok (.iconst 0, 1) := by decide +kernel
theorem dX5_spun_17 : decode cX5_spun 17 = .ok (.invokevirtual 124, 3) := by decide +kernel
theorem dX5_spun_20 : decode cX5_spun 20 = .ok (.ifCond .eq 7, 3) := by decide +kernel
theorem dX5_spun_23 : decode cX5_spun 23 = .ok (.iconst 0, 1) := by decide +kernel
theorem dX5_spun_24 : decode cX5_spun 24 = .ok (.goto 14, 3) := by decide +kernel
theorem dX5_spun_27 : decode cX5_spun 27 = .ok (.aload_n 0, 1) := by decide +kernel
theorem dX5_spun_28 : decode cX5_spun 28 = .ok (.getfield 80, 3) := by decide +kernel
theorem dX5_spun_31 : decode cX5_spun 31 = .ok (.bipush 6, 2) := by decide +kernel
theorem dX5_spun_33 : decode cX5_spun 33 = .ok (.iload_n 1, 1) := by decide +kernel
theorem dX5_spun_34 : decode cX5_spun 34 = .ok (.imul, 1) := by decide +kernel
theorem dX5_spun_35 : decode cX5_spun 35 = .ok (.iload_n 2, 1) := by decide +kernel
theorem dX5_spun_36 : decode cX5_spun 36 = .ok (.iadd, 1) := by decide +kernel
theorem dX5_spun_37 : decode cX5_spun 37 = .ok (.iaload, 1) := by decide +kernel
theorem dX5_spun_38 : decode cX5_spun 38 = .ok (.ireturn, 1) := by decide +kernel
theorem dX5_late_0 : decode cX5_late 0 = .ok (.aload_n 0, 1) := by decide +kernel
theorem dX5_late_1 : decode cX5_late 1 = .ok (.iconst 0, 1) := by decide +kernel
theorem dX5_late_2 : decode cX5_late 2 = .ok (.putfield 104, 3) := by decide +kernel
theorem dX5_late_5 : decode cX5_late 5 = .ok (.aload_n 0, 1) := by decide +kernel
theorem dX5_late_6 : decode cX5_late 6 = .ok (.getfield 161, 3) := by decide +kernel
theorem dX5_late_9 : decode cX5_late 9 = .ok (.istore_n 1, 1) := by decide +kernel
theorem dX5_late_10 : decode cX5_late 10 = .ok (.iconst 0, 1) := by decide +kernel
theorem dX5_late_11 : decode cX5_late 11 = .ok (.istore_n 2, 1) := by decide +kernel
theorem dX5_late_12 : decode cX5_late 12 = .ok (.iload_n 2, 1) := by decide +kernel
theorem dX5_late_13 : decode cX5_late 13 = .ok (.bipush 16, 2) := by decide +kernel
theorem dX5_late_15 : decode cX5_late 15 = .ok (.if_icmp .ge 46, 3) := by decide +kernel
theorem dX5_late_18 : decode cX5_late 18 = .ok (.aload_n 0, 1) := by decide +kernel
theorem dX5_late_19 : decode cX5_late 19 = .ok (.getfield 43, 3) := by decide +kernel
theorem dX5_late_22 : decode cX5_late 22 = .ok (.iload_n 2, 1) := by decide +kernel
theorem dX5_late_23 : decode cX5_late 23 = .ok (.baload, 1) := by decide +kernel
theorem dX5_late_24 : decode cX5_late 24 = .ok (.ifCond .eq 29, 3) := by decide +kernel
theorem dX5_late_27 : decode cX5_late 27 = .ok (.aload_n 0, 1) := by decide +kernel
theorem dX5_late_28 : decode cX5_late 28 = .ok (.getfield 158, 3) := by decide +kernel
theorem dX5_late_31 : decode cX5_late 31 = .ok (.aload_n 0, 1) := by decide +kernel
theorem dX5_late_32 : decode cX5_late 32 = .ok (.getfield 50, 3) := by decide +kernel
theorem dX5_late_35 : decode cX5_late 35 = .ok (.iload_n 2, 1) := by decide +kernel
theorem dX5_late_36 : decode cX5_late 36 = .ok (.iaload, 1) := by decide +kernel
theorem dX5_late_37 : decode cX5_late 37 = .ok (.isub, 1) := by decide +kernel
theorem dX5_late_38 : decode cX5_late 38 = .ok (.aload_n 0, 1) := by decide +kernel
theorem dX5_late_39 : decode cX5_late 39 = .ok (.getfield 19, 3) := by decide +kernel
theorem dX5_late_42 : decode cX5_late 42 = .ok (.iload_n 2, 1) := by decide +kernel
theorem dX5_late_43 : decode cX5_late 43 = .ok (.iaload, 1) := by decide +kernel
theorem dX5_late_44 : decode cX5_late 44 = .ok (.if_icmp .le 9, 3) := by decide +kernel
theorem dX5_late_47 : decode cX5_late 47 = .ok (.iload_n 1, 1) := by decide +kernel
theorem dX5_late_48 : decode cX5_late 48 = .ok (.iconst 1, 1) := by decide +kernel
theorem dX5_late_49 : decode cX5_late 49 = .ok (.iadd, 1) := by decide +kernel
theorem dX5_late_50 : decode cX5_late 50 = .ok (.goto 4, 3) := by decide +kernel
theorem dX5_late_53 : decode cX5_late 53 = .ok (.iload_n 1, 1) := by decide +kernel
theorem dX5_late_54 : decode cX5_late 54 = .ok (.istore_n 1, 1) := by decide +kernel
theorem dX5_late_55 : decode cX5_late 55 = .ok (.iinc 2 1, 3) := by decide +kernel
theorem dX5_late_58 : decode cX5_late 58 = .ok (.goto (-46), 3) := by decide +kernel
theorem dX5_late_61 : decode cX5_late 61 = .ok (.iload_n 1, 1) := by decide +kernel
theorem dX5_late_62 : decode cX5_late 62 = .ok (.ireturn, 1) := by decide +kernel
theorem dJ9_max_7cf53_0 : decode cJ9_max_7cf53 0 = .ok (.iload_n 0, 1) := by decide +kernel
theorem dJ9_max_7cf53_1 : decode cJ9_max_7cf53 1 = .ok (.iload_n 1, 1) := by decide +kernel
theorem dJ9_max_7cf53_2 : decode cJ9_max_7cf53 2 = .ok (.if_icmp .lt 7, 3) := by decide +kernel
theorem dJ9_max_7cf53_5 : decode cJ9_max_7cf53 5 = .ok (.iload_n 0, 1) := by decide +kernel
theorem dJ9_max_7cf53_6 : decode cJ9_max_7cf53 6 = .ok (.goto 4, 3) := by decide +kernel
theorem dJ9_max_7cf53_9 : decode cJ9_max_7cf53 9 = .ok (.iload_n 1, 1) := by decide +kernel
theorem dJ9_max_7cf53_10 : decode cJ9_max_7cf53 10 = .ok (.ireturn, 1) := by decide +kernel
theorem dJ9_min_7cf53_0 : decode cJ9_min_7cf53 0 = .ok (.iload_n 0, 1) := by decide +kernel
theorem dJ9_min_7cf53_1 : decode cJ9_min_7cf53 1 = .ok (.iload_n 1, 1) := by decide +kernel
theorem dJ9_min_7cf53_2 : decode cJ9_min_7cf53 2 = .ok (.if_icmp .gt 7, 3) := by decide +kernel
theorem dJ9_min_7cf53_5 : decode cJ9_min_7cf53 5 = .ok (.iload_n 0, 1) := by decide +kernel
theorem dJ9_min_7cf53_6 : decode cJ9_min_7cf53 6 = .ok (.goto 4, 3) := by decide +kernel
theorem dJ9_min_7cf53_9 : decode cJ9_min_7cf53 9 = .ok (.iload_n 1, 1) := by decide +kernel
theorem dJ9_min_7cf53_10 : decode cJ9_min_7cf53 10 = .ok (.ireturn, 1) := by decide +kernel
theorem dJ7_fill_53178_0 : decode cJ7_fill_53178 0 = .ok (.iconst 0, 1) := by decide +kernel
theorem dJ7_fill_53178_1 : decode cJ7_fill_53178 1 = .ok (.istore_n 2, 1) := by decide +kernel
theorem dJ7_fill_53178_2 : decode cJ7_fill_53178 2 = .ok (.aload_n 0, 1) := by decide +kernel
theorem dJ7_fill_53178_3 : decode cJ7_fill_53178 3 = .ok (.arraylength, 1) := by decide +kernel
theorem dJ7_fill_53178_4 : decode cJ7_fill_53178 4 = .ok (.istore_n 3, 1) := by decide +kernel
theorem dJ7_fill_53178_5 : decode cJ7_fill_53178 5 = .ok (.iload_n 2, 1) := by decide +kernel
theorem dJ7_fill_53178_6 : decode cJ7_fill_53178 6 = .ok (.iload_n 3, 1) := by decide +kernel
theorem dJ7_fill_53178_7 : decode cJ7_fill_53178 7 = .ok (.if_icmp .ge 13, 3) := by decide +kernel
theorem dJ7_fill_53178_10 : decode cJ7_fill_53178 10 = .ok (.aload_n 0, 1) := by decide +kernel
theorem dJ7_fill_53178_11 : decode cJ7_fill_53178 11 = .ok (.iload_n 2, 1) := by decide +kernel
theorem dJ7_fill_53178_12 : decode cJ7_fill_53178 12 = .ok (.iload_n 1, 1) := by decide +kernel
theorem dJ7_fill_53178_13 : decode cJ7_fill_53178 13 = .ok (.iastore, 1) := by decide +kernel
theorem dJ7_fill_53178_14 : decode cJ7_fill_53178 14 = .ok (.iinc 2 1, 3) := by decide +kernel
theorem dJ7_fill_53178_17 : decode cJ7_fill_53178 17 = .ok (.goto (-12), 3) := by decide +kernel
theorem dJ7_fill_53178_20 : decode cJ7_fill_53178 20 = .ok (.return_, 1) := by decide +kernel
end
section
set_option maxRecDepth 20000 in
theorem ggX3_init_X0_init : GoodIn wsX3_init wsX0_init := goodIn_r _ [13, 14, 2, 3, 15, 29, 30, 31, 32, 33, 34, 35, 36, 37, 38, 39, 40] (by decide +kernel) (by decide +kernel)
set_option maxRecDepth 20000 in
theorem gX3_init_X0_init_n19 : GoodIn wsX3_init (wsX0_init) := ggX3_init_X0_init
set_option maxRecDepth 20000 in
theorem ggX3_init_X1_init : GoodIn wsX3_init wsX1_init := goodIn_r _ [17, 18, 2, 3] (by decide +kernel) (by decide +kernel)
set_option maxRecDepth 20000 in
theorem gX3_init_X1_init_n24 : GoodIn wsX3_init (wsX1_init) := ggX3_init_X1_init
set_option maxRecDepth 20000 in
theorem ggX3_isOuter_X1_isOuter : GoodIn wsX3_isOuter wsX1_isOuter := goodIn_r _ [7, 8, 19, 20, 21, 22, 23, 24, 25, 26] (by decide +kernel) (by decide +kernel)
set_option maxRecDepth 20000 in
theorem gX3_isOuter_X1_isOuter : GoodIn wsX3_isOuter (wsV RX3 48 RX1 yX1_isOuter wsX1_isOuter) := goodIn_app (goodIn_of _ (by decide +kernel)) ggX3_isOuter_X1_isOuter
set_option maxRecDepth 20000 in
theorem ggX3_hasPlaceFor_X3_greatestAfter : GoodIn wsX3_hasPlaceFor wsX3_greatestAfter := goodIn_r _ [8, 9, 2, 10, 11, 12, 13, 14, 15, 16, 21, 22, 23, 24, 25, 26, 27, 28, 29, 30, 31, 32, 33, 34, 35, 36, 37, 38] (by decide +kernel) (by decide +kernel)
set_option maxRecDepth 20000 in
theorem gX3_hasPlaceFor_X3_greatestAfter : GoodIn wsX3_hasPlaceFor (wsV RX3 52 RX3 yX3_greatestAfter wsX3_greatestAfter) := goodIn_app (goodIn_of _ (by decide +kernel)) ggX3_hasPlaceFor_X3_greatestAfter
set_option maxRecDepth 20000 in
theorem ggX3_hasPlaceFor_X3_isOuter : GoodIn wsX3_hasPlaceFor wsX3_isOuter := goodIn_r _ [20, 9, 2, 11, 12, 13, 14, 15, 16, 21, 22, 23, 24, 25, 26, 27, 28, 29, 30, 31, 32, 33, 34, 35, 36, 37, 38] (by decide +kernel) (by decide +kernel)
set_option maxRecDepth 20000 in
theorem gX3_hasPlaceFor_X3_isOuter : GoodIn wsX3_hasPlaceFor (wsV RX3 56 RX3 yX3_isOuter wsX3_isOuter) := goodIn_app (goodIn_of _ (by decide +kernel)) ggX3_hasPlaceFor_X3_isOuter
set_option maxRecDepth 20000 in
theorem ggX3_greatestAfter_X1_isOuter : GoodIn wsX3_greatestAfter wsX1_isOuter := goodIn_r _ [8, 9, 20, 21, 22, 23, 24, 25, 26, 27] (by decide +kernel) (by decide +kernel)
set_option maxRecDepth 20000 in
theorem gX3_greatestAfter_X1_isOuter : GoodIn wsX3_greatestAfter (wsV RX3 48 RX1 yX1_isOuter wsX1_isOuter) := goodIn_app (goodIn_of _ (by decide +kernel)) ggX3_greatestAfter_X1_isOuter
set_option maxRecDepth 20000 in
theorem ggX3_addRequest_X1_layDown : GoodIn wsX3_addRequest wsX1_layDown := goodIn_r _ [7, 8, 9, 10, 11, 12, 23, 24, 25, 26, 27, 28, 29, 30] (by decide +kernel) (by decide +kernel)
set_option maxRecDepth 20000 in
theorem gX3_addRequest_X1_layDown : GoodIn wsX3_addRequest (wsV RX3 65 RX1 yX1_layDown wsX1_layDown) := goodIn_app (goodIn_of _ (by decide +kernel)) ggX3_addRequest_X1_layDown
set_option maxRecDepth 20000 in
theorem ggX3_longestStay_X1_isOuter : GoodIn wsX3_longestStay wsX1_isOuter := goodIn_r _ [13, 14, 25, 26, 27, 28, 29, 30, 31, 32] (by decide +kernel) (by decide +kernel)
set_option maxRecDepth 20000 in
theorem gX3_longestStay_X1_isOuter : GoodIn wsX3_longestStay (wsV RX3 48 RX1 yX1_isOuter wsX1_isOuter) := goodIn_app (goodIn_of _ (by decide +kernel)) ggX3_longestStay_X1_isOuter
set_option maxRecDepth 20000 in
theorem ggX3_startJob_X1_startJob : GoodIn wsX3_startJob wsX1_startJob := goodIn_r _ [8, 9, 10, 11, 43, 44, 45, 46, 47, 48, 49, 50] (by decide +kernel) (by decide +kernel)
set_option maxRecDepth 20000 in
theorem gX3_startJob_X1_startJob : GoodIn wsX3_startJob (wsV RX3 78 RX1 yX1_startJob wsX1_startJob) := goodIn_app (goodIn_of _ (by decide +kernel)) ggX3_startJob_X1_startJob
set_option maxRecDepth 20000 in
theorem ggX3_startJob_X3_outerFrom : GoodIn wsX3_startJob wsX3_outerFrom := goodIn_r _ [16, 1, 2, 17, 18, 19, 7, 20, 21, 33, 34, 35, 36, 37, 38, 39, 40, 41, 42, 43, 44, 45, 46, 47, 48, 49, 50] (by decide +kernel) (by decide +kernel)
set_option maxRecDepth 20000 in
theorem gX3_startJob_X3_outerFrom : GoodIn wsX3_startJob (wsV RX3 81 RX3 yX3_outerFrom wsX3_outerFrom) := goodIn_app (goodIn_of _ (by decide +kernel)) ggX3_startJob_X3_outerFrom
set_option maxRecDepth 20000 in
theorem ggX3_startJob_X0_start : GoodIn wsX3_startJob wsX0_start := goodIn_r _ [26, 27, 28, 29, 30, 31, 32, 51, 52, 53, 54, 55, 56, 57, 58, 59, 60, 61, 62] (by decide +kernel) (by decide +kernel)
set_option maxRecDepth 20000 in
theorem gX3_startJob_X0_start : GoodIn wsX3_startJob (wsV RX3 85 RX0 yX0_start wsX0_start) := goodIn_app (goodIn_of _ (by decide +kernel)) ggX3_startJob_X0_start
set_option maxRecDepth 20000 in
theorem ggX3_endJob_X0_end : GoodIn wsX3_endJob wsX0_end := goodIn_r _ [7, 8, 9, 10, 11, 12, 13, 14, 15, 16, 17, 28, 29, 30, 31, 32, 33, 34, 35, 36, 37, 38, 39] (by decide +kernel) (by decide +kernel)
set_option maxRecDepth 20000 in
theorem gX3_endJob_X0_end : GoodIn wsX3_endJob (wsV RX3 89 RX0 yX0_end wsX0_end) := goodIn_app (goodIn_of _ (by decide +kernel)) ggX3_endJob_X0_end
set_option maxRecDepth 20000 in
theorem ggX3_forgetJobs_X1_forgetJobs : GoodIn wsX3_forgetJobs wsX1_forgetJobs := goodIn_r _ [8, 9, 10, 31, 32, 33, 34, 35, 36, 37, 38] (by decide +kernel) (by decide +kernel)
set_option maxRecDepth 20000 in
theorem gX3_forgetJobs_X1_forgetJobs : GoodIn wsX3_forgetJobs (wsV RX3 92 RX1 yX1_forgetJobs wsX1_forgetJobs) := goodIn_app (goodIn_of _ (by decide +kernel)) ggX3_forgetJobs_X1_forgetJobs
set_option maxRecDepth 20000 in
theorem ggX3_forgetJobs_X0_forget : GoodIn wsX3_forgetJobs wsX0_forget := goodIn_r _ [15, 16, 17, 18, 19, 20, 39, 40, 41, 42, 43, 44, 45, 46, 47, 48, 49, 50] (by decide +kernel) (by decide +kernel)
set_option maxRecDepth 20000 in
theorem gX3_forgetJobs_X0_forget : GoodIn wsX3_forgetJobs (wsV RX3 95 RX0 yX0_forget wsX0_forget) := goodIn_app (goodIn_of _ (by decide +kernel)) ggX3_forgetJobs_X0_forget
set_option maxRecDepth 20000 in
theorem ggX3_outerFrom_X1_isOuter : GoodIn wsX3_outerFrom wsX1_isOuter := goodIn_r _ [7, 8, 19, 20, 21, 22, 23, 24, 25, 26] (by decide +kernel) (by decide +kernel)
set_option maxRecDepth 20000 in
theorem gX3_outerFrom_X1_isOuter : GoodIn wsX3_outerFrom (wsV RX3 48 RX1 yX1_isOuter wsX1_isOuter) := goodIn_app (goodIn_of _ (by decide +kernel)) ggX3_outerFrom_X1_isOuter
set_option maxRecDepth 20000 in
theorem ggX3_hasToAsk_X3_nextRequest : GoodIn wsX3_hasToAsk wsX3_nextRequest := goodIn_r _ [10, 11, 1, 2, 12, 13, 14, 15, 16, 17, 18, 19, 20, 21, 22, 23, 24, 25, 26, 27, 28, 29, 30, 31, 32, 33, 34, 35, 36, 37] (by decide +kernel) (by decide +kernel)
set_option maxRecDepth 20000 in
theorem gX3_hasToAsk_X3_nextRequest : GoodIn wsX3_hasToAsk (wsV RX3 104 RX3 yX3_nextRequest wsX3_nextRequest) := goodIn_app (goodIn_of _ (by decide +kernel)) ggX3_hasToAsk_X3_nextRequest
set_option maxRecDepth 20000 in
theorem ggX3_spinFor_X3_nextRequest : GoodIn wsX3_spinFor wsX3_nextRequest := goodIn_r _ [12, 13, 1, 14, 15, 16, 6, 17, 18, 19, 20, 21, 22, 23, 24, 25, 26, 27, 28, 29, 30, 31, 32, 33, 34, 35, 36, 37, 38, 39] (by decide +kernel) (by decide +kernel)
set_option maxRecDepth 20000 in
theorem gX3_spinFor_X3_nextRequest : GoodIn wsX3_spinFor (wsV RX3 104 RX3 yX3_nextRequest wsX3_nextRequest) := goodIn_app (goodIn_of _ (by decide +kernel)) ggX3_spinFor_X3_nextRequest
set_option maxRecDepth 20000 in
theorem ggX3_startHolding_X3_nextRequest : GoodIn wsX3_startHolding wsX3_nextRequest := goodIn_r _ [9, 10, 1, 11, 12, 13, 14, 15, 16, 17, 18, 19, 20, 21, 22, 23, 24, 25, 26, 27, 28, 29, 30, 31, 32, 33, 34, 35, 36, 37] (by decide +kernel) (by decide +kernel)
set_option maxRecDepth 20000 in
theorem gX3_startHolding_X3_nextRequest : GoodIn wsX3_startHolding (wsV RX3 104 RX3 yX3_nextRequest wsX3_nextRequest) := goodIn_app (goodIn_of _ (by decide +kernel)) ggX3_startHolding_X3_nextRequest
set_option maxRecDepth 20000 in
theorem ggX3_leaveSection_X3_outerFrom : GoodIn wsX3_leaveSection wsX3_outerFrom := goodIn_r _ [8, 9, 10, 11, 12, 13, 14, 15, 16, 17, 18, 19, 20, 21, 22, 23, 24, 25, 26, 39, 40, 41, 42, 43, 44, 45, 46] (by decide +kernel) (by decide +kernel)
set_option maxRecDepth 20000 in
theorem gX3_leaveSection_X3_outerFrom : GoodIn wsX3_leaveSection (wsV RX3 81 RX3 yX3_outerFrom wsX3_outerFrom) := goodIn_app (goodIn_of _ (by decide +kernel)) ggX3_leaveSection_X3_outerFrom
set_option maxRecDepth 20000 in
theorem ggX3_ticksToChange_X3_nextRequest : GoodIn wsX3_ticksToChange wsX3_nextRequest := goodIn_r _ [13, 14, 1, 4, 15, 16, 17, 18, 19, 20, 21, 22, 23, 24, 25, 26, 27, 28, 29, 30, 31, 32, 33, 34, 35, 36, 37, 38, 39, 40] (by decide +kernel) (by decide +kernel)
set_option maxRecDepth 20000 in
theorem gX3_ticksToChange_X3_nextRequest : GoodIn wsX3_ticksToChange (wsV RX3 104 RX3 yX3_nextRequest wsX3_nextRequest) := goodIn_app (goodIn_of _ (by decide +kernel)) ggX3_ticksToChange_X3_nextRequest
set_option maxRecDepth 20000 in
theorem ggX4_init_X3_init : GoodIn wsX4_init wsX3_init := goodIn_r _ [20, 21, 2, 3, 22, 23, 24, 25, 26, 27, 28, 29, 30, 31, 32, 33, 34, 35, 36, 53, 54, 55, 56, 57, 58, 59, 60, 61, 62, 65, 66, 67, 68, 69, 70, 71, 72, 73, 74, 75, 76, 77, 78, 79, 80, 81, 82, 83, 84] (by decide +kernel) (by decide +kernel)
set_option maxRecDepth 20000 in
theorem gX4_init_X3_init : GoodIn wsX4_init (wsX3_init) := ggX4_init_X3_init
set_option maxRecDepth 20000 in
theorem ggX4_init_X2_init : GoodIn wsX4_init wsX2_init := goodIn_r _ [38, 39, 2, 3, 8, 40, 63, 64] (by decide +kernel) (by decide +kernel)
set_option maxRecDepth 20000 in
theorem gX4_init_X2_init_n37 : GoodIn wsX4_init (wsX2_init) := ggX4_init_X2_init
set_option maxRecDepth 20000 in
theorem ggX4_init_J7_fill_53178 : GoodIn wsX4_init wsJ7_fill_53178 := goodIn_r _ [44] (by decide +kernel) (by decide +kernel)
set_option maxRecDepth 20000 in
theorem gX4_init_J7_fill_53178 : GoodIn wsX4_init (va_wsS RX4 38 yJ7_fill_53178 wsJ7_fill_53178) := goodIn_app (goodIn_of _ (by decide +kernel)) ggX4_init_J7_fill_53178
set_option maxRecDepth 20000 in
theorem ggX4_task_X4_isWithin : GoodIn wsX4_task wsX4_isWithin := goodIn_r _ [13] (by decide +kernel) (by decide +kernel)
set_option maxRecDepth 20000 in
theorem gX4_task_X4_isWithin : GoodIn wsX4_task (va_wsS RX4 44 yX4_isWithin wsX4_isWithin) := goodIn_app (goodIn_of _ (by decide +kernel)) ggX4_task_X4_isWithin
set_option maxRecDepth 20000 in
theorem ggX4_task_X4_isPriorityTaken : GoodIn wsX4_task wsX4_isPriorityTaken := goodIn_r _ [17, 8, 18, 19, 20, 21, 22, 23, 24, 25, 87, 88, 89, 90, 91, 92, 93, 94, 95, 96, 97, 98, 99, 100, 101, 102, 103, 104] (by decide +kernel) (by decide +kernel)
set_option maxRecDepth 20000 in
theorem gX4_task_X4_isPriorityTaken : GoodIn wsX4_task (wsV RX4 61 RX4 yX4_isPriorityTaken wsX4_isPriorityTaken) := goodIn_app (goodIn_of _ (by decide +kernel)) ggX4_task_X4_isPriorityTaken
set_option maxRecDepth 20000 in
theorem ggX4_task_X3_layDown : GoodIn wsX4_task wsX3_layDown := goodIn_r _ [29, 24, 25, 30, 31, 32, 33, 34, 95, 96, 97, 98, 99, 100, 101, 102, 103, 104] (by decide +kernel) (by decide +kernel)
set_option maxRecDepth 20000 in
theorem gX4_task_X3_layDown : GoodIn wsX4_task (wsV RX4 68 RX3 yX3_layDown wsX3_layDown) := goodIn_app (goodIn_of _ (by decide +kernel)) ggX4_task_X3_layDown
set_option maxRecDepth 20000 in
theorem ggX4_task_X4_measure : GoodIn wsX4_task wsX4_measure := goodIn_r _ [38, 8, 9, 39, 40, 41, 12, 42, 43, 44, 45, 46, 47, 48, 49, 50, 51, 52, 53, 54, 55, 56, 57, 58, 59, 60, 61, 62, 63, 64, 65, 66, 67, 68, 69, 70, 71, 72, 73, 74, 75, 76, 77, 78, 79, 80, 81, 82, 83, 84, 85, 86, 87, 88, 89, 90, 91, 92, 93, 94, 95, 96, 97, 98, 99, 100, 101, 102, 103, 104, 105, 106, 107, 108, 109, 110, 111, 112] (by decide +kernel) (by decide +kernel)
set_option maxRecDepth 20000 in
theorem gX4_task_X4_measure : GoodIn wsX4_task (wsV RX4 72 RX4 yX4_measure wsX4_measure) := goodIn_app (goodIn_of _ (by decide +kernel)) ggX4_task_X4_measure
set_option maxRecDepth 20000 in
theorem ggX4_request_X4_taskAt : GoodIn wsX4_request wsX4_taskAt := goodIn_ca (goodIn_r _ [11, 12, 13, 14, 15, 16, 17, 10, 18, 101, 102, 103, 104, 105, 106, 107, 108, 109, 110, 111, 112, 113, 114, 115, 116, 117, 118] (by decide +kernel) (by decide +kernel)) (goodIn_sub (fun _ h => List.mem_cons_of_mem _ (List.mem_append_right _ h)) (by decide +kernel))
set_option maxRecDepth 20000 in
theorem gX4_request_X4_taskAt : GoodIn wsX4_request (wsV RX4 75 RX4 yX4_taskAt wsX4_taskAt) := goodIn_app (goodIn_of _ (by decide +kernel)) ggX4_request_X4_taskAt
set_option maxRecDepth 20000 in
theorem ggX4_request_X4_isWithin : GoodIn wsX4_request wsX4_isWithin := goodIn_r _ [18] (by decide +kernel) (by decide +kernel)
set_option maxRecDepth 20000 in
theorem gX4_request_X4_isWithin : GoodIn wsX4_request (va_wsS RX4 44 yX4_isWithin wsX4_isWithin) := goodIn_app (goodIn_of _ (by decide +kernel)) ggX4_request_X4_isWithin
set_option maxRecDepth 20000 in
theorem ggX4_request_X3_hasPlaceFor : GoodIn wsX4_request wsX3_hasPlaceFor := goodIn_r _ [23, 24, 25, 26, 27, 28, 29, 22, 30, 31, 32, 33, 34, 35, 36, 37, 38, 39, 40, 41, 42, 109, 110, 111, 112, 113, 114, 115, 116, 117, 118, 119, 120, 121, 122, 123, 124, 125, 126] (by decide +kernel) (by decide +kernel)
set_option maxRecDepth 20000 in
theorem gX4_request_X3_hasPlaceFor : GoodIn wsX4_request (wsV RX4 83 RX3 yX3_hasPlaceFor wsX3_hasPlaceFor) := goodIn_app (goodIn_of _ (by decide +kernel)) ggX4_request_X3_hasPlaceFor
set_option maxRecDepth 20000 in
theorem ggX4_request_X3_addRequest : GoodIn wsX4_request wsX3_addRequest := goodIn_r _ [46, 31, 25, 47, 48, 49, 36, 50, 51, 52, 53, 38, 54, 109, 110, 111, 112, 113, 114, 115, 116, 117, 118, 119, 120, 121, 122, 123, 124, 125, 126] (by decide +kernel) (by decide +kernel)
set_option maxRecDepth 20000 in
theorem gX4_request_X3_addRequest : GoodIn wsX4_request (wsV RX4 86 RX3 yX3_addRequest wsX3_addRequest) := goodIn_app (goodIn_of _ (by decide +kernel)) ggX4_request_X3_addRequest
set_option maxRecDepth 20000 in
theorem ggX4_request_X4_measure : GoodIn wsX4_request wsX4_measure := goodIn_r _ [58, 14, 15, 59, 60, 61, 10, 62, 63, 6, 64, 65, 66, 67, 34, 35, 36, 37, 38, 68, 69, 70, 71, 72, 73, 74, 75, 76, 77, 78, 79, 80, 81, 82, 83, 84, 85, 86, 87, 88, 89, 90, 91, 92, 93, 94, 95, 96, 97, 98, 99, 100, 101, 102, 103, 104, 105, 106, 107, 108, 109, 110, 111, 112, 113, 114, 115, 116, 117, 118, 119, 120, 121, 122, 123, 124, 125, 126] (by decide +kernel) (by decide +kernel)
set_option maxRecDepth 20000 in
theorem gX4_request_X4_measure : GoodIn wsX4_request (wsV RX4 72 RX4 yX4_measure wsX4_measure) := goodIn_app (goodIn_of _ (by decide +kernel)) ggX4_request_X4_measure
set_option maxRecDepth 20000 in
theorem ggX4_take_X4_taskAt : GoodIn wsX4_take wsX4_taskAt := goodIn_ca (goodIn_r _ [9, 10, 11, 12, 4, 13, 14, 8, 15, 68, 69, 70, 71, 72, 73, 74, 75, 76, 77, 78, 79, 80, 81, 82, 83, 84, 85] (by decide +kernel) (by decide +kernel)) (goodIn_sub (fun _ h => List.mem_cons_of_mem _ (List.mem_append_right _ h)) (by decide +kernel))
set_option maxRecDepth 20000 in
theorem gX4_take_X4_taskAt : GoodIn wsX4_take (wsV RX4 75 RX4 yX4_taskAt wsX4_taskAt) := goodIn_app (goodIn_of _ (by decide +kernel)) ggX4_take_X4_taskAt
set_option maxRecDepth 20000 in
theorem ggX4_take_X4_measure : GoodIn wsX4_take wsX4_measure := goodIn_r _ [19, 12, 4, 20, 21, 22, 8, 23, 24, 25, 26, 27, 28, 29, 30, 31, 32, 33, 34, 35, 36, 37, 38, 39, 40, 41, 42, 43, 44, 45, 46, 47, 48, 49, 50, 51, 52, 53, 54, 55, 56, 57, 58, 59, 60, 61, 62, 63, 64, 65, 66, 67, 68, 69, 70, 71, 72, 73, 74, 75, 76, 77, 78, 79, 80, 81, 82, 83, 84, 85, 86, 87, 88, 89, 90, 91, 92, 93] (by decide +kernel) (by decide +kernel)
set_option maxRecDepth 20000 in
theorem gX4_take_X4_measure : GoodIn wsX4_take (wsV RX4 72 RX4 yX4_measure wsX4_measure) := goodIn_app (goodIn_of _ (by decide +kernel)) ggX4_take_X4_measure
set_option maxRecDepth 20000 in
theorem ggX4_group_X4_isWithin : GoodIn wsX4_group wsX4_isWithin := goodIn_r _ [7] (by decide +kernel) (by decide +kernel)
set_option maxRecDepth 20000 in
theorem gX4_group_X4_isWithin : GoodIn wsX4_group (va_wsS RX4 44 yX4_isWithin wsX4_isWithin) := goodIn_app (goodIn_of _ (by decide +kernel)) ggX4_group_X4_isWithin
set_option maxRecDepth 20000 in
theorem ggX4_spin_X4_taskAt : GoodIn wsX4_spin wsX4_taskAt := goodIn_ca (goodIn_r _ [6, 7, 8, 9, 10, 11, 12, 5, 13, 27, 28, 29, 30, 31, 32, 33, 34, 35, 36, 37, 38, 39, 40, 41, 42, 43, 44] (by decide +kernel) (by decide +kernel)) (goodIn_sub (fun _ h => List.mem_cons_of_mem _ (List.mem_append_right _ h)) (by decide +kernel))
set_option maxRecDepth 20000 in
theorem gX4_spin_X4_taskAt : GoodIn wsX4_spin (wsV RX4 75 RX4 yX4_taskAt wsX4_taskAt) := goodIn_app (goodIn_of _ (by decide +kernel)) ggX4_spin_X4_taskAt
set_option maxRecDepth 20000 in
theorem ggX4_spin_X4_requestAt : GoodIn wsX4_spin wsX4_requestAt := goodIn_ca (goodIn_r _ [16, 7, 8, 17, 18, 11, 12, 5, 13, 35, 36, 37, 38, 39, 40, 41, 42, 43, 44] (by decide +kernel) (by decide +kernel)) (goodIn_sub (fun _ h => List.mem_cons_of_mem _ (List.mem_append_right _ h)) (by decide +kernel))
set_option maxRecDepth 20000 in
theorem gX4_spin_X4_requestAt : GoodIn wsX4_spin (va_wsS RX4 90 yX4_requestAt wsX4_requestAt) := goodIn_app (goodIn_of _ (by decide +kernel)) ggX4_spin_X4_requestAt
set_option maxRecDepth 20000 in
theorem ggX4_bound_X4_taskAt : GoodIn wsX4_bound wsX4_taskAt := goodIn_ca (goodIn_r _ [8, 9, 10, 11, 12, 13, 14, 7, 15, 72, 73, 74, 75, 76, 77, 78, 79, 62, 63, 64, 65, 66, 67, 68, 69, 70, 71] (by decide +kernel) (by decide +kernel)) (goodIn_sub (fun _ h => List.mem_cons_of_mem _ (List.mem_append_right _ h)) (by decide +kernel))
set_option maxRecDepth 20000 in
theorem gX4_bound_X4_taskAt : GoodIn wsX4_bound (wsV RX4 75 RX4 yX4_taskAt wsX4_taskAt) := goodIn_app (goodIn_of _ (by decide +kernel)) ggX4_bound_X4_taskAt
set_option maxRecDepth 20000 in
theorem ggX4_bound_X4_blockingOf : GoodIn wsX4_bound wsX4_blockingOf := goodIn_r _ [19, 11, 20, 21, 22, 23, 24, 25, 26, 27, 28, 29, 30, 31, 32, 33, 34, 35, 36, 37, 38, 39, 40, 41, 42, 43, 44, 45, 46, 47, 72, 73, 74, 75, 76, 77, 78, 79, 62, 63, 64, 65, 66, 67, 68, 69, 70, 71, 80, 81, 82, 83, 84, 85, 86, 87] (by decide +kernel) (by decide +kernel)
set_option maxRecDepth 20000 in
theorem gX4_bound_X4_blockingOf : GoodIn wsX4_bound (wsV RX4 102 RX4 yX4_blockingOf wsX4_blockingOf) := goodIn_app (goodIn_of _ (by decide +kernel)) ggX4_bound_X4_blockingOf
set_option maxRecDepth 20000 in
theorem ggX4_bound_X4_responseOf : GoodIn wsX4_bound wsX4_responseOf := goodIn_r _ [51, 3, 52, 16, 17, 18, 7, 19, 11, 20, 21, 22, 23, 24, 25, 26, 27, 28, 29, 30, 31, 32, 33, 34, 35, 36, 37, 38, 39, 40, 41, 42, 43, 44, 45, 46, 47, 53, 54, 55, 56, 57, 58, 59, 60, 61, 62, 63, 64, 65, 66, 67, 68, 69, 70, 71, 72, 73, 74, 75, 76, 77, 78, 79, 80, 81, 82, 83, 84, 85, 86, 87] (by decide +kernel) (by decide +kernel)
set_option maxRecDepth 20000 in
theorem gX4_bound_X4_responseOf : GoodIn wsX4_bound (wsV RX4 106 RX4 yX4_responseOf wsX4_responseOf) := goodIn_app (goodIn_of _ (by decide +kernel)) ggX4_bound_X4_responseOf
set_option maxRecDepth 20000 in
theorem ggX4_seal_X4_responseOf : GoodIn wsX4_seal wsX4_responseOf := goodIn_r _ [10, 11, 12, 13, 14, 15, 9, 16, 4, 17, 18, 19, 20, 21, 22, 23, 24, 25, 26, 27, 28, 29, 30, 31, 32, 33, 34, 35, 36, 37, 38, 39, 40, 41, 42, 43, 44, 45, 46, 47, 48, 49, 50, 51, 52, 53, 62, 63, 64, 65, 66, 67, 68, 69, 70, 71, 54, 55, 56, 57, 58, 59, 60, 61, 72, 73, 74, 75, 76, 77, 78, 79] (by decide +kernel) (by decide +kernel)
set_option maxRecDepth 20000 in
theorem gX4_seal_X4_responseOf : GoodIn wsX4_seal (wsV RX4 106 RX4 yX4_responseOf wsX4_responseOf) := goodIn_app (goodIn_of _ (by decide +kernel)) ggX4_seal_X4_responseOf
set_option maxRecDepth 20000 in
theorem ggX4_unseal_X4_isAnyJobOpen : GoodIn wsX4_unseal wsX4_isAnyJobOpen := goodIn_r _ [12, 7, 13, 14, 44, 45, 46, 47, 48, 49, 50, 51, 52, 53, 54, 55, 56, 57, 58, 59, 60, 61, 62, 63, 64, 65, 66, 67, 68, 69, 70, 71, 72, 73] (by decide +kernel) (by decide +kernel)
set_option maxRecDepth 20000 in
theorem gX4_unseal_X4_isAnyJobOpen : GoodIn wsX4_unseal (wsV RX4 109 RX4 yX4_isAnyJobOpen wsX4_isAnyJobOpen) := goodIn_app (goodIn_of _ (by decide +kernel)) ggX4_unseal_X4_isAnyJobOpen
set_option maxRecDepth 20000 in
theorem ggX4_unseal_J7_fill_53178 : GoodIn wsX4_unseal wsJ7_fill_53178 := goodIn_r _ [18] (by decide +kernel) (by decide +kernel)
set_option maxRecDepth 20000 in
theorem gX4_unseal_J7_fill_53178 : GoodIn wsX4_unseal (va_wsS RX4 38 yJ7_fill_53178 wsJ7_fill_53178) := goodIn_app (goodIn_of _ (by decide +kernel)) ggX4_unseal_J7_fill_53178
set_option maxRecDepth 20000 in
theorem ggX4_unseal_X3_forgetJobs : GoodIn wsX4_unseal wsX3_forgetJobs := goodIn_r _ [23, 24, 25, 26, 27, 28, 29, 30, 31, 32, 33, 34, 35, 36, 37, 38, 39, 40, 41, 42, 43, 52, 53, 54, 55, 56, 57, 58, 59, 60, 61, 74, 75, 76, 77, 78, 79, 80, 81, 62, 63, 64, 65, 66, 67, 68, 69, 70, 71, 72, 73] (by decide +kernel) (by decide +kernel)
set_option maxRecDepth 20000 in
theorem gX4_unseal_X3_forgetJobs : GoodIn wsX4_unseal (wsV RX4 116 RX3 yX3_forgetJobs wsX3_forgetJobs) := goodIn_app (goodIn_of _ (by decide +kernel)) ggX4_unseal_X3_forgetJobs
set_option maxRecDepth 20000 in
theorem ggX4_arrive_X4_taskAt : GoodIn wsX4_arrive wsX4_taskAt := goodIn_ca (goodIn_r _ [13, 14, 15, 16, 17, 18, 19, 12, 20, 57, 58, 59, 60, 61, 62, 63, 64, 65, 66, 67, 68, 69, 70, 71, 72, 73, 74] (by decide +kernel) (by decide +kernel)) (goodIn_sub (fun _ h => List.mem_cons_of_mem _ (List.mem_append_right _ h)) (by decide +kernel))
set_option maxRecDepth 20000 in
theorem gX4_arrive_X4_taskAt : GoodIn wsX4_arrive (wsV RX4 75 RX4 yX4_taskAt wsX4_taskAt) := goodIn_app (goodIn_of _ (by decide +kernel)) ggX4_arrive_X4_taskAt
set_option maxRecDepth 20000 in
theorem ggX4_arrive_X3_startJob : GoodIn wsX4_arrive wsX3_startJob := goodIn_r _ [25, 26, 27, 28, 29, 30, 31, 32, 33, 34, 35, 36, 37, 38, 39, 24, 40, 41, 42, 43, 44, 45, 46, 47, 48, 49, 50, 51, 52, 53, 54, 55, 56, 65, 66, 67, 68, 69, 70, 71, 72, 73, 74, 87, 88, 89, 90, 91, 92, 93, 94, 75, 76, 77, 78, 79, 80, 81, 82, 83, 84, 85, 86] (by decide +kernel) (by decide +kernel)
set_option maxRecDepth 20000 in
theorem gX4_arrive_X3_startJob : GoodIn wsX4_arrive (wsV RX4 134 RX3 yX3_startJob wsX3_startJob) := goodIn_app (goodIn_of _ (by decide +kernel)) ggX4_arrive_X3_startJob
set_option maxRecDepth 20000 in
theorem ggX4_shorten_X4_taskAt : GoodIn wsX4_shorten wsX4_taskAt := goodIn_ca (goodIn_r _ [12, 13, 14, 15, 16, 17, 18, 11, 19, 31, 32, 33, 34, 35, 36, 37, 38, 47, 48, 49, 50, 51, 52, 53, 54, 55, 56] (by decide +kernel) (by decide +kernel)) (goodIn_sub (fun _ h => List.mem_cons_of_mem _ (List.mem_append_right _ h)) (by decide +kernel))
set_option maxRecDepth 20000 in
theorem gX4_shorten_X4_taskAt : GoodIn wsX4_shorten (wsV RX4 75 RX4 yX4_taskAt wsX4_taskAt) := goodIn_app (goodIn_of _ (by decide +kernel)) ggX4_shorten_X4_taskAt
set_option maxRecDepth 20000 in
theorem ggX4_shorten_X4_requestAt : GoodIn wsX4_shorten wsX4_requestAt := goodIn_ca (goodIn_r _ [22, 13, 14, 23, 24, 17, 18, 11, 19, 47, 48, 49, 50, 51, 52, 53, 54, 55, 56] (by decide +kernel) (by decide +kernel)) (goodIn_sub (fun _ h => List.mem_cons_of_mem _ (List.mem_append_right _ h)) (by decide +kernel))
set_option maxRecDepth 20000 in
theorem gX4_shorten_X4_requestAt : GoodIn wsX4_shorten (va_wsS RX4 90 yX4_requestAt wsX4_requestAt) := goodIn_app (goodIn_of _ (by decide +kernel)) ggX4_shorten_X4_requestAt
set_option maxRecDepth 20000 in
theorem ggX4_shorten_X1_isOuter : GoodIn wsX4_shorten wsX1_isOuter := goodIn_r _ [29, 30, 39, 40, 41, 42, 43, 44, 45, 46] (by decide +kernel) (by decide +kernel)
set_option maxRecDepth 20000 in
theorem gX4_shorten_X1_isOuter : GoodIn wsX4_shorten (wsV RX4 138 RX1 yX1_isOuter wsX1_isOuter) := goodIn_app (goodIn_of _ (by decide +kernel)) ggX4_shorten_X1_isOuter
set_option maxRecDepth 20000 in
theorem ggX4_shorten_X4_isWithin : GoodIn wsX4_shorten wsX4_isWithin := goodIn_r _ [19] (by decide +kernel) (by decide +kernel)
set_option maxRecDepth 20000 in
theorem gX4_shorten_X4_isWithin : GoodIn wsX4_shorten (va_wsS RX4 44 yX4_isWithin wsX4_isWithin) := goodIn_app (goodIn_of _ (by decide +kernel)) ggX4_shorten_X4_isWithin
set_option maxRecDepth 20000 in
theorem ggX4_tick_X4_isWithin : GoodIn wsX4_tick wsX4_isWithin := goodIn_r _ [18] (by decide +kernel) (by decide +kernel)
set_option maxRecDepth 20000 in
theorem gX4_tick_X4_isWithin : GoodIn wsX4_tick (va_wsS RX4 44 yX4_isWithin wsX4_isWithin) := goodIn_app (goodIn_of _ (by decide +kernel)) ggX4_tick_X4_isWithin
set_option maxRecDepth 20000 in
theorem ggX4_tick_X4_takeJobs : GoodIn wsX4_tick wsX4_takeJobs := goodIn_r _ [22, 23, 24, 25, 26, 17, 27, 28, 29, 30, 31, 32, 33, 34, 35, 36, 37, 38, 39, 40, 41, 42, 43, 44, 45, 46, 47, 48, 49, 50, 51, 52, 53, 54, 55, 56, 57, 58, 59, 60, 61, 62, 63, 8, 9, 10, 64, 65, 66, 67, 68, 69, 70, 71, 72, 73, 74, 75, 76, 77, 78, 79, 80, 81, 82, 83, 168, 169, 170, 171, 172, 173, 174, 175, 176, 177, 178, 179, 180, 181, 182, 183, 184, 185, 186, 187, 188, 189, 190, 191, 192, 193, 194, 195, 196, 197, 198, 199, 200, 201, 202, 203, 204, 205, 206, 207] (by decide +kernel) (by decide +kernel)
set_option maxRecDepth 20000 in
theorem gX4_tick_X4_takeJobs : GoodIn wsX4_tick (wsV RX4 148 RX4 yX4_takeJobs wsX4_takeJobs) := goodIn_app (goodIn_of _ (by decide +kernel)) ggX4_tick_X4_takeJobs
set_option maxRecDepth 20000 in
theorem ggX4_tick_X4_letFirstsHold : GoodIn wsX4_tick wsX4_letFirstsHold := goodIn_r _ [87, 75, 23, 28, 29, 30, 88, 89, 90, 80, 91, 82, 83, 92, 93, 94, 40, 95, 53, 68, 96, 97, 58, 59, 60, 61, 62, 54, 63, 8, 9, 10, 168, 169, 170, 171, 172, 173, 174, 175, 176, 177, 178, 179, 180, 181, 182, 183, 184, 185, 186, 187, 188, 189, 190, 191, 192, 193, 194, 195, 196, 197, 206, 207, 198, 199, 200, 201, 202, 203, 204, 205] (by decide +kernel) (by decide +kernel)
set_option maxRecDepth 20000 in
theorem gX4_tick_X4_letFirstsHold : GoodIn wsX4_tick (wsV RX4 151 RX4 yX4_letFirstsHold wsX4_letFirstsHold) := goodIn_app (goodIn_of _ (by decide +kernel)) ggX4_tick_X4_letFirstsHold
set_option maxRecDepth 20000 in
theorem ggX4_tick_X4_ticksAlike : GoodIn wsX4_tick wsX4_ticksAlike := goodIn_r _ [101, 6, 23, 28, 29, 30, 7, 8, 9, 10, 102, 103, 104, 40, 105, 53, 68, 97, 54, 55, 56, 106, 57, 58, 59, 60, 61, 62, 63, 168, 169, 170, 171, 172, 173, 174, 175, 176, 177, 178, 179, 180, 181, 182, 183, 184, 185, 186, 187, 188, 189, 190, 191, 192, 193, 194, 195, 196, 197, 198, 199, 200, 201, 202, 203, 204, 205] (by decide +kernel) (by decide +kernel)
set_option maxRecDepth 20000 in
theorem gX4_tick_X4_ticksAlike : GoodIn wsX4_tick (wsV RX4 154 RX4 yX4_ticksAlike wsX4_ticksAlike) := goodIn_app (goodIn_of _ (by decide +kernel)) ggX4_tick_X4_ticksAlike
set_option maxRecDepth 20000 in
theorem ggX4_tick_X4_workOn : GoodIn wsX4_tick wsX4_workOn := goodIn_r _ [110, 23, 111, 28, 29, 30, 112, 113, 114, 17, 115, 116, 14, 117, 118, 119, 40, 120, 53, 69, 121, 122, 12, 9, 13, 58, 59, 60, 61, 62, 54, 63, 8, 10, 123, 124, 125, 126, 127, 48, 70, 71, 72, 73, 74, 75, 76, 128, 129, 130, 80, 131, 82, 83, 132, 133, 134, 135, 136, 68, 137, 138, 139, 140, 55, 141, 142, 143, 144, 145, 146, 147, 148, 149, 150, 57, 106, 151, 152, 153, 154, 155, 156, 157, 158, 159, 160, 161, 162, 163, 164, 165, 166, 167, 168, 169, 170, 171, 172, 173, 174, 175, 176, 177, 178, 179, 180, 181, 182, 183, 184, 185, 186, 187, 188, 189, 190, 191, 192, 193, 194, 195, 196, 197, 198, 199, 200, 201, 202, 203, 204, 205, 206, 207] (by decide +kernel) (by decide +kernel)
set_option maxRecDepth 20000 in
theorem gX4_tick_X4_workOn : GoodIn wsX4_tick (wsV RX4 167 RX4 yX4_workOn wsX4_workOn) := goodIn_app (goodIn_of _ (by decide +kernel)) ggX4_tick_X4_workOn
set_option maxRecDepth 20000 in
theorem ggX4_core_X4_isWithin : GoodIn wsX4_core wsX4_isWithin := goodIn_r _ [10] (by decide +kernel) (by decide +kernel)
set_option maxRecDepth 20000 in
theorem gX4_core_X4_isWithin : GoodIn wsX4_core (va_wsS RX4 44 yX4_isWithin wsX4_isWithin) := goodIn_app (goodIn_of _ (by decide +kernel)) ggX4_core_X4_isWithin
set_option maxRecDepth 20000 in
theorem ggX4_row_X4_isWithin : GoodIn wsX4_row wsX4_isWithin := goodIn_r _ [6] (by decide +kernel) (by decide +kernel)
set_option maxRecDepth 20000 in
theorem gX4_row_X4_isWithin : GoodIn wsX4_row (va_wsS RX4 44 yX4_isWithin wsX4_isWithin) := goodIn_app (goodIn_of _ (by decide +kernel)) ggX4_row_X4_isWithin
set_option maxRecDepth 20000 in
theorem ggX4_row_X4_rowOf : GoodIn wsX4_row wsX4_rowOf := goodIn_r _ [10, 11, 12, 20, 21, 22, 23, 24, 25, 26, 27] (by decide +kernel) (by decide +kernel)
set_option maxRecDepth 20000 in
theorem gX4_row_X4_rowOf : GoodIn wsX4_row (wsV RX4 171 RX4 yX4_rowOf wsX4_rowOf) := goodIn_app (goodIn_of _ (by decide +kernel)) ggX4_row_X4_rowOf
set_option maxRecDepth 20000 in
theorem ggX4_row_X2_coreAt : GoodIn wsX4_row wsX2_coreAt := goodIn_r _ [17, 18, 19, 28, 29] (by decide +kernel) (by decide +kernel)
set_option maxRecDepth 20000 in
theorem gX4_row_X2_coreAt : GoodIn wsX4_row (wsV RX4 175 RX2 yX2_coreAt wsX2_coreAt) := goodIn_app (goodIn_of _ (by decide +kernel)) ggX4_row_X2_coreAt
set_option maxRecDepth 20000 in
theorem ggX4_jobs_X4_taskAt : GoodIn wsX4_jobs wsX4_taskAt := goodIn_ca (goodIn_r _ [12, 13, 14, 15, 16, 17, 18, 11, 19, 42, 43, 44, 45, 46, 47, 48, 49, 20, 21, 22, 23, 24, 25, 26, 27, 28, 29] (by decide +kernel) (by decide +kernel)) (goodIn_sub (fun _ h => List.mem_cons_of_mem _ (List.mem_append_right _ h)) (by decide +kernel))
set_option maxRecDepth 20000 in
theorem gX4_jobs_X4_taskAt : GoodIn wsX4_jobs (wsV RX4 75 RX4 yX4_taskAt wsX4_taskAt) := goodIn_app (goodIn_of _ (by decide +kernel)) ggX4_jobs_X4_taskAt
set_option maxRecDepth 20000 in
theorem ggX4_spun_X4_taskAt : GoodIn wsX4_spun wsX4_taskAt := goodIn_ca (goodIn_r _ [6, 7, 8, 9, 10, 11, 12, 5, 13, 27, 28, 29, 30, 31, 32, 33, 34, 35, 36, 37, 38, 39, 40, 41, 42, 43, 44] (by decide +kernel) (by decide +kernel)) (goodIn_sub (fun _ h => List.mem_cons_of_mem _ (List.mem_append_right _ h)) (by decide +kernel))
set_option maxRecDepth 20000 in
theorem gX4_spun_X4_taskAt : GoodIn wsX4_spun (wsV RX4 75 RX4 yX4_taskAt wsX4_taskAt) := goodIn_app (goodIn_of _ (by decide +kernel)) ggX4_spun_X4_taskAt
set_option maxRecDepth 20000 in
theorem ggX4_spun_X4_requestAt : GoodIn wsX4_spun wsX4_requestAt := goodIn_ca (goodIn_r _ [16, 7, 8, 17, 18, 11, 12, 5, 13, 35, 36, 37, 38, 39, 40, 41, 42, 43, 44] (by decide +kernel) (by decide +kernel)) (goodIn_sub (fun _ h => List.mem_cons_of_mem _ (List.mem_append_right _ h)) (by decide +kernel))
set_option maxRecDepth 20000 in
theorem gX4_spun_X4_requestAt : GoodIn wsX4_spun (va_wsS RX4 90 yX4_requestAt wsX4_requestAt) := goodIn_app (goodIn_of _ (by decide +kernel)) ggX4_spun_X4_requestAt
set_option maxRecDepth 20000 in
theorem ggX4_taskAt_X4_isWithin : GoodIn wsX4_taskAt wsX4_isWithin := goodIn_r _ [8] (by decide +kernel) (by decide +kernel)
set_option maxRecDepth 20000 in
theorem gX4_taskAt_X4_isWithin : GoodIn wsX4_taskAt (va_wsS RX4 44 yX4_isWithin wsX4_isWithin) := goodIn_app (goodIn_of _ (by decide +kernel)) ggX4_taskAt_X4_isWithin
set_option maxRecDepth 20000 in
theorem ggX4_requestAt_X4_isWithin : GoodIn wsX4_requestAt wsX4_isWithin := goodIn_r _ [8] (by decide +kernel) (by decide +kernel)
set_option maxRecDepth 20000 in
theorem gX4_requestAt_X4_isWithin : GoodIn wsX4_requestAt (va_wsS RX4 44 yX4_isWithin wsX4_isWithin) := goodIn_app (goodIn_of _ (by decide +kernel)) ggX4_requestAt_X4_isWithin
set_option maxRecDepth 20000 in
theorem ggX4_isPriorityTaken_X3_isOn : GoodIn wsX4_isPriorityTaken wsX3_isOn := goodIn_r _ [7, 8, 9, 18, 19, 20, 21, 22, 23, 24, 25, 26, 27] (by decide +kernel) (by decide +kernel)
set_option maxRecDepth 20000 in
theorem gX4_isPriorityTaken_X3_isOn : GoodIn wsX4_isPriorityTaken (wsV RX4 203 RX3 yX3_isOn wsX3_isOn) := goodIn_app (goodIn_of _ (by decide +kernel)) ggX4_isPriorityTaken_X3_isOn
set_option maxRecDepth 20000 in
theorem ggX4_measure_X4_formGroups : GoodIn wsX4_measure wsX4_formGroups := goodIn_r _ [7, 8, 1, 2, 9, 10, 11, 12, 13, 14, 15, 16, 17, 18, 19, 20, 21, 6, 22, 23, 24, 25, 26, 27, 28, 29, 52, 53, 54, 55, 56, 57, 58, 59, 60, 61, 62, 63, 64, 65, 66, 67, 68, 69, 70, 71, 72, 73, 74, 75, 76, 77] (by decide +kernel) (by decide +kernel)
set_option maxRecDepth 20000 in
theorem gX4_measure_X4_formGroups : GoodIn wsX4_measure (wsV RX4 210 RX4 yX4_formGroups wsX4_formGroups) := goodIn_app (goodIn_of _ (by decide +kernel)) ggX4_measure_X4_formGroups
set_option maxRecDepth 20000 in
theorem ggX4_measure_X4_findLongest : GoodIn wsX4_measure wsX4_findLongest := goodIn_r _ [33, 34, 1, 2, 9, 10, 8, 11, 35, 36, 27, 28, 25, 29, 37, 38, 39, 40, 13, 14, 15, 16, 17, 18, 52, 53, 54, 55, 56, 57, 58, 59, 60, 61, 62, 63, 64, 65, 66, 67, 68, 69, 70, 71, 72, 73, 74, 75, 76, 77] (by decide +kernel) (by decide +kernel)
set_option maxRecDepth 20000 in
theorem gX4_measure_X4_findLongest : GoodIn wsX4_measure (wsV RX4 213 RX4 yX4_findLongest wsX4_findLongest) := goodIn_app (goodIn_of _ (by decide +kernel)) ggX4_measure_X4_findLongest
set_option maxRecDepth 20000 in
theorem ggX4_measure_X4_inflate : GoodIn wsX4_measure wsX4_inflate := goodIn_r _ [44, 45, 46, 9, 10, 35, 8, 11, 47, 36, 13, 14, 15, 16, 17, 18, 48, 49, 50, 6, 51, 34, 60, 61, 62, 63, 64, 65, 66, 67, 68, 69, 52, 53, 54, 55, 56, 57, 58, 59, 70, 71, 72, 73, 74, 75, 76, 77] (by decide +kernel) (by decide +kernel)
set_option maxRecDepth 20000 in
theorem gX4_measure_X4_inflate : GoodIn wsX4_measure (wsV RX4 216 RX4 yX4_inflate wsX4_inflate) := goodIn_app (goodIn_of _ (by decide +kernel)) ggX4_measure_X4_inflate
set_option maxRecDepth 20000 in
theorem ggX4_formGroups_X1_isOuter : GoodIn wsX4_formGroups wsX1_isOuter := goodIn_r _ [12, 13, 44, 45, 46, 47, 48, 49, 50, 51] (by decide +kernel) (by decide +kernel)
set_option maxRecDepth 20000 in
theorem gX4_formGroups_X1_isOuter : GoodIn wsX4_formGroups (wsV RX4 138 RX1 yX1_isOuter wsX1_isOuter) := goodIn_app (goodIn_of _ (by decide +kernel)) ggX4_formGroups_X1_isOuter
set_option maxRecDepth 20000 in
theorem ggX4_formGroups_X4_joinGroups : GoodIn wsX4_formGroups wsX4_joinGroups := goodIn_r _ [18, 1, 19, 20, 21, 22, 23, 24, 25, 26, 27, 28, 29, 30, 31, 32, 33] (by decide +kernel) (by decide +kernel)
set_option maxRecDepth 20000 in
theorem gX4_formGroups_X4_joinGroups : GoodIn wsX4_formGroups (wsV RX4 226 RX4 yX4_joinGroups wsX4_joinGroups) := goodIn_app (goodIn_of _ (by decide +kernel)) ggX4_formGroups_X4_joinGroups
set_option maxRecDepth 20000 in
theorem ggX4_findLongest_J7_fill_53178 : GoodIn wsX4_findLongest wsJ7_fill_53178 := goodIn_r _ [17] (by decide +kernel) (by decide +kernel)
set_option maxRecDepth 20000 in
theorem gX4_findLongest_J7_fill_53178 : GoodIn wsX4_findLongest (va_wsS RX4 38 yJ7_fill_53178 wsJ7_fill_53178) := goodIn_app (goodIn_of _ (by decide +kernel)) ggX4_findLongest_J7_fill_53178
set_option maxRecDepth 20000 in
theorem ggX4_findLongest_X1_isOuter : GoodIn wsX4_findLongest wsX1_isOuter := goodIn_r _ [22, 23, 42, 43, 44, 45, 46, 47, 48, 49] (by decide +kernel) (by decide +kernel)
set_option maxRecDepth 20000 in
theorem gX4_findLongest_X1_isOuter : GoodIn wsX4_findLongest (wsV RX4 138 RX1 yX1_isOuter wsX1_isOuter) := goodIn_app (goodIn_of _ (by decide +kernel)) ggX4_findLongest_X1_isOuter
set_option maxRecDepth 20000 in
theorem ggX4_inflate_X1_isOuter : GoodIn wsX4_inflate wsX1_isOuter := goodIn_r _ [14, 15, 40, 41, 42, 43, 44, 45, 46, 47] (by decide +kernel) (by decide +kernel)
set_option maxRecDepth 20000 in
theorem gX4_inflate_X1_isOuter : GoodIn wsX4_inflate (wsV RX4 138 RX1 yX1_isOuter wsX1_isOuter) := goodIn_app (goodIn_of _ (by decide +kernel)) ggX4_inflate_X1_isOuter
set_option maxRecDepth 20000 in
theorem ggX4_inflate_X4_longestElsewhere : GoodIn wsX4_inflate wsX4_longestElsewhere := goodIn_r _ [20, 21, 32, 33, 34, 35, 36, 37, 38, 39] (by decide +kernel) (by decide +kernel)
set_option maxRecDepth 20000 in
theorem gX4_inflate_X4_longestElsewhere : GoodIn wsX4_inflate (wsV RX4 236 RX4 yX4_longestElsewhere wsX4_longestElsewhere) := goodIn_app (goodIn_of _ (by decide +kernel)) ggX4_inflate_X4_longestElsewhere
set_option maxRecDepth 20000 in
theorem ggX4_blockingOf_X3_isOn : GoodIn wsX4_blockingOf wsX3_isOn := goodIn_r _ [12, 13, 14, 38, 39, 40, 41, 42, 43, 44, 45, 46, 47] (by decide +kernel) (by decide +kernel)
set_option maxRecDepth 20000 in
theorem gX4_blockingOf_X3_isOn : GoodIn wsX4_blockingOf (wsV RX4 203 RX3 yX3_isOn wsX3_isOn) := goodIn_app (goodIn_of _ (by decide +kernel)) ggX4_blockingOf_X3_isOn
set_option maxRecDepth 20000 in
theorem ggX4_blockingOf_X3_longestStay : GoodIn wsX4_blockingOf wsX3_longestStay := goodIn_r _ [18, 19, 20, 21, 22, 23, 5, 6, 7, 24, 25, 26, 27, 28, 29, 38, 39, 40, 41, 42, 43, 44, 45, 46, 47, 48, 49, 50, 51, 52, 53, 54, 55] (by decide +kernel) (by decide +kernel)
set_option maxRecDepth 20000 in
theorem gX4_blockingOf_X3_longestStay : GoodIn wsX4_blockingOf (wsV RX4 239 RX3 yX3_longestStay wsX3_longestStay) := goodIn_app (goodIn_of _ (by decide +kernel)) ggX4_blockingOf_X3_longestStay
set_option maxRecDepth 20000 in
theorem ggX4_responseOf_X4_blockingOf : GoodIn wsX4_responseOf wsX4_blockingOf := goodIn_r _ [7, 8, 9, 10, 11, 12, 13, 14, 15, 16, 17, 18, 19, 20, 21, 22, 23, 24, 25, 26, 27, 28, 29, 30, 31, 32, 33, 34, 35, 36, 56, 57, 58, 59, 60, 61, 62, 63, 46, 47, 48, 49, 50, 51, 52, 53, 54, 55, 64, 65, 66, 67, 68, 69, 70, 71] (by decide +kernel) (by decide +kernel)
set_option maxRecDepth 20000 in
theorem gX4_responseOf_X4_blockingOf : GoodIn wsX4_responseOf (wsV RX4 102 RX4 yX4_blockingOf wsX4_blockingOf) := goodIn_app (goodIn_of _ (by decide +kernel)) ggX4_responseOf_X4_blockingOf
set_option maxRecDepth 20000 in
theorem ggX4_responseOf_X4_demandAbove : GoodIn wsX4_responseOf wsX4_demandAbove := goodIn_r _ [40, 8, 9, 10, 1, 15, 16, 17, 18, 19, 20, 21, 41, 42, 43, 44, 45, 56, 57, 58, 59, 60, 61, 62, 63, 46, 47, 48, 49, 50, 51, 52, 53, 54, 55] (by decide +kernel) (by decide +kernel)
set_option maxRecDepth 20000 in
theorem gX4_responseOf_X4_demandAbove : GoodIn wsX4_responseOf (wsV RX4 242 RX4 yX4_demandAbove wsX4_demandAbove) := goodIn_app (goodIn_of _ (by decide +kernel)) ggX4_responseOf_X4_demandAbove
set_option maxRecDepth 20000 in
theorem ggX4_demandAbove_X3_isOn : GoodIn wsX4_demandAbove wsX3_isOn := goodIn_r _ [9, 10, 11, 25, 26, 27, 28, 29, 30, 31, 32, 33, 34] (by decide +kernel) (by decide +kernel)
set_option maxRecDepth 20000 in
theorem gX4_demandAbove_X3_isOn : GoodIn wsX4_demandAbove (wsV RX4 203 RX3 yX3_isOn wsX3_isOn) := goodIn_app (goodIn_of _ (by decide +kernel)) ggX4_demandAbove_X3_isOn
set_option maxRecDepth 20000 in
theorem ggX4_demandAbove_X3_beginningsIn : GoodIn wsX4_demandAbove wsX3_beginningsIn := goodIn_r _ [15, 16, 25, 26, 27, 28, 29, 30, 31, 32, 33, 34] (by decide +kernel) (by decide +kernel)
set_option maxRecDepth 20000 in
theorem gX4_demandAbove_X3_beginningsIn : GoodIn wsX4_demandAbove (wsV RX4 246 RX3 yX3_beginningsIn wsX3_beginningsIn) := goodIn_app (goodIn_of _ (by decide +kernel)) ggX4_demandAbove_X3_beginningsIn
end
section
set_option maxRecDepth 20000 in
theorem ggX4_takeJobs_X4_isHeldFast : GoodIn wsX4_takeJobs wsX4_isHeldFast := goodIn_r _ [6, 1, 7, 8, 9, 66, 67, 68, 69, 70, 71, 72, 73, 74, 75, 76, 77, 78, 79, 80, 81, 82, 83, 84, 85, 86, 87, 88, 89, 90, 91, 92, 93, 94, 95] (by decide +kernel) (by decide +kernel)
set_option maxRecDepth 20000 in
theorem gX4_takeJobs_X4_isHeldFast : GoodIn wsX4_takeJobs (wsV RX4 249 RX4 yX4_isHeldFast wsX4_isHeldFast) := goodIn_app (goodIn_of _ (by decide +kernel)) ggX4_takeJobs_X4_isHeldFast
set_option maxRecDepth 20000 in
theorem ggX4_takeJobs_X4_mostUrgentOn : GoodIn wsX4_takeJobs wsX4_mostUrgentOn := goodIn_r _ [13, 7, 8, 14, 15, 16, 17, 18, 19, 20, 21, 22, 66, 67, 68, 69, 70, 71, 72, 73, 74, 75, 76, 77, 78, 79, 80, 81, 82, 83, 84, 85, 86, 87, 88, 89, 90, 91, 92, 93, 94, 95] (by decide +kernel) (by decide +kernel)
set_option maxRecDepth 20000 in
theorem gX4_takeJobs_X4_mostUrgentOn : GoodIn wsX4_takeJobs (wsV RX4 252 RX4 yX4_mostUrgentOn wsX4_mostUrgentOn) := goodIn_app (goodIn_of _ (by decide +kernel)) ggX4_takeJobs_X4_mostUrgentOn
set_option maxRecDepth 20000 in
theorem ggX4_takeJobs_X4_askIfDue : GoodIn wsX4_takeJobs wsX4_askIfDue := goodIn_r _ [26, 1, 7, 27, 28, 29, 30, 19, 31, 32, 33, 34, 35, 36, 37, 38, 39, 40, 41, 42, 43, 44, 45, 46, 47, 48, 49, 50, 51, 52, 53, 54, 55, 5, 56, 57, 58, 59, 60, 61, 62, 63, 64, 65, 66, 67, 68, 69, 70, 71, 72, 73, 96, 97, 98, 99, 100, 101, 102, 103, 74, 75, 76, 77, 78, 79, 80, 81, 82, 83, 84, 85, 86, 87, 88, 89, 90, 91, 92, 93, 94, 95, 104, 105] (by decide +kernel) (by decide +kernel)
set_option maxRecDepth 20000 in
theorem gX4_takeJobs_X4_askIfDue : GoodIn wsX4_takeJobs (wsV RX4 255 RX4 yX4_askIfDue wsX4_askIfDue) := goodIn_app (goodIn_of _ (by decide +kernel)) ggX4_takeJobs_X4_askIfDue
set_option maxRecDepth 20000 in
theorem ggX4_mostUrgentOn_X3_isOn : GoodIn wsX4_mostUrgentOn wsX3_isOn := goodIn_r _ [9, 10, 11, 20, 21, 22, 23, 24, 25, 26, 27, 28, 29] (by decide +kernel) (by decide +kernel)
set_option maxRecDepth 20000 in
theorem gX4_mostUrgentOn_X3_isOn : GoodIn wsX4_mostUrgentOn (wsV RX4 203 RX3 yX3_isOn wsX3_isOn) := goodIn_app (goodIn_of _ (by decide +kernel)) ggX4_mostUrgentOn_X3_isOn
set_option maxRecDepth 20000 in
theorem ggX4_askIfDue_X3_hasToAsk : GoodIn wsX4_askIfDue wsX3_hasToAsk := goodIn_r _ [8, 9, 10, 11, 12, 13, 14, 15, 16, 7, 17, 18, 19, 20, 21, 22, 60, 61, 62, 63, 64, 65, 66, 67, 68, 69, 70, 71, 72, 73, 74, 75, 76, 77, 78, 79, 80, 81, 52, 53, 54, 55, 56, 57, 58, 59] (by decide +kernel) (by decide +kernel)
set_option maxRecDepth 20000 in
theorem gX4_askIfDue_X3_hasToAsk : GoodIn wsX4_askIfDue (wsV RX4 261 RX3 yX3_hasToAsk wsX3_hasToAsk) := goodIn_app (goodIn_of _ (by decide +kernel)) ggX4_askIfDue_X3_hasToAsk
set_option maxRecDepth 20000 in
theorem ggX4_askIfDue_X3_startSpinning : GoodIn wsX4_askIfDue wsX3_startSpinning := goodIn_r _ [26, 9, 27, 28, 60, 61, 62, 63, 64, 65, 66, 67, 68, 69, 70, 71, 72, 73, 74, 75, 76, 77, 78, 79, 80, 81] (by decide +kernel) (by decide +kernel)
set_option maxRecDepth 20000 in
theorem gX4_askIfDue_X3_startSpinning : GoodIn wsX4_askIfDue (wsV RX4 264 RX3 yX3_startSpinning wsX3_startSpinning) := goodIn_app (goodIn_of _ (by decide +kernel)) ggX4_askIfDue_X3_startSpinning
set_option maxRecDepth 20000 in
theorem ggX4_askIfDue_X3_nextRequest : GoodIn wsX4_askIfDue wsX3_nextRequest := goodIn_r _ [17, 18, 9, 10, 19, 20, 21, 22, 60, 61, 62, 63, 64, 65, 66, 67, 68, 69, 70, 71, 72, 73, 74, 75, 76, 77, 78, 79, 80, 81] (by decide +kernel) (by decide +kernel)
set_option maxRecDepth 20000 in
theorem gX4_askIfDue_X3_nextRequest : GoodIn wsX4_askIfDue (wsV RX4 267 RX3 yX3_nextRequest wsX3_nextRequest) := goodIn_app (goodIn_of _ (by decide +kernel)) ggX4_askIfDue_X3_nextRequest
set_option maxRecDepth 20000 in
theorem ggX4_askIfDue_X4_rowOf : GoodIn wsX4_askIfDue wsX4_rowOf := goodIn_r _ [34, 35, 36, 44, 45, 46, 47, 48, 49, 50, 51] (by decide +kernel) (by decide +kernel)
set_option maxRecDepth 20000 in
theorem gX4_askIfDue_X4_rowOf : GoodIn wsX4_askIfDue (wsV RX4 171 RX4 yX4_rowOf wsX4_rowOf) := goodIn_app (goodIn_of _ (by decide +kernel)) ggX4_askIfDue_X4_rowOf
set_option maxRecDepth 20000 in
theorem ggX4_askIfDue_X2_join : GoodIn wsX4_askIfDue wsX2_join := goodIn_r _ [41, 42, 43, 82, 83] (by decide +kernel) (by decide +kernel)
set_option maxRecDepth 20000 in
theorem gX4_askIfDue_X2_join : GoodIn wsX4_askIfDue (wsV RX4 271 RX2 yX2_join wsX2_join) := goodIn_app (goodIn_of _ (by decide +kernel)) ggX4_askIfDue_X2_join
set_option maxRecDepth 20000 in
theorem ggX4_letFirstsHold_X2_coreAt : GoodIn wsX4_letFirstsHold wsX2_coreAt := goodIn_r _ [10, 11, 12, 62, 63] (by decide +kernel) (by decide +kernel)
set_option maxRecDepth 20000 in
theorem gX4_letFirstsHold_X2_coreAt : GoodIn wsX4_letFirstsHold (wsV RX4 175 RX2 yX2_coreAt wsX2_coreAt) := goodIn_app (goodIn_of _ (by decide +kernel)) ggX4_letFirstsHold_X2_coreAt
set_option maxRecDepth 20000 in
theorem ggX4_letFirstsHold_X3_startHolding : GoodIn wsX4_letFirstsHold wsX3_startHolding := goodIn_r _ [17, 18, 19, 20, 21, 22, 23, 24, 16, 25, 26, 27, 28, 29, 30, 31, 40, 41, 42, 43, 44, 45, 46, 47, 48, 49, 50, 51, 52, 53, 54, 55, 56, 57, 58, 59, 60, 61, 64, 65, 66, 67, 68, 69, 70, 71] (by decide +kernel) (by decide +kernel)
set_option maxRecDepth 20000 in
theorem gX4_letFirstsHold_X3_startHolding : GoodIn wsX4_letFirstsHold (wsV RX4 274 RX3 yX3_startHolding wsX3_startHolding) := goodIn_app (goodIn_of _ (by decide +kernel)) ggX4_letFirstsHold_X3_startHolding
set_option maxRecDepth 20000 in
theorem ggX4_ticksAlike_X3_ticksToChange : GoodIn wsX4_ticksAlike wsX3_ticksToChange := goodIn_r _ [14, 15, 16, 17, 18, 19, 20, 21, 22, 23, 24, 25, 13, 26, 27, 28, 7, 8, 9, 37, 38, 39, 40, 41, 42, 43, 44, 45, 46, 47, 48, 49, 50, 51, 52, 53, 54, 55, 56, 57, 58, 59, 60, 61, 62, 63, 64, 65, 66] (by decide +kernel) (by decide +kernel)
set_option maxRecDepth 20000 in
theorem gX4_ticksAlike_X3_ticksToChange : GoodIn wsX4_ticksAlike (wsV RX4 277 RX3 yX3_ticksToChange wsX3_ticksToChange) := goodIn_app (goodIn_of _ (by decide +kernel)) ggX4_ticksAlike_X3_ticksToChange
set_option maxRecDepth 20000 in
theorem ggX4_workOn_X4_workOnJob : GoodIn wsX4_workOn wsX4_workOnJob := goodIn_r _ [10, 4, 5, 11, 12, 13, 14, 15, 16, 17, 18, 19, 20, 21, 22, 23, 24, 25, 26, 27, 28, 29, 30, 31, 32, 33, 34, 35, 36, 9, 37, 38, 39, 40, 41, 42, 43, 44, 45, 46, 47, 48, 49, 50, 51, 52, 53, 54, 55, 56, 57, 58, 59, 60, 61, 62, 63, 64, 65, 66, 67, 68, 69, 70, 71, 72, 73, 74, 75, 76, 77, 78, 79, 80, 81, 82, 83, 84, 85, 86, 87, 88, 89, 90, 91, 92, 93, 102, 103, 104, 105, 106, 107, 108, 109, 110, 111, 112, 113, 114, 115, 116, 117, 118, 119, 120, 121, 122, 123, 94, 95, 96, 97, 98, 99, 100, 101, 124, 125, 126, 127, 128, 129, 130, 131, 132, 133] (by decide +kernel) (by decide +kernel)
set_option maxRecDepth 20000 in
theorem gX4_workOn_X4_workOnJob : GoodIn wsX4_workOn (wsV RX4 280 RX4 yX4_workOnJob wsX4_workOnJob) := goodIn_app (goodIn_of _ (by decide +kernel)) ggX4_workOn_X4_workOnJob
set_option maxRecDepth 20000 in
theorem ggX4_workOnJob_X3_spinFor : GoodIn wsX4_workOnJob wsX3_spinFor := goodIn_r _ [9, 10, 11, 12, 13, 14, 15, 16, 17, 18, 19, 8, 20, 21, 22, 23, 24, 25, 87, 88, 89, 90, 91, 92, 93, 94, 95, 96, 97, 98, 99, 100, 101, 102, 103, 104, 105, 106, 107, 108, 117, 118, 119, 120, 121, 122, 123, 124] (by decide +kernel) (by decide +kernel)
set_option maxRecDepth 20000 in
theorem gX4_workOnJob_X3_spinFor : GoodIn wsX4_workOnJob (wsV RX4 284 RX3 yX3_spinFor wsX3_spinFor) := goodIn_app (goodIn_of _ (by decide +kernel)) ggX4_workOnJob_X3_spinFor
set_option maxRecDepth 20000 in
theorem ggX4_workOnJob_X4_holdFor : GoodIn wsX4_workOnJob wsX4_holdFor := goodIn_r _ [30, 1, 31, 32, 33, 18, 19, 8, 20, 21, 10, 22, 23, 24, 15, 25, 34, 35, 36, 29, 37, 38, 39, 40, 41, 42, 43, 44, 45, 46, 47, 14, 16, 48, 49, 50, 51, 52, 53, 54, 55, 56, 57, 58, 59, 60, 61, 62, 63, 87, 88, 89, 90, 91, 92, 93, 94, 95, 96, 97, 98, 99, 100, 101, 102, 103, 104, 105, 106, 107, 108, 117, 118, 119, 120, 121, 122, 123, 124, 109, 110, 111, 112, 113, 114, 115, 116, 125, 126] (by decide +kernel) (by decide +kernel)
set_option maxRecDepth 20000 in
theorem gX4_workOnJob_X4_holdFor : GoodIn wsX4_workOnJob (wsV RX4 290 RX4 yX4_holdFor wsX4_holdFor) := goodIn_app (goodIn_of _ (by decide +kernel)) ggX4_workOnJob_X4_holdFor
set_option maxRecDepth 20000 in
theorem ggX4_workOnJob_X3_isAllDone : GoodIn wsX4_workOnJob wsX3_isAllDone := goodIn_r _ [67, 10, 52, 68, 69, 22, 57, 87, 88, 89, 90, 91, 92, 93, 94, 95, 96, 97, 98, 99, 100, 101, 102, 103, 104, 105, 106, 107, 108] (by decide +kernel) (by decide +kernel)
set_option maxRecDepth 20000 in
theorem gX4_workOnJob_X3_isAllDone : GoodIn wsX4_workOnJob (wsV RX4 294 RX3 yX3_isAllDone wsX3_isAllDone) := goodIn_app (goodIn_of _ (by decide +kernel)) ggX4_workOnJob_X3_isAllDone
set_option maxRecDepth 20000 in
theorem ggX4_workOnJob_X3_endJob : GoodIn wsX4_workOnJob wsX3_endJob := goodIn_r _ [73, 10, 74, 75, 76, 77, 78, 79, 80, 81, 82, 83, 84, 85, 14, 15, 16, 86, 87, 88, 89, 90, 91, 92, 93, 94, 95, 96, 97, 98, 99, 100, 101, 102, 103, 104, 105, 106, 107, 108] (by decide +kernel) (by decide +kernel)
set_option maxRecDepth 20000 in
theorem gX4_workOnJob_X3_endJob : GoodIn wsX4_workOnJob (wsV RX4 297 RX3 yX3_endJob wsX3_endJob) := goodIn_app (goodIn_of _ (by decide +kernel)) ggX4_workOnJob_X3_endJob
set_option maxRecDepth 20000 in
theorem ggX4_holdFor_X3_nextRequest : GoodIn wsX4_holdFor wsX3_nextRequest := goodIn_r _ [8, 9, 10, 11, 12, 13, 14, 15, 49, 50, 51, 52, 53, 54, 55, 56, 57, 58, 59, 60, 61, 62, 63, 64, 65, 66, 67, 68, 69, 70] (by decide +kernel) (by decide +kernel)
set_option maxRecDepth 20000 in
theorem gX4_holdFor_X3_nextRequest : GoodIn wsX4_holdFor (wsV RX4 267 RX3 yX3_nextRequest wsX3_nextRequest) := goodIn_app (goodIn_of _ (by decide +kernel)) ggX4_holdFor_X3_nextRequest
set_option maxRecDepth 20000 in
theorem ggX4_holdFor_X4_rowOf : GoodIn wsX4_holdFor wsX4_rowOf := goodIn_r _ [20, 21, 22, 79, 80, 81, 82, 83, 84, 85, 86] (by decide +kernel) (by decide +kernel)
set_option maxRecDepth 20000 in
theorem gX4_holdFor_X4_rowOf : GoodIn wsX4_holdFor (wsV RX4 171 RX4 yX4_rowOf wsX4_rowOf) := goodIn_app (goodIn_of _ (by decide +kernel)) ggX4_holdFor_X4_rowOf
set_option maxRecDepth 20000 in
theorem ggX4_holdFor_X2_dropFirst : GoodIn wsX4_holdFor wsX2_dropFirst := goodIn_r _ [27, 28, 29, 30, 31, 14, 32, 87, 88] (by decide +kernel) (by decide +kernel)
set_option maxRecDepth 20000 in
theorem gX4_holdFor_X2_dropFirst : GoodIn wsX4_holdFor (wsV RX4 303 RX2 yX2_dropFirst wsX2_dropFirst) := goodIn_app (goodIn_of _ (by decide +kernel)) ggX4_holdFor_X2_dropFirst
set_option maxRecDepth 20000 in
theorem ggX4_holdFor_X3_leaveSection : GoodIn wsX4_holdFor wsX3_leaveSection := goodIn_r _ [36, 10, 37, 11, 38, 39, 40, 7, 41, 42, 9, 43, 44, 45, 46, 47, 48, 49, 50, 51, 52, 53, 54, 55, 56, 57, 58, 59, 60, 61, 62, 63, 64, 65, 66, 67, 68, 69, 70, 71, 72, 73, 74, 75, 76, 77, 78] (by decide +kernel) (by decide +kernel)
set_option maxRecDepth 20000 in
theorem gX4_holdFor_X3_leaveSection : GoodIn wsX4_holdFor (wsV RX4 306 RX3 yX3_leaveSection wsX3_leaveSection) := goodIn_app (goodIn_of _ (by decide +kernel)) ggX4_holdFor_X3_leaveSection
set_option maxRecDepth 20000 in
theorem ggX5_init_X5_forget : GoodIn wsX5_init wsX5_forget := goodIn_r _ [40, 41, 42, 17, 18, 26, 27, 28, 29, 25, 13, 30, 31, 32, 33, 35, 43, 44, 45, 46, 47, 48, 49, 50, 51, 52, 53, 54, 55, 56, 57, 58, 59, 60, 61, 62, 63, 64, 65, 66, 67, 68, 69, 70, 71, 72, 73, 74, 75, 76] (by decide +kernel) (by decide +kernel)
set_option maxRecDepth 20000 in
theorem gX5_init_X5_forget : GoodIn wsX5_init (wsV RX5 101 RX5 yX5_forget wsX5_forget) := goodIn_app (goodIn_of _ (by decide +kernel)) ggX5_init_X5_forget
set_option maxRecDepth 20000 in
theorem ggX5_isRequest_X5_isTask : GoodIn wsX5_isRequest wsX5_isTask := goodIn_r _ [6, 7, 8, 9, 10, 11, 12, 13, 14, 15, 16, 17, 18, 19, 20, 21, 22, 23, 24, 25, 26, 27, 28, 29, 30, 31, 32, 33, 34, 35, 36, 37, 38, 39, 40, 41] (by decide +kernel) (by decide +kernel)
set_option maxRecDepth 20000 in
theorem gX5_isRequest_X5_isTask : GoodIn wsX5_isRequest (wsV RX5 108 RX5 yX5_isTask wsX5_isTask) := goodIn_app (goodIn_of _ (by decide +kernel)) ggX5_isRequest_X5_isTask
set_option maxRecDepth 20000 in
theorem ggX5_task_X5_within : GoodIn wsX5_task wsX5_within := goodIn_r _ [11] (by decide +kernel) (by decide +kernel)
set_option maxRecDepth 20000 in
theorem gX5_task_X5_within : GoodIn wsX5_task (va_wsS RX5 112 yX5_within wsX5_within) := goodIn_app (goodIn_of _ (by decide +kernel)) ggX5_task_X5_within
set_option maxRecDepth 20000 in
theorem ggX5_task_X5_hasPriority : GoodIn wsX5_task wsX5_hasPriority := goodIn_r _ [15, 2, 3, 21, 22, 23, 24, 25, 26, 27, 28, 29, 30, 31, 32, 33, 34, 35, 36, 37, 38, 39, 40, 41, 42, 43, 44, 45, 46, 47, 48, 49, 50, 51, 52, 53, 54] (by decide +kernel) (by decide +kernel)
set_option maxRecDepth 20000 in
theorem gX5_task_X5_hasPriority : GoodIn wsX5_task (wsV RX5 120 RX5 yX5_hasPriority wsX5_hasPriority) := goodIn_app (goodIn_of _ (by decide +kernel)) ggX5_task_X5_hasPriority
set_option maxRecDepth 20000 in
theorem ggX5_task_X5_refused : GoodIn wsX5_task wsX5_refused := goodIn_r _ [19, 20, 21, 22, 23, 24, 25, 26, 27, 28, 29, 30, 31, 32, 33, 34, 35, 36, 37, 38, 39, 40, 41, 42, 43, 44, 45, 46, 47, 48, 49, 50, 51, 52, 53, 54] (by decide +kernel) (by decide +kernel)
set_option maxRecDepth 20000 in
theorem gX5_task_X5_refused : GoodIn wsX5_task (wsV RX5 124 RX5 yX5_refused wsX5_refused) := goodIn_app (goodIn_of _ (by decide +kernel)) ggX5_task_X5_refused
set_option maxRecDepth 20000 in
theorem ggX5_mayBe_X5_within : GoodIn wsX5_mayBe wsX5_within := goodIn_r _ [8] (by decide +kernel) (by decide +kernel)
set_option maxRecDepth 20000 in
theorem gX5_mayBe_X5_within : GoodIn wsX5_mayBe (va_wsS RX5 112 yX5_within wsX5_within) := goodIn_app (goodIn_of _ (by decide +kernel)) ggX5_mayBe_X5_within
set_option maxRecDepth 20000 in
theorem ggX5_mayBe_X5_outerBefore : GoodIn wsX5_mayBe wsX5_outerBefore := goodIn_r _ [12, 13, 3, 23, 24, 25, 26, 27, 28, 29, 30, 31, 32, 33, 34, 35, 36, 37, 38, 39, 40, 41, 42, 43, 44, 45, 46, 47, 48, 49, 50, 51, 52, 53, 54, 55, 56] (by decide +kernel) (by decide +kernel)
set_option maxRecDepth 20000 in
theorem gX5_mayBe_X5_outerBefore : GoodIn wsX5_mayBe (wsV RX5 128 RX5 yX5_outerBefore wsX5_outerBefore) := goodIn_app (goodIn_of _ (by decide +kernel)) ggX5_mayBe_X5_outerBefore
set_option maxRecDepth 20000 in
theorem ggX5_mayBe_X5_isRequest : GoodIn wsX5_mayBe wsX5_isRequest := goodIn_r _ [17, 13, 18, 19, 20, 7, 21, 22, 23, 24, 25, 26, 27, 28, 29, 30, 31, 32, 33, 34, 35, 36, 37, 38, 39, 40, 41, 42, 43, 44, 45, 46, 47, 48, 49, 50, 51, 52, 53, 54, 55, 56] (by decide +kernel) (by decide +kernel)
set_option maxRecDepth 20000 in
theorem gX5_mayBe_X5_isRequest : GoodIn wsX5_mayBe (wsV RX5 132 RX5 yX5_isRequest wsX5_isRequest) := goodIn_app (goodIn_of _ (by decide +kernel)) ggX5_mayBe_X5_isRequest
set_option maxRecDepth 20000 in
theorem ggX5_request_X5_isTask : GoodIn wsX5_request wsX5_isTask := goodIn_r _ [12, 13, 35, 36, 37, 38, 39, 40, 41, 42, 43, 44, 45, 46, 47, 48, 49, 50, 51, 52, 53, 54, 55, 56, 57, 58, 59, 60, 61, 62, 63, 64, 65, 66, 67, 68] (by decide +kernel) (by decide +kernel)
set_option maxRecDepth 20000 in
theorem gX5_request_X5_isTask : GoodIn wsX5_request (wsV RX5 108 RX5 yX5_isTask wsX5_isTask) := goodIn_app (goodIn_of _ (by decide +kernel)) ggX5_request_X5_isTask
set_option maxRecDepth 20000 in
theorem ggX5_request_X5_mayBe : GoodIn wsX5_request wsX5_mayBe := goodIn_r _ [17, 18, 3, 6, 5, 19, 20, 11, 21, 22, 23, 24, 25, 2, 26, 27, 28, 29, 8, 9, 10, 12, 13, 35, 36, 37, 38, 39, 40, 41, 42, 43, 44, 45, 46, 47, 48, 49, 50, 51, 52, 53, 54, 55, 56, 57, 58, 59, 60, 61, 62, 63, 64, 65, 66, 67, 68] (by decide +kernel) (by decide +kernel)
set_option maxRecDepth 20000 in
theorem gX5_request_X5_mayBe : GoodIn wsX5_request (wsV RX5 135 RX5 yX5_mayBe wsX5_mayBe) := goodIn_app (goodIn_of _ (by decide +kernel)) ggX5_request_X5_mayBe
set_option maxRecDepth 20000 in
theorem ggX5_request_X5_refused : GoodIn wsX5_request wsX5_refused := goodIn_r _ [33, 34, 35, 36, 37, 38, 39, 40, 41, 42, 43, 44, 45, 46, 47, 48, 49, 50, 51, 52, 53, 54, 55, 56, 57, 58, 59, 60, 61, 62, 63, 64, 65, 66, 67, 68] (by decide +kernel) (by decide +kernel)
set_option maxRecDepth 20000 in
theorem gX5_request_X5_refused : GoodIn wsX5_request (wsV RX5 124 RX5 yX5_refused wsX5_refused) := goodIn_app (goodIn_of _ (by decide +kernel)) ggX5_request_X5_refused
set_option maxRecDepth 20000 in
theorem ggX5_take_X5_isTask : GoodIn wsX5_take wsX5_isTask := goodIn_r _ [8, 2, 14, 15, 16, 17, 18, 19, 20, 21, 22, 23, 24, 25, 26, 27, 28, 29, 30, 31, 32, 33, 34, 35, 36, 37, 38, 39, 40, 41, 42, 43, 44, 45, 46, 47] (by decide +kernel) (by decide +kernel)
set_option maxRecDepth 20000 in
theorem gX5_take_X5_isTask : GoodIn wsX5_take (wsV RX5 108 RX5 yX5_isTask wsX5_isTask) := goodIn_app (goodIn_of _ (by decide +kernel)) ggX5_take_X5_isTask
set_option maxRecDepth 20000 in
theorem ggX5_take_X5_refused : GoodIn wsX5_take wsX5_refused := goodIn_r _ [12, 13, 14, 15, 16, 17, 18, 19, 20, 21, 22, 23, 24, 25, 26, 27, 28, 29, 30, 31, 32, 33, 34, 35, 36, 37, 38, 39, 40, 41, 42, 43, 44, 45, 46, 47] (by decide +kernel) (by decide +kernel)
set_option maxRecDepth 20000 in
theorem gX5_take_X5_refused : GoodIn wsX5_take (wsV RX5 124 RX5 yX5_refused wsX5_refused) := goodIn_app (goodIn_of _ (by decide +kernel)) ggX5_take_X5_refused
set_option maxRecDepth 20000 in
theorem ggX5_group_X5_within : GoodIn wsX5_group wsX5_within := goodIn_r _ [5] (by decide +kernel) (by decide +kernel)
set_option maxRecDepth 20000 in
theorem gX5_group_X5_within : GoodIn wsX5_group (va_wsS RX5 112 yX5_within wsX5_within) := goodIn_app (goodIn_of _ (by decide +kernel)) ggX5_group_X5_within
set_option maxRecDepth 20000 in
theorem ggX5_group_X5_refused : GoodIn wsX5_group wsX5_refused := goodIn_r _ [9, 10, 18, 19, 20, 21, 22, 23, 24, 25, 26, 27, 28, 29, 30, 31, 32, 33, 34, 35, 36, 37, 38, 39, 40, 41, 42, 43, 44, 45, 46, 47, 48, 49, 50, 51] (by decide +kernel) (by decide +kernel)
set_option maxRecDepth 20000 in
theorem gX5_group_X5_refused : GoodIn wsX5_group (wsV RX5 124 RX5 yX5_refused wsX5_refused) := goodIn_app (goodIn_of _ (by decide +kernel)) ggX5_group_X5_refused
set_option maxRecDepth 20000 in
theorem ggX5_group_X5_findGroups : GoodIn wsX5_group wsX5_findGroups := goodIn_r _ [14, 1, 15, 16, 17, 18, 19, 20, 21, 22, 23, 24, 25, 26, 27, 28, 29, 30, 31, 32, 33, 34, 35, 36, 37, 38, 39, 40, 41, 42, 43, 44, 45, 46, 47, 48, 49, 50, 51] (by decide +kernel) (by decide +kernel)
set_option maxRecDepth 20000 in
theorem gX5_group_X5_findGroups : GoodIn wsX5_group (wsV RX5 139 RX5 yX5_findGroups wsX5_findGroups) := goodIn_app (goodIn_of _ (by decide +kernel)) ggX5_group_X5_findGroups
set_option maxRecDepth 20000 in
theorem ggX5_spinOf_X5_isOuter : GoodIn wsX5_spinOf wsX5_isOuter := goodIn_r _ [10, 11, 12, 13, 14, 15, 16, 17, 18, 19, 20, 21, 22, 23, 24, 25, 26, 27, 28, 29, 30, 31, 32, 33, 34, 35, 36, 37, 38, 39, 40, 41, 42, 43, 44, 45] (by decide +kernel) (by decide +kernel)
set_option maxRecDepth 20000 in
theorem gX5_spinOf_X5_isOuter : GoodIn wsX5_spinOf (wsV RX5 142 RX5 yX5_isOuter wsX5_isOuter) := goodIn_app (goodIn_of _ (by decide +kernel)) ggX5_spinOf_X5_isOuter
set_option maxRecDepth 20000 in
theorem ggX5_spin_X5_isRequest : GoodIn wsX5_spin wsX5_isRequest := goodIn_r _ [5, 6, 7, 8, 9, 4, 10, 11, 33, 34, 35, 36, 37, 38, 39, 40, 41, 42, 43, 44, 45, 46, 47, 48, 49, 50, 51, 52, 53, 54, 55, 56, 57, 58, 59, 60, 61, 62, 63, 64, 65, 66] (by decide +kernel) (by decide +kernel)
set_option maxRecDepth 20000 in
theorem gX5_spin_X5_isRequest : GoodIn wsX5_spin (wsV RX5 132 RX5 yX5_isRequest wsX5_isRequest) := goodIn_app (goodIn_of _ (by decide +kernel)) ggX5_spin_X5_isRequest
set_option maxRecDepth 20000 in
theorem ggX5_spin_X5_refused : GoodIn wsX5_spin wsX5_refused := goodIn_r _ [15, 16, 33, 34, 35, 36, 37, 38, 39, 40, 41, 42, 43, 44, 45, 46, 47, 48, 49, 50, 51, 52, 53, 54, 55, 56, 57, 58, 59, 60, 61, 62, 63, 64, 65, 66] (by decide +kernel) (by decide +kernel)
set_option maxRecDepth 20000 in
theorem gX5_spin_X5_refused : GoodIn wsX5_spin (wsV RX5 124 RX5 yX5_refused wsX5_refused) := goodIn_app (goodIn_of _ (by decide +kernel)) ggX5_spin_X5_refused
set_option maxRecDepth 20000 in
theorem ggX5_spin_X5_findGroups : GoodIn wsX5_spin wsX5_findGroups := goodIn_r _ [20, 21, 6, 22, 23, 33, 34, 35, 36, 37, 38, 39, 40, 41, 42, 43, 44, 45, 46, 47, 48, 49, 50, 51, 52, 53, 54, 55, 56, 57, 58, 59, 60, 61, 62, 63, 64, 65, 66] (by decide +kernel) (by decide +kernel)
set_option maxRecDepth 20000 in
theorem gX5_spin_X5_findGroups : GoodIn wsX5_spin (wsV RX5 139 RX5 yX5_findGroups wsX5_findGroups) := goodIn_app (goodIn_of _ (by decide +kernel)) ggX5_spin_X5_findGroups
set_option maxRecDepth 20000 in
theorem ggX5_spin_X5_isOuter : GoodIn wsX5_spin wsX5_isOuter := goodIn_r _ [27, 22, 33, 34, 35, 36, 37, 38, 39, 40, 41, 42, 43, 44, 45, 46, 47, 48, 49, 50, 51, 52, 53, 54, 55, 56, 57, 58, 59, 60, 61, 62, 63, 64, 65, 66] (by decide +kernel) (by decide +kernel)
set_option maxRecDepth 20000 in
theorem gX5_spin_X5_isOuter : GoodIn wsX5_spin (wsV RX5 142 RX5 yX5_isOuter wsX5_isOuter) := goodIn_app (goodIn_of _ (by decide +kernel)) ggX5_spin_X5_isOuter
set_option maxRecDepth 20000 in
theorem ggX5_spin_X5_spinOf : GoodIn wsX5_spin wsX5_spinOf := goodIn_r _ [31, 6, 11, 21, 23, 32, 24, 25, 26, 4, 27, 22, 33, 34, 35, 36, 37, 38, 39, 40, 41, 42, 43, 44, 45, 46, 47, 48, 49, 50, 51, 52, 53, 54, 55, 56, 57, 58, 59, 60, 61, 62, 63, 64, 65, 66] (by decide +kernel) (by decide +kernel)
set_option maxRecDepth 20000 in
theorem gX5_spin_X5_spinOf : GoodIn wsX5_spin (wsV RX5 145 RX5 yX5_spinOf wsX5_spinOf) := goodIn_app (goodIn_of _ (by decide +kernel)) ggX5_spin_X5_spinOf
set_option maxRecDepth 20000 in
theorem ggX5_inflated_X5_isOuter : GoodIn wsX5_inflated wsX5_isOuter := goodIn_r _ [8, 9, 17, 18, 19, 20, 21, 22, 23, 24, 25, 26, 27, 28, 29, 30, 31, 32, 33, 34, 35, 36, 37, 38, 39, 40, 41, 42, 43, 44, 45, 46, 47, 48, 49, 50] (by decide +kernel) (by decide +kernel)
set_option maxRecDepth 20000 in
theorem gX5_inflated_X5_isOuter : GoodIn wsX5_inflated (wsV RX5 142 RX5 yX5_isOuter wsX5_isOuter) := goodIn_app (goodIn_of _ (by decide +kernel)) ggX5_inflated_X5_isOuter
set_option maxRecDepth 20000 in
theorem ggX5_inflated_X5_spinOf : GoodIn wsX5_inflated wsX5_spinOf := goodIn_r _ [13, 2, 14, 15, 16, 3, 4, 5, 6, 7, 8, 9, 17, 18, 19, 20, 21, 22, 23, 24, 25, 26, 27, 28, 29, 30, 31, 32, 33, 34, 35, 36, 37, 38, 39, 40, 41, 42, 43, 44, 45, 46, 47, 48, 49, 50] (by decide +kernel) (by decide +kernel)
set_option maxRecDepth 20000 in
theorem gX5_inflated_X5_spinOf : GoodIn wsX5_inflated (wsV RX5 145 RX5 yX5_spinOf wsX5_spinOf) := goodIn_app (goodIn_of _ (by decide +kernel)) ggX5_inflated_X5_spinOf
set_option maxRecDepth 20000 in
theorem ggX5_blocking_X5_isOuter : GoodIn wsX5_blocking wsX5_isOuter := goodIn_r _ [9, 10, 17, 18, 19, 20, 21, 22, 23, 24, 25, 26, 27, 28, 29, 30, 31, 32, 33, 34, 35, 36, 37, 38, 39, 40, 41, 42, 43, 44, 45, 46, 47, 48, 49, 50] (by decide +kernel) (by decide +kernel)
set_option maxRecDepth 20000 in
theorem gX5_blocking_X5_isOuter : GoodIn wsX5_blocking (wsV RX5 142 RX5 yX5_isOuter wsX5_isOuter) := goodIn_app (goodIn_of _ (by decide +kernel)) ggX5_blocking_X5_isOuter
set_option maxRecDepth 20000 in
theorem ggX5_blocking_X5_spinOf : GoodIn wsX5_blocking wsX5_spinOf := goodIn_r _ [14, 1, 2, 15, 16, 4, 5, 6, 7, 8, 9, 10, 17, 18, 19, 20, 21, 22, 23, 24, 25, 26, 27, 28, 29, 30, 31, 32, 33, 34, 35, 36, 37, 38, 39, 40, 41, 42, 43, 44, 45, 46, 47, 48, 49, 50] (by decide +kernel) (by decide +kernel)
set_option maxRecDepth 20000 in
theorem gX5_blocking_X5_spinOf : GoodIn wsX5_blocking (wsV RX5 145 RX5 yX5_spinOf wsX5_spinOf) := goodIn_app (goodIn_of _ (by decide +kernel)) ggX5_blocking_X5_spinOf
set_option maxRecDepth 20000 in
theorem ggX5_responseOf_X5_inflated : GoodIn wsX5_responseOf wsX5_inflated := goodIn_r _ [9, 10, 11, 12, 13, 14, 15, 8, 16, 17, 18, 19, 20, 21, 2, 22, 23, 28, 29, 30, 31, 32, 33, 34, 35, 36, 37, 38, 39, 40, 41, 42, 43, 44, 45, 46, 47, 48, 49, 50, 51, 52, 53, 54, 55, 56, 57, 58, 59, 60, 61] (by decide +kernel) (by decide +kernel)
set_option maxRecDepth 20000 in
theorem gX5_responseOf_X5_inflated : GoodIn wsX5_responseOf (wsV RX5 149 RX5 yX5_inflated wsX5_inflated) := goodIn_app (goodIn_of _ (by decide +kernel)) ggX5_responseOf_X5_inflated
set_option maxRecDepth 20000 in
theorem ggX5_responseOf_X5_blocking : GoodIn wsX5_responseOf wsX5_blocking := goodIn_r _ [27, 11, 2, 3, 12, 13, 14, 15, 8, 16, 17, 18, 19, 20, 21, 22, 23, 28, 29, 30, 31, 32, 33, 34, 35, 36, 37, 38, 39, 40, 41, 42, 43, 44, 45, 46, 47, 48, 49, 50, 51, 52, 53, 54, 55, 56, 57, 58, 59, 60, 61] (by decide +kernel) (by decide +kernel)
set_option maxRecDepth 20000 in
theorem gX5_responseOf_X5_blocking : GoodIn wsX5_responseOf (wsV RX5 152 RX5 yX5_blocking wsX5_blocking) := goodIn_app (goodIn_of _ (by decide +kernel)) ggX5_responseOf_X5_blocking
set_option maxRecDepth 20000 in
theorem ggX5_bound_X5_isTask : GoodIn wsX5_bound wsX5_isTask := goodIn_r _ [5, 6, 48, 49, 50, 51, 52, 53, 54, 55, 56, 57, 58, 59, 60, 61, 62, 63, 64, 65, 66, 67, 68, 69, 70, 71, 72, 73, 74, 75, 76, 77, 78, 79, 80, 81] (by decide +kernel) (by decide +kernel)
set_option maxRecDepth 20000 in
theorem gX5_bound_X5_isTask : GoodIn wsX5_bound (wsV RX5 108 RX5 yX5_isTask wsX5_isTask) := goodIn_app (goodIn_of _ (by decide +kernel)) ggX5_bound_X5_isTask
set_option maxRecDepth 20000 in
theorem ggX5_bound_X5_within : GoodIn wsX5_bound wsX5_within := goodIn_r _ [9] (by decide +kernel) (by decide +kernel)
set_option maxRecDepth 20000 in
theorem gX5_bound_X5_within : GoodIn wsX5_bound (va_wsS RX5 112 yX5_within wsX5_within) := goodIn_app (goodIn_of _ (by decide +kernel)) ggX5_bound_X5_within
set_option maxRecDepth 20000 in
theorem ggX5_bound_X5_refused : GoodIn wsX5_bound wsX5_refused := goodIn_r _ [13, 14, 48, 49, 50, 51, 52, 53, 54, 55, 56, 57, 58, 59, 60, 61, 62, 63, 64, 65, 66, 67, 68, 69, 70, 71, 72, 73, 74, 75, 76, 77, 78, 79, 80, 81] (by decide +kernel) (by decide +kernel)
set_option maxRecDepth 20000 in
theorem gX5_bound_X5_refused : GoodIn wsX5_bound (wsV RX5 124 RX5 yX5_refused wsX5_refused) := goodIn_app (goodIn_of _ (by decide +kernel)) ggX5_bound_X5_refused
set_option maxRecDepth 20000 in
theorem ggX5_bound_X5_findGroups : GoodIn wsX5_bound wsX5_findGroups := goodIn_r _ [18, 19, 20, 21, 22, 48, 49, 50, 51, 52, 53, 54, 55, 56, 57, 58, 59, 60, 61, 62, 63, 64, 65, 66, 67, 68, 69, 70, 71, 72, 73, 74, 75, 76, 77, 78, 79, 80, 81] (by decide +kernel) (by decide +kernel)
set_option maxRecDepth 20000 in
theorem gX5_bound_X5_findGroups : GoodIn wsX5_bound (wsV RX5 139 RX5 yX5_findGroups wsX5_findGroups) := goodIn_app (goodIn_of _ (by decide +kernel)) ggX5_bound_X5_findGroups
set_option maxRecDepth 20000 in
theorem ggX5_bound_X5_inflated : GoodIn wsX5_bound wsX5_inflated := goodIn_r _ [26, 27, 20, 28, 29, 30, 31, 4, 32, 21, 33, 34, 35, 36, 6, 19, 22, 48, 49, 50, 51, 52, 53, 54, 55, 56, 57, 58, 59, 60, 61, 62, 63, 64, 65, 66, 67, 68, 69, 70, 71, 72, 73, 74, 75, 76, 77, 78, 79, 80, 81] (by decide +kernel) (by decide +kernel)
set_option maxRecDepth 20000 in
theorem gX5_bound_X5_inflated : GoodIn wsX5_bound (wsV RX5 149 RX5 yX5_inflated wsX5_inflated) := goodIn_app (goodIn_of _ (by decide +kernel)) ggX5_bound_X5_inflated
set_option maxRecDepth 20000 in
theorem ggX5_bound_X5_blocking : GoodIn wsX5_bound wsX5_blocking := goodIn_r _ [40, 20, 6, 41, 28, 29, 30, 31, 4, 32, 21, 33, 34, 35, 36, 19, 22, 48, 49, 50, 51, 52, 53, 54, 55, 56, 57, 58, 59, 60, 61, 62, 63, 64, 65, 66, 67, 68, 69, 70, 71, 72, 73, 74, 75, 76, 77, 78, 79, 80, 81] (by decide +kernel) (by decide +kernel)
set_option maxRecDepth 20000 in
theorem gX5_bound_X5_blocking : GoodIn wsX5_bound (wsV RX5 152 RX5 yX5_blocking wsX5_blocking) := goodIn_app (goodIn_of _ (by decide +kernel)) ggX5_bound_X5_blocking
set_option maxRecDepth 20000 in
theorem ggX5_bound_X5_responseOf : GoodIn wsX5_bound wsX5_responseOf := goodIn_r _ [45, 46, 6, 41, 47, 23, 24, 25, 4, 26, 27, 20, 28, 29, 30, 31, 32, 21, 33, 34, 35, 36, 19, 22, 37, 38, 39, 40, 48, 49, 50, 51, 52, 53, 54, 55, 56, 57, 58, 59, 60, 61, 62, 63, 64, 65, 66, 67, 68, 69, 70, 71, 72, 73, 74, 75, 76, 77, 78, 79, 80, 81] (by decide +kernel) (by decide +kernel)
set_option maxRecDepth 20000 in
theorem gX5_bound_X5_responseOf : GoodIn wsX5_bound (wsV RX5 155 RX5 yX5_responseOf wsX5_responseOf) := goodIn_app (goodIn_of _ (by decide +kernel)) ggX5_bound_X5_responseOf
set_option maxRecDepth 20000 in
theorem ggX5_seal_X5_refused : GoodIn wsX5_seal wsX5_refused := goodIn_r _ [7, 8, 60, 61, 62, 63, 64, 65, 66, 67, 68, 69, 70, 71, 72, 73, 74, 75, 76, 77, 78, 79, 80, 81, 82, 83, 84, 85, 86, 87, 88, 89, 90, 91, 92, 93] (by decide +kernel) (by decide +kernel)
set_option maxRecDepth 20000 in
theorem gX5_seal_X5_refused : GoodIn wsX5_seal (wsV RX5 124 RX5 yX5_refused wsX5_refused) := goodIn_app (goodIn_of _ (by decide +kernel)) ggX5_seal_X5_refused
set_option maxRecDepth 20000 in
theorem ggX5_seal_X5_findGroups : GoodIn wsX5_seal wsX5_findGroups := goodIn_r _ [12, 13, 14, 15, 16, 60, 61, 62, 63, 64, 65, 66, 67, 68, 69, 70, 71, 72, 73, 74, 75, 76, 77, 78, 79, 80, 81, 82, 83, 84, 85, 86, 87, 88, 89, 90, 91, 92, 93] (by decide +kernel) (by decide +kernel)
set_option maxRecDepth 20000 in
theorem gX5_seal_X5_findGroups : GoodIn wsX5_seal (wsV RX5 139 RX5 yX5_findGroups wsX5_findGroups) := goodIn_app (goodIn_of _ (by decide +kernel)) ggX5_seal_X5_findGroups
set_option maxRecDepth 20000 in
theorem ggX5_seal_X5_responseOf : GoodIn wsX5_seal wsX5_responseOf := goodIn_r _ [20, 21, 2, 22, 23, 24, 25, 26, 6, 27, 28, 14, 29, 30, 31, 32, 33, 15, 34, 35, 36, 37, 13, 16, 38, 39, 40, 41, 60, 61, 62, 63, 64, 65, 66, 67, 68, 69, 70, 71, 72, 73, 74, 75, 76, 77, 78, 79, 80, 81, 82, 83, 84, 85, 86, 87, 88, 89, 90, 91, 92, 93] (by decide +kernel) (by decide +kernel)
set_option maxRecDepth 20000 in
theorem gX5_seal_X5_responseOf : GoodIn wsX5_seal (wsV RX5 155 RX5 yX5_responseOf wsX5_responseOf) := goodIn_app (goodIn_of _ (by decide +kernel)) ggX5_seal_X5_responseOf
set_option maxRecDepth 20000 in
theorem ggX5_seal_X5_forget : GoodIn wsX5_seal wsX5_forget := goodIn_r _ [45, 46, 47, 48, 49, 50, 51, 52, 53, 54, 29, 55, 56, 57, 58, 59, 60, 61, 62, 63, 64, 65, 66, 67, 68, 69, 70, 71, 72, 73, 74, 75, 76, 77, 78, 79, 80, 81, 82, 83, 84, 85, 86, 87, 88, 89, 90, 91, 92, 93] (by decide +kernel) (by decide +kernel)
set_option maxRecDepth 20000 in
theorem gX5_seal_X5_forget : GoodIn wsX5_seal (wsV RX5 101 RX5 yX5_forget wsX5_forget) := goodIn_app (goodIn_of _ (by decide +kernel)) ggX5_seal_X5_forget
set_option maxRecDepth 20000 in
theorem ggX5_unseal_X5_hasOpen : GoodIn wsX5_unseal wsX5_hasOpen := goodIn_r _ [6, 7, 31, 32, 33, 34, 35, 36, 37, 38, 39, 40, 41, 42, 43, 44, 45, 46, 47, 48, 49, 50, 51, 52, 53, 54, 55, 56, 57, 58, 59, 60, 61, 62, 63, 64] (by decide +kernel) (by decide +kernel)
set_option maxRecDepth 20000 in
theorem gX5_unseal_X5_hasOpen : GoodIn wsX5_unseal (wsV RX5 164 RX5 yX5_hasOpen wsX5_hasOpen) := goodIn_app (goodIn_of _ (by decide +kernel)) ggX5_unseal_X5_hasOpen
set_option maxRecDepth 20000 in
theorem ggX5_unseal_X5_refused : GoodIn wsX5_unseal wsX5_refused := goodIn_r _ [11, 12, 31, 32, 33, 34, 35, 36, 37, 38, 39, 40, 41, 42, 43, 44, 45, 46, 47, 48, 49, 50, 51, 52, 53, 54, 55, 56, 57, 58, 59, 60, 61, 62, 63, 64] (by decide +kernel) (by decide +kernel)
set_option maxRecDepth 20000 in
theorem gX5_unseal_X5_refused : GoodIn wsX5_unseal (wsV RX5 124 RX5 yX5_refused wsX5_refused) := goodIn_app (goodIn_of _ (by decide +kernel)) ggX5_unseal_X5_refused
set_option maxRecDepth 20000 in
theorem ggX5_unseal_X5_forget : GoodIn wsX5_unseal wsX5_forget := goodIn_r _ [16, 17, 18, 7, 19, 20, 21, 22, 23, 24, 25, 26, 27, 28, 29, 30, 31, 32, 33, 34, 35, 36, 37, 38, 39, 40, 41, 42, 43, 44, 45, 46, 47, 48, 49, 50, 51, 52, 53, 54, 55, 56, 57, 58, 59, 60, 61, 62, 63, 64] (by decide +kernel) (by decide +kernel)
set_option maxRecDepth 20000 in
theorem gX5_unseal_X5_forget : GoodIn wsX5_unseal (wsV RX5 101 RX5 yX5_forget wsX5_forget) := goodIn_app (goodIn_of _ (by decide +kernel)) ggX5_unseal_X5_forget
set_option maxRecDepth 20000 in
theorem ggX5_arrive_X5_isTask : GoodIn wsX5_arrive wsX5_isTask := goodIn_r _ [17, 18, 33, 34, 35, 36, 37, 38, 39, 40, 41, 42, 43, 44, 45, 46, 47, 48, 49, 50, 51, 52, 53, 54, 55, 56, 57, 58, 59, 60, 61, 62, 63, 64, 65, 66] (by decide +kernel) (by decide +kernel)
set_option maxRecDepth 20000 in
theorem gX5_arrive_X5_isTask : GoodIn wsX5_arrive (wsV RX5 108 RX5 yX5_isTask wsX5_isTask) := goodIn_app (goodIn_of _ (by decide +kernel)) ggX5_arrive_X5_isTask
set_option maxRecDepth 20000 in
theorem ggX5_arrive_X5_refused : GoodIn wsX5_arrive wsX5_refused := goodIn_r _ [22, 23, 33, 34, 35, 36, 37, 38, 39, 40, 41, 42, 43, 44, 45, 46, 47, 48, 49, 50, 51, 52, 53, 54, 55, 56, 57, 58, 59, 60, 61, 62, 63, 64, 65, 66] (by decide +kernel) (by decide +kernel)
set_option maxRecDepth 20000 in
theorem gX5_arrive_X5_refused : GoodIn wsX5_arrive (wsV RX5 124 RX5 yX5_refused wsX5_refused) := goodIn_app (goodIn_of _ (by decide +kernel)) ggX5_arrive_X5_refused
set_option maxRecDepth 20000 in
theorem ggX5_arrive_X5_goToNext : GoodIn wsX5_arrive wsX5_goToNext := goodIn_r _ [27, 8, 9, 28, 29, 30, 16, 31, 32, 33, 34, 35, 36, 37, 38, 39, 40, 41, 42, 43, 44, 45, 46, 47, 48, 49, 50, 51, 52, 53, 54, 55, 56, 57, 58, 59, 60, 61, 62, 63, 64, 65, 66] (by decide +kernel) (by decide +kernel)
set_option maxRecDepth 20000 in
theorem gX5_arrive_X5_goToNext : GoodIn wsX5_arrive (wsV RX5 168 RX5 yX5_goToNext wsX5_goToNext) := goodIn_app (goodIn_of _ (by decide +kernel)) ggX5_arrive_X5_goToNext
set_option maxRecDepth 20000 in
theorem ggX5_goToNext_X5_isOuter : GoodIn wsX5_goToNext wsX5_isOuter := goodIn_r _ [7, 8, 9, 10, 11, 12, 13, 14, 15, 16, 17, 18, 19, 20, 21, 22, 23, 24, 25, 26, 27, 28, 29, 30, 31, 32, 33, 34, 35, 36, 37, 38, 39, 40, 41, 42] (by decide +kernel) (by decide +kernel)
set_option maxRecDepth 20000 in
theorem gX5_goToNext_X5_isOuter : GoodIn wsX5_goToNext (wsV RX5 142 RX5 yX5_isOuter wsX5_isOuter) := goodIn_app (goodIn_of _ (by decide +kernel)) ggX5_goToNext_X5_isOuter
set_option maxRecDepth 20000 in
theorem ggX5_shorten_X5_isRequest : GoodIn wsX5_shorten wsX5_isRequest := goodIn_r _ [8, 9, 10, 11, 12, 7, 13, 14, 28, 29, 30, 31, 32, 33, 34, 35, 36, 37, 38, 39, 40, 41, 42, 43, 44, 45, 46, 47, 48, 49, 50, 51, 52, 53, 54, 55, 56, 57, 58, 59, 60, 61] (by decide +kernel) (by decide +kernel)
set_option maxRecDepth 20000 in
theorem gX5_shorten_X5_isRequest : GoodIn wsX5_shorten (wsV RX5 132 RX5 yX5_isRequest wsX5_isRequest) := goodIn_app (goodIn_of _ (by decide +kernel)) ggX5_shorten_X5_isRequest
set_option maxRecDepth 20000 in
theorem ggX5_shorten_X5_isOuter : GoodIn wsX5_shorten wsX5_isOuter := goodIn_r _ [18, 19, 28, 29, 30, 31, 32, 33, 34, 35, 36, 37, 38, 39, 40, 41, 42, 43, 44, 45, 46, 47, 48, 49, 50, 51, 52, 53, 54, 55, 56, 57, 58, 59, 60, 61] (by decide +kernel) (by decide +kernel)
set_option maxRecDepth 20000 in
theorem gX5_shorten_X5_isOuter : GoodIn wsX5_shorten (wsV RX5 142 RX5 yX5_isOuter wsX5_isOuter) := goodIn_app (goodIn_of _ (by decide +kernel)) ggX5_shorten_X5_isOuter
set_option maxRecDepth 20000 in
theorem ggX5_shorten_X5_within : GoodIn wsX5_shorten wsX5_within := goodIn_r _ [22] (by decide +kernel) (by decide +kernel)
set_option maxRecDepth 20000 in
theorem gX5_shorten_X5_within : GoodIn wsX5_shorten (va_wsS RX5 112 yX5_within wsX5_within) := goodIn_app (goodIn_of _ (by decide +kernel)) ggX5_shorten_X5_within
set_option maxRecDepth 20000 in
theorem ggX5_shorten_X5_refused : GoodIn wsX5_shorten wsX5_refused := goodIn_r _ [26, 27, 28, 29, 30, 31, 32, 33, 34, 35, 36, 37, 38, 39, 40, 41, 42, 43, 44, 45, 46, 47, 48, 49, 50, 51, 52, 53, 54, 55, 56, 57, 58, 59, 60, 61] (by decide +kernel) (by decide +kernel)
set_option maxRecDepth 20000 in
theorem gX5_shorten_X5_refused : GoodIn wsX5_shorten (wsV RX5 124 RX5 yX5_refused wsX5_refused) := goodIn_app (goodIn_of _ (by decide +kernel)) ggX5_shorten_X5_refused
set_option maxRecDepth 20000 in
theorem ggX5_choose_X5_groupOf : GoodIn wsX5_choose wsX5_groupOf := goodIn_r _ [19, 20, 21, 6, 22, 23, 24, 25, 26, 27, 28, 29, 30, 31, 32, 33, 34, 35, 36, 37, 38, 39, 40, 41, 42, 43, 44, 45, 46, 47, 48, 49, 50, 51, 52, 53, 54, 55] (by decide +kernel) (by decide +kernel)
set_option maxRecDepth 20000 in
theorem gX5_choose_X5_groupOf : GoodIn wsX5_choose (wsV RX5 172 RX5 yX5_groupOf wsX5_groupOf) := goodIn_app (goodIn_of _ (by decide +kernel)) ggX5_choose_X5_groupOf
set_option maxRecDepth 20000 in
theorem ggX5_goOn_X5_groupOf : GoodIn wsX5_goOn wsX5_groupOf := goodIn_r _ [16, 17, 18, 7, 46, 47, 48, 49, 50, 51, 52, 53, 54, 55, 56, 57, 58, 59, 60, 61, 62, 63, 64, 65, 66, 67, 68, 69, 70, 71, 72, 73, 74, 75, 76, 77, 78, 79] (by decide +kernel) (by decide +kernel)
set_option maxRecDepth 20000 in
theorem gX5_goOn_X5_groupOf : GoodIn wsX5_goOn (wsV RX5 172 RX5 yX5_groupOf wsX5_groupOf) := goodIn_app (goodIn_of _ (by decide +kernel)) ggX5_goOn_X5_groupOf
set_option maxRecDepth 20000 in
theorem ggX5_goOn_X5_leave : GoodIn wsX5_goOn wsX5_leave := goodIn_r _ [22, 23, 24, 4, 46, 47, 48, 49, 50, 51, 52, 53, 54, 55, 56, 57, 58, 59, 60, 61, 62, 63, 64, 65, 66, 67, 68, 69, 70, 71, 72, 73, 74, 75, 76, 77, 78, 79] (by decide +kernel) (by decide +kernel)
set_option maxRecDepth 20000 in
theorem gX5_goOn_X5_leave : GoodIn wsX5_goOn (wsV RX5 175 RX5 yX5_leave wsX5_leave) := goodIn_app (goodIn_of _ (by decide +kernel)) ggX5_goOn_X5_leave
set_option maxRecDepth 20000 in
theorem ggX5_goOn_X5_goToNext : GoodIn wsX5_goOn wsX5_goToNext := goodIn_r _ [28, 7, 11, 29, 30, 31, 15, 32, 33, 46, 47, 48, 49, 50, 51, 52, 53, 54, 55, 56, 57, 58, 59, 60, 61, 62, 63, 64, 65, 66, 67, 68, 69, 70, 71, 72, 73, 74, 75, 76, 77, 78, 79] (by decide +kernel) (by decide +kernel)
set_option maxRecDepth 20000 in
theorem gX5_goOn_X5_goToNext : GoodIn wsX5_goOn (wsV RX5 168 RX5 yX5_goToNext wsX5_goToNext) := goodIn_app (goodIn_of _ (by decide +kernel)) ggX5_goOn_X5_goToNext
set_option maxRecDepth 20000 in
theorem ggX5_goOn_X5_end : GoodIn wsX5_goOn wsX5_end := goodIn_r _ [37, 38, 39, 40, 41, 42, 43, 44, 45, 46, 47, 48, 49, 50, 51, 52, 53, 54, 55, 56, 57, 58, 59, 60, 61, 62, 63, 64, 65, 66, 67, 68, 69, 70, 71, 72, 73, 74, 75, 76, 77, 78, 79] (by decide +kernel) (by decide +kernel)
set_option maxRecDepth 20000 in
theorem gX5_goOn_X5_end : GoodIn wsX5_goOn (wsV RX5 179 RX5 yX5_end wsX5_end) := goodIn_app (goodIn_of _ (by decide +kernel)) ggX5_goOn_X5_end
set_option maxRecDepth 20000 in
theorem ggX5_tick_X5_within : GoodIn wsX5_tick wsX5_within := goodIn_r _ [13] (by decide +kernel) (by decide +kernel)
set_option maxRecDepth 20000 in
theorem gX5_tick_X5_within : GoodIn wsX5_tick (va_wsS RX5 112 yX5_within wsX5_within) := goodIn_app (goodIn_of _ (by decide +kernel)) ggX5_tick_X5_within
set_option maxRecDepth 20000 in
theorem ggX5_tick_X5_refused : GoodIn wsX5_tick wsX5_refused := goodIn_r _ [17, 18, 72, 73, 74, 75, 76, 77, 78, 79, 80, 81, 82, 83, 84, 85, 86, 87, 88, 89, 90, 91, 92, 93, 94, 95, 96, 97, 98, 99, 100, 101, 102, 103, 104, 105] (by decide +kernel) (by decide +kernel)
set_option maxRecDepth 20000 in
theorem gX5_tick_X5_refused : GoodIn wsX5_tick (wsV RX5 124 RX5 yX5_refused wsX5_refused) := goodIn_app (goodIn_of _ (by decide +kernel)) ggX5_tick_X5_refused
set_option maxRecDepth 20000 in
theorem ggX5_tick_X5_choose : GoodIn wsX5_tick wsX5_choose := goodIn_r _ [22, 4, 9, 23, 24, 25, 26, 27, 28, 29, 5, 3, 30, 31, 32, 33, 34, 35, 12, 36, 37, 38, 72, 73, 74, 75, 76, 77, 78, 79, 80, 81, 82, 83, 84, 85, 86, 87, 88, 89, 90, 91, 92, 93, 94, 95, 96, 97, 98, 99, 100, 101, 102, 103, 104, 105] (by decide +kernel) (by decide +kernel)
set_option maxRecDepth 20000 in
theorem gX5_tick_X5_choose : GoodIn wsX5_tick (wsV RX5 183 RX5 yX5_choose wsX5_choose) := goodIn_app (goodIn_of _ (by decide +kernel)) ggX5_tick_X5_choose
set_option maxRecDepth 20000 in
theorem ggX5_tick_X5_goOn : GoodIn wsX5_tick wsX5_goOn := goodIn_r _ [42, 9, 7, 8, 4, 28, 30, 26, 43, 31, 44, 27, 33, 34, 35, 12, 36, 37, 38, 45, 46, 47, 48, 3, 5, 49, 50, 51, 52, 53, 54, 55, 56, 57, 58, 59, 60, 61, 23, 62, 63, 6, 64, 65, 66, 67, 72, 73, 74, 75, 76, 77, 78, 79, 80, 81, 82, 83, 84, 85, 86, 87, 88, 89, 90, 91, 92, 93, 94, 95, 96, 97, 98, 99, 100, 101, 102, 103, 104, 105] (by decide +kernel) (by decide +kernel)
set_option maxRecDepth 20000 in
theorem gX5_tick_X5_goOn : GoodIn wsX5_tick (wsV RX5 186 RX5 yX5_goOn wsX5_goOn) := goodIn_app (goodIn_of _ (by decide +kernel)) ggX5_tick_X5_goOn
end
section
set_option maxRecDepth 20000 in
theorem ggX5_tick_X5_hasOpen : GoodIn wsX5_tick wsX5_hasOpen := goodIn_r _ [71, 23, 72, 73, 74, 75, 76, 77, 78, 79, 80, 81, 82, 83, 84, 85, 86, 87, 88, 89, 90, 91, 92, 93, 94, 95, 96, 97, 98, 99, 100, 101, 102, 103, 104, 105] (by decide +kernel) (by decide +kernel)
set_option maxRecDepth 20000 in
theorem gX5_tick_X5_hasOpen : GoodIn wsX5_tick (wsV RX5 164 RX5 yX5_hasOpen wsX5_hasOpen) := goodIn_app (goodIn_of _ (by decide +kernel)) ggX5_tick_X5_hasOpen
set_option maxRecDepth 20000 in
theorem ggX5_core_X5_within : GoodIn wsX5_core wsX5_within := goodIn_r _ [6] (by decide +kernel) (by decide +kernel)
set_option maxRecDepth 20000 in
theorem gX5_core_X5_within : GoodIn wsX5_core (va_wsS RX5 112 yX5_within wsX5_within) := goodIn_app (goodIn_of _ (by decide +kernel)) ggX5_core_X5_within
set_option maxRecDepth 20000 in
theorem ggX5_core_X5_refused : GoodIn wsX5_core wsX5_refused := goodIn_r _ [10, 11, 12, 13, 14, 15, 16, 17, 18, 19, 20, 21, 22, 23, 24, 25, 26, 27, 28, 29, 30, 31, 32, 33, 34, 35, 36, 37, 38, 39, 40, 41, 42, 43, 44, 45] (by decide +kernel) (by decide +kernel)
set_option maxRecDepth 20000 in
theorem gX5_core_X5_refused : GoodIn wsX5_core (wsV RX5 124 RX5 yX5_refused wsX5_refused) := goodIn_app (goodIn_of _ (by decide +kernel)) ggX5_core_X5_refused
set_option maxRecDepth 20000 in
theorem ggX5_row_X5_within : GoodIn wsX5_row wsX5_within := goodIn_r _ [7] (by decide +kernel) (by decide +kernel)
set_option maxRecDepth 20000 in
theorem gX5_row_X5_within : GoodIn wsX5_row (va_wsS RX5 112 yX5_within wsX5_within) := goodIn_app (goodIn_of _ (by decide +kernel)) ggX5_row_X5_within
set_option maxRecDepth 20000 in
theorem ggX5_row_X5_refused : GoodIn wsX5_row wsX5_refused := goodIn_r _ [11, 12, 20, 21, 22, 23, 24, 25, 26, 27, 28, 29, 30, 31, 32, 33, 34, 35, 36, 37, 38, 39, 40, 41, 42, 43, 44, 45, 46, 47, 48, 49, 50, 51, 52, 53] (by decide +kernel) (by decide +kernel)
set_option maxRecDepth 20000 in
theorem gX5_row_X5_refused : GoodIn wsX5_row (wsV RX5 124 RX5 yX5_refused wsX5_refused) := goodIn_app (goodIn_of _ (by decide +kernel)) ggX5_row_X5_refused
set_option maxRecDepth 20000 in
theorem ggX5_row_X5_findGroups : GoodIn wsX5_row wsX5_findGroups := goodIn_r _ [16, 1, 17, 18, 19, 20, 21, 22, 23, 24, 25, 26, 27, 28, 29, 30, 31, 32, 33, 34, 35, 36, 37, 38, 39, 40, 41, 42, 43, 44, 45, 46, 47, 48, 49, 50, 51, 52, 53] (by decide +kernel) (by decide +kernel)
set_option maxRecDepth 20000 in
theorem gX5_row_X5_findGroups : GoodIn wsX5_row (wsV RX5 139 RX5 yX5_findGroups wsX5_findGroups) := goodIn_app (goodIn_of _ (by decide +kernel)) ggX5_row_X5_findGroups
set_option maxRecDepth 20000 in
theorem ggX5_jobs_X5_isTask : GoodIn wsX5_jobs wsX5_isTask := goodIn_r _ [9, 10, 19, 20, 21, 22, 23, 24, 25, 26, 27, 28, 29, 30, 31, 32, 33, 34, 35, 36, 37, 38, 39, 40, 41, 42, 43, 44, 45, 46, 47, 48, 49, 50, 51, 52] (by decide +kernel) (by decide +kernel)
set_option maxRecDepth 20000 in
theorem gX5_jobs_X5_isTask : GoodIn wsX5_jobs (wsV RX5 108 RX5 yX5_isTask wsX5_isTask) := goodIn_app (goodIn_of _ (by decide +kernel)) ggX5_jobs_X5_isTask
set_option maxRecDepth 20000 in
theorem ggX5_jobs_X5_within : GoodIn wsX5_jobs wsX5_within := goodIn_r _ [13] (by decide +kernel) (by decide +kernel)
set_option maxRecDepth 20000 in
theorem gX5_jobs_X5_within : GoodIn wsX5_jobs (va_wsS RX5 112 yX5_within wsX5_within) := goodIn_app (goodIn_of _ (by decide +kernel)) ggX5_jobs_X5_within
set_option maxRecDepth 20000 in
theorem ggX5_jobs_X5_refused : GoodIn wsX5_jobs wsX5_refused := goodIn_r _ [17, 18, 19, 20, 21, 22, 23, 24, 25, 26, 27, 28, 29, 30, 31, 32, 33, 34, 35, 36, 37, 38, 39, 40, 41, 42, 43, 44, 45, 46, 47, 48, 49, 50, 51, 52] (by decide +kernel) (by decide +kernel)
set_option maxRecDepth 20000 in
theorem gX5_jobs_X5_refused : GoodIn wsX5_jobs (wsV RX5 124 RX5 yX5_refused wsX5_refused) := goodIn_app (goodIn_of _ (by decide +kernel)) ggX5_jobs_X5_refused
set_option maxRecDepth 20000 in
theorem ggX5_spun_X5_isRequest : GoodIn wsX5_spun wsX5_isRequest := goodIn_r _ [6, 7, 8, 9, 10, 5, 11, 12, 18, 19, 20, 21, 22, 23, 24, 25, 26, 27, 28, 29, 30, 31, 32, 33, 34, 35, 36, 37, 38, 39, 40, 41, 42, 43, 44, 45, 46, 47, 48, 49, 50, 51] (by decide +kernel) (by decide +kernel)
set_option maxRecDepth 20000 in
theorem gX5_spun_X5_isRequest : GoodIn wsX5_spun (wsV RX5 132 RX5 yX5_isRequest wsX5_isRequest) := goodIn_app (goodIn_of _ (by decide +kernel)) ggX5_spun_X5_isRequest
set_option maxRecDepth 20000 in
theorem ggX5_spun_X5_refused : GoodIn wsX5_spun wsX5_refused := goodIn_r _ [16, 17, 18, 19, 20, 21, 22, 23, 24, 25, 26, 27, 28, 29, 30, 31, 32, 33, 34, 35, 36, 37, 38, 39, 40, 41, 42, 43, 44, 45, 46, 47, 48, 49, 50, 51] (by decide +kernel) (by decide +kernel)
set_option maxRecDepth 20000 in
theorem gX5_spun_X5_refused : GoodIn wsX5_spun (wsV RX5 124 RX5 yX5_refused wsX5_refused) := goodIn_app (goodIn_of _ (by decide +kernel)) ggX5_spun_X5_refused
end
section
theorem zz_try : 1 + 1 = 2 := rfl
end
