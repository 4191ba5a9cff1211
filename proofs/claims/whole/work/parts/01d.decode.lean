theorem dX4_tick_38 : decode cX4_tick 38 = .ok (.ifCond .le 53, 3) := by decide +kernel
theorem dX4_tick_41 : decode cX4_tick 41 = .ok (.aload_n 0, 1) := by decide +kernel
theorem dX4_tick_42 : decode cX4_tick 42 = .ok (.invokevirtual 148, 3) := by decide +kernel
theorem dX4_tick_45 : decode cX4_tick 45 = .ok (.aload_n 0, 1) := by decide +kernel
theorem dX4_tick_46 : decode cX4_tick 46 = .ok (.invokevirtual 151, 3) := by decide +kernel
theorem dX4_tick_49 : decode cX4_tick 49 = .ok (.iconst 1, 1) := by decide +kernel
theorem dX4_tick_50 : decode cX4_tick 50 = .ok (.iload_n 3, 1) := by decide +kernel
theorem dX4_tick_51 : decode cX4_tick 51 = .ok (.aload_n 0, 1) := by decide +kernel
theorem dX4_tick_52 : decode cX4_tick 52 = .ok (.invokevirtual 154, 3) := by decide +kernel
theorem dX4_tick_55 : decode cX4_tick 55 = .ok (.invokestatic 158, 3) := by decide +kernel
theorem dX4_tick_58 : decode cX4_tick 58 = .ok (.invokestatic 164, 3) := by decide +kernel
theorem dX4_tick_61 : decode cX4_tick 61 = .ok (.istore 4, 2) := by decide +kernel
theorem dX4_tick_63 : decode cX4_tick 63 = .ok (.aload_n 0, 1) := by decide +kernel
theorem dX4_tick_64 : decode cX4_tick 64 = .ok (.dup, 1) := by decide +kernel
theorem dX4_tick_65 : decode cX4_tick 65 = .ok (.getfield 113, 3) := by decide +kernel
theorem dX4_tick_68 : decode cX4_tick 68 = .ok (.iload 4, 2) := by decide +kernel
theorem dX4_tick_70 : decode cX4_tick 70 = .ok (.iadd, 1) := by decide +kernel
theorem dX4_tick_71 : decode cX4_tick 71 = .ok (.putfield 113, 3) := by decide +kernel
theorem dX4_tick_74 : decode cX4_tick 74 = .ok (.iload_n 2, 1) := by decide +kernel
theorem dX4_tick_75 : decode cX4_tick 75 = .ok (.aload_n 0, 1) := by decide +kernel
theorem dX4_tick_76 : decode cX4_tick 76 = .ok (.iload 4, 2) := by decide +kernel
theorem dX4_tick_78 : decode cX4_tick 78 = .ok (.invokevirtual 167, 3) := by decide +kernel
theorem dX4_tick_81 : decode cX4_tick 81 = .ok (.iadd, 1) := by decide +kernel
theorem dX4_tick_82 : decode cX4_tick 82 = .ok (.istore_n 2, 1) := by decide +kernel
theorem dX4_tick_83 : decode cX4_tick 83 = .ok (.iload_n 3, 1) := by decide +kernel
theorem dX4_tick_84 : decode cX4_tick 84 = .ok (.iload 4, 2) := by decide +kernel
theorem dX4_tick_86 : decode cX4_tick 86 = .ok (.isub, 1) := by decide +kernel
theorem dX4_tick_87 : decode cX4_tick 87 = .ok (.istore_n 3, 1) := by decide +kernel
theorem dX4_tick_88 : decode cX4_tick 88 = .ok (.goto (-51), 3) := by decide +kernel
theorem dX4_tick_91 : decode cX4_tick 91 = .ok (.iload_n 2, 1) := by decide +kernel
theorem dX4_tick_92 : decode cX4_tick 92 = .ok (.ireturn, 1) := by decide +kernel
theorem dX4_core_0 : decode cX4_core 0 = .ok (.iload_n 1, 1) := by decide +kernel
theorem dX4_core_1 : decode cX4_core 1 = .ok (.iconst 0, 1) := by decide +kernel
theorem dX4_core_2 : decode cX4_core 2 = .ok (.iconst 3, 1) := by decide +kernel
theorem dX4_core_3 : decode cX4_core 3 = .ok (.invokestatic 44, 3) := by decide +kernel
theorem dX4_core_6 : decode cX4_core 6 = .ok (.ifCond .ne 11, 3) := by decide +kernel
theorem dX4_core_9 : decode cX4_core 9 = .ok (.new 48, 3) := by decide +kernel
theorem dX4_core_12 : decode cX4_core 12 = .ok (.dup, 1) := by decide +kernel
theorem dX4_core_13 : decode cX4_core 13 = .ok (.invokespecial 50, 3) := by decide +kernel
theorem dX4_core_16 : decode cX4_core 16 = .ok (.athrow, 1) := by decide +kernel
theorem dX4_core_17 : decode cX4_core 17 = .ok (.iload_n 2, 1) := by decide +kernel
theorem dX4_core_18 : decode cX4_core 18 = .ok (.iconst 0, 1) := by decide +kernel
theorem dX4_core_19 : decode cX4_core 19 = .ok (.iconst 1, 1) := by decide +kernel
theorem dX4_core_20 : decode cX4_core 20 = .ok (.invokestatic 44, 3) := by decide +kernel
theorem dX4_core_23 : decode cX4_core 23 = .ok (.ifCond .ne 11, 3) := by decide +kernel
theorem dX4_core_26 : decode cX4_core 26 = .ok (.new 65, 3) := by decide +kernel
theorem dX4_core_29 : decode cX4_core 29 = .ok (.dup, 1) := by decide +kernel
theorem dX4_core_30 : decode cX4_core 30 = .ok (.invokespecial 67, 3) := by decide +kernel
theorem dX4_core_33 : decode cX4_core 33 = .ok (.athrow, 1) := by decide +kernel
theorem dX4_core_34 : decode cX4_core 34 = .ok (.iload_n 2, 1) := by decide +kernel
theorem dX4_core_35 : decode cX4_core 35 = .ok (.ifCond .ne 12, 3) := by decide +kernel
theorem dX4_core_38 : decode cX4_core 38 = .ok (.aload_n 0, 1) := by decide +kernel
theorem dX4_core_39 : decode cX4_core 39 = .ok (.getfield 30, 3) := by decide +kernel
theorem dX4_core_42 : decode cX4_core 42 = .ok (.iload_n 1, 1) := by decide +kernel
theorem dX4_core_43 : decode cX4_core 43 = .ok (.iaload, 1) := by decide +kernel
theorem dX4_core_44 : decode cX4_core 44 = .ok (.goto 9, 3) := by decide +kernel
theorem dX4_core_47 : decode cX4_core 47 = .ok (.aload_n 0, 1) := by decide +kernel
theorem dX4_core_48 : decode cX4_core 48 = .ok (.getfield 33, 3) := by decide +kernel
theorem dX4_core_51 : decode cX4_core 51 = .ok (.iload_n 1, 1) := by decide +kernel
theorem dX4_core_52 : decode cX4_core 52 = .ok (.iaload, 1) := by decide +kernel
theorem dX4_core_53 : decode cX4_core 53 = .ok (.ireturn, 1) := by decide +kernel
theorem dX4_row_0 : decode cX4_row 0 = .ok (.iload_n 1, 1) := by decide +kernel
theorem dX4_row_1 : decode cX4_row 1 = .ok (.iconst 0, 1) := by decide +kernel
theorem dX4_row_2 : decode cX4_row 2 = .ok (.bipush 7, 2) := by decide +kernel
theorem dX4_row_4 : decode cX4_row 4 = .ok (.invokestatic 44, 3) := by decide +kernel
theorem dX4_row_7 : decode cX4_row 7 = .ok (.ifCond .ne 11, 3) := by decide +kernel
theorem dX4_row_10 : decode cX4_row 10 = .ok (.new 48, 3) := by decide +kernel
theorem dX4_row_13 : decode cX4_row 13 = .ok (.dup, 1) := by decide +kernel
theorem dX4_row_14 : decode cX4_row 14 = .ok (.invokespecial 50, 3) := by decide +kernel
theorem dX4_row_17 : decode cX4_row 17 = .ok (.athrow, 1) := by decide +kernel
theorem dX4_row_18 : decode cX4_row 18 = .ok (.aload_n 0, 1) := by decide +kernel
theorem dX4_row_19 : decode cX4_row 19 = .ok (.iload_n 1, 1) := by decide +kernel
theorem dX4_row_20 : decode cX4_row 20 = .ok (.invokevirtual 171, 3) := by decide +kernel
theorem dX4_row_23 : decode cX4_row 23 = .ok (.iload_n 2, 1) := by decide +kernel
theorem dX4_row_24 : decode cX4_row 24 = .ok (.invokevirtual 175, 3) := by decide +kernel
theorem dX4_row_27 : decode cX4_row 27 = .ok (.ireturn, 1) := by decide +kernel
theorem dX4_jobs_0 : decode cX4_jobs 0 = .ok (.aload_n 0, 1) := by decide +kernel
theorem dX4_jobs_1 : decode cX4_jobs 1 = .ok (.iload_n 1, 1) := by decide +kernel
theorem dX4_jobs_2 : decode cX4_jobs 2 = .ok (.invokevirtual 75, 3) := by decide +kernel
theorem dX4_jobs_5 : decode cX4_jobs 5 = .ok (.getfield 119, 3) := by decide +kernel
theorem dX4_jobs_8 : decode cX4_jobs 8 = .ok (.astore_n 3, 1) := by decide +kernel
theorem dX4_jobs_9 : decode cX4_jobs 9 = .ok (.iload_n 2, 1) := by decide +kernel
theorem dX4_jobs_10 : decode cX4_jobs 10 = .ok (.tableswitch 58 0 3 #[30, 35, 40, 45], 30) := by decide +kernel
theorem dX4_jobs_40 : decode cX4_jobs 40 = .ok (.aload_n 3, 1) := by decide +kernel
theorem dX4_jobs_41 : decode cX4_jobs 41 = .ok (.getfield 178, 3) := by decide +kernel
theorem dX4_jobs_44 : decode cX4_jobs 44 = .ok (.ireturn, 1) := by decide +kernel
theorem dX4_jobs_45 : decode cX4_jobs 45 = .ok (.aload_n 3, 1) := by decide +kernel
theorem dX4_jobs_46 : decode cX4_jobs 46 = .ok (.getfield 181, 3) := by decide +kernel
theorem dX4_jobs_49 : decode cX4_jobs 49 = .ok (.ireturn, 1) := by decide +kernel
theorem dX4_jobs_50 : decode cX4_jobs 50 = .ok (.aload_n 3, 1) := by decide +kernel
theorem dX4_jobs_51 : decode cX4_jobs 51 = .ok (.getfield 184, 3) := by decide +kernel
theorem dX4_jobs_54 : decode cX4_jobs 54 = .ok (.ireturn, 1) := by decide +kernel
theorem dX4_jobs_55 : decode cX4_jobs 55 = .ok (.aload_n 3, 1) := by decide +kernel
theorem dX4_jobs_56 : decode cX4_jobs 56 = .ok (.getfield 187, 3) := by decide +kernel
theorem dX4_jobs_59 : decode cX4_jobs 59 = .ok (.ifCond .eq 7, 3) := by decide +kernel
theorem dX4_jobs_62 : decode cX4_jobs 62 = .ok (.iconst 1, 1) := by decide +kernel
theorem dX4_jobs_63 : decode cX4_jobs 63 = .ok (.goto 4, 3) := by decide +kernel
theorem dX4_jobs_66 : decode cX4_jobs 66 = .ok (.iconst 0, 1) := by decide +kernel
theorem dX4_jobs_67 : decode cX4_jobs 67 = .ok (.ireturn, 1) := by decide +kernel
theorem dX4_jobs_68 : decode cX4_jobs 68 = .ok (.new 65, 3) := by decide +kernel
theorem dX4_jobs_71 : decode cX4_jobs 71 = .ok (.dup, 1) := by decide +kernel
theorem dX4_jobs_72 : decode cX4_jobs 72 = .ok (.invokespecial 67, 3) := by decide +kernel
theorem dX4_jobs_75 : decode cX4_jobs 75 = .ok (.athrow, 1) := by decide +kernel
theorem dX4_spun_0 : decode cX4_spun 0 = .ok (.aload_n 0, 1) := by decide +kernel
theorem dX4_spun_1 : decode cX4_spun 1 = .ok (.iload_n 1, 1) := by decide +kernel
theorem dX4_spun_2 : decode cX4_spun 2 = .ok (.invokevirtual 75, 3) := by decide +kernel
theorem dX4_spun_5 : decode cX4_spun 5 = .ok (.iload_n 2, 1) := by decide +kernel
theorem dX4_spun_6 : decode cX4_spun 6 = .ok (.invokestatic 90, 3) := by decide +kernel
theorem dX4_spun_9 : decode cX4_spun 9 = .ok (.getfield 190, 3) := by decide +kernel
theorem dX4_spun_12 : decode cX4_spun 12 = .ok (.ireturn, 1) := by decide +kernel
theorem dX4_late_0 : decode cX4_late 0 = .ok (.iconst 0, 1) := by decide +kernel
theorem dX4_late_1 : decode cX4_late 1 = .ok (.istore_n 1, 1) := by decide +kernel
theorem dX4_late_2 : decode cX4_late 2 = .ok (.aload_n 0, 1) := by decide +kernel
theorem dX4_late_3 : decode cX4_late 3 = .ok (.getfield 11, 3) := by decide +kernel
theorem dX4_late_6 : decode cX4_late 6 = .ok (.astore_n 2, 1) := by decide +kernel
theorem dX4_late_7 : decode cX4_late 7 = .ok (.aload_n 2, 1) := by decide +kernel
theorem dX4_late_8 : decode cX4_late 8 = .ok (.arraylength, 1) := by decide +kernel
theorem dX4_late_9 : decode cX4_late 9 = .ok (.istore_n 3, 1) := by decide +kernel
theorem dX4_late_10 : decode cX4_late 10 = .ok (.iconst 0, 1) := by decide +kernel
theorem dX4_late_11 : decode cX4_late 11 = .ok (.istore 4, 2) := by decide +kernel
theorem dX4_late_13 : decode cX4_late 13 = .ok (.iload 4, 2) := by decide +kernel
theorem dX4_late_15 : decode cX4_late 15 = .ok (.iload_n 3, 1) := by decide +kernel
theorem dX4_late_16 : decode cX4_late 16 = .ok (.if_icmp .ge 61, 3) := by decide +kernel
theorem dX4_late_19 : decode cX4_late 19 = .ok (.aload_n 2, 1) := by decide +kernel
theorem dX4_late_20 : decode cX4_late 20 = .ok (.iload 4, 2) := by decide +kernel
theorem dX4_late_22 : decode cX4_late 22 = .ok (.aaload, 1) := by decide +kernel
theorem dX4_late_23 : decode cX4_late 23 = .ok (.astore 5, 2) := by decide +kernel
theorem dX4_late_25 : decode cX4_late 25 = .ok (.iload_n 1, 1) := by decide +kernel
theorem dX4_late_26 : decode cX4_late 26 = .ok (.aload 5, 2) := by decide +kernel
theorem dX4_late_28 : decode cX4_late 28 = .ok (.getfield 119, 3) := by decide +kernel
theorem dX4_late_31 : decode cX4_late 31 = .ok (.getfield 193, 3) := by decide +kernel
theorem dX4_late_34 : decode cX4_late 34 = .ok (.iadd, 1) := by decide +kernel
theorem dX4_late_35 : decode cX4_late 35 = .ok (.istore_n 1, 1) := by decide +kernel
theorem dX4_late_36 : decode cX4_late 36 = .ok (.aload 5, 2) := by decide +kernel
theorem dX4_late_38 : decode cX4_late 38 = .ok (.getfield 119, 3) := by decide +kernel
theorem dX4_late_41 : decode cX4_late 41 = .ok (.getfield 187, 3) := by decide +kernel
theorem dX4_late_44 : decode cX4_late 44 = .ok (.ifCond .eq 27, 3) := by decide +kernel
theorem dX4_late_47 : decode cX4_late 47 = .ok (.aload_n 0, 1) := by decide +kernel
theorem dX4_late_48 : decode cX4_late 48 = .ok (.getfield 113, 3) := by decide +kernel
theorem dX4_late_51 : decode cX4_late 51 = .ok (.aload 5, 2) := by decide +kernel
theorem dX4_late_53 : decode cX4_late 53 = .ok (.getfield 119, 3) := by decide +kernel
theorem dX4_late_56 : decode cX4_late 56 = .ok (.getfield 128, 3) := by decide +kernel
theorem dX4_late_59 : decode cX4_late 59 = .ok (.isub, 1) := by decide +kernel
theorem dX4_late_60 : decode cX4_late 60 = .ok (.aload 5, 2) := by decide +kernel
theorem dX4_late_62 : decode cX4_late 62 = .ok (.getfield 196, 3) := by decide +kernel
theorem dX4_late_65 : decode cX4_late 65 = .ok (.if_icmp .le 6, 3) := by decide +kernel
theorem dX4_late_68 : decode cX4_late 68 = .ok (.iinc 1 1, 3) := by decide +kernel
theorem dX4_late_71 : decode cX4_late 71 = .ok (.iinc 4 1, 3) := by decide +kernel
theorem dX4_late_74 : decode cX4_late 74 = .ok (.goto (-61), 3) := by decide +kernel
theorem dX4_late_77 : decode cX4_late 77 = .ok (.iload_n 1, 1) := by decide +kernel
theorem dX4_late_78 : decode cX4_late 78 = .ok (.ireturn, 1) := by decide +kernel
theorem dX4_isWithin_0 : decode cX4_isWithin 0 = .ok (.iload_n 0, 1) := by decide +kernel
theorem dX4_isWithin_1 : decode cX4_isWithin 1 = .ok (.iload_n 1, 1) := by decide +kernel
theorem dX4_isWithin_2 : decode cX4_isWithin 2 = .ok (.if_icmp .lt 12, 3) := by decide +kernel
theorem dX4_isWithin_5 : decode cX4_isWithin 5 = .ok (.iload_n 0, 1) := by decide +kernel
theorem dX4_isWithin_6 : decode cX4_isWithin 6 = .ok (.iload_n 2, 1) := by decide +kernel
theorem dX4_isWithin_7 : decode cX4_isWithin 7 = .ok (.if_icmp .gt 7, 3) := by decide +kernel
theorem dX4_isWithin_10 : decode cX4_isWithin 10 = .ok (.iconst 1, 1) := by decide +kernel
theorem dX4_isWithin_11 : decode cX4_isWithin 11 = .ok (.goto 4, 3) := by decide +kernel
theorem dX4_isWithin_14 : decode cX4_isWithin 14 = .ok (.iconst 0, 1) := by decide +kernel
theorem dX4_isWithin_15 : decode cX4_isWithin 15 = .ok (.ireturn, 1) := by decide +kernel
theorem dX4_taskAt_0 : decode cX4_taskAt 0 = .ok (.iload_n 1, 1) := by decide +kernel
theorem dX4_taskAt_1 : decode cX4_taskAt 1 = .ok (.iconst 0, 1) := by decide +kernel
theorem dX4_taskAt_2 : decode cX4_taskAt 2 = .ok (.bipush 15, 2) := by decide +kernel
theorem dX4_taskAt_4 : decode cX4_taskAt 4 = .ok (.invokestatic 44, 3) := by decide +kernel
theorem dX4_taskAt_7 : decode cX4_taskAt 7 = .ok (.ifCond .eq 15, 3) := by decide +kernel
theorem dX4_taskAt_10 : decode cX4_taskAt 10 = .ok (.aload_n 0, 1) := by decide +kernel
theorem dX4_taskAt_11 : decode cX4_taskAt 11 = .ok (.getfield 11, 3) := by decide +kernel
theorem dX4_taskAt_14 : decode cX4_taskAt 14 = .ok (.iload_n 1, 1) := by decide +kernel
theorem dX4_taskAt_15 : decode cX4_taskAt 15 = .ok (.aaload, 1) := by decide +kernel
theorem dX4_taskAt_16 : decode cX4_taskAt 16 = .ok (.getfield 55, 3) := by decide +kernel
theorem dX4_taskAt_19 : decode cX4_taskAt 19 = .ok (.ifCond .ne 11, 3) := by decide +kernel
theorem dX4_taskAt_22 : decode cX4_taskAt 22 = .ok (.new 48, 3) := by decide +kernel
theorem dX4_taskAt_25 : decode cX4_taskAt 25 = .ok (.dup, 1) := by decide +kernel
theorem dX4_taskAt_26 : decode cX4_taskAt 26 = .ok (.invokespecial 50, 3) := by decide +kernel
theorem dX4_taskAt_29 : decode cX4_taskAt 29 = .ok (.athrow, 1) := by decide +kernel
theorem dX4_taskAt_30 : decode cX4_taskAt 30 = .ok (.aload_n 0, 1) := by decide +kernel
theorem dX4_taskAt_31 : decode cX4_taskAt 31 = .ok (.getfield 11, 3) := by decide +kernel
theorem dX4_taskAt_34 : decode cX4_taskAt 34 = .ok (.iload_n 1, 1) := by decide +kernel
theorem dX4_taskAt_35 : decode cX4_taskAt 35 = .ok (.aaload, 1) := by decide +kernel
theorem dX4_taskAt_36 : decode cX4_taskAt 36 = .ok (.areturn, 1) := by decide +kernel
theorem dX4_requestAt_0 : decode cX4_requestAt 0 = .ok (.iload_n 1, 1) := by decide +kernel
theorem dX4_requestAt_1 : decode cX4_requestAt 1 = .ok (.iconst 0, 1) := by decide +kernel
theorem dX4_requestAt_2 : decode cX4_requestAt 2 = .ok (.aload_n 0, 1) := by decide +kernel
theorem dX4_requestAt_3 : decode cX4_requestAt 3 = .ok (.getfield 79, 3) := by decide +kernel
theorem dX4_requestAt_6 : decode cX4_requestAt 6 = .ok (.iconst 1, 1) := by decide +kernel
theorem dX4_requestAt_7 : decode cX4_requestAt 7 = .ok (.isub, 1) := by decide +kernel
theorem dX4_requestAt_8 : decode cX4_requestAt 8 = .ok (.invokestatic 44, 3) := by decide +kernel
theorem dX4_requestAt_11 : decode cX4_requestAt 11 = .ok (.ifCond .ne 11, 3) := by decide +kernel
theorem dX4_requestAt_14 : decode cX4_requestAt 14 = .ok (.new 48, 3) := by decide +kernel
theorem dX4_requestAt_17 : decode cX4_requestAt 17 = .ok (.dup, 1) := by decide +kernel
theorem dX4_requestAt_18 : decode cX4_requestAt 18 = .ok (.invokespecial 50, 3) := by decide +kernel
theorem dX4_requestAt_21 : decode cX4_requestAt 21 = .ok (.athrow, 1) := by decide +kernel
theorem dX4_requestAt_22 : decode cX4_requestAt 22 = .ok (.aload_n 0, 1) := by decide +kernel
theorem dX4_requestAt_23 : decode cX4_requestAt 23 = .ok (.getfield 199, 3) := by decide +kernel
theorem dX4_requestAt_26 : decode cX4_requestAt 26 = .ok (.iload_n 1, 1) := by decide +kernel
theorem dX4_requestAt_27 : decode cX4_requestAt 27 = .ok (.aaload, 1) := by decide +kernel
theorem dX4_requestAt_28 : decode cX4_requestAt 28 = .ok (.areturn, 1) := by decide +kernel
theorem dX4_rowOf_0 : decode cX4_rowOf 0 = .ok (.aload_n 0, 1) := by decide +kernel
theorem dX4_rowOf_1 : decode cX4_rowOf 1 = .ok (.getfield 17, 3) := by decide +kernel
theorem dX4_rowOf_4 : decode cX4_rowOf 4 = .ok (.aload_n 0, 1) := by decide +kernel
theorem dX4_rowOf_5 : decode cX4_rowOf 5 = .ok (.getfield 21, 3) := by decide +kernel
theorem dX4_rowOf_8 : decode cX4_rowOf 8 = .ok (.iload_n 1, 1) := by decide +kernel
theorem dX4_rowOf_9 : decode cX4_rowOf 9 = .ok (.iaload, 1) := by decide +kernel
theorem dX4_rowOf_10 : decode cX4_rowOf 10 = .ok (.aaload, 1) := by decide +kernel
theorem dX4_rowOf_11 : decode cX4_rowOf 11 = .ok (.areturn, 1) := by decide +kernel
theorem dX4_isPriorityTaken_0 : decode cX4_isPriorityTaken 0 = .ok (.aload_n 0, 1) := by decide +kernel
theorem dX4_isPriorityTaken_1 : decode cX4_isPriorityTaken 1 = .ok (.getfield 11, 3) := by decide +kernel
theorem dX4_isPriorityTaken_4 : decode cX4_isPriorityTaken 4 = .ok (.astore_n 3, 1) := by decide +kernel
theorem dX4_isPriorityTaken_5 : decode cX4_isPriorityTaken 5 = .ok (.aload_n 3, 1) := by decide +kernel
theorem dX4_isPriorityTaken_6 : decode cX4_isPriorityTaken 6 = .ok (.arraylength, 1) := by decide +kernel
theorem dX4_isPriorityTaken_7 : decode cX4_isPriorityTaken 7 = .ok (.istore 4, 2) := by decide +kernel
theorem dX4_isPriorityTaken_9 : decode cX4_isPriorityTaken 9 = .ok (.iconst 0, 1) := by decide +kernel
theorem dX4_isPriorityTaken_10 : decode cX4_isPriorityTaken 10 = .ok (.istore 5, 2) := by decide +kernel
theorem dX4_isPriorityTaken_12 : decode cX4_isPriorityTaken 12 = .ok (.iload 5, 2) := by decide +kernel
theorem dX4_isPriorityTaken_14 : decode cX4_isPriorityTaken 14 = .ok (.iload 4, 2) := by decide +kernel
theorem dX4_isPriorityTaken_16 : decode cX4_isPriorityTaken 16 = .ok (.if_icmp .ge 35, 3) := by decide +kernel
theorem dX4_isPriorityTaken_19 : decode cX4_isPriorityTaken 19 = .ok (.aload_n 3, 1) := by decide +kernel
theorem dX4_isPriorityTaken_20 : decode cX4_isPriorityTaken 20 = .ok (.iload 5, 2) := by decide +kernel
theorem dX4_isPriorityTaken_22 : decode cX4_isPriorityTaken 22 = .ok (.aaload, 1) := by decide +kernel
theorem dX4_isPriorityTaken_23 : decode cX4_isPriorityTaken 23 = .ok (.astore 6, 2) := by decide +kernel
theorem dX4_isPriorityTaken_25 : decode cX4_isPriorityTaken 25 = .ok (.aload 6, 2) := by decide +kernel
theorem dX4_isPriorityTaken_27 : decode cX4_isPriorityTaken 27 = .ok (.iload_n 1, 1) := by decide +kernel
theorem dX4_isPriorityTaken_28 : decode cX4_isPriorityTaken 28 = .ok (.invokevirtual 203, 3) := by decide +kernel
theorem dX4_isPriorityTaken_31 : decode cX4_isPriorityTaken 31 = .ok (.ifCond .eq 14, 3) := by decide +kernel
theorem dX4_isPriorityTaken_34 : decode cX4_isPriorityTaken 34 = .ok (.aload 6, 2) := by decide +kernel
theorem dX4_isPriorityTaken_36 : decode cX4_isPriorityTaken 36 = .ok (.getfield 207, 3) := by decide +kernel
theorem dX4_isPriorityTaken_39 : decode cX4_isPriorityTaken 39 = .ok (.iload_n 2, 1) := by decide +kernel
theorem dX4_isPriorityTaken_40 : decode cX4_isPriorityTaken 40 = .ok (.if_icmp .ne 5, 3) := by decide +kernel
theorem dX4_isPriorityTaken_43 : decode cX4_isPriorityTaken 43 = .ok (.iconst 1, 1) := by decide +kernel
theorem dX4_isPriorityTaken_44 : decode cX4_isPriorityTaken 44 = .ok (.ireturn, 1) := by decide +kernel
theorem dX4_isPriorityTaken_45 : decode cX4_isPriorityTaken 45 = .ok (.iinc 5 1, 3) := by decide +kernel
theorem dX4_isPriorityTaken_48 : decode cX4_isPriorityTaken 48 = .ok (.goto (-36), 3) := by decide +kernel
theorem dX4_isPriorityTaken_51 : decode cX4_isPriorityTaken 51 = .ok (.iconst 0, 1) := by decide +kernel
theorem dX4_isPriorityTaken_52 : decode cX4_isPriorityTaken 52 = .ok (.ireturn, 1) := by decide +kernel
theorem dX4_isAnyJobOpen_0 : decode cX4_isAnyJobOpen 0 = .ok (.aload_n 0, 1) := by decide +kernel
theorem dX4_isAnyJobOpen_1 : decode cX4_isAnyJobOpen 1 = .ok (.getfield 11, 3) := by decide +kernel
theorem dX4_isAnyJobOpen_4 : decode cX4_isAnyJobOpen 4 = .ok (.astore_n 1, 1) := by decide +kernel
theorem dX4_isAnyJobOpen_5 : decode cX4_isAnyJobOpen 5 = .ok (.aload_n 1, 1) := by decide +kernel
theorem dX4_isAnyJobOpen_6 : decode cX4_isAnyJobOpen 6 = .ok (.arraylength, 1) := by decide +kernel
theorem dX4_isAnyJobOpen_7 : decode cX4_isAnyJobOpen 7 = .ok (.istore_n 2, 1) := by decide +kernel
theorem dX4_isAnyJobOpen_8 : decode cX4_isAnyJobOpen 8 = .ok (.iconst 0, 1) := by decide +kernel
theorem dX4_isAnyJobOpen_9 : decode cX4_isAnyJobOpen 9 = .ok (.istore_n 3, 1) := by decide +kernel
theorem dX4_isAnyJobOpen_10 : decode cX4_isAnyJobOpen 10 = .ok (.iload_n 3, 1) := by decide +kernel
theorem dX4_isAnyJobOpen_11 : decode cX4_isAnyJobOpen 11 = .ok (.iload_n 2, 1) := by decide +kernel
theorem dX4_isAnyJobOpen_12 : decode cX4_isAnyJobOpen 12 = .ok (.if_icmp .ge 27, 3) := by decide +kernel
theorem dX4_isAnyJobOpen_15 : decode cX4_isAnyJobOpen 15 = .ok (.aload_n 1, 1) := by decide +kernel
theorem dX4_isAnyJobOpen_16 : decode cX4_isAnyJobOpen 16 = .ok (.iload_n 3, 1) := by decide +kernel
theorem dX4_isAnyJobOpen_17 : decode cX4_isAnyJobOpen 17 = .ok (.aaload, 1) := by decide +kernel
theorem dX4_isAnyJobOpen_18 : decode cX4_isAnyJobOpen 18 = .ok (.astore 4, 2) := by decide +kernel
theorem dX4_isAnyJobOpen_20 : decode cX4_isAnyJobOpen 20 = .ok (.aload 4, 2) := by decide +kernel
theorem dX4_isAnyJobOpen_22 : decode cX4_isAnyJobOpen 22 = .ok (.getfield 119, 3) := by decide +kernel
theorem dX4_isAnyJobOpen_25 : decode cX4_isAnyJobOpen 25 = .ok (.getfield 187, 3) := by decide +kernel
theorem dX4_isAnyJobOpen_28 : decode cX4_isAnyJobOpen 28 = .ok (.ifCond .eq 5, 3) := by decide +kernel
theorem dX4_isAnyJobOpen_31 : decode cX4_isAnyJobOpen 31 = .ok (.iconst 1, 1) := by decide +kernel
theorem dX4_isAnyJobOpen_32 : decode cX4_isAnyJobOpen 32 = .ok (.ireturn, 1) := by decide +kernel
theorem dX4_isAnyJobOpen_33 : decode cX4_isAnyJobOpen 33 = .ok (.iinc 3 1, 3) := by decide +kernel
theorem dX4_isAnyJobOpen_36 : decode cX4_isAnyJobOpen 36 = .ok (.goto (-26), 3) := by decide +kernel
theorem dX4_isAnyJobOpen_39 : decode cX4_isAnyJobOpen 39 = .ok (.iconst 0, 1) := by decide +kernel
theorem dX4_isAnyJobOpen_40 : decode cX4_isAnyJobOpen 40 = .ok (.ireturn, 1) := by decide +kernel
theorem dX4_measure_0 : decode cX4_measure 0 = .ok (.aload_n 0, 1) := by decide +kernel
theorem dX4_measure_1 : decode cX4_measure 1 = .ok (.invokevirtual 210, 3) := by decide +kernel
theorem dX4_measure_4 : decode cX4_measure 4 = .ok (.aload_n 0, 1) := by decide +kernel
theorem dX4_measure_5 : decode cX4_measure 5 = .ok (.invokevirtual 213, 3) := by decide +kernel
theorem dX4_measure_8 : decode cX4_measure 8 = .ok (.aload_n 0, 1) := by decide +kernel
theorem dX4_measure_9 : decode cX4_measure 9 = .ok (.getfield 11, 3) := by decide +kernel
theorem dX4_measure_12 : decode cX4_measure 12 = .ok (.astore_n 1, 1) := by decide +kernel
theorem dX4_measure_13 : decode cX4_measure 13 = .ok (.aload_n 1, 1) := by decide +kernel
theorem dX4_measure_14 : decode cX4_measure 14 = .ok (.arraylength, 1) := by decide +kernel
theorem dX4_measure_15 : decode cX4_measure 15 = .ok (.istore_n 2, 1) := by decide +kernel
theorem dX4_measure_16 : decode cX4_measure 16 = .ok (.iconst 0, 1) := by decide +kernel
theorem dX4_measure_17 : decode cX4_measure 17 = .ok (.istore_n 3, 1) := by decide +kernel
theorem dX4_measure_18 : decode cX4_measure 18 = .ok (.iload_n 3, 1) := by decide +kernel
theorem dX4_measure_19 : decode cX4_measure 19 = .ok (.iload_n 2, 1) := by decide +kernel
theorem dX4_measure_20 : decode cX4_measure 20 = .ok (.if_icmp .ge 28, 3) := by decide +kernel
theorem dX4_measure_23 : decode cX4_measure 23 = .ok (.aload_n 1, 1) := by decide +kernel
theorem dX4_measure_24 : decode cX4_measure 24 = .ok (.iload_n 3, 1) := by decide +kernel
theorem dX4_measure_25 : decode cX4_measure 25 = .ok (.aaload, 1) := by decide +kernel
theorem dX4_measure_26 : decode cX4_measure 26 = .ok (.astore 4, 2) := by decide +kernel
theorem dX4_measure_28 : decode cX4_measure 28 = .ok (.aload 4, 2) := by decide +kernel
theorem dX4_measure_30 : decode cX4_measure 30 = .ok (.getfield 55, 3) := by decide +kernel
theorem dX4_measure_33 : decode cX4_measure 33 = .ok (.ifCond .eq 9, 3) := by decide +kernel
theorem dX4_measure_36 : decode cX4_measure 36 = .ok (.aload_n 0, 1) := by decide +kernel
theorem dX4_measure_37 : decode cX4_measure 37 = .ok (.aload 4, 2) := by decide +kernel
theorem dX4_measure_39 : decode cX4_measure 39 = .ok (.invokevirtual 216, 3) := by decide +kernel
theorem dX4_measure_42 : decode cX4_measure 42 = .ok (.iinc 3 1, 3) := by decide +kernel
theorem dX4_measure_45 : decode cX4_measure 45 = .ok (.goto (-27), 3) := by decide +kernel
theorem dX4_measure_48 : decode cX4_measure 48 = .ok (.return_, 1) := by decide +kernel
theorem dX4_formGroups_0 : decode cX4_formGroups 0 = .ok (.iconst 0, 1) := by decide +kernel
theorem dX4_formGroups_1 : decode cX4_formGroups 1 = .ok (.istore_n 1, 1) := by decide +kernel
theorem dX4_formGroups_2 : decode cX4_formGroups 2 = .ok (.iload_n 1, 1) := by decide +kernel
theorem dX4_formGroups_3 : decode cX4_formGroups 3 = .ok (.bipush 8, 2) := by decide +kernel
theorem dX4_formGroups_5 : decode cX4_formGroups 5 = .ok (.if_icmp .ge 16, 3) := by decide +kernel
theorem dX4_formGroups_8 : decode cX4_formGroups 8 = .ok (.aload_n 0, 1) := by decide +kernel
theorem dX4_formGroups_9 : decode cX4_formGroups 9 = .ok (.getfield 21, 3) := by decide +kernel
theorem dX4_formGroups_12 : decode cX4_formGroups 12 = .ok (.iload_n 1, 1) := by decide +kernel
theorem dX4_formGroups_13 : decode cX4_formGroups 13 = .ok (.iload_n 1, 1) := by decide +kernel
theorem dX4_formGroups_14 : decode cX4_formGroups 14 = .ok (.iastore, 1) := by decide +kernel
theorem dX4_formGroups_15 : decode cX4_formGroups 15 = .ok (.iinc 1 1, 3) := by decide +kernel
theorem dX4_formGroups_18 : decode cX4_formGroups 18 = .ok (.goto (-16), 3) := by decide +kernel
theorem dX4_formGroups_21 : decode cX4_formGroups 21 = .ok (.aload_n 0, 1) := by decide +kernel
theorem dX4_formGroups_22 : decode cX4_formGroups 22 = .ok (.getfield 11, 3) := by decide +kernel
theorem dX4_formGroups_25 : decode cX4_formGroups 25 = .ok (.astore_n 1, 1) := by decide +kernel
theorem dX4_formGroups_26 : decode cX4_formGroups 26 = .ok (.aload_n 1, 1) := by decide +kernel
theorem dX4_formGroups_27 : decode cX4_formGroups 27 = .ok (.arraylength, 1) := by decide +kernel
theorem dX4_formGroups_28 : decode cX4_formGroups 28 = .ok (.istore_n 2, 1) := by decide +kernel
theorem dX4_formGroups_29 : decode cX4_formGroups 29 = .ok (.iconst 0, 1) := by decide +kernel
theorem dX4_formGroups_30 : decode cX4_formGroups 30 = .ok (.istore_n 3, 1) := by decide +kernel
theorem dX4_formGroups_31 : decode cX4_formGroups 31 = .ok (.iload_n 3, 1) := by decide +kernel
theorem dX4_formGroups_32 : decode cX4_formGroups 32 = .ok (.iload_n 2, 1) := by decide +kernel
theorem dX4_formGroups_33 : decode cX4_formGroups 33 = .ok (.if_icmp .ge 82, 3) := by decide +kernel
theorem dX4_formGroups_36 : decode cX4_formGroups 36 = .ok (.aload_n 1, 1) := by decide +kernel
theorem dX4_formGroups_37 : decode cX4_formGroups 37 = .ok (.iload_n 3, 1) := by decide +kernel
theorem dX4_formGroups_38 : decode cX4_formGroups 38 = .ok (.aaload, 1) := by decide +kernel
theorem dX4_formGroups_39 : decode cX4_formGroups 39 = .ok (.astore 4, 2) := by decide +kernel
theorem dX4_formGroups_41 : decode cX4_formGroups 41 = .ok (.iconst 0, 1) := by decide +kernel
theorem dX4_formGroups_42 : decode cX4_formGroups 42 = .ok (.istore 5, 2) := by decide +kernel
theorem dX4_formGroups_44 : decode cX4_formGroups 44 = .ok (.aload 4, 2) := by decide +kernel
theorem dX4_formGroups_46 : decode cX4_formGroups 46 = .ok (.getfield 55, 3) := by decide +kernel
theorem dX4_formGroups_49 : decode cX4_formGroups 49 = .ok (.ifCond .eq 60, 3) := by decide +kernel
theorem dX4_formGroups_52 : decode cX4_formGroups 52 = .ok (.iload 5, 2) := by decide +kernel
theorem dX4_formGroups_54 : decode cX4_formGroups 54 = .ok (.aload 4, 2) := by decide +kernel
theorem dX4_formGroups_56 : decode cX4_formGroups 56 = .ok (.getfield 79, 3) := by decide +kernel
theorem dX4_formGroups_59 : decode cX4_formGroups 59 = .ok (.if_icmp .ge 50, 3) := by decide +kernel
theorem dX4_formGroups_62 : decode cX4_formGroups 62 = .ok (.aload 4, 2) := by decide +kernel
theorem dX4_formGroups_64 : decode cX4_formGroups 64 = .ok (.getfield 199, 3) := by decide +kernel
theorem dX4_formGroups_67 : decode cX4_formGroups 67 = .ok (.iload 5, 2) := by decide +kernel
theorem dX4_formGroups_69 : decode cX4_formGroups 69 = .ok (.aaload, 1) := by decide +kernel
theorem dX4_formGroups_70 : decode cX4_formGroups 70 = .ok (.astore 6, 2) := by decide +kernel
theorem dX4_formGroups_72 : decode cX4_formGroups 72 = .ok (.aload 6, 2) := by decide +kernel
theorem dX4_formGroups_74 : decode cX4_formGroups 74 = .ok (.invokevirtual 138, 3) := by decide +kernel
theorem dX4_formGroups_77 : decode cX4_formGroups 77 = .ok (.ifCond .ne 26, 3) := by decide +kernel
theorem dX4_formGroups_80 : decode cX4_formGroups 80 = .ok (.aload_n 0, 1) := by decide +kernel
theorem dX4_formGroups_81 : decode cX4_formGroups 81 = .ok (.aload 6, 2) := by decide +kernel
theorem dX4_formGroups_83 : decode cX4_formGroups 83 = .ok (.getfield 220, 3) := by decide +kernel
theorem dX4_formGroups_86 : decode cX4_formGroups 86 = .ok (.aload 4, 2) := by decide +kernel
theorem dX4_formGroups_88 : decode cX4_formGroups 88 = .ok (.getfield 199, 3) := by decide +kernel
theorem dX4_formGroups_91 : decode cX4_formGroups 91 = .ok (.aload 6, 2) := by decide +kernel
theorem dX4_formGroups_93 : decode cX4_formGroups 93 = .ok (.getfield 223, 3) := by decide +kernel
theorem dX4_formGroups_96 : decode cX4_formGroups 96 = .ok (.aaload, 1) := by decide +kernel
theorem dX4_formGroups_97 : decode cX4_formGroups 97 = .ok (.getfield 220, 3) := by decide +kernel
theorem dX4_formGroups_100 : decode cX4_formGroups 100 = .ok (.invokevirtual 226, 3) := by decide +kernel
theorem dX4_formGroups_103 : decode cX4_formGroups 103 = .ok (.iinc 5 1, 3) := by decide +kernel
theorem dX4_formGroups_106 : decode cX4_formGroups 106 = .ok (.goto (-62), 3) := by decide +kernel
theorem dX4_formGroups_109 : decode cX4_formGroups 109 = .ok (.iinc 3 1, 3) := by decide +kernel
theorem dX4_formGroups_112 : decode cX4_formGroups 112 = .ok (.goto (-81), 3) := by decide +kernel
theorem dX4_formGroups_115 : decode cX4_formGroups 115 = .ok (.return_, 1) := by decide +kernel
theorem dX4_joinGroups_0 : decode cX4_joinGroups 0 = .ok (.aload_n 0, 1) := by decide +kernel
theorem dX4_joinGroups_1 : decode cX4_joinGroups 1 = .ok (.getfield 21, 3) := by decide +kernel
theorem dX4_joinGroups_4 : decode cX4_joinGroups 4 = .ok (.iload_n 1, 1) := by decide +kernel
theorem dX4_joinGroups_5 : decode cX4_joinGroups 5 = .ok (.iaload, 1) := by decide +kernel
theorem dX4_joinGroups_6 : decode cX4_joinGroups 6 = .ok (.aload_n 0, 1) := by decide +kernel
theorem dX4_joinGroups_7 : decode cX4_joinGroups 7 = .ok (.getfield 21, 3) := by decide +kernel
theorem dX4_joinGroups_10 : decode cX4_joinGroups 10 = .ok (.iload_n 2, 1) := by decide +kernel
theorem dX4_joinGroups_11 : decode cX4_joinGroups 11 = .ok (.iaload, 1) := by decide +kernel
theorem dX4_joinGroups_12 : decode cX4_joinGroups 12 = .ok (.invokestatic 158, 3) := by decide +kernel
theorem dX4_joinGroups_15 : decode cX4_joinGroups 15 = .ok (.istore_n 3, 1) := by decide +kernel
theorem dX4_joinGroups_16 : decode cX4_joinGroups 16 = .ok (.aload_n 0, 1) := by decide +kernel
theorem dX4_joinGroups_17 : decode cX4_joinGroups 17 = .ok (.getfield 21, 3) := by decide +kernel
theorem dX4_joinGroups_20 : decode cX4_joinGroups 20 = .ok (.iload_n 1, 1) := by decide +kernel
theorem dX4_joinGroups_21 : decode cX4_joinGroups 21 = .ok (.iaload, 1) := by decide +kernel
theorem dX4_joinGroups_22 : decode cX4_joinGroups 22 = .ok (.aload_n 0, 1) := by decide +kernel
theorem dX4_joinGroups_23 : decode cX4_joinGroups 23 = .ok (.getfield 21, 3) := by decide +kernel
theorem dX4_joinGroups_26 : decode cX4_joinGroups 26 = .ok (.iload_n 2, 1) := by decide +kernel
theorem dX4_joinGroups_27 : decode cX4_joinGroups 27 = .ok (.iaload, 1) := by decide +kernel
theorem dX4_joinGroups_28 : decode cX4_joinGroups 28 = .ok (.invokestatic 164, 3) := by decide +kernel
theorem dX4_joinGroups_31 : decode cX4_joinGroups 31 = .ok (.istore 4, 2) := by decide +kernel
theorem dX4_joinGroups_33 : decode cX4_joinGroups 33 = .ok (.iconst 0, 1) := by decide +kernel
theorem dX4_joinGroups_34 : decode cX4_joinGroups 34 = .ok (.istore 5, 2) := by decide +kernel
theorem dX4_joinGroups_36 : decode cX4_joinGroups 36 = .ok (.iload 5, 2) := by decide +kernel
theorem dX4_joinGroups_38 : decode cX4_joinGroups 38 = .ok (.bipush 8, 2) := by decide +kernel
theorem dX4_joinGroups_40 : decode cX4_joinGroups 40 = .ok (.if_icmp .ge 29, 3) := by decide +kernel
theorem dX4_joinGroups_43 : decode cX4_joinGroups 43 = .ok (.aload_n 0, 1) := by decide +kernel
theorem dX4_joinGroups_44 : decode cX4_joinGroups 44 = .ok (.getfield 21, 3) := by decide +kernel
theorem dX4_joinGroups_47 : decode cX4_joinGroups 47 = .ok (.iload 5, 2) := by decide +kernel
theorem dX4_joinGroups_49 : decode cX4_joinGroups 49 = .ok (.iaload, 1) := by decide +kernel
theorem dX4_joinGroups_50 : decode cX4_joinGroups 50 = .ok (.iload 4, 2) := by decide +kernel
theorem dX4_joinGroups_52 : decode cX4_joinGroups 52 = .ok (.if_icmp .ne 11, 3) := by decide +kernel
theorem dX4_joinGroups_55 : decode cX4_joinGroups 55 = .ok (.aload_n 0, 1) := by decide +kernel
theorem dX4_joinGroups_56 : decode cX4_joinGroups 56 = .ok (.getfield 21, 3) := by decide +kernel
theorem dX4_joinGroups_59 : decode cX4_joinGroups 59 = .ok (.iload 5, 2) := by decide +kernel
theorem dX4_joinGroups_61 : decode cX4_joinGroups 61 = .ok (.iload_n 3, 1) := by decide +kernel
theorem dX4_joinGroups_62 : decode cX4_joinGroups 62 = .ok (.iastore, 1) := by decide +kernel
theorem dX4_joinGroups_63 : decode cX4_joinGroups 63 = .ok (.iinc 5 1, 3) := by decide +kernel
theorem dX4_joinGroups_66 : decode cX4_joinGroups 66 = .ok (.goto (-30), 3) := by decide +kernel
theorem dX4_joinGroups_69 : decode cX4_joinGroups 69 = .ok (.return_, 1) := by decide +kernel
theorem dX4_findLongest_0 : decode cX4_findLongest 0 = .ok (.iconst 0, 1) := by decide +kernel
theorem dX4_findLongest_1 : decode cX4_findLongest 1 = .ok (.istore_n 1, 1) := by decide +kernel
theorem dX4_findLongest_2 : decode cX4_findLongest 2 = .ok (.iload_n 1, 1) := by decide +kernel
theorem dX4_findLongest_3 : decode cX4_findLongest 3 = .ok (.iconst 4, 1) := by decide +kernel
theorem dX4_findLongest_4 : decode cX4_findLongest 4 = .ok (.if_icmp .ge 19, 3) := by decide +kernel
theorem dX4_findLongest_7 : decode cX4_findLongest 7 = .ok (.aload_n 0, 1) := by decide +kernel
theorem dX4_findLongest_8 : decode cX4_findLongest 8 = .ok (.getfield 27, 3) := by decide +kernel
theorem dX4_findLongest_11 : decode cX4_findLongest 11 = .ok (.iload_n 1, 1) := by decide +kernel
theorem dX4_findLongest_12 : decode cX4_findLongest 12 = .ok (.aaload, 1) := by decide +kernel
theorem dX4_findLongest_13 : decode cX4_findLongest 13 = .ok (.iconst 0, 1) := by decide +kernel
theorem dX4_findLongest_14 : decode cX4_findLongest 14 = .ok (.invokestatic 38, 3) := by decide +kernel
theorem dX4_findLongest_17 : decode cX4_findLongest 17 = .ok (.iinc 1 1, 3) := by decide +kernel
theorem dX4_findLongest_20 : decode cX4_findLongest 20 = .ok (.goto (-18), 3) := by decide +kernel
theorem dX4_findLongest_23 : decode cX4_findLongest 23 = .ok (.aload_n 0, 1) := by decide +kernel
theorem dX4_findLongest_24 : decode cX4_findLongest 24 = .ok (.getfield 11, 3) := by decide +kernel
theorem dX4_findLongest_27 : decode cX4_findLongest 27 = .ok (.astore_n 1, 1) := by decide +kernel
theorem dX4_findLongest_28 : decode cX4_findLongest 28 = .ok (.aload_n 1, 1) := by decide +kernel
theorem dX4_findLongest_29 : decode cX4_findLongest 29 = .ok (.arraylength, 1) := by decide +kernel
theorem dX4_findLongest_30 : decode cX4_findLongest 30 = .ok (.istore_n 2, 1) := by decide +kernel
theorem dX4_findLongest_31 : decode cX4_findLongest 31 = .ok (.iconst 0, 1) := by decide +kernel
theorem dX4_findLongest_32 : decode cX4_findLongest 32 = .ok (.istore_n 3, 1) := by decide +kernel
theorem dX4_findLongest_33 : decode cX4_findLongest 33 = .ok (.iload_n 3, 1) := by decide +kernel
theorem dX4_findLongest_34 : decode cX4_findLongest 34 = .ok (.iload_n 2, 1) := by decide +kernel
theorem dX4_findLongest_35 : decode cX4_findLongest 35 = .ok (.if_icmp .ge 105, 3) := by decide +kernel
theorem dX4_findLongest_38 : decode cX4_findLongest 38 = .ok (.aload_n 1, 1) := by decide +kernel
theorem dX4_findLongest_39 : decode cX4_findLongest 39 = .ok (.iload_n 3, 1) := by decide +kernel
theorem dX4_findLongest_40 : decode cX4_findLongest 40 = .ok (.aaload, 1) := by decide +kernel
theorem dX4_findLongest_41 : decode cX4_findLongest 41 = .ok (.astore 4, 2) := by decide +kernel
theorem dX4_findLongest_43 : decode cX4_findLongest 43 = .ok (.iconst 0, 1) := by decide +kernel
theorem dX4_findLongest_44 : decode cX4_findLongest 44 = .ok (.istore 5, 2) := by decide +kernel
theorem dX4_findLongest_46 : decode cX4_findLongest 46 = .ok (.aload 4, 2) := by decide +kernel
theorem dX4_findLongest_48 : decode cX4_findLongest 48 = .ok (.getfield 55, 3) := by decide +kernel
theorem dX4_findLongest_51 : decode cX4_findLongest 51 = .ok (.ifCond .eq 83, 3) := by decide +kernel
theorem dX4_findLongest_54 : decode cX4_findLongest 54 = .ok (.iload 5, 2) := by decide +kernel
theorem dX4_findLongest_56 : decode cX4_findLongest 56 = .ok (.aload 4, 2) := by decide +kernel
theorem dX4_findLongest_58 : decode cX4_findLongest 58 = .ok (.getfield 79, 3) := by decide +kernel
theorem dX4_findLongest_61 : decode cX4_findLongest 61 = .ok (.if_icmp .ge 73, 3) := by decide +kernel
theorem dX4_findLongest_64 : decode cX4_findLongest 64 = .ok (.aload 4, 2) := by decide +kernel
theorem dX4_findLongest_66 : decode cX4_findLongest 66 = .ok (.getfield 199, 3) := by decide +kernel
theorem dX4_findLongest_69 : decode cX4_findLongest 69 = .ok (.iload 5, 2) := by decide +kernel
theorem dX4_findLongest_71 : decode cX4_findLongest 71 = .ok (.aaload, 1) := by decide +kernel
theorem dX4_findLongest_72 : decode cX4_findLongest 72 = .ok (.astore 6, 2) := by decide +kernel
theorem dX4_findLongest_74 : decode cX4_findLongest 74 = .ok (.aload_n 0, 1) := by decide +kernel
theorem dX4_findLongest_75 : decode cX4_findLongest 75 = .ok (.getfield 21, 3) := by decide +kernel
theorem dX4_findLongest_78 : decode cX4_findLongest 78 = .ok (.aload 6, 2) := by decide +kernel
theorem dX4_findLongest_80 : decode cX4_findLongest 80 = .ok (.getfield 220, 3) := by decide +kernel
theorem dX4_findLongest_83 : decode cX4_findLongest 83 = .ok (.iaload, 1) := by decide +kernel
theorem dX4_findLongest_84 : decode cX4_findLongest 84 = .ok (.istore 7, 2) := by decide +kernel
theorem dX4_findLongest_86 : decode cX4_findLongest 86 = .ok (.aload 6, 2) := by decide +kernel
theorem dX4_findLongest_88 : decode cX4_findLongest 88 = .ok (.invokevirtual 138, 3) := by decide +kernel
theorem dX4_findLongest_91 : decode cX4_findLongest 91 = .ok (.ifCond .eq 37, 3) := by decide +kernel
theorem dX4_findLongest_94 : decode cX4_findLongest 94 = .ok (.aload_n 0, 1) := by decide +kernel
theorem dX4_findLongest_95 : decode cX4_findLongest 95 = .ok (.getfield 27, 3) := by decide +kernel
theorem dX4_findLongest_98 : decode cX4_findLongest 98 = .ok (.aload 4, 2) := by decide +kernel
theorem dX4_findLongest_100 : decode cX4_findLongest 100 = .ok (.getfield 230, 3) := by decide +kernel
theorem dX4_findLongest_103 : decode cX4_findLongest 103 = .ok (.aaload, 1) := by decide +kernel
theorem dX4_findLongest_104 : decode cX4_findLongest 104 = .ok (.iload 7, 2) := by decide +kernel
theorem dX4_findLongest_106 : decode cX4_findLongest 106 = .ok (.aload_n 0, 1) := by decide +kernel
theorem dX4_findLongest_107 : decode cX4_findLongest 107 = .ok (.getfield 27, 3) := by decide +kernel
theorem dX4_findLongest_110 : decode cX4_findLongest 110 = .ok (.aload 4, 2) := by decide +kernel
theorem dX4_findLongest_112 : decode cX4_findLongest 112 = .ok (.getfield 230, 3) := by decide +kernel
theorem dX4_findLongest_115 : decode cX4_findLongest 115 = .ok (.aaload, 1) := by decide +kernel
theorem dX4_findLongest_116 : decode cX4_findLongest 116 = .ok (.iload 7, 2) := by decide +kernel
theorem dX4_findLongest_118 : decode cX4_findLongest 118 = .ok (.iaload, 1) := by decide +kernel
theorem dX4_findLongest_119 : decode cX4_findLongest 119 = .ok (.aload 6, 2) := by decide +kernel
theorem dX4_findLongest_121 : decode cX4_findLongest 121 = .ok (.getfield 141, 3) := by decide +kernel
theorem dX4_findLongest_124 : decode cX4_findLongest 124 = .ok (.invokestatic 164, 3) := by decide +kernel
theorem dX4_findLongest_127 : decode cX4_findLongest 127 = .ok (.iastore, 1) := by decide +kernel
theorem dX4_findLongest_128 : decode cX4_findLongest 128 = .ok (.iinc 5 1, 3) := by decide +kernel
theorem dX4_findLongest_131 : decode cX4_findLongest 131 = .ok (.goto (-85), 3) := by decide +kernel
theorem dX4_findLongest_134 : decode cX4_findLongest 134 = .ok (.iinc 3 1, 3) := by decide +kernel
theorem dX4_findLongest_137 : decode cX4_findLongest 137 = .ok (.goto (-104), 3) := by decide +kernel
theorem dX4_findLongest_140 : decode cX4_findLongest 140 = .ok (.return_, 1) := by decide +kernel
theorem dX4_inflate_0 : decode cX4_inflate 0 = .ok (.aload_n 1, 1) := by decide +kernel
theorem dX4_inflate_1 : decode cX4_inflate 1 = .ok (.aload_n 1, 1) := by decide +kernel
theorem dX4_inflate_2 : decode cX4_inflate 2 = .ok (.getfield 233, 3) := by decide +kernel
theorem dX4_inflate_5 : decode cX4_inflate 5 = .ok (.putfield 99, 3) := by decide +kernel
theorem dX4_inflate_8 : decode cX4_inflate 8 = .ok (.iconst 0, 1) := by decide +kernel
theorem dX4_inflate_9 : decode cX4_inflate 9 = .ok (.istore_n 2, 1) := by decide +kernel
theorem dX4_inflate_10 : decode cX4_inflate 10 = .ok (.iload_n 2, 1) := by decide +kernel
theorem dX4_inflate_11 : decode cX4_inflate 11 = .ok (.aload_n 1, 1) := by decide +kernel
theorem dX4_inflate_12 : decode cX4_inflate 12 = .ok (.getfield 79, 3) := by decide +kernel
theorem dX4_inflate_15 : decode cX4_inflate 15 = .ok (.if_icmp .ge 62, 3) := by decide +kernel
theorem dX4_inflate_18 : decode cX4_inflate 18 = .ok (.aload_n 1, 1) := by decide +kernel
theorem dX4_inflate_19 : decode cX4_inflate 19 = .ok (.getfield 199, 3) := by decide +kernel
theorem dX4_inflate_22 : decode cX4_inflate 22 = .ok (.iload_n 2, 1) := by decide +kernel
theorem dX4_inflate_23 : decode cX4_inflate 23 = .ok (.aaload, 1) := by decide +kernel
theorem dX4_inflate_24 : decode cX4_inflate 24 = .ok (.astore_n 3, 1) := by decide +kernel
theorem dX4_inflate_25 : decode cX4_inflate 25 = .ok (.aload_n 3, 1) := by decide +kernel
theorem dX4_inflate_26 : decode cX4_inflate 26 = .ok (.invokevirtual 138, 3) := by decide +kernel
theorem dX4_inflate_29 : decode cX4_inflate 29 = .ok (.ifCond .eq 42, 3) := by decide +kernel
theorem dX4_inflate_32 : decode cX4_inflate 32 = .ok (.aload_n 3, 1) := by decide +kernel
theorem dX4_inflate_33 : decode cX4_inflate 33 = .ok (.aload_n 0, 1) := by decide +kernel
theorem dX4_inflate_34 : decode cX4_inflate 34 = .ok (.aload_n 1, 1) := by decide +kernel
theorem dX4_inflate_35 : decode cX4_inflate 35 = .ok (.getfield 230, 3) := by decide +kernel
theorem dX4_inflate_38 : decode cX4_inflate 38 = .ok (.aload_n 0, 1) := by decide +kernel
theorem dX4_inflate_39 : decode cX4_inflate 39 = .ok (.getfield 21, 3) := by decide +kernel
theorem dX4_inflate_42 : decode cX4_inflate 42 = .ok (.aload_n 3, 1) := by decide +kernel
theorem dX4_inflate_43 : decode cX4_inflate 43 = .ok (.getfield 220, 3) := by decide +kernel
theorem dX4_inflate_46 : decode cX4_inflate 46 = .ok (.iaload, 1) := by decide +kernel
theorem dX4_inflate_47 : decode cX4_inflate 47 = .ok (.invokevirtual 236, 3) := by decide +kernel
theorem dX4_inflate_50 : decode cX4_inflate 50 = .ok (.putfield 94, 3) := by decide +kernel
theorem dX4_inflate_53 : decode cX4_inflate 53 = .ok (.aload_n 1, 1) := by decide +kernel
theorem dX4_inflate_54 : decode cX4_inflate 54 = .ok (.dup, 1) := by decide +kernel
theorem dX4_inflate_55 : decode cX4_inflate 55 = .ok (.getfield 99, 3) := by decide +kernel
theorem dX4_inflate_58 : decode cX4_inflate 58 = .ok (.aload_n 3, 1) := by decide +kernel
theorem dX4_inflate_59 : decode cX4_inflate 59 = .ok (.getfield 141, 3) := by decide +kernel
theorem dX4_inflate_62 : decode cX4_inflate 62 = .ok (.aload_n 3, 1) := by decide +kernel
theorem dX4_inflate_63 : decode cX4_inflate 63 = .ok (.getfield 94, 3) := by decide +kernel
theorem dX4_inflate_66 : decode cX4_inflate 66 = .ok (.iadd, 1) := by decide +kernel
theorem dX4_inflate_67 : decode cX4_inflate 67 = .ok (.iadd, 1) := by decide +kernel
theorem dX4_inflate_68 : decode cX4_inflate 68 = .ok (.putfield 99, 3) := by decide +kernel
theorem dX4_inflate_71 : decode cX4_inflate 71 = .ok (.iinc 2 1, 3) := by decide +kernel
theorem dX4_inflate_74 : decode cX4_inflate 74 = .ok (.goto (-64), 3) := by decide +kernel
theorem dX4_inflate_77 : decode cX4_inflate 77 = .ok (.return_, 1) := by decide +kernel
theorem dX4_longestElsewhere_0 : decode cX4_longestElsewhere 0 = .ok (.iconst 0, 1) := by decide +kernel
theorem dX4_longestElsewhere_1 : decode cX4_longestElsewhere 1 = .ok (.istore_n 3, 1) := by decide +kernel
theorem dX4_longestElsewhere_2 : decode cX4_longestElsewhere 2 = .ok (.iconst 0, 1) := by decide +kernel
theorem dX4_longestElsewhere_3 : decode cX4_longestElsewhere 3 = .ok (.istore 4, 2) := by decide +kernel
theorem dX4_longestElsewhere_5 : decode cX4_longestElsewhere 5 = .ok (.iload 4, 2) := by decide +kernel
theorem dX4_longestElsewhere_7 : decode cX4_longestElsewhere 7 = .ok (.iconst 4, 1) := by decide +kernel
theorem dX4_longestElsewhere_8 : decode cX4_longestElsewhere 8 = .ok (.if_icmp .ge 27, 3) := by decide +kernel
theorem dX4_longestElsewhere_11 : decode cX4_longestElsewhere 11 = .ok (.iload 4, 2) := by decide +kernel
theorem dX4_longestElsewhere_13 : decode cX4_longestElsewhere 13 = .ok (.iload_n 1, 1) := by decide +kernel
theorem dX4_longestElsewhere_14 : decode cX4_longestElsewhere 14 = .ok (.if_icmp .eq 15, 3) := by decide +kernel
theorem dX4_longestElsewhere_17 : decode cX4_longestElsewhere 17 = .ok (.iload_n 3, 1) := by decide +kernel
theorem dX4_longestElsewhere_18 : decode cX4_longestElsewhere 18 = .ok (.aload_n 0, 1) := by decide +kernel
theorem dX4_longestElsewhere_19 : decode cX4_longestElsewhere 19 = .ok (.getfield 27, 3) := by decide +kernel
theorem dX4_longestElsewhere_22 : decode cX4_longestElsewhere 22 = .ok (.iload 4, 2) := by decide +kernel
theorem dX4_longestElsewhere_24 : decode cX4_longestElsewhere 24 = .ok (.aaload, 1) := by decide +kernel
theorem dX4_longestElsewhere_25 : decode cX4_longestElsewhere 25 = .ok (.iload_n 2, 1) := by decide +kernel
theorem dX4_longestElsewhere_26 : decode cX4_longestElsewhere 26 = .ok (.iaload, 1) := by decide +kernel
theorem dX4_longestElsewhere_27 : decode cX4_longestElsewhere 27 = .ok (.iadd, 1) := by decide +kernel
theorem dX4_longestElsewhere_28 : decode cX4_longestElsewhere 28 = .ok (.istore_n 3, 1) := by decide +kernel
theorem dX4_longestElsewhere_29 : decode cX4_longestElsewhere 29 = .ok (.iinc 4 1, 3) := by decide +kernel
theorem dX4_longestElsewhere_32 : decode cX4_longestElsewhere 32 = .ok (.goto (-27), 3) := by decide +kernel
theorem dX4_longestElsewhere_35 : decode cX4_longestElsewhere 35 = .ok (.iload_n 3, 1) := by decide +kernel
theorem dX4_longestElsewhere_36 : decode cX4_longestElsewhere 36 = .ok (.ireturn, 1) := by decide +kernel
theorem dX4_blockingOf_0 : decode cX4_blockingOf 0 = .ok (.iconst 0, 1) := by decide +kernel
theorem dX4_blockingOf_1 : decode cX4_blockingOf 1 = .ok (.istore_n 2, 1) := by decide +kernel
theorem dX4_blockingOf_2 : decode cX4_blockingOf 2 = .ok (.aload_n 0, 1) := by decide +kernel
theorem dX4_blockingOf_3 : decode cX4_blockingOf 3 = .ok (.getfield 11, 3) := by decide +kernel
theorem dX4_blockingOf_6 : decode cX4_blockingOf 6 = .ok (.astore_n 3, 1) := by decide +kernel
theorem dX4_blockingOf_7 : decode cX4_blockingOf 7 = .ok (.aload_n 3, 1) := by decide +kernel
theorem dX4_blockingOf_8 : decode cX4_blockingOf 8 = .ok (.arraylength, 1) := by decide +kernel
theorem dX4_blockingOf_9 : decode cX4_blockingOf 9 = .ok (.istore 4, 2) := by decide +kernel
theorem dX4_blockingOf_11 : decode cX4_blockingOf 11 = .ok (.iconst 0, 1) := by decide +kernel
theorem dX4_blockingOf_12 : decode cX4_blockingOf 12 = .ok (.istore 5, 2) := by decide +kernel
theorem dX4_blockingOf_14 : decode cX4_blockingOf 14 = .ok (.iload 5, 2) := by decide +kernel
theorem dX4_blockingOf_16 : decode cX4_blockingOf 16 = .ok (.iload 4, 2) := by decide +kernel
theorem dX4_blockingOf_18 : decode cX4_blockingOf 18 = .ok (.if_icmp .ge 51, 3) := by decide +kernel
theorem dX4_blockingOf_21 : decode cX4_blockingOf 21 = .ok (.aload_n 3, 1) := by decide +kernel
theorem dX4_blockingOf_22 : decode cX4_blockingOf 22 = .ok (.iload 5, 2) := by decide +kernel
theorem dX4_blockingOf_24 : decode cX4_blockingOf 24 = .ok (.aaload, 1) := by decide +kernel
theorem dX4_blockingOf_25 : decode cX4_blockingOf 25 = .ok (.astore 6, 2) := by decide +kernel
theorem dX4_blockingOf_27 : decode cX4_blockingOf 27 = .ok (.aload 6, 2) := by decide +kernel
theorem dX4_blockingOf_29 : decode cX4_blockingOf 29 = .ok (.aload_n 1, 1) := by decide +kernel
theorem dX4_blockingOf_30 : decode cX4_blockingOf 30 = .ok (.getfield 230, 3) := by decide +kernel
theorem dX4_blockingOf_33 : decode cX4_blockingOf 33 = .ok (.invokevirtual 203, 3) := by decide +kernel
theorem dX4_blockingOf_36 : decode cX4_blockingOf 36 = .ok (.ifCond .eq 27, 3) := by decide +kernel
theorem dX4_blockingOf_39 : decode cX4_blockingOf 39 = .ok (.aload 6, 2) := by decide +kernel
theorem dX4_blockingOf_41 : decode cX4_blockingOf 41 = .ok (.getfield 207, 3) := by decide +kernel
theorem dX4_blockingOf_44 : decode cX4_blockingOf 44 = .ok (.aload_n 1, 1) := by decide +kernel
theorem dX4_blockingOf_45 : decode cX4_blockingOf 45 = .ok (.getfield 207, 3) := by decide +kernel
theorem dX4_blockingOf_48 : decode cX4_blockingOf 48 = .ok (.if_icmp .ge 15, 3) := by decide +kernel
theorem dX4_blockingOf_51 : decode cX4_blockingOf 51 = .ok (.iload_n 2, 1) := by decide +kernel
theorem dX4_blockingOf_52 : decode cX4_blockingOf 52 = .ok (.aload 6, 2) := by decide +kernel
theorem dX4_blockingOf_54 : decode cX4_blockingOf 54 = .ok (.invokevirtual 239, 3) := by decide +kernel
theorem dX4_blockingOf_57 : decode cX4_blockingOf 57 = .ok (.iconst 1, 1) := by decide +kernel
theorem dX4_blockingOf_58 : decode cX4_blockingOf 58 = .ok (.isub, 1) := by decide +kernel
theorem dX4_blockingOf_59 : decode cX4_blockingOf 59 = .ok (.invokestatic 164, 3) := by decide +kernel
theorem dX4_blockingOf_62 : decode cX4_blockingOf 62 = .ok (.istore_n 2, 1) := by decide +kernel
theorem dX4_blockingOf_63 : decode cX4_blockingOf 63 = .ok (.iinc 5 1, 3) := by decide +kernel
theorem dX4_blockingOf_66 : decode cX4_blockingOf 66 = .ok (.goto (-52), 3) := by decide +kernel
theorem dX4_blockingOf_69 : decode cX4_blockingOf 69 = .ok (.iload_n 2, 1) := by decide +kernel
theorem dX4_blockingOf_70 : decode cX4_blockingOf 70 = .ok (.ireturn, 1) := by decide +kernel
theorem dX4_responseOf_0 : decode cX4_responseOf 0 = .ok (.aload_n 1, 1) := by decide +kernel
theorem dX4_responseOf_1 : decode cX4_responseOf 1 = .ok (.getfield 99, 3) := by decide +kernel
theorem dX4_responseOf_4 : decode cX4_responseOf 4 = .ok (.aload_n 0, 1) := by decide +kernel
theorem dX4_responseOf_5 : decode cX4_responseOf 5 = .ok (.aload_n 1, 1) := by decide +kernel
theorem dX4_responseOf_6 : decode cX4_responseOf 6 = .ok (.invokevirtual 102, 3) := by decide +kernel
theorem dX4_responseOf_9 : decode cX4_responseOf 9 = .ok (.iadd, 1) := by decide +kernel
theorem dX4_responseOf_10 : decode cX4_responseOf 10 = .ok (.istore_n 2, 1) := by decide +kernel
theorem dX4_responseOf_11 : decode cX4_responseOf 11 = .ok (.iload_n 2, 1) := by decide +kernel
theorem dX4_responseOf_12 : decode cX4_responseOf 12 = .ok (.istore_n 3, 1) := by decide +kernel
theorem dX4_responseOf_13 : decode cX4_responseOf 13 = .ok (.iconst 0, 1) := by decide +kernel
theorem dX4_responseOf_14 : decode cX4_responseOf 14 = .ok (.istore 4, 2) := by decide +kernel
theorem dX4_responseOf_16 : decode cX4_responseOf 16 = .ok (.iload 4, 2) := by decide +kernel
theorem dX4_responseOf_18 : decode cX4_responseOf 18 = .ok (.sipush 10000, 3) := by decide +kernel
theorem dX4_responseOf_21 : decode cX4_responseOf 21 = .ok (.if_icmp .gt 38, 3) := by decide +kernel
theorem dX4_responseOf_24 : decode cX4_responseOf 24 = .ok (.iload_n 3, 1) := by decide +kernel
theorem dX4_responseOf_25 : decode cX4_responseOf 25 = .ok (.aload_n 1, 1) := by decide +kernel
theorem dX4_responseOf_26 : decode cX4_responseOf 26 = .ok (.getfield 196, 3) := by decide +kernel
theorem dX4_responseOf_29 : decode cX4_responseOf 29 = .ok (.if_icmp .gt 30, 3) := by decide +kernel
theorem dX4_responseOf_32 : decode cX4_responseOf 32 = .ok (.iload_n 2, 1) := by decide +kernel
theorem dX4_responseOf_33 : decode cX4_responseOf 33 = .ok (.aload_n 0, 1) := by decide +kernel
theorem dX4_responseOf_34 : decode cX4_responseOf 34 = .ok (.aload_n 1, 1) := by decide +kernel
theorem dX4_responseOf_35 : decode cX4_responseOf 35 = .ok (.iload_n 3, 1) := by decide +kernel
theorem dX4_responseOf_36 : decode cX4_responseOf 36 = .ok (.invokevirtual 242, 3) := by decide +kernel
theorem dX4_responseOf_39 : decode cX4_responseOf 39 = .ok (.iadd, 1) := by decide +kernel
theorem dX4_responseOf_40 : decode cX4_responseOf 40 = .ok (.istore 5, 2) := by decide +kernel
theorem dX4_responseOf_42 : decode cX4_responseOf 42 = .ok (.iload 5, 2) := by decide +kernel
theorem dX4_responseOf_44 : decode cX4_responseOf 44 = .ok (.iload_n 3, 1) := by decide +kernel
theorem dX4_responseOf_45 : decode cX4_responseOf 45 = .ok (.if_icmp .ne 5, 3) := by decide +kernel
theorem dX4_responseOf_48 : decode cX4_responseOf 48 = .ok (.iload_n 3, 1) := by decide +kernel
theorem dX4_responseOf_49 : decode cX4_responseOf 49 = .ok (.ireturn, 1) := by decide +kernel
theorem dX4_responseOf_50 : decode cX4_responseOf 50 = .ok (.iload 5, 2) := by decide +kernel
theorem dX4_responseOf_52 : decode cX4_responseOf 52 = .ok (.istore_n 3, 1) := by decide +kernel
theorem dX4_responseOf_53 : decode cX4_responseOf 53 = .ok (.iinc 4 1, 3) := by decide +kernel
theorem dX4_responseOf_56 : decode cX4_responseOf 56 = .ok (.goto (-40), 3) := by decide +kernel
theorem dX4_responseOf_59 : decode cX4_responseOf 59 = .ok (.iconst (-1), 1) := by decide +kernel
theorem dX4_responseOf_60 : decode cX4_responseOf 60 = .ok (.ireturn, 1) := by decide +kernel
theorem dX4_demandAbove_0 : decode cX4_demandAbove 0 = .ok (.iconst 0, 1) := by decide +kernel
theorem dX4_demandAbove_1 : decode cX4_demandAbove 1 = .ok (.istore_n 3, 1) := by decide +kernel
theorem dX4_demandAbove_2 : decode cX4_demandAbove 2 = .ok (.aload_n 0, 1) := by decide +kernel
theorem dX4_demandAbove_3 : decode cX4_demandAbove 3 = .ok (.getfield 11, 3) := by decide +kernel
theorem dX4_demandAbove_6 : decode cX4_demandAbove 6 = .ok (.astore 4, 2) := by decide +kernel
theorem dX4_demandAbove_8 : decode cX4_demandAbove 8 = .ok (.aload 4, 2) := by decide +kernel
theorem dX4_demandAbove_10 : decode cX4_demandAbove 10 = .ok (.arraylength, 1) := by decide +kernel
theorem dX4_demandAbove_11 : decode cX4_demandAbove 11 = .ok (.istore 5, 2) := by decide +kernel
theorem dX4_demandAbove_13 : decode cX4_demandAbove 13 = .ok (.iconst 0, 1) := by decide +kernel
theorem dX4_demandAbove_14 : decode cX4_demandAbove 14 = .ok (.istore 6, 2) := by decide +kernel
theorem dX4_demandAbove_16 : decode cX4_demandAbove 16 = .ok (.iload 6, 2) := by decide +kernel
theorem dX4_demandAbove_18 : decode cX4_demandAbove 18 = .ok (.iload 5, 2) := by decide +kernel
theorem dX4_demandAbove_20 : decode cX4_demandAbove 20 = .ok (.if_icmp .ge 55, 3) := by decide +kernel
theorem dX4_demandAbove_23 : decode cX4_demandAbove 23 = .ok (.aload 4, 2) := by decide +kernel
theorem dX4_demandAbove_25 : decode cX4_demandAbove 25 = .ok (.iload 6, 2) := by decide +kernel
theorem dX4_demandAbove_27 : decode cX4_demandAbove 27 = .ok (.aaload, 1) := by decide +kernel
theorem dX4_demandAbove_28 : decode cX4_demandAbove 28 = .ok (.astore 7, 2) := by decide +kernel
theorem dX4_demandAbove_30 : decode cX4_demandAbove 30 = .ok (.aload 7, 2) := by decide +kernel
theorem dX4_demandAbove_32 : decode cX4_demandAbove 32 = .ok (.aload_n 1, 1) := by decide +kernel
theorem dX4_demandAbove_33 : decode cX4_demandAbove 33 = .ok (.getfield 230, 3) := by decide +kernel
theorem dX4_demandAbove_36 : decode cX4_demandAbove 36 = .ok (.invokevirtual 203, 3) := by decide +kernel
theorem dX4_demandAbove_39 : decode cX4_demandAbove 39 = .ok (.ifCond .eq 30, 3) := by decide +kernel
theorem dX4_demandAbove_42 : decode cX4_demandAbove 42 = .ok (.aload 7, 2) := by decide +kernel
theorem dX4_demandAbove_44 : decode cX4_demandAbove 44 = .ok (.getfield 207, 3) := by decide +kernel
theorem dX4_demandAbove_47 : decode cX4_demandAbove 47 = .ok (.aload_n 1, 1) := by decide +kernel
theorem dX4_demandAbove_48 : decode cX4_demandAbove 48 = .ok (.getfield 207, 3) := by decide +kernel
theorem dX4_demandAbove_51 : decode cX4_demandAbove 51 = .ok (.if_icmp .le 18, 3) := by decide +kernel
theorem dX4_demandAbove_54 : decode cX4_demandAbove 54 = .ok (.iload_n 3, 1) := by decide +kernel
theorem dX4_demandAbove_55 : decode cX4_demandAbove 55 = .ok (.aload 7, 2) := by decide +kernel
theorem dX4_demandAbove_57 : decode cX4_demandAbove 57 = .ok (.getfield 99, 3) := by decide +kernel
theorem dX4_demandAbove_60 : decode cX4_demandAbove 60 = .ok (.aload 7, 2) := by decide +kernel
theorem dX4_demandAbove_62 : decode cX4_demandAbove 62 = .ok (.iload_n 2, 1) := by decide +kernel
theorem dX4_demandAbove_63 : decode cX4_demandAbove 63 = .ok (.invokevirtual 246, 3) := by decide +kernel
theorem dX4_demandAbove_66 : decode cX4_demandAbove 66 = .ok (.imul, 1) := by decide +kernel
theorem dX4_demandAbove_67 : decode cX4_demandAbove 67 = .ok (.iadd, 1) := by decide +kernel
theorem dX4_demandAbove_68 : decode cX4_demandAbove 68 = .ok (.istore_n 3, 1) := by decide +kernel
theorem dX4_demandAbove_69 : decode cX4_demandAbove 69 = .ok (.iinc 6 1, 3) := by decide +kernel
theorem dX4_demandAbove_72 : decode cX4_demandAbove 72 = .ok (.goto (-56), 3) := by decide +kernel
theorem dX4_demandAbove_75 : decode cX4_demandAbove 75 = .ok (.iload_n 3, 1) := by decide +kernel
theorem dX4_demandAbove_76 : decode cX4_demandAbove 76 = .ok (.ireturn, 1) := by decide +kernel
theorem dX4_takeJobs_0 : decode cX4_takeJobs 0 = .ok (.iconst 0, 1) := by decide +kernel
theorem dX4_takeJobs_1 : decode cX4_takeJobs 1 = .ok (.istore_n 1, 1) := by decide +kernel
theorem dX4_takeJobs_2 : decode cX4_takeJobs 2 = .ok (.iload_n 1, 1) := by decide +kernel
theorem dX4_takeJobs_3 : decode cX4_takeJobs 3 = .ok (.iconst 4, 1) := by decide +kernel
theorem dX4_takeJobs_4 : decode cX4_takeJobs 4 = .ok (.if_icmp .ge 33, 3) := by decide +kernel
theorem dX4_takeJobs_7 : decode cX4_takeJobs 7 = .ok (.aload_n 0, 1) := by decide +kernel
theorem dX4_takeJobs_8 : decode cX4_takeJobs 8 = .ok (.iload_n 1, 1) := by decide +kernel
theorem dX4_takeJobs_9 : decode cX4_takeJobs 9 = .ok (.invokevirtual 249, 3) := by decide +kernel
theorem dX4_takeJobs_12 : decode cX4_takeJobs 12 = .ok (.ifCond .ne 19, 3) := by decide +kernel
theorem dX4_takeJobs_15 : decode cX4_takeJobs 15 = .ok (.aload_n 0, 1) := by decide +kernel
theorem dX4_takeJobs_16 : decode cX4_takeJobs 16 = .ok (.getfield 30, 3) := by decide +kernel
theorem dX4_takeJobs_19 : decode cX4_takeJobs 19 = .ok (.iload_n 1, 1) := by decide +kernel
theorem dX4_takeJobs_20 : decode cX4_takeJobs 20 = .ok (.aload_n 0, 1) := by decide +kernel
theorem dX4_takeJobs_21 : decode cX4_takeJobs 21 = .ok (.iload_n 1, 1) := by decide +kernel
theorem dX4_takeJobs_22 : decode cX4_takeJobs 22 = .ok (.invokevirtual 252, 3) := by decide +kernel
theorem dX4_takeJobs_25 : decode cX4_takeJobs 25 = .ok (.iastore, 1) := by decide +kernel
theorem dX4_takeJobs_26 : decode cX4_takeJobs 26 = .ok (.aload_n 0, 1) := by decide +kernel
theorem dX4_takeJobs_27 : decode cX4_takeJobs 27 = .ok (.iload_n 1, 1) := by decide +kernel
theorem dX4_takeJobs_28 : decode cX4_takeJobs 28 = .ok (.invokevirtual 255, 3) := by decide +kernel
theorem dX4_takeJobs_31 : decode cX4_takeJobs 31 = .ok (.iinc 1 1, 3) := by decide +kernel
theorem dX4_takeJobs_34 : decode cX4_takeJobs 34 = .ok (.goto (-32), 3) := by decide +kernel
theorem dX4_takeJobs_37 : decode cX4_takeJobs 37 = .ok (.return_, 1) := by decide +kernel
theorem dX4_isHeldFast_0 : decode cX4_isHeldFast 0 = .ok (.aload_n 0, 1) := by decide +kernel
theorem dX4_isHeldFast_1 : decode cX4_isHeldFast 1 = .ok (.getfield 30, 3) := by decide +kernel
theorem dX4_isHeldFast_4 : decode cX4_isHeldFast 4 = .ok (.iload_n 1, 1) := by decide +kernel
theorem dX4_isHeldFast_5 : decode cX4_isHeldFast 5 = .ok (.iaload, 1) := by decide +kernel
theorem dX4_isHeldFast_6 : decode cX4_isHeldFast 6 = .ok (.istore_n 2, 1) := by decide +kernel
theorem dX4_isHeldFast_7 : decode cX4_isHeldFast 7 = .ok (.iload_n 2, 1) := by decide +kernel
theorem dX4_isHeldFast_8 : decode cX4_isHeldFast 8 = .ok (.iconst (-1), 1) := by decide +kernel
theorem dX4_isHeldFast_9 : decode cX4_isHeldFast 9 = .ok (.if_icmp .eq 23, 3) := by decide +kernel
theorem dX4_isHeldFast_12 : decode cX4_isHeldFast 12 = .ok (.aload_n 0, 1) := by decide +kernel
theorem dX4_isHeldFast_13 : decode cX4_isHeldFast 13 = .ok (.getfield 11, 3) := by decide +kernel
theorem dX4_isHeldFast_16 : decode cX4_isHeldFast 16 = .ok (.iload_n 2, 1) := by decide +kernel
theorem dX4_isHeldFast_17 : decode cX4_isHeldFast 17 = .ok (.aaload, 1) := by decide +kernel
theorem dX4_isHeldFast_18 : decode cX4_isHeldFast 18 = .ok (.getfield 119, 3) := by decide +kernel
theorem dX4_isHeldFast_21 : decode cX4_isHeldFast 21 = .ok (.getfield 258, 3) := by decide +kernel
theorem dX4_isHeldFast_24 : decode cX4_isHeldFast 24 = .ok (.iconst 1, 1) := by decide +kernel
theorem dX4_isHeldFast_25 : decode cX4_isHeldFast 25 = .ok (.if_icmp .eq 7, 3) := by decide +kernel
theorem dX4_isHeldFast_28 : decode cX4_isHeldFast 28 = .ok (.iconst 1, 1) := by decide +kernel
theorem dX4_isHeldFast_29 : decode cX4_isHeldFast 29 = .ok (.goto 4, 3) := by decide +kernel
theorem dX4_isHeldFast_32 : decode cX4_isHeldFast 32 = .ok (.iconst 0, 1) := by decide +kernel
theorem dX4_isHeldFast_33 : decode cX4_isHeldFast 33 = .ok (.ireturn, 1) := by decide +kernel
theorem dX4_mostUrgentOn_0 : decode cX4_mostUrgentOn 0 = .ok (.iconst (-1), 1) := by decide +kernel
theorem dX4_mostUrgentOn_1 : decode cX4_mostUrgentOn 1 = .ok (.istore_n 2, 1) := by decide +kernel
theorem dX4_mostUrgentOn_2 : decode cX4_mostUrgentOn 2 = .ok (.iconst 0, 1) := by decide +kernel
theorem dX4_mostUrgentOn_3 : decode cX4_mostUrgentOn 3 = .ok (.istore_n 3, 1) := by decide +kernel
theorem dX4_mostUrgentOn_4 : decode cX4_mostUrgentOn 4 = .ok (.iload_n 3, 1) := by decide +kernel
theorem dX4_mostUrgentOn_5 : decode cX4_mostUrgentOn 5 = .ok (.bipush 16, 2) := by decide +kernel
theorem dX4_mostUrgentOn_7 : decode cX4_mostUrgentOn 7 = .ok (.if_icmp .ge 77, 3) := by decide +kernel
theorem dX4_mostUrgentOn_10 : decode cX4_mostUrgentOn 10 = .ok (.aload_n 0, 1) := by decide +kernel
theorem dX4_mostUrgentOn_11 : decode cX4_mostUrgentOn 11 = .ok (.getfield 11, 3) := by decide +kernel
theorem dX4_mostUrgentOn_14 : decode cX4_mostUrgentOn 14 = .ok (.iload_n 3, 1) := by decide +kernel
theorem dX4_mostUrgentOn_15 : decode cX4_mostUrgentOn 15 = .ok (.aaload, 1) := by decide +kernel
theorem dX4_mostUrgentOn_16 : decode cX4_mostUrgentOn 16 = .ok (.iload_n 1, 1) := by decide +kernel
theorem dX4_mostUrgentOn_17 : decode cX4_mostUrgentOn 17 = .ok (.invokevirtual 203, 3) := by decide +kernel
theorem dX4_mostUrgentOn_20 : decode cX4_mostUrgentOn 20 = .ok (.ifCond .eq 22, 3) := by decide +kernel
theorem dX4_mostUrgentOn_23 : decode cX4_mostUrgentOn 23 = .ok (.aload_n 0, 1) := by decide +kernel
theorem dX4_mostUrgentOn_24 : decode cX4_mostUrgentOn 24 = .ok (.getfield 11, 3) := by decide +kernel
theorem dX4_mostUrgentOn_27 : decode cX4_mostUrgentOn 27 = .ok (.iload_n 3, 1) := by decide +kernel
theorem dX4_mostUrgentOn_28 : decode cX4_mostUrgentOn 28 = .ok (.aaload, 1) := by decide +kernel
theorem dX4_mostUrgentOn_29 : decode cX4_mostUrgentOn 29 = .ok (.getfield 119, 3) := by decide +kernel
theorem dX4_mostUrgentOn_32 : decode cX4_mostUrgentOn 32 = .ok (.getfield 187, 3) := by decide +kernel
theorem dX4_mostUrgentOn_35 : decode cX4_mostUrgentOn 35 = .ok (.ifCond .eq 7, 3) := by decide +kernel
theorem dX4_mostUrgentOn_38 : decode cX4_mostUrgentOn 38 = .ok (.iconst 1, 1) := by decide +kernel
theorem dX4_mostUrgentOn_39 : decode cX4_mostUrgentOn 39 = .ok (.goto 4, 3) := by decide +kernel
theorem dX4_mostUrgentOn_42 : decode cX4_mostUrgentOn 42 = .ok (.iconst 0, 1) := by decide +kernel
theorem dX4_mostUrgentOn_43 : decode cX4_mostUrgentOn 43 = .ok (.istore 4, 2) := by decide +kernel
theorem dX4_mostUrgentOn_45 : decode cX4_mostUrgentOn 45 = .ok (.iload 4, 2) := by decide +kernel
theorem dX4_mostUrgentOn_47 : decode cX4_mostUrgentOn 47 = .ok (.ifCond .eq 31, 3) := by decide +kernel
theorem dX4_mostUrgentOn_50 : decode cX4_mostUrgentOn 50 = .ok (.iload_n 2, 1) := by decide +kernel
theorem dX4_mostUrgentOn_51 : decode cX4_mostUrgentOn 51 = .ok (.iconst (-1), 1) := by decide +kernel
theorem dX4_mostUrgentOn_52 : decode cX4_mostUrgentOn 52 = .ok (.if_icmp .eq 24, 3) := by decide +kernel
theorem dX4_mostUrgentOn_55 : decode cX4_mostUrgentOn 55 = .ok (.aload_n 0, 1) := by decide +kernel
theorem dX4_mostUrgentOn_56 : decode cX4_mostUrgentOn 56 = .ok (.getfield 11, 3) := by decide +kernel
theorem dX4_mostUrgentOn_59 : decode cX4_mostUrgentOn 59 = .ok (.iload_n 3, 1) := by decide +kernel
theorem dX4_mostUrgentOn_60 : decode cX4_mostUrgentOn 60 = .ok (.aaload, 1) := by decide +kernel
theorem dX4_mostUrgentOn_61 : decode cX4_mostUrgentOn 61 = .ok (.getfield 207, 3) := by decide +kernel
theorem dX4_mostUrgentOn_64 : decode cX4_mostUrgentOn 64 = .ok (.aload_n 0, 1) := by decide +kernel
theorem dX4_mostUrgentOn_65 : decode cX4_mostUrgentOn 65 = .ok (.getfield 11, 3) := by decide +kernel
theorem dX4_mostUrgentOn_68 : decode cX4_mostUrgentOn 68 = .ok (.iload_n 2, 1) := by decide +kernel
theorem dX4_mostUrgentOn_69 : decode cX4_mostUrgentOn 69 = .ok (.aaload, 1) := by decide +kernel
theorem dX4_mostUrgentOn_70 : decode cX4_mostUrgentOn 70 = .ok (.getfield 207, 3) := by decide +kernel
theorem dX4_mostUrgentOn_73 : decode cX4_mostUrgentOn 73 = .ok (.if_icmp .le 5, 3) := by decide +kernel
theorem dX4_mostUrgentOn_76 : decode cX4_mostUrgentOn 76 = .ok (.iload_n 3, 1) := by decide +kernel
theorem dX4_mostUrgentOn_77 : decode cX4_mostUrgentOn 77 = .ok (.istore_n 2, 1) := by decide +kernel
theorem dX4_mostUrgentOn_78 : decode cX4_mostUrgentOn 78 = .ok (.iinc 3 1, 3) := by decide +kernel
theorem dX4_mostUrgentOn_81 : decode cX4_mostUrgentOn 81 = .ok (.goto (-77), 3) := by decide +kernel
theorem dX4_mostUrgentOn_84 : decode cX4_mostUrgentOn 84 = .ok (.iload_n 2, 1) := by decide +kernel
theorem dX4_mostUrgentOn_85 : decode cX4_mostUrgentOn 85 = .ok (.ireturn, 1) := by decide +kernel
theorem dX4_askIfDue_0 : decode cX4_askIfDue 0 = .ok (.aload_n 0, 1) := by decide +kernel
theorem dX4_askIfDue_1 : decode cX4_askIfDue 1 = .ok (.getfield 30, 3) := by decide +kernel
theorem dX4_askIfDue_4 : decode cX4_askIfDue 4 = .ok (.iload_n 1, 1) := by decide +kernel
theorem dX4_askIfDue_5 : decode cX4_askIfDue 5 = .ok (.iaload, 1) := by decide +kernel
theorem dX4_askIfDue_6 : decode cX4_askIfDue 6 = .ok (.istore_n 2, 1) := by decide +kernel
theorem dX4_askIfDue_7 : decode cX4_askIfDue 7 = .ok (.iload_n 2, 1) := by decide +kernel
theorem dX4_askIfDue_8 : decode cX4_askIfDue 8 = .ok (.iconst (-1), 1) := by decide +kernel
theorem dX4_askIfDue_9 : decode cX4_askIfDue 9 = .ok (.if_icmp .eq 44, 3) := by decide +kernel
theorem dX4_askIfDue_12 : decode cX4_askIfDue 12 = .ok (.aload_n 0, 1) := by decide +kernel
theorem dX4_askIfDue_13 : decode cX4_askIfDue 13 = .ok (.getfield 11, 3) := by decide +kernel
theorem dX4_askIfDue_16 : decode cX4_askIfDue 16 = .ok (.iload_n 2, 1) := by decide +kernel
theorem dX4_askIfDue_17 : decode cX4_askIfDue 17 = .ok (.aaload, 1) := by decide +kernel
theorem dX4_askIfDue_18 : decode cX4_askIfDue 18 = .ok (.invokevirtual 261, 3) := by decide +kernel
theorem dX4_askIfDue_21 : decode cX4_askIfDue 21 = .ok (.ifCond .eq 32, 3) := by decide +kernel
theorem dX4_askIfDue_24 : decode cX4_askIfDue 24 = .ok (.aload_n 0, 1) := by decide +kernel
theorem dX4_askIfDue_25 : decode cX4_askIfDue 25 = .ok (.getfield 11, 3) := by decide +kernel
theorem dX4_askIfDue_28 : decode cX4_askIfDue 28 = .ok (.iload_n 2, 1) := by decide +kernel
theorem dX4_askIfDue_29 : decode cX4_askIfDue 29 = .ok (.aaload, 1) := by decide +kernel
theorem dX4_askIfDue_30 : decode cX4_askIfDue 30 = .ok (.invokevirtual 264, 3) := by decide +kernel
theorem dX4_askIfDue_33 : decode cX4_askIfDue 33 = .ok (.aload_n 0, 1) := by decide +kernel
theorem dX4_askIfDue_34 : decode cX4_askIfDue 34 = .ok (.aload_n 0, 1) := by decide +kernel
theorem dX4_askIfDue_35 : decode cX4_askIfDue 35 = .ok (.getfield 11, 3) := by decide +kernel
theorem dX4_askIfDue_38 : decode cX4_askIfDue 38 = .ok (.iload_n 2, 1) := by decide +kernel
theorem dX4_askIfDue_39 : decode cX4_askIfDue 39 = .ok (.aaload, 1) := by decide +kernel
theorem dX4_askIfDue_40 : decode cX4_askIfDue 40 = .ok (.invokevirtual 267, 3) := by decide +kernel
theorem dX4_askIfDue_43 : decode cX4_askIfDue 43 = .ok (.getfield 220, 3) := by decide +kernel
theorem dX4_askIfDue_46 : decode cX4_askIfDue 46 = .ok (.invokevirtual 171, 3) := by decide +kernel
theorem dX4_askIfDue_49 : decode cX4_askIfDue 49 = .ok (.iload_n 1, 1) := by decide +kernel
theorem dX4_askIfDue_50 : decode cX4_askIfDue 50 = .ok (.invokevirtual 271, 3) := by decide +kernel
theorem dX4_askIfDue_53 : decode cX4_askIfDue 53 = .ok (.return_, 1) := by decide +kernel
theorem dX4_letFirstsHold_0 : decode cX4_letFirstsHold 0 = .ok (.aload_n 0, 1) := by decide +kernel
theorem dX4_letFirstsHold_1 : decode cX4_letFirstsHold 1 = .ok (.getfield 17, 3) := by decide +kernel
theorem dX4_letFirstsHold_4 : decode cX4_letFirstsHold 4 = .ok (.astore_n 1, 1) := by decide +kernel
theorem dX4_letFirstsHold_5 : decode cX4_letFirstsHold 5 = .ok (.aload_n 1, 1) := by decide +kernel
theorem dX4_letFirstsHold_6 : decode cX4_letFirstsHold 6 = .ok (.arraylength, 1) := by decide +kernel
theorem dX4_letFirstsHold_7 : decode cX4_letFirstsHold 7 = .ok (.istore_n 2, 1) := by decide +kernel
theorem dX4_letFirstsHold_8 : decode cX4_letFirstsHold 8 = .ok (.iconst 0, 1) := by decide +kernel
theorem dX4_letFirstsHold_9 : decode cX4_letFirstsHold 9 = .ok (.istore_n 3, 1) := by decide +kernel
theorem dX4_letFirstsHold_10 : decode cX4_letFirstsHold 10 = .ok (.iload_n 3, 1) := by decide +kernel
theorem dX4_letFirstsHold_11 : decode cX4_letFirstsHold 11 = .ok (.iload_n 2, 1) := by decide +kernel
theorem dX4_letFirstsHold_12 : decode cX4_letFirstsHold 12 = .ok (.if_icmp .ge 74, 3) := by decide +kernel
theorem dX4_letFirstsHold_15 : decode cX4_letFirstsHold 15 = .ok (.aload_n 1, 1) := by decide +kernel
theorem dX4_letFirstsHold_16 : decode cX4_letFirstsHold 16 = .ok (.iload_n 3, 1) := by decide +kernel
theorem dX4_letFirstsHold_17 : decode cX4_letFirstsHold 17 = .ok (.aaload, 1) := by decide +kernel
theorem dX4_letFirstsHold_18 : decode cX4_letFirstsHold 18 = .ok (.astore 4, 2) := by decide +kernel
theorem dX4_letFirstsHold_20 : decode cX4_letFirstsHold 20 = .ok (.aload 4, 2) := by decide +kernel
theorem dX4_letFirstsHold_22 : decode cX4_letFirstsHold 22 = .ok (.iconst 0, 1) := by decide +kernel
theorem dX4_letFirstsHold_23 : decode cX4_letFirstsHold 23 = .ok (.invokevirtual 175, 3) := by decide +kernel
theorem dX4_letFirstsHold_26 : decode cX4_letFirstsHold 26 = .ok (.istore 5, 2) := by decide +kernel
theorem dX4_letFirstsHold_28 : decode cX4_letFirstsHold 28 = .ok (.iload 5, 2) := by decide +kernel
theorem dX4_letFirstsHold_30 : decode cX4_letFirstsHold 30 = .ok (.iconst (-1), 1) := by decide +kernel
theorem dX4_letFirstsHold_31 : decode cX4_letFirstsHold 31 = .ok (.if_icmp .ne 7, 3) := by decide +kernel
theorem dX4_letFirstsHold_34 : decode cX4_letFirstsHold 34 = .ok (.iconst (-1), 1) := by decide +kernel
theorem dX4_letFirstsHold_35 : decode cX4_letFirstsHold 35 = .ok (.goto 10, 3) := by decide +kernel
theorem dX4_letFirstsHold_38 : decode cX4_letFirstsHold 38 = .ok (.aload_n 0, 1) := by decide +kernel
theorem dX4_letFirstsHold_39 : decode cX4_letFirstsHold 39 = .ok (.getfield 30, 3) := by decide +kernel
theorem dX4_letFirstsHold_42 : decode cX4_letFirstsHold 42 = .ok (.iload 5, 2) := by decide +kernel
theorem dX4_letFirstsHold_44 : decode cX4_letFirstsHold 44 = .ok (.iaload, 1) := by decide +kernel
theorem dX4_letFirstsHold_45 : decode cX4_letFirstsHold 45 = .ok (.istore 6, 2) := by decide +kernel
theorem dX4_letFirstsHold_47 : decode cX4_letFirstsHold 47 = .ok (.iload 6, 2) := by decide +kernel
theorem dX4_letFirstsHold_49 : decode cX4_letFirstsHold 49 = .ok (.iconst (-1), 1) := by decide +kernel
theorem dX4_letFirstsHold_50 : decode cX4_letFirstsHold 50 = .ok (.if_icmp .eq 30, 3) := by decide +kernel
theorem dX4_letFirstsHold_53 : decode cX4_letFirstsHold 53 = .ok (.aload_n 0, 1) := by decide +kernel
theorem dX4_letFirstsHold_54 : decode cX4_letFirstsHold 54 = .ok (.getfield 11, 3) := by decide +kernel
theorem dX4_letFirstsHold_57 : decode cX4_letFirstsHold 57 = .ok (.iload 6, 2) := by decide +kernel
theorem dX4_letFirstsHold_59 : decode cX4_letFirstsHold 59 = .ok (.aaload, 1) := by decide +kernel
theorem dX4_letFirstsHold_60 : decode cX4_letFirstsHold 60 = .ok (.getfield 119, 3) := by decide +kernel
theorem dX4_letFirstsHold_63 : decode cX4_letFirstsHold 63 = .ok (.getfield 258, 3) := by decide +kernel
theorem dX4_letFirstsHold_66 : decode cX4_letFirstsHold 66 = .ok (.iconst 2, 1) := by decide +kernel
theorem dX4_letFirstsHold_67 : decode cX4_letFirstsHold 67 = .ok (.if_icmp .ne 13, 3) := by decide +kernel
theorem dX4_letFirstsHold_70 : decode cX4_letFirstsHold 70 = .ok (.aload_n 0, 1) := by decide +kernel
theorem dX4_letFirstsHold_71 : decode cX4_letFirstsHold 71 = .ok (.getfield 11, 3) := by decide +kernel
theorem dX4_letFirstsHold_74 : decode cX4_letFirstsHold 74 = .ok (.iload 6, 2) := by decide +kernel
theorem dX4_letFirstsHold_76 : decode cX4_letFirstsHold 76 = .ok (.aaload, 1) := by decide +kernel
theorem dX4_letFirstsHold_77 : decode cX4_letFirstsHold 77 = .ok (.invokevirtual 274, 3) := by decide +kernel
theorem dX4_letFirstsHold_80 : decode cX4_letFirstsHold 80 = .ok (.iinc 3 1, 3) := by decide +kernel
theorem dX4_letFirstsHold_83 : decode cX4_letFirstsHold 83 = .ok (.goto (-73), 3) := by decide +kernel
theorem dX4_letFirstsHold_86 : decode cX4_letFirstsHold 86 = .ok (.return_, 1) := by decide +kernel
theorem dX4_ticksAlike_0 : decode cX4_ticksAlike 0 = .ok (.ldc 147, 2) := by decide +kernel
theorem dX4_ticksAlike_2 : decode cX4_ticksAlike 2 = .ok (.istore_n 1, 1) := by decide +kernel
theorem dX4_ticksAlike_3 : decode cX4_ticksAlike 3 = .ok (.iconst 0, 1) := by decide +kernel
theorem dX4_ticksAlike_4 : decode cX4_ticksAlike 4 = .ok (.istore_n 2, 1) := by decide +kernel
theorem dX4_ticksAlike_5 : decode cX4_ticksAlike 5 = .ok (.iload_n 2, 1) := by decide +kernel
theorem dX4_ticksAlike_6 : decode cX4_ticksAlike 6 = .ok (.iconst 4, 1) := by decide +kernel
theorem dX4_ticksAlike_7 : decode cX4_ticksAlike 7 = .ok (.if_icmp .ge 51, 3) := by decide +kernel
theorem dX4_ticksAlike_10 : decode cX4_ticksAlike 10 = .ok (.aload_n 0, 1) := by decide +kernel
theorem dX4_ticksAlike_11 : decode cX4_ticksAlike 11 = .ok (.getfield 30, 3) := by decide +kernel
theorem dX4_ticksAlike_14 : decode cX4_ticksAlike 14 = .ok (.iload_n 2, 1) := by decide +kernel
theorem dX4_ticksAlike_15 : decode cX4_ticksAlike 15 = .ok (.iaload, 1) := by decide +kernel
theorem dX4_ticksAlike_16 : decode cX4_ticksAlike 16 = .ok (.istore_n 3, 1) := by decide +kernel
theorem dX4_ticksAlike_17 : decode cX4_ticksAlike 17 = .ok (.iload_n 3, 1) := by decide +kernel
theorem dX4_ticksAlike_18 : decode cX4_ticksAlike 18 = .ok (.iconst (-1), 1) := by decide +kernel
theorem dX4_ticksAlike_19 : decode cX4_ticksAlike 19 = .ok (.if_icmp .eq 33, 3) := by decide +kernel
theorem dX4_ticksAlike_22 : decode cX4_ticksAlike 22 = .ok (.aload_n 0, 1) := by decide +kernel
theorem dX4_ticksAlike_23 : decode cX4_ticksAlike 23 = .ok (.getfield 11, 3) := by decide +kernel
theorem dX4_ticksAlike_26 : decode cX4_ticksAlike 26 = .ok (.iload_n 3, 1) := by decide +kernel
theorem dX4_ticksAlike_27 : decode cX4_ticksAlike 27 = .ok (.aaload, 1) := by decide +kernel
theorem dX4_ticksAlike_28 : decode cX4_ticksAlike 28 = .ok (.getfield 119, 3) := by decide +kernel
theorem dX4_ticksAlike_31 : decode cX4_ticksAlike 31 = .ok (.getfield 258, 3) := by decide +kernel
theorem dX4_ticksAlike_34 : decode cX4_ticksAlike 34 = .ok (.iconst 2, 1) := by decide +kernel
theorem dX4_ticksAlike_35 : decode cX4_ticksAlike 35 = .ok (.if_icmp .eq 17, 3) := by decide +kernel
theorem dX4_ticksAlike_38 : decode cX4_ticksAlike 38 = .ok (.iload_n 1, 1) := by decide +kernel
theorem dX4_ticksAlike_39 : decode cX4_ticksAlike 39 = .ok (.aload_n 0, 1) := by decide +kernel
theorem dX4_ticksAlike_40 : decode cX4_ticksAlike 40 = .ok (.getfield 11, 3) := by decide +kernel
theorem dX4_ticksAlike_43 : decode cX4_ticksAlike 43 = .ok (.iload_n 3, 1) := by decide +kernel
theorem dX4_ticksAlike_44 : decode cX4_ticksAlike 44 = .ok (.aaload, 1) := by decide +kernel
theorem dX4_ticksAlike_45 : decode cX4_ticksAlike 45 = .ok (.invokevirtual 277, 3) := by decide +kernel
theorem dX4_ticksAlike_48 : decode cX4_ticksAlike 48 = .ok (.invokestatic 158, 3) := by decide +kernel
theorem dX4_ticksAlike_51 : decode cX4_ticksAlike 51 = .ok (.istore_n 1, 1) := by decide +kernel
theorem dX4_ticksAlike_52 : decode cX4_ticksAlike 52 = .ok (.iinc 2 1, 3) := by decide +kernel
theorem dX4_ticksAlike_55 : decode cX4_ticksAlike 55 = .ok (.goto (-50), 3) := by decide +kernel
theorem dX4_ticksAlike_58 : decode cX4_ticksAlike 58 = .ok (.iload_n 1, 1) := by decide +kernel
theorem dX4_ticksAlike_59 : decode cX4_ticksAlike 59 = .ok (.ireturn, 1) := by decide +kernel
theorem dX4_workOn_0 : decode cX4_workOn 0 = .ok (.iconst 0, 1) := by decide +kernel
theorem dX4_workOn_1 : decode cX4_workOn 1 = .ok (.istore_n 2, 1) := by decide +kernel
theorem dX4_workOn_2 : decode cX4_workOn 2 = .ok (.iconst 0, 1) := by decide +kernel
theorem dX4_workOn_3 : decode cX4_workOn 3 = .ok (.istore_n 3, 1) := by decide +kernel
theorem dX4_workOn_4 : decode cX4_workOn 4 = .ok (.iload_n 3, 1) := by decide +kernel
theorem dX4_workOn_5 : decode cX4_workOn 5 = .ok (.iconst 4, 1) := by decide +kernel
theorem dX4_workOn_6 : decode cX4_workOn 6 = .ok (.if_icmp .ge 70, 3) := by decide +kernel
theorem dX4_workOn_9 : decode cX4_workOn 9 = .ok (.aload_n 0, 1) := by decide +kernel
theorem dX4_workOn_10 : decode cX4_workOn 10 = .ok (.getfield 30, 3) := by decide +kernel
theorem dX4_workOn_13 : decode cX4_workOn 13 = .ok (.iload_n 3, 1) := by decide +kernel
theorem dX4_workOn_14 : decode cX4_workOn 14 = .ok (.iaload, 1) := by decide +kernel
theorem dX4_workOn_15 : decode cX4_workOn 15 = .ok (.istore 4, 2) := by decide +kernel
theorem dX4_workOn_17 : decode cX4_workOn 17 = .ok (.aload_n 0, 1) := by decide +kernel
theorem dX4_workOn_18 : decode cX4_workOn 18 = .ok (.getfield 33, 3) := by decide +kernel
theorem dX4_workOn_21 : decode cX4_workOn 21 = .ok (.iload_n 3, 1) := by decide +kernel
theorem dX4_workOn_22 : decode cX4_workOn 22 = .ok (.iload 4, 2) := by decide +kernel
theorem dX4_workOn_24 : decode cX4_workOn 24 = .ok (.iconst (-1), 1) := by decide +kernel
theorem dX4_workOn_25 : decode cX4_workOn 25 = .ok (.if_icmp .ne 7, 3) := by decide +kernel
theorem dX4_workOn_28 : decode cX4_workOn 28 = .ok (.iconst 0, 1) := by decide +kernel
theorem dX4_workOn_29 : decode cX4_workOn 29 = .ok (.goto 16, 3) := by decide +kernel
theorem dX4_workOn_32 : decode cX4_workOn 32 = .ok (.aload_n 0, 1) := by decide +kernel
theorem dX4_workOn_33 : decode cX4_workOn 33 = .ok (.getfield 11, 3) := by decide +kernel
theorem dX4_workOn_36 : decode cX4_workOn 36 = .ok (.iload 4, 2) := by decide +kernel
theorem dX4_workOn_38 : decode cX4_workOn 38 = .ok (.aaload, 1) := by decide +kernel
theorem dX4_workOn_39 : decode cX4_workOn 39 = .ok (.getfield 119, 3) := by decide +kernel
theorem dX4_workOn_42 : decode cX4_workOn 42 = .ok (.getfield 258, 3) := by decide +kernel
theorem dX4_workOn_45 : decode cX4_workOn 45 = .ok (.iastore, 1) := by decide +kernel
theorem dX4_workOn_46 : decode cX4_workOn 46 = .ok (.iload 4, 2) := by decide +kernel
theorem dX4_workOn_48 : decode cX4_workOn 48 = .ok (.iconst (-1), 1) := by decide +kernel
theorem dX4_workOn_49 : decode cX4_workOn 49 = .ok (.if_icmp .eq 21, 3) := by decide +kernel
theorem dX4_workOn_52 : decode cX4_workOn 52 = .ok (.aload_n 0, 1) := by decide +kernel
theorem dX4_workOn_53 : decode cX4_workOn 53 = .ok (.aload_n 0, 1) := by decide +kernel
theorem dX4_workOn_54 : decode cX4_workOn 54 = .ok (.getfield 11, 3) := by decide +kernel
theorem dX4_workOn_57 : decode cX4_workOn 57 = .ok (.iload 4, 2) := by decide +kernel
theorem dX4_workOn_59 : decode cX4_workOn 59 = .ok (.aaload, 1) := by decide +kernel
theorem dX4_workOn_60 : decode cX4_workOn 60 = .ok (.iload_n 1, 1) := by decide +kernel
theorem dX4_workOn_61 : decode cX4_workOn 61 = .ok (.invokevirtual 280, 3) := by decide +kernel
theorem dX4_workOn_64 : decode cX4_workOn 64 = .ok (.ifCond .eq 6, 3) := by decide +kernel
theorem dX4_workOn_67 : decode cX4_workOn 67 = .ok (.iinc 2 1, 3) := by decide +kernel
theorem dX4_workOn_70 : decode cX4_workOn 70 = .ok (.iinc 3 1, 3) := by decide +kernel
theorem dX4_workOn_73 : decode cX4_workOn 73 = .ok (.goto (-69), 3) := by decide +kernel
theorem dX4_workOn_76 : decode cX4_workOn 76 = .ok (.iload_n 2, 1) := by decide +kernel
theorem dX4_workOn_77 : decode cX4_workOn 77 = .ok (.ireturn, 1) := by decide +kernel
theorem dX4_workOnJob_0 : decode cX4_workOnJob 0 = .ok (.aload_n 1, 1) := by decide +kernel
theorem dX4_workOnJob_1 : decode cX4_workOnJob 1 = .ok (.getfield 119, 3) := by decide +kernel
theorem dX4_workOnJob_4 : decode cX4_workOnJob 4 = .ok (.getfield 258, 3) := by decide +kernel
theorem dX4_workOnJob_7 : decode cX4_workOnJob 7 = .ok (.iconst 2, 1) := by decide +kernel
theorem dX4_workOnJob_8 : decode cX4_workOnJob 8 = .ok (.if_icmp .ne 10, 3) := by decide +kernel
theorem dX4_workOnJob_11 : decode cX4_workOnJob 11 = .ok (.aload_n 1, 1) := by decide +kernel
theorem dX4_workOnJob_12 : decode cX4_workOnJob 12 = .ok (.iload_n 2, 1) := by decide +kernel
theorem dX4_workOnJob_13 : decode cX4_workOnJob 13 = .ok (.invokevirtual 284, 3) := by decide +kernel
theorem dX4_workOnJob_16 : decode cX4_workOnJob 16 = .ok (.iconst 0, 1) := by decide +kernel
theorem dX4_workOnJob_17 : decode cX4_workOnJob 17 = .ok (.ireturn, 1) := by decide +kernel
theorem dX4_workOnJob_18 : decode cX4_workOnJob 18 = .ok (.aload_n 1, 1) := by decide +kernel
theorem dX4_workOnJob_19 : decode cX4_workOnJob 19 = .ok (.getfield 119, 3) := by decide +kernel
theorem dX4_workOnJob_22 : decode cX4_workOnJob 22 = .ok (.getfield 258, 3) := by decide +kernel
theorem dX4_workOnJob_25 : decode cX4_workOnJob 25 = .ok (.iconst 1, 1) := by decide +kernel
theorem dX4_workOnJob_26 : decode cX4_workOnJob 26 = .ok (.if_icmp .ne 19, 3) := by decide +kernel
theorem dX4_workOnJob_29 : decode cX4_workOnJob 29 = .ok (.aload_n 1, 1) := by decide +kernel
theorem dX4_workOnJob_30 : decode cX4_workOnJob 30 = .ok (.getfield 119, 3) := by decide +kernel
theorem dX4_workOnJob_33 : decode cX4_workOnJob 33 = .ok (.dup, 1) := by decide +kernel
theorem dX4_workOnJob_34 : decode cX4_workOnJob 34 = .ok (.getfield 287, 3) := by decide +kernel
theorem dX4_workOnJob_37 : decode cX4_workOnJob 37 = .ok (.iload_n 2, 1) := by decide +kernel
theorem dX4_workOnJob_38 : decode cX4_workOnJob 38 = .ok (.iadd, 1) := by decide +kernel
theorem dX4_workOnJob_39 : decode cX4_workOnJob 39 = .ok (.putfield 287, 3) := by decide +kernel
theorem dX4_workOnJob_42 : decode cX4_workOnJob 42 = .ok (.goto 9, 3) := by decide +kernel
theorem dX4_workOnJob_45 : decode cX4_workOnJob 45 = .ok (.aload_n 0, 1) := by decide +kernel
theorem dX4_workOnJob_46 : decode cX4_workOnJob 46 = .ok (.aload_n 1, 1) := by decide +kernel
theorem dX4_workOnJob_47 : decode cX4_workOnJob 47 = .ok (.iload_n 2, 1) := by decide +kernel
theorem dX4_workOnJob_48 : decode cX4_workOnJob 48 = .ok (.invokevirtual 290, 3) := by decide +kernel
theorem dX4_workOnJob_51 : decode cX4_workOnJob 51 = .ok (.aload_n 1, 1) := by decide +kernel
theorem dX4_workOnJob_52 : decode cX4_workOnJob 52 = .ok (.invokevirtual 294, 3) := by decide +kernel
theorem dX4_workOnJob_55 : decode cX4_workOnJob 55 = .ok (.ifCond .ne 5, 3) := by decide +kernel
theorem dX4_workOnJob_58 : decode cX4_workOnJob 58 = .ok (.iconst 0, 1) := by decide +kernel
theorem dX4_workOnJob_59 : decode cX4_workOnJob 59 = .ok (.ireturn, 1) := by decide +kernel
theorem dX4_workOnJob_60 : decode cX4_workOnJob 60 = .ok (.aload_n 1, 1) := by decide +kernel
theorem dX4_workOnJob_61 : decode cX4_workOnJob 61 = .ok (.aload_n 0, 1) := by decide +kernel
theorem dX4_workOnJob_62 : decode cX4_workOnJob 62 = .ok (.getfield 113, 3) := by decide +kernel
theorem dX4_workOnJob_65 : decode cX4_workOnJob 65 = .ok (.invokevirtual 297, 3) := by decide +kernel
theorem dX4_workOnJob_68 : decode cX4_workOnJob 68 = .ok (.iconst 1, 1) := by decide +kernel
theorem dX4_workOnJob_69 : decode cX4_workOnJob 69 = .ok (.ireturn, 1) := by decide +kernel
theorem dX4_holdFor_0 : decode cX4_holdFor 0 = .ok (.aload_n 1, 1) := by decide +kernel
theorem dX4_holdFor_1 : decode cX4_holdFor 1 = .ok (.getfield 119, 3) := by decide +kernel
theorem dX4_holdFor_4 : decode cX4_holdFor 4 = .ok (.dup, 1) := by decide +kernel
theorem dX4_holdFor_5 : decode cX4_holdFor 5 = .ok (.getfield 300, 3) := by decide +kernel
theorem dX4_holdFor_8 : decode cX4_holdFor 8 = .ok (.iload_n 2, 1) := by decide +kernel
theorem dX4_holdFor_9 : decode cX4_holdFor 9 = .ok (.isub, 1) := by decide +kernel
theorem dX4_holdFor_10 : decode cX4_holdFor 10 = .ok (.putfield 300, 3) := by decide +kernel
theorem dX4_holdFor_13 : decode cX4_holdFor 13 = .ok (.aload_n 1, 1) := by decide +kernel
theorem dX4_holdFor_14 : decode cX4_holdFor 14 = .ok (.getfield 119, 3) := by decide +kernel
theorem dX4_holdFor_17 : decode cX4_holdFor 17 = .ok (.getfield 300, 3) := by decide +kernel
theorem dX4_holdFor_20 : decode cX4_holdFor 20 = .ok (.ifCond .gt 21, 3) := by decide +kernel
theorem dX4_holdFor_23 : decode cX4_holdFor 23 = .ok (.aload_n 0, 1) := by decide +kernel
theorem dX4_holdFor_24 : decode cX4_holdFor 24 = .ok (.aload_n 1, 1) := by decide +kernel
theorem dX4_holdFor_25 : decode cX4_holdFor 25 = .ok (.invokevirtual 267, 3) := by decide +kernel
theorem dX4_holdFor_28 : decode cX4_holdFor 28 = .ok (.getfield 220, 3) := by decide +kernel
theorem dX4_holdFor_31 : decode cX4_holdFor 31 = .ok (.invokevirtual 171, 3) := by decide +kernel
theorem dX4_holdFor_34 : decode cX4_holdFor 34 = .ok (.invokevirtual 303, 3) := by decide +kernel
theorem dX4_holdFor_37 : decode cX4_holdFor 37 = .ok (.aload_n 1, 1) := by decide +kernel
theorem dX4_holdFor_38 : decode cX4_holdFor 38 = .ok (.invokevirtual 306, 3) := by decide +kernel
theorem dX4_holdFor_41 : decode cX4_holdFor 41 = .ok (.return_, 1) := by decide +kernel
theorem dX5_init_0 : decode cX5_init 0 = .ok (.aload_n 0, 1) := by decide +kernel
theorem dX5_init_1 : decode cX5_init 1 = .ok (.invokespecial 1, 3) := by decide +kernel
theorem dX5_init_4 : decode cX5_init 4 = .ok (.aload_n 0, 1) := by decide +kernel
theorem dX5_init_5 : decode cX5_init 5 = .ok (.bipush 16, 2) := by decide +kernel
theorem dX5_init_7 : decode cX5_init 7 = .ok (.newarray .int, 2) := by decide +kernel
theorem dX5_init_9 : decode cX5_init 9 = .ok (.putfield 7, 3) := by decide +kernel
theorem dX5_init_12 : decode cX5_init 12 = .ok (.aload_n 0, 1) := by decide +kernel
theorem dX5_init_13 : decode cX5_init 13 = .ok (.bipush 16, 2) := by decide +kernel
theorem dX5_init_15 : decode cX5_init 15 = .ok (.newarray .int, 2) := by decide +kernel
theorem dX5_init_17 : decode cX5_init 17 = .ok (.putfield 13, 3) := by decide +kernel
theorem dX5_init_20 : decode cX5_init 20 = .ok (.aload_n 0, 1) := by decide +kernel
theorem dX5_init_21 : decode cX5_init 21 = .ok (.bipush 16, 2) := by decide +kernel
theorem dX5_init_23 : decode cX5_init 23 = .ok (.newarray .int, 2) := by decide +kernel
theorem dX5_init_25 : decode cX5_init 25 = .ok (.putfield 16, 3) := by decide +kernel
theorem dX5_init_28 : decode cX5_init 28 = .ok (.aload_n 0, 1) := by decide +kernel
theorem dX5_init_29 : decode cX5_init 29 = .ok (.bipush 16, 2) := by decide +kernel
theorem dX5_init_31 : decode cX5_init 31 = .ok (.newarray .int, 2) := by decide +kernel
theorem dX5_init_33 : decode cX5_init 33 = .ok (.putfield 19, 3) := by decide +kernel
theorem dX5_init_36 : decode cX5_init 36 = .ok (.aload_n 0, 1) := by decide +kernel
theorem dX5_init_37 : decode cX5_init 37 = .ok (.bipush 16, 2) := by decide +kernel
theorem dX5_init_39 : decode cX5_init 39 = .ok (.newarray .int, 2) := by decide +kernel
theorem dX5_init_41 : decode cX5_init 41 = .ok (.putfield 22, 3) := by decide +kernel
theorem dX5_init_44 : decode cX5_init 44 = .ok (.aload_n 0, 1) := by decide +kernel
theorem dX5_init_45 : decode cX5_init 45 = .ok (.bipush 16, 2) := by decide +kernel
theorem dX5_init_47 : decode cX5_init 47 = .ok (.newarray .int, 2) := by decide +kernel
theorem dX5_init_49 : decode cX5_init 49 = .ok (.putfield 25, 3) := by decide +kernel
theorem dX5_init_52 : decode cX5_init 52 = .ok (.aload_n 0, 1) := by decide +kernel
theorem dX5_init_53 : decode cX5_init 53 = .ok (.bipush 96, 2) := by decide +kernel
theorem dX5_init_55 : decode cX5_init 55 = .ok (.newarray .int, 2) := by decide +kernel
theorem dX5_init_57 : decode cX5_init 57 = .ok (.putfield 28, 3) := by decide +kernel
theorem dX5_init_60 : decode cX5_init 60 = .ok (.aload_n 0, 1) := by decide +kernel
theorem dX5_init_61 : decode cX5_init 61 = .ok (.bipush 96, 2) := by decide +kernel
theorem dX5_init_63 : decode cX5_init 63 = .ok (.newarray .int, 2) := by decide +kernel
theorem dX5_init_65 : decode cX5_init 65 = .ok (.putfield 31, 3) := by decide +kernel
theorem dX5_init_68 : decode cX5_init 68 = .ok (.aload_n 0, 1) := by decide +kernel
theorem dX5_init_69 : decode cX5_init 69 = .ok (.bipush 96, 2) := by decide +kernel
theorem dX5_init_71 : decode cX5_init 71 = .ok (.newarray .int, 2) := by decide +kernel
theorem dX5_init_73 : decode cX5_init 73 = .ok (.putfield 34, 3) := by decide +kernel
theorem dX5_init_76 : decode cX5_init 76 = .ok (.aload_n 0, 1) := by decide +kernel
theorem dX5_init_77 : decode cX5_init 77 = .ok (.bipush 96, 2) := by decide +kernel
theorem dX5_init_79 : decode cX5_init 79 = .ok (.newarray .int, 2) := by decide +kernel
theorem dX5_init_81 : decode cX5_init 81 = .ok (.putfield 37, 3) := by decide +kernel
theorem dX5_init_84 : decode cX5_init 84 = .ok (.aload_n 0, 1) := by decide +kernel
theorem dX5_init_85 : decode cX5_init 85 = .ok (.bipush 8, 2) := by decide +kernel
theorem dX5_init_87 : decode cX5_init 87 = .ok (.newarray .int, 2) := by decide +kernel
theorem dX5_init_89 : decode cX5_init 89 = .ok (.putfield 40, 3) := by decide +kernel
theorem dX5_init_92 : decode cX5_init 92 = .ok (.aload_n 0, 1) := by decide +kernel
theorem dX5_init_93 : decode cX5_init 93 = .ok (.bipush 16, 2) := by decide +kernel
theorem dX5_init_95 : decode cX5_init 95 = .ok (.newarray .boolean, 2) := by decide +kernel
theorem dX5_init_97 : decode cX5_init 97 = .ok (.putfield 43, 3) := by decide +kernel
theorem dX5_init_100 : decode cX5_init 100 = .ok (.aload_n 0, 1) := by decide +kernel
theorem dX5_init_101 : decode cX5_init 101 = .ok (.bipush 16, 2) := by decide +kernel
theorem dX5_init_103 : decode cX5_init 103 = .ok (.newarray .boolean, 2) := by decide +kernel
theorem dX5_init_105 : decode cX5_init 105 = .ok (.putfield 47, 3) := by decide +kernel
theorem dX5_init_108 : decode cX5_init 108 = .ok (.aload_n 0, 1) := by decide +kernel
theorem dX5_init_109 : decode cX5_init 109 = .ok (.bipush 16, 2) := by decide +kernel
theorem dX5_init_111 : decode cX5_init 111 = .ok (.newarray .int, 2) := by decide +kernel
theorem dX5_init_113 : decode cX5_init 113 = .ok (.putfield 50, 3) := by decide +kernel
theorem dX5_init_116 : decode cX5_init 116 = .ok (.aload_n 0, 1) := by decide +kernel
