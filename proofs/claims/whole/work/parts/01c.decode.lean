theorem dX0_init_0 : decode cX0_init 0 = .ok (.aload_n 0, 1) := by decide +kernel
theorem dX0_init_1 : decode cX0_init 1 = .ok (.invokespecial 3, 3) := by decide +kernel
theorem dX0_init_4 : decode cX0_init 4 = .ok (.aload_n 0, 1) := by decide +kernel
theorem dX0_init_5 : decode cX0_init 5 = .ok (.iconst 1, 1) := by decide +kernel
theorem dX0_init_6 : decode cX0_init 6 = .ok (.putfield 9, 3) := by decide +kernel
theorem dX0_init_9 : decode cX0_init 9 = .ok (.return_, 1) := by decide +kernel
theorem dX0_start_0 : decode cX0_start 0 = .ok (.aload_n 0, 1) := by decide +kernel
theorem dX0_start_1 : decode cX0_start 1 = .ok (.iconst 1, 1) := by decide +kernel
theorem dX0_start_2 : decode cX0_start 2 = .ok (.putfield 15, 3) := by decide +kernel
theorem dX0_start_5 : decode cX0_start 5 = .ok (.aload_n 0, 1) := by decide +kernel
theorem dX0_start_6 : decode cX0_start 6 = .ok (.iconst 1, 1) := by decide +kernel
theorem dX0_start_7 : decode cX0_start 7 = .ok (.putfield 19, 3) := by decide +kernel
theorem dX0_start_10 : decode cX0_start 10 = .ok (.aload_n 0, 1) := by decide +kernel
theorem dX0_start_11 : decode cX0_start 11 = .ok (.iload_n 1, 1) := by decide +kernel
theorem dX0_start_12 : decode cX0_start 12 = .ok (.putfield 22, 3) := by decide +kernel
theorem dX0_start_15 : decode cX0_start 15 = .ok (.aload_n 0, 1) := by decide +kernel
theorem dX0_start_16 : decode cX0_start 16 = .ok (.iconst 1, 1) := by decide +kernel
theorem dX0_start_17 : decode cX0_start 17 = .ok (.putfield 9, 3) := by decide +kernel
theorem dX0_start_20 : decode cX0_start 20 = .ok (.aload_n 0, 1) := by decide +kernel
theorem dX0_start_21 : decode cX0_start 21 = .ok (.iconst 0, 1) := by decide +kernel
theorem dX0_start_22 : decode cX0_start 22 = .ok (.putfield 25, 3) := by decide +kernel
theorem dX0_start_25 : decode cX0_start 25 = .ok (.aload_n 0, 1) := by decide +kernel
theorem dX0_start_26 : decode cX0_start 26 = .ok (.iload_n 2, 1) := by decide +kernel
theorem dX0_start_27 : decode cX0_start 27 = .ok (.putfield 28, 3) := by decide +kernel
theorem dX0_start_30 : decode cX0_start 30 = .ok (.return_, 1) := by decide +kernel
theorem dX0_end_0 : decode cX0_end 0 = .ok (.aload_n 0, 1) := by decide +kernel
theorem dX0_end_1 : decode cX0_end 1 = .ok (.iconst 0, 1) := by decide +kernel
theorem dX0_end_2 : decode cX0_end 2 = .ok (.putfield 19, 3) := by decide +kernel
theorem dX0_end_5 : decode cX0_end 5 = .ok (.aload_n 0, 1) := by decide +kernel
theorem dX0_end_6 : decode cX0_end 6 = .ok (.dup, 1) := by decide +kernel
theorem dX0_end_7 : decode cX0_end 7 = .ok (.getfield 31, 3) := by decide +kernel
theorem dX0_end_10 : decode cX0_end 10 = .ok (.iconst 1, 1) := by decide +kernel
theorem dX0_end_11 : decode cX0_end 11 = .ok (.iadd, 1) := by decide +kernel
theorem dX0_end_12 : decode cX0_end 12 = .ok (.putfield 31, 3) := by decide +kernel
theorem dX0_end_15 : decode cX0_end 15 = .ok (.aload_n 0, 1) := by decide +kernel
theorem dX0_end_16 : decode cX0_end 16 = .ok (.iload_n 1, 1) := by decide +kernel
theorem dX0_end_17 : decode cX0_end 17 = .ok (.aload_n 0, 1) := by decide +kernel
theorem dX0_end_18 : decode cX0_end 18 = .ok (.getfield 22, 3) := by decide +kernel
theorem dX0_end_21 : decode cX0_end 21 = .ok (.isub, 1) := by decide +kernel
theorem dX0_end_22 : decode cX0_end 22 = .ok (.putfield 34, 3) := by decide +kernel
theorem dX0_end_25 : decode cX0_end 25 = .ok (.aload_n 0, 1) := by decide +kernel
theorem dX0_end_26 : decode cX0_end 26 = .ok (.aload_n 0, 1) := by decide +kernel
theorem dX0_end_27 : decode cX0_end 27 = .ok (.getfield 37, 3) := by decide +kernel
theorem dX0_end_30 : decode cX0_end 30 = .ok (.aload_n 0, 1) := by decide +kernel
theorem dX0_end_31 : decode cX0_end 31 = .ok (.getfield 34, 3) := by decide +kernel
theorem dX0_end_34 : decode cX0_end 34 = .ok (.invokestatic 40, 3) := by decide +kernel
theorem dX0_end_37 : decode cX0_end 37 = .ok (.putfield 37, 3) := by decide +kernel
theorem dX0_end_40 : decode cX0_end 40 = .ok (.aload_n 0, 1) := by decide +kernel
theorem dX0_end_41 : decode cX0_end 41 = .ok (.getfield 34, 3) := by decide +kernel
theorem dX0_end_44 : decode cX0_end 44 = .ok (.iload_n 2, 1) := by decide +kernel
theorem dX0_end_45 : decode cX0_end 45 = .ok (.if_icmp .le 13, 3) := by decide +kernel
theorem dX0_end_48 : decode cX0_end 48 = .ok (.aload_n 0, 1) := by decide +kernel
theorem dX0_end_49 : decode cX0_end 49 = .ok (.dup, 1) := by decide +kernel
theorem dX0_end_50 : decode cX0_end 50 = .ok (.getfield 46, 3) := by decide +kernel
theorem dX0_end_53 : decode cX0_end 53 = .ok (.iconst 1, 1) := by decide +kernel
theorem dX0_end_54 : decode cX0_end 54 = .ok (.iadd, 1) := by decide +kernel
theorem dX0_end_55 : decode cX0_end 55 = .ok (.putfield 46, 3) := by decide +kernel
theorem dX0_end_58 : decode cX0_end 58 = .ok (.return_, 1) := by decide +kernel
theorem dX0_forget_0 : decode cX0_forget 0 = .ok (.aload_n 0, 1) := by decide +kernel
theorem dX0_forget_1 : decode cX0_forget 1 = .ok (.iconst 0, 1) := by decide +kernel
theorem dX0_forget_2 : decode cX0_forget 2 = .ok (.putfield 15, 3) := by decide +kernel
theorem dX0_forget_5 : decode cX0_forget 5 = .ok (.aload_n 0, 1) := by decide +kernel
theorem dX0_forget_6 : decode cX0_forget 6 = .ok (.iconst 0, 1) := by decide +kernel
theorem dX0_forget_7 : decode cX0_forget 7 = .ok (.putfield 31, 3) := by decide +kernel
theorem dX0_forget_10 : decode cX0_forget 10 = .ok (.aload_n 0, 1) := by decide +kernel
theorem dX0_forget_11 : decode cX0_forget 11 = .ok (.iconst 0, 1) := by decide +kernel
theorem dX0_forget_12 : decode cX0_forget 12 = .ok (.putfield 46, 3) := by decide +kernel
theorem dX0_forget_15 : decode cX0_forget 15 = .ok (.aload_n 0, 1) := by decide +kernel
theorem dX0_forget_16 : decode cX0_forget 16 = .ok (.iconst 0, 1) := by decide +kernel
theorem dX0_forget_17 : decode cX0_forget 17 = .ok (.putfield 37, 3) := by decide +kernel
theorem dX0_forget_20 : decode cX0_forget 20 = .ok (.aload_n 0, 1) := by decide +kernel
theorem dX0_forget_21 : decode cX0_forget 21 = .ok (.iconst 0, 1) := by decide +kernel
theorem dX0_forget_22 : decode cX0_forget 22 = .ok (.putfield 34, 3) := by decide +kernel
theorem dX0_forget_25 : decode cX0_forget 25 = .ok (.return_, 1) := by decide +kernel
theorem dX1_init_0 : decode cX1_init 0 = .ok (.aload_n 0, 1) := by decide +kernel
theorem dX1_init_1 : decode cX1_init 1 = .ok (.invokespecial 3, 3) := by decide +kernel
theorem dX1_init_4 : decode cX1_init 4 = .ok (.return_, 1) := by decide +kernel
theorem dX1_layDown_0 : decode cX1_layDown 0 = .ok (.aload_n 0, 1) := by decide +kernel
theorem dX1_layDown_1 : decode cX1_layDown 1 = .ok (.iload_n 1, 1) := by decide +kernel
theorem dX1_layDown_2 : decode cX1_layDown 2 = .ok (.putfield 9, 3) := by decide +kernel
theorem dX1_layDown_5 : decode cX1_layDown 5 = .ok (.aload_n 0, 1) := by decide +kernel
theorem dX1_layDown_6 : decode cX1_layDown 6 = .ok (.iload_n 2, 1) := by decide +kernel
theorem dX1_layDown_7 : decode cX1_layDown 7 = .ok (.putfield 15, 3) := by decide +kernel
theorem dX1_layDown_10 : decode cX1_layDown 10 = .ok (.aload_n 0, 1) := by decide +kernel
theorem dX1_layDown_11 : decode cX1_layDown 11 = .ok (.iload_n 3, 1) := by decide +kernel
theorem dX1_layDown_12 : decode cX1_layDown 12 = .ok (.putfield 18, 3) := by decide +kernel
theorem dX1_layDown_15 : decode cX1_layDown 15 = .ok (.aload_n 0, 1) := by decide +kernel
theorem dX1_layDown_16 : decode cX1_layDown 16 = .ok (.iload 4, 2) := by decide +kernel
theorem dX1_layDown_18 : decode cX1_layDown 18 = .ok (.putfield 21, 3) := by decide +kernel
theorem dX1_layDown_21 : decode cX1_layDown 21 = .ok (.aload_n 0, 1) := by decide +kernel
theorem dX1_layDown_22 : decode cX1_layDown 22 = .ok (.iconst 0, 1) := by decide +kernel
theorem dX1_layDown_23 : decode cX1_layDown 23 = .ok (.putfield 24, 3) := by decide +kernel
theorem dX1_layDown_26 : decode cX1_layDown 26 = .ok (.return_, 1) := by decide +kernel
theorem dX1_isOuter_0 : decode cX1_isOuter 0 = .ok (.aload_n 0, 1) := by decide +kernel
theorem dX1_isOuter_1 : decode cX1_isOuter 1 = .ok (.getfield 21, 3) := by decide +kernel
theorem dX1_isOuter_4 : decode cX1_isOuter 4 = .ok (.iconst (-1), 1) := by decide +kernel
theorem dX1_isOuter_5 : decode cX1_isOuter 5 = .ok (.if_icmp .ne 7, 3) := by decide +kernel
theorem dX1_isOuter_8 : decode cX1_isOuter 8 = .ok (.iconst 1, 1) := by decide +kernel
theorem dX1_isOuter_9 : decode cX1_isOuter 9 = .ok (.goto 4, 3) := by decide +kernel
theorem dX1_isOuter_12 : decode cX1_isOuter 12 = .ok (.iconst 0, 1) := by decide +kernel
theorem dX1_isOuter_13 : decode cX1_isOuter 13 = .ok (.ireturn, 1) := by decide +kernel
theorem dX1_startJob_0 : decode cX1_startJob 0 = .ok (.aload_n 0, 1) := by decide +kernel
theorem dX1_startJob_1 : decode cX1_startJob 1 = .ok (.aload_n 0, 1) := by decide +kernel
theorem dX1_startJob_2 : decode cX1_startJob 2 = .ok (.getfield 27, 3) := by decide +kernel
theorem dX1_startJob_5 : decode cX1_startJob 5 = .ok (.ifCond .ne 10, 3) := by decide +kernel
theorem dX1_startJob_8 : decode cX1_startJob 8 = .ok (.aload_n 0, 1) := by decide +kernel
theorem dX1_startJob_9 : decode cX1_startJob 9 = .ok (.getfield 18, 3) := by decide +kernel
theorem dX1_startJob_12 : decode cX1_startJob 12 = .ok (.goto 7, 3) := by decide +kernel
theorem dX1_startJob_15 : decode cX1_startJob 15 = .ok (.aload_n 0, 1) := by decide +kernel
theorem dX1_startJob_16 : decode cX1_startJob 16 = .ok (.getfield 27, 3) := by decide +kernel
theorem dX1_startJob_19 : decode cX1_startJob 19 = .ok (.putfield 30, 3) := by decide +kernel
theorem dX1_startJob_22 : decode cX1_startJob 22 = .ok (.aload_n 0, 1) := by decide +kernel
theorem dX1_startJob_23 : decode cX1_startJob 23 = .ok (.iconst 0, 1) := by decide +kernel
theorem dX1_startJob_24 : decode cX1_startJob 24 = .ok (.putfield 27, 3) := by decide +kernel
theorem dX1_startJob_27 : decode cX1_startJob 27 = .ok (.return_, 1) := by decide +kernel
theorem dX1_forgetJobs_0 : decode cX1_forgetJobs 0 = .ok (.aload_n 0, 1) := by decide +kernel
theorem dX1_forgetJobs_1 : decode cX1_forgetJobs 1 = .ok (.iconst 0, 1) := by decide +kernel
theorem dX1_forgetJobs_2 : decode cX1_forgetJobs 2 = .ok (.putfield 27, 3) := by decide +kernel
theorem dX1_forgetJobs_5 : decode cX1_forgetJobs 5 = .ok (.aload_n 0, 1) := by decide +kernel
theorem dX1_forgetJobs_6 : decode cX1_forgetJobs 6 = .ok (.iconst 0, 1) := by decide +kernel
theorem dX1_forgetJobs_7 : decode cX1_forgetJobs 7 = .ok (.putfield 33, 3) := by decide +kernel
theorem dX1_forgetJobs_10 : decode cX1_forgetJobs 10 = .ok (.return_, 1) := by decide +kernel
theorem dX2_init_0 : decode cX2_init 0 = .ok (.aload_n 0, 1) := by decide +kernel
theorem dX2_init_1 : decode cX2_init 1 = .ok (.invokespecial 3, 3) := by decide +kernel
theorem dX2_init_4 : decode cX2_init 4 = .ok (.aload_n 0, 1) := by decide +kernel
theorem dX2_init_5 : decode cX2_init 5 = .ok (.iconst 4, 1) := by decide +kernel
theorem dX2_init_6 : decode cX2_init 6 = .ok (.newarray .int, 2) := by decide +kernel
theorem dX2_init_8 : decode cX2_init 8 = .ok (.putfield 9, 3) := by decide +kernel
theorem dX2_init_11 : decode cX2_init 11 = .ok (.return_, 1) := by decide +kernel
theorem dX2_join_0 : decode cX2_join 0 = .ok (.aload_n 0, 1) := by decide +kernel
theorem dX2_join_1 : decode cX2_join 1 = .ok (.getfield 15, 3) := by decide +kernel
theorem dX2_join_4 : decode cX2_join 4 = .ok (.iconst 4, 1) := by decide +kernel
theorem dX2_join_5 : decode cX2_join 5 = .ok (.if_icmp .ge 23, 3) := by decide +kernel
theorem dX2_join_8 : decode cX2_join 8 = .ok (.aload_n 0, 1) := by decide +kernel
theorem dX2_join_9 : decode cX2_join 9 = .ok (.getfield 9, 3) := by decide +kernel
theorem dX2_join_12 : decode cX2_join 12 = .ok (.aload_n 0, 1) := by decide +kernel
theorem dX2_join_13 : decode cX2_join 13 = .ok (.getfield 15, 3) := by decide +kernel
theorem dX2_join_16 : decode cX2_join 16 = .ok (.iload_n 1, 1) := by decide +kernel
theorem dX2_join_17 : decode cX2_join 17 = .ok (.iastore, 1) := by decide +kernel
theorem dX2_join_18 : decode cX2_join 18 = .ok (.aload_n 0, 1) := by decide +kernel
theorem dX2_join_19 : decode cX2_join 19 = .ok (.dup, 1) := by decide +kernel
theorem dX2_join_20 : decode cX2_join 20 = .ok (.getfield 15, 3) := by decide +kernel
theorem dX2_join_23 : decode cX2_join 23 = .ok (.iconst 1, 1) := by decide +kernel
theorem dX2_join_24 : decode cX2_join 24 = .ok (.iadd, 1) := by decide +kernel
theorem dX2_join_25 : decode cX2_join 25 = .ok (.putfield 15, 3) := by decide +kernel
theorem dX2_join_28 : decode cX2_join 28 = .ok (.return_, 1) := by decide +kernel
theorem dX2_dropFirst_0 : decode cX2_dropFirst 0 = .ok (.iconst 1, 1) := by decide +kernel
theorem dX2_dropFirst_1 : decode cX2_dropFirst 1 = .ok (.istore_n 1, 1) := by decide +kernel
theorem dX2_dropFirst_2 : decode cX2_dropFirst 2 = .ok (.iload_n 1, 1) := by decide +kernel
theorem dX2_dropFirst_3 : decode cX2_dropFirst 3 = .ok (.aload_n 0, 1) := by decide +kernel
theorem dX2_dropFirst_4 : decode cX2_dropFirst 4 = .ok (.getfield 15, 3) := by decide +kernel
theorem dX2_dropFirst_7 : decode cX2_dropFirst 7 = .ok (.if_icmp .ge 23, 3) := by decide +kernel
theorem dX2_dropFirst_10 : decode cX2_dropFirst 10 = .ok (.aload_n 0, 1) := by decide +kernel
theorem dX2_dropFirst_11 : decode cX2_dropFirst 11 = .ok (.getfield 9, 3) := by decide +kernel
theorem dX2_dropFirst_14 : decode cX2_dropFirst 14 = .ok (.iload_n 1, 1) := by decide +kernel
theorem dX2_dropFirst_15 : decode cX2_dropFirst 15 = .ok (.iconst 1, 1) := by decide +kernel
theorem dX2_dropFirst_16 : decode cX2_dropFirst 16 = .ok (.isub, 1) := by decide +kernel
theorem dX2_dropFirst_17 : decode cX2_dropFirst 17 = .ok (.aload_n 0, 1) := by decide +kernel
theorem dX2_dropFirst_18 : decode cX2_dropFirst 18 = .ok (.getfield 9, 3) := by decide +kernel
theorem dX2_dropFirst_21 : decode cX2_dropFirst 21 = .ok (.iload_n 1, 1) := by decide +kernel
theorem dX2_dropFirst_22 : decode cX2_dropFirst 22 = .ok (.iaload, 1) := by decide +kernel
theorem dX2_dropFirst_23 : decode cX2_dropFirst 23 = .ok (.iastore, 1) := by decide +kernel
theorem dX2_dropFirst_24 : decode cX2_dropFirst 24 = .ok (.iinc 1 1, 3) := by decide +kernel
theorem dX2_dropFirst_27 : decode cX2_dropFirst 27 = .ok (.goto (-25), 3) := by decide +kernel
theorem dX2_dropFirst_30 : decode cX2_dropFirst 30 = .ok (.aload_n 0, 1) := by decide +kernel
theorem dX2_dropFirst_31 : decode cX2_dropFirst 31 = .ok (.iconst 0, 1) := by decide +kernel
theorem dX2_dropFirst_32 : decode cX2_dropFirst 32 = .ok (.aload_n 0, 1) := by decide +kernel
theorem dX2_dropFirst_33 : decode cX2_dropFirst 33 = .ok (.getfield 15, 3) := by decide +kernel
theorem dX2_dropFirst_36 : decode cX2_dropFirst 36 = .ok (.iconst 1, 1) := by decide +kernel
theorem dX2_dropFirst_37 : decode cX2_dropFirst 37 = .ok (.isub, 1) := by decide +kernel
theorem dX2_dropFirst_38 : decode cX2_dropFirst 38 = .ok (.invokestatic 19, 3) := by decide +kernel
theorem dX2_dropFirst_41 : decode cX2_dropFirst 41 = .ok (.putfield 15, 3) := by decide +kernel
theorem dX2_dropFirst_44 : decode cX2_dropFirst 44 = .ok (.return_, 1) := by decide +kernel
theorem dX2_coreAt_0 : decode cX2_coreAt 0 = .ok (.iload_n 1, 1) := by decide +kernel
theorem dX2_coreAt_1 : decode cX2_coreAt 1 = .ok (.ifCond .lt 20, 3) := by decide +kernel
theorem dX2_coreAt_4 : decode cX2_coreAt 4 = .ok (.iload_n 1, 1) := by decide +kernel
theorem dX2_coreAt_5 : decode cX2_coreAt 5 = .ok (.aload_n 0, 1) := by decide +kernel
theorem dX2_coreAt_6 : decode cX2_coreAt 6 = .ok (.getfield 15, 3) := by decide +kernel
theorem dX2_coreAt_9 : decode cX2_coreAt 9 = .ok (.if_icmp .ge 12, 3) := by decide +kernel
theorem dX2_coreAt_12 : decode cX2_coreAt 12 = .ok (.aload_n 0, 1) := by decide +kernel
theorem dX2_coreAt_13 : decode cX2_coreAt 13 = .ok (.getfield 9, 3) := by decide +kernel
theorem dX2_coreAt_16 : decode cX2_coreAt 16 = .ok (.iload_n 1, 1) := by decide +kernel
theorem dX2_coreAt_17 : decode cX2_coreAt 17 = .ok (.iaload, 1) := by decide +kernel
theorem dX2_coreAt_18 : decode cX2_coreAt 18 = .ok (.goto 4, 3) := by decide +kernel
theorem dX2_coreAt_21 : decode cX2_coreAt 21 = .ok (.iconst (-1), 1) := by decide +kernel
theorem dX2_coreAt_22 : decode cX2_coreAt 22 = .ok (.ireturn, 1) := by decide +kernel
theorem dX3_init_0 : decode cX3_init 0 = .ok (.aload_n 0, 1) := by decide +kernel
theorem dX3_init_1 : decode cX3_init 1 = .ok (.invokespecial 3, 3) := by decide +kernel
theorem dX3_init_4 : decode cX3_init 4 = .ok (.aload_n 0, 1) := by decide +kernel
theorem dX3_init_5 : decode cX3_init 5 = .ok (.bipush 6, 2) := by decide +kernel
theorem dX3_init_7 : decode cX3_init 7 = .ok (.anewarray 9, 3) := by decide +kernel
theorem dX3_init_10 : decode cX3_init 10 = .ok (.putfield 11, 3) := by decide +kernel
theorem dX3_init_13 : decode cX3_init 13 = .ok (.aload_n 0, 1) := by decide +kernel
theorem dX3_init_14 : decode cX3_init 14 = .ok (.new 17, 3) := by decide +kernel
theorem dX3_init_17 : decode cX3_init 17 = .ok (.dup, 1) := by decide +kernel
theorem dX3_init_18 : decode cX3_init 18 = .ok (.invokespecial 19, 3) := by decide +kernel
theorem dX3_init_21 : decode cX3_init 21 = .ok (.putfield 20, 3) := by decide +kernel
theorem dX3_init_24 : decode cX3_init 24 = .ok (.iconst 0, 1) := by decide +kernel
theorem dX3_init_25 : decode cX3_init 25 = .ok (.istore_n 1, 1) := by decide +kernel
theorem dX3_init_26 : decode cX3_init 26 = .ok (.iload_n 1, 1) := by decide +kernel
theorem dX3_init_27 : decode cX3_init 27 = .ok (.bipush 6, 2) := by decide +kernel
theorem dX3_init_29 : decode cX3_init 29 = .ok (.if_icmp .ge 22, 3) := by decide +kernel
theorem dX3_init_32 : decode cX3_init 32 = .ok (.aload_n 0, 1) := by decide +kernel
theorem dX3_init_33 : decode cX3_init 33 = .ok (.getfield 11, 3) := by decide +kernel
theorem dX3_init_36 : decode cX3_init 36 = .ok (.iload_n 1, 1) := by decide +kernel
theorem dX3_init_37 : decode cX3_init 37 = .ok (.new 9, 3) := by decide +kernel
theorem dX3_init_40 : decode cX3_init 40 = .ok (.dup, 1) := by decide +kernel
theorem dX3_init_41 : decode cX3_init 41 = .ok (.invokespecial 24, 3) := by decide +kernel
theorem dX3_init_44 : decode cX3_init 44 = .ok (.aastore, 1) := by decide +kernel
theorem dX3_init_45 : decode cX3_init 45 = .ok (.iinc 1 1, 3) := by decide +kernel
theorem dX3_init_48 : decode cX3_init 48 = .ok (.goto (-22), 3) := by decide +kernel
theorem dX3_init_51 : decode cX3_init 51 = .ok (.return_, 1) := by decide +kernel
theorem dX3_layDown_0 : decode cX3_layDown 0 = .ok (.aload_n 0, 1) := by decide +kernel
theorem dX3_layDown_1 : decode cX3_layDown 1 = .ok (.iconst 1, 1) := by decide +kernel
theorem dX3_layDown_2 : decode cX3_layDown 2 = .ok (.putfield 25, 3) := by decide +kernel
theorem dX3_layDown_5 : decode cX3_layDown 5 = .ok (.aload_n 0, 1) := by decide +kernel
theorem dX3_layDown_6 : decode cX3_layDown 6 = .ok (.iload_n 1, 1) := by decide +kernel
theorem dX3_layDown_7 : decode cX3_layDown 7 = .ok (.putfield 29, 3) := by decide +kernel
theorem dX3_layDown_10 : decode cX3_layDown 10 = .ok (.aload_n 0, 1) := by decide +kernel
theorem dX3_layDown_11 : decode cX3_layDown 11 = .ok (.iload_n 2, 1) := by decide +kernel
theorem dX3_layDown_12 : decode cX3_layDown 12 = .ok (.putfield 33, 3) := by decide +kernel
theorem dX3_layDown_15 : decode cX3_layDown 15 = .ok (.aload_n 0, 1) := by decide +kernel
theorem dX3_layDown_16 : decode cX3_layDown 16 = .ok (.iload_n 3, 1) := by decide +kernel
theorem dX3_layDown_17 : decode cX3_layDown 17 = .ok (.putfield 36, 3) := by decide +kernel
theorem dX3_layDown_20 : decode cX3_layDown 20 = .ok (.aload_n 0, 1) := by decide +kernel
theorem dX3_layDown_21 : decode cX3_layDown 21 = .ok (.iload 4, 2) := by decide +kernel
theorem dX3_layDown_23 : decode cX3_layDown 23 = .ok (.putfield 39, 3) := by decide +kernel
theorem dX3_layDown_26 : decode cX3_layDown 26 = .ok (.aload_n 0, 1) := by decide +kernel
theorem dX3_layDown_27 : decode cX3_layDown 27 = .ok (.iload 5, 2) := by decide +kernel
theorem dX3_layDown_29 : decode cX3_layDown 29 = .ok (.putfield 42, 3) := by decide +kernel
theorem dX3_layDown_32 : decode cX3_layDown 32 = .ok (.aload_n 0, 1) := by decide +kernel
theorem dX3_layDown_33 : decode cX3_layDown 33 = .ok (.iconst 0, 1) := by decide +kernel
theorem dX3_layDown_34 : decode cX3_layDown 34 = .ok (.putfield 45, 3) := by decide +kernel
theorem dX3_layDown_37 : decode cX3_layDown 37 = .ok (.return_, 1) := by decide +kernel
theorem dX3_isOn_0 : decode cX3_isOn 0 = .ok (.aload_n 0, 1) := by decide +kernel
theorem dX3_isOn_1 : decode cX3_isOn 1 = .ok (.getfield 25, 3) := by decide +kernel
theorem dX3_isOn_4 : decode cX3_isOn 4 = .ok (.ifCond .eq 15, 3) := by decide +kernel
theorem dX3_isOn_7 : decode cX3_isOn 7 = .ok (.aload_n 0, 1) := by decide +kernel
theorem dX3_isOn_8 : decode cX3_isOn 8 = .ok (.getfield 29, 3) := by decide +kernel
theorem dX3_isOn_11 : decode cX3_isOn 11 = .ok (.iload_n 1, 1) := by decide +kernel
theorem dX3_isOn_12 : decode cX3_isOn 12 = .ok (.if_icmp .ne 7, 3) := by decide +kernel
theorem dX3_isOn_15 : decode cX3_isOn 15 = .ok (.iconst 1, 1) := by decide +kernel
theorem dX3_isOn_16 : decode cX3_isOn 16 = .ok (.goto 4, 3) := by decide +kernel
theorem dX3_isOn_19 : decode cX3_isOn 19 = .ok (.iconst 0, 1) := by decide +kernel
theorem dX3_isOn_20 : decode cX3_isOn 20 = .ok (.ireturn, 1) := by decide +kernel
theorem dX3_isOuter_0 : decode cX3_isOuter 0 = .ok (.iload_n 1, 1) := by decide +kernel
theorem dX3_isOuter_1 : decode cX3_isOuter 1 = .ok (.ifCond .lt 27, 3) := by decide +kernel
theorem dX3_isOuter_4 : decode cX3_isOuter 4 = .ok (.iload_n 1, 1) := by decide +kernel
theorem dX3_isOuter_5 : decode cX3_isOuter 5 = .ok (.aload_n 0, 1) := by decide +kernel
theorem dX3_isOuter_6 : decode cX3_isOuter 6 = .ok (.getfield 45, 3) := by decide +kernel
theorem dX3_isOuter_9 : decode cX3_isOuter 9 = .ok (.if_icmp .ge 19, 3) := by decide +kernel
theorem dX3_isOuter_12 : decode cX3_isOuter 12 = .ok (.aload_n 0, 1) := by decide +kernel
theorem dX3_isOuter_13 : decode cX3_isOuter 13 = .ok (.getfield 11, 3) := by decide +kernel
theorem dX3_isOuter_16 : decode cX3_isOuter 16 = .ok (.iload_n 1, 1) := by decide +kernel
theorem dX3_isOuter_17 : decode cX3_isOuter 17 = .ok (.aaload, 1) := by decide +kernel
theorem dX3_isOuter_18 : decode cX3_isOuter 18 = .ok (.invokevirtual 48, 3) := by decide +kernel
theorem dX3_isOuter_21 : decode cX3_isOuter 21 = .ok (.ifCond .eq 7, 3) := by decide +kernel
theorem dX3_isOuter_24 : decode cX3_isOuter 24 = .ok (.iconst 1, 1) := by decide +kernel
theorem dX3_isOuter_25 : decode cX3_isOuter 25 = .ok (.goto 4, 3) := by decide +kernel
theorem dX3_isOuter_28 : decode cX3_isOuter 28 = .ok (.iconst 0, 1) := by decide +kernel
theorem dX3_isOuter_29 : decode cX3_isOuter 29 = .ok (.ireturn, 1) := by decide +kernel
theorem dX3_hasPlaceFor_0 : decode cX3_hasPlaceFor 0 = .ok (.iload_n 3, 1) := by decide +kernel
theorem dX3_hasPlaceFor_1 : decode cX3_hasPlaceFor 1 = .ok (.iconst (-1), 1) := by decide +kernel
theorem dX3_hasPlaceFor_2 : decode cX3_hasPlaceFor 2 = .ok (.if_icmp .ne 25, 3) := by decide +kernel
theorem dX3_hasPlaceFor_5 : decode cX3_hasPlaceFor 5 = .ok (.iload_n 1, 1) := by decide +kernel
theorem dX3_hasPlaceFor_6 : decode cX3_hasPlaceFor 6 = .ok (.aload_n 0, 1) := by decide +kernel
theorem dX3_hasPlaceFor_7 : decode cX3_hasPlaceFor 7 = .ok (.invokevirtual 52, 3) := by decide +kernel
theorem dX3_hasPlaceFor_10 : decode cX3_hasPlaceFor 10 = .ok (.if_icmp .lt 15, 3) := by decide +kernel
theorem dX3_hasPlaceFor_13 : decode cX3_hasPlaceFor 13 = .ok (.iload_n 1, 1) := by decide +kernel
theorem dX3_hasPlaceFor_14 : decode cX3_hasPlaceFor 14 = .ok (.aload_n 0, 1) := by decide +kernel
theorem dX3_hasPlaceFor_15 : decode cX3_hasPlaceFor 15 = .ok (.getfield 42, 3) := by decide +kernel
theorem dX3_hasPlaceFor_18 : decode cX3_hasPlaceFor 18 = .ok (.if_icmp .gt 7, 3) := by decide +kernel
theorem dX3_hasPlaceFor_21 : decode cX3_hasPlaceFor 21 = .ok (.iconst 1, 1) := by decide +kernel
theorem dX3_hasPlaceFor_22 : decode cX3_hasPlaceFor 22 = .ok (.goto 4, 3) := by decide +kernel
theorem dX3_hasPlaceFor_25 : decode cX3_hasPlaceFor 25 = .ok (.iconst 0, 1) := by decide +kernel
theorem dX3_hasPlaceFor_26 : decode cX3_hasPlaceFor 26 = .ok (.ireturn, 1) := by decide +kernel
theorem dX3_hasPlaceFor_27 : decode cX3_hasPlaceFor 27 = .ok (.aload_n 0, 1) := by decide +kernel
theorem dX3_hasPlaceFor_28 : decode cX3_hasPlaceFor 28 = .ok (.iload_n 3, 1) := by decide +kernel
theorem dX3_hasPlaceFor_29 : decode cX3_hasPlaceFor 29 = .ok (.invokevirtual 56, 3) := by decide +kernel
theorem dX3_hasPlaceFor_32 : decode cX3_hasPlaceFor 32 = .ok (.ifCond .eq 26, 3) := by decide +kernel
theorem dX3_hasPlaceFor_35 : decode cX3_hasPlaceFor 35 = .ok (.iload_n 1, 1) := by decide +kernel
theorem dX3_hasPlaceFor_36 : decode cX3_hasPlaceFor 36 = .ok (.ifCond .lt 22, 3) := by decide +kernel
theorem dX3_hasPlaceFor_39 : decode cX3_hasPlaceFor 39 = .ok (.iload_n 1, 1) := by decide +kernel
theorem dX3_hasPlaceFor_40 : decode cX3_hasPlaceFor 40 = .ok (.aload_n 0, 1) := by decide +kernel
theorem dX3_hasPlaceFor_41 : decode cX3_hasPlaceFor 41 = .ok (.getfield 11, 3) := by decide +kernel
theorem dX3_hasPlaceFor_44 : decode cX3_hasPlaceFor 44 = .ok (.iload_n 3, 1) := by decide +kernel
theorem dX3_hasPlaceFor_45 : decode cX3_hasPlaceFor 45 = .ok (.aaload, 1) := by decide +kernel
theorem dX3_hasPlaceFor_46 : decode cX3_hasPlaceFor 46 = .ok (.getfield 59, 3) := by decide +kernel
theorem dX3_hasPlaceFor_49 : decode cX3_hasPlaceFor 49 = .ok (.iload_n 2, 1) := by decide +kernel
theorem dX3_hasPlaceFor_50 : decode cX3_hasPlaceFor 50 = .ok (.isub, 1) := by decide +kernel
theorem dX3_hasPlaceFor_51 : decode cX3_hasPlaceFor 51 = .ok (.if_icmp .gt 7, 3) := by decide +kernel
theorem dX3_hasPlaceFor_54 : decode cX3_hasPlaceFor 54 = .ok (.iconst 1, 1) := by decide +kernel
theorem dX3_hasPlaceFor_55 : decode cX3_hasPlaceFor 55 = .ok (.goto 4, 3) := by decide +kernel
theorem dX3_hasPlaceFor_58 : decode cX3_hasPlaceFor 58 = .ok (.iconst 0, 1) := by decide +kernel
theorem dX3_hasPlaceFor_59 : decode cX3_hasPlaceFor 59 = .ok (.ireturn, 1) := by decide +kernel
theorem dX3_greatestAfter_0 : decode cX3_greatestAfter 0 = .ok (.iconst 0, 1) := by decide +kernel
theorem dX3_greatestAfter_1 : decode cX3_greatestAfter 1 = .ok (.istore_n 1, 1) := by decide +kernel
theorem dX3_greatestAfter_2 : decode cX3_greatestAfter 2 = .ok (.iconst 0, 1) := by decide +kernel
theorem dX3_greatestAfter_3 : decode cX3_greatestAfter 3 = .ok (.istore_n 2, 1) := by decide +kernel
theorem dX3_greatestAfter_4 : decode cX3_greatestAfter 4 = .ok (.iload_n 2, 1) := by decide +kernel
theorem dX3_greatestAfter_5 : decode cX3_greatestAfter 5 = .ok (.aload_n 0, 1) := by decide +kernel
theorem dX3_greatestAfter_6 : decode cX3_greatestAfter 6 = .ok (.getfield 45, 3) := by decide +kernel
theorem dX3_greatestAfter_9 : decode cX3_greatestAfter 9 = .ok (.if_icmp .ge 31, 3) := by decide +kernel
theorem dX3_greatestAfter_12 : decode cX3_greatestAfter 12 = .ok (.aload_n 0, 1) := by decide +kernel
theorem dX3_greatestAfter_13 : decode cX3_greatestAfter 13 = .ok (.getfield 11, 3) := by decide +kernel
theorem dX3_greatestAfter_16 : decode cX3_greatestAfter 16 = .ok (.iload_n 2, 1) := by decide +kernel
theorem dX3_greatestAfter_17 : decode cX3_greatestAfter 17 = .ok (.aaload, 1) := by decide +kernel
theorem dX3_greatestAfter_18 : decode cX3_greatestAfter 18 = .ok (.invokevirtual 48, 3) := by decide +kernel
theorem dX3_greatestAfter_21 : decode cX3_greatestAfter 21 = .ok (.ifCond .eq 13, 3) := by decide +kernel
theorem dX3_greatestAfter_24 : decode cX3_greatestAfter 24 = .ok (.aload_n 0, 1) := by decide +kernel
theorem dX3_greatestAfter_25 : decode cX3_greatestAfter 25 = .ok (.getfield 11, 3) := by decide +kernel
theorem dX3_greatestAfter_28 : decode cX3_greatestAfter 28 = .ok (.iload_n 2, 1) := by decide +kernel
theorem dX3_greatestAfter_29 : decode cX3_greatestAfter 29 = .ok (.aaload, 1) := by decide +kernel
theorem dX3_greatestAfter_30 : decode cX3_greatestAfter 30 = .ok (.getfield 62, 3) := by decide +kernel
theorem dX3_greatestAfter_33 : decode cX3_greatestAfter 33 = .ok (.istore_n 1, 1) := by decide +kernel
theorem dX3_greatestAfter_34 : decode cX3_greatestAfter 34 = .ok (.iinc 2 1, 3) := by decide +kernel
theorem dX3_greatestAfter_37 : decode cX3_greatestAfter 37 = .ok (.goto (-33), 3) := by decide +kernel
theorem dX3_greatestAfter_40 : decode cX3_greatestAfter 40 = .ok (.iload_n 1, 1) := by decide +kernel
theorem dX3_greatestAfter_41 : decode cX3_greatestAfter 41 = .ok (.ireturn, 1) := by decide +kernel
theorem dX3_addRequest_0 : decode cX3_addRequest 0 = .ok (.aload_n 0, 1) := by decide +kernel
theorem dX3_addRequest_1 : decode cX3_addRequest 1 = .ok (.getfield 45, 3) := by decide +kernel
theorem dX3_addRequest_4 : decode cX3_addRequest 4 = .ok (.istore 5, 2) := by decide +kernel
theorem dX3_addRequest_6 : decode cX3_addRequest 6 = .ok (.aload_n 0, 1) := by decide +kernel
theorem dX3_addRequest_7 : decode cX3_addRequest 7 = .ok (.getfield 11, 3) := by decide +kernel
theorem dX3_addRequest_10 : decode cX3_addRequest 10 = .ok (.iload 5, 2) := by decide +kernel
theorem dX3_addRequest_12 : decode cX3_addRequest 12 = .ok (.aaload, 1) := by decide +kernel
theorem dX3_addRequest_13 : decode cX3_addRequest 13 = .ok (.iload_n 1, 1) := by decide +kernel
theorem dX3_addRequest_14 : decode cX3_addRequest 14 = .ok (.iload_n 2, 1) := by decide +kernel
theorem dX3_addRequest_15 : decode cX3_addRequest 15 = .ok (.iload_n 3, 1) := by decide +kernel
theorem dX3_addRequest_16 : decode cX3_addRequest 16 = .ok (.iload 4, 2) := by decide +kernel
theorem dX3_addRequest_18 : decode cX3_addRequest 18 = .ok (.invokevirtual 65, 3) := by decide +kernel
theorem dX3_addRequest_21 : decode cX3_addRequest 21 = .ok (.aload_n 0, 1) := by decide +kernel
theorem dX3_addRequest_22 : decode cX3_addRequest 22 = .ok (.dup, 1) := by decide +kernel
theorem dX3_addRequest_23 : decode cX3_addRequest 23 = .ok (.getfield 45, 3) := by decide +kernel
theorem dX3_addRequest_26 : decode cX3_addRequest 26 = .ok (.iconst 1, 1) := by decide +kernel
theorem dX3_addRequest_27 : decode cX3_addRequest 27 = .ok (.iadd, 1) := by decide +kernel
theorem dX3_addRequest_28 : decode cX3_addRequest 28 = .ok (.putfield 45, 3) := by decide +kernel
theorem dX3_addRequest_31 : decode cX3_addRequest 31 = .ok (.iload 5, 2) := by decide +kernel
theorem dX3_addRequest_33 : decode cX3_addRequest 33 = .ok (.ireturn, 1) := by decide +kernel
theorem dX3_longestStay_0 : decode cX3_longestStay 0 = .ok (.iconst 0, 1) := by decide +kernel
theorem dX3_longestStay_1 : decode cX3_longestStay 1 = .ok (.istore_n 1, 1) := by decide +kernel
theorem dX3_longestStay_2 : decode cX3_longestStay 2 = .ok (.iconst 0, 1) := by decide +kernel
theorem dX3_longestStay_3 : decode cX3_longestStay 3 = .ok (.istore_n 2, 1) := by decide +kernel
theorem dX3_longestStay_4 : decode cX3_longestStay 4 = .ok (.iload_n 2, 1) := by decide +kernel
theorem dX3_longestStay_5 : decode cX3_longestStay 5 = .ok (.aload_n 0, 1) := by decide +kernel
theorem dX3_longestStay_6 : decode cX3_longestStay 6 = .ok (.getfield 45, 3) := by decide +kernel
theorem dX3_longestStay_9 : decode cX3_longestStay 9 = .ok (.if_icmp .ge 45, 3) := by decide +kernel
theorem dX3_longestStay_12 : decode cX3_longestStay 12 = .ok (.aload_n 0, 1) := by decide +kernel
theorem dX3_longestStay_13 : decode cX3_longestStay 13 = .ok (.getfield 11, 3) := by decide +kernel
theorem dX3_longestStay_16 : decode cX3_longestStay 16 = .ok (.iload_n 2, 1) := by decide +kernel
theorem dX3_longestStay_17 : decode cX3_longestStay 17 = .ok (.aaload, 1) := by decide +kernel
theorem dX3_longestStay_18 : decode cX3_longestStay 18 = .ok (.invokevirtual 48, 3) := by decide +kernel
theorem dX3_longestStay_21 : decode cX3_longestStay 21 = .ok (.ifCond .eq 27, 3) := by decide +kernel
theorem dX3_longestStay_24 : decode cX3_longestStay 24 = .ok (.iload_n 1, 1) := by decide +kernel
theorem dX3_longestStay_25 : decode cX3_longestStay 25 = .ok (.aload_n 0, 1) := by decide +kernel
theorem dX3_longestStay_26 : decode cX3_longestStay 26 = .ok (.getfield 11, 3) := by decide +kernel
theorem dX3_longestStay_29 : decode cX3_longestStay 29 = .ok (.iload_n 2, 1) := by decide +kernel
theorem dX3_longestStay_30 : decode cX3_longestStay 30 = .ok (.aaload, 1) := by decide +kernel
theorem dX3_longestStay_31 : decode cX3_longestStay 31 = .ok (.getfield 59, 3) := by decide +kernel
theorem dX3_longestStay_34 : decode cX3_longestStay 34 = .ok (.aload_n 0, 1) := by decide +kernel
theorem dX3_longestStay_35 : decode cX3_longestStay 35 = .ok (.getfield 11, 3) := by decide +kernel
theorem dX3_longestStay_38 : decode cX3_longestStay 38 = .ok (.iload_n 2, 1) := by decide +kernel
theorem dX3_longestStay_39 : decode cX3_longestStay 39 = .ok (.aaload, 1) := by decide +kernel
theorem dX3_longestStay_40 : decode cX3_longestStay 40 = .ok (.getfield 69, 3) := by decide +kernel
theorem dX3_longestStay_43 : decode cX3_longestStay 43 = .ok (.iadd, 1) := by decide +kernel
theorem dX3_longestStay_44 : decode cX3_longestStay 44 = .ok (.invokestatic 72, 3) := by decide +kernel
theorem dX3_longestStay_47 : decode cX3_longestStay 47 = .ok (.istore_n 1, 1) := by decide +kernel
theorem dX3_longestStay_48 : decode cX3_longestStay 48 = .ok (.iinc 2 1, 3) := by decide +kernel
theorem dX3_longestStay_51 : decode cX3_longestStay 51 = .ok (.goto (-47), 3) := by decide +kernel
theorem dX3_longestStay_54 : decode cX3_longestStay 54 = .ok (.iload_n 1, 1) := by decide +kernel
theorem dX3_longestStay_55 : decode cX3_longestStay 55 = .ok (.ireturn, 1) := by decide +kernel
theorem dX3_beginningsIn_0 : decode cX3_beginningsIn 0 = .ok (.aload_n 0, 1) := by decide +kernel
theorem dX3_beginningsIn_1 : decode cX3_beginningsIn 1 = .ok (.getfield 36, 3) := by decide +kernel
theorem dX3_beginningsIn_4 : decode cX3_beginningsIn 4 = .ok (.iconst 1, 1) := by decide +kernel
theorem dX3_beginningsIn_5 : decode cX3_beginningsIn 5 = .ok (.if_icmp .ge 7, 3) := by decide +kernel
theorem dX3_beginningsIn_8 : decode cX3_beginningsIn 8 = .ok (.iconst 0, 1) := by decide +kernel
theorem dX3_beginningsIn_9 : decode cX3_beginningsIn 9 = .ok (.goto 16, 3) := by decide +kernel
theorem dX3_beginningsIn_12 : decode cX3_beginningsIn 12 = .ok (.iload_n 1, 1) := by decide +kernel
theorem dX3_beginningsIn_13 : decode cX3_beginningsIn 13 = .ok (.aload_n 0, 1) := by decide +kernel
theorem dX3_beginningsIn_14 : decode cX3_beginningsIn 14 = .ok (.getfield 36, 3) := by decide +kernel
theorem dX3_beginningsIn_17 : decode cX3_beginningsIn 17 = .ok (.iadd, 1) := by decide +kernel
theorem dX3_beginningsIn_18 : decode cX3_beginningsIn 18 = .ok (.iconst 1, 1) := by decide +kernel
theorem dX3_beginningsIn_19 : decode cX3_beginningsIn 19 = .ok (.isub, 1) := by decide +kernel
theorem dX3_beginningsIn_20 : decode cX3_beginningsIn 20 = .ok (.aload_n 0, 1) := by decide +kernel
theorem dX3_beginningsIn_21 : decode cX3_beginningsIn 21 = .ok (.getfield 36, 3) := by decide +kernel
theorem dX3_beginningsIn_24 : decode cX3_beginningsIn 24 = .ok (.idiv, 1) := by decide +kernel
theorem dX3_beginningsIn_25 : decode cX3_beginningsIn 25 = .ok (.ireturn, 1) := by decide +kernel
theorem dX3_startJob_0 : decode cX3_startJob 0 = .ok (.iconst 0, 1) := by decide +kernel
theorem dX3_startJob_1 : decode cX3_startJob 1 = .ok (.istore_n 2, 1) := by decide +kernel
theorem dX3_startJob_2 : decode cX3_startJob 2 = .ok (.iload_n 2, 1) := by decide +kernel
theorem dX3_startJob_3 : decode cX3_startJob 3 = .ok (.aload_n 0, 1) := by decide +kernel
theorem dX3_startJob_4 : decode cX3_startJob 4 = .ok (.getfield 45, 3) := by decide +kernel
theorem dX3_startJob_7 : decode cX3_startJob 7 = .ok (.if_icmp .ge 18, 3) := by decide +kernel
theorem dX3_startJob_10 : decode cX3_startJob 10 = .ok (.aload_n 0, 1) := by decide +kernel
theorem dX3_startJob_11 : decode cX3_startJob 11 = .ok (.getfield 11, 3) := by decide +kernel
theorem dX3_startJob_14 : decode cX3_startJob 14 = .ok (.iload_n 2, 1) := by decide +kernel
theorem dX3_startJob_15 : decode cX3_startJob 15 = .ok (.aaload, 1) := by decide +kernel
theorem dX3_startJob_16 : decode cX3_startJob 16 = .ok (.invokevirtual 78, 3) := by decide +kernel
theorem dX3_startJob_19 : decode cX3_startJob 19 = .ok (.iinc 2 1, 3) := by decide +kernel
theorem dX3_startJob_22 : decode cX3_startJob 22 = .ok (.goto (-20), 3) := by decide +kernel
theorem dX3_startJob_25 : decode cX3_startJob 25 = .ok (.aload_n 0, 1) := by decide +kernel
theorem dX3_startJob_26 : decode cX3_startJob 26 = .ok (.getfield 20, 3) := by decide +kernel
theorem dX3_startJob_29 : decode cX3_startJob 29 = .ok (.iload_n 1, 1) := by decide +kernel
theorem dX3_startJob_30 : decode cX3_startJob 30 = .ok (.aload_n 0, 1) := by decide +kernel
theorem dX3_startJob_31 : decode cX3_startJob 31 = .ok (.iconst 0, 1) := by decide +kernel
theorem dX3_startJob_32 : decode cX3_startJob 32 = .ok (.invokevirtual 81, 3) := by decide +kernel
theorem dX3_startJob_35 : decode cX3_startJob 35 = .ok (.invokevirtual 85, 3) := by decide +kernel
theorem dX3_startJob_38 : decode cX3_startJob 38 = .ok (.return_, 1) := by decide +kernel
theorem dX3_endJob_0 : decode cX3_endJob 0 = .ok (.aload_n 0, 1) := by decide +kernel
theorem dX3_endJob_1 : decode cX3_endJob 1 = .ok (.getfield 20, 3) := by decide +kernel
theorem dX3_endJob_4 : decode cX3_endJob 4 = .ok (.iload_n 1, 1) := by decide +kernel
theorem dX3_endJob_5 : decode cX3_endJob 5 = .ok (.aload_n 0, 1) := by decide +kernel
theorem dX3_endJob_6 : decode cX3_endJob 6 = .ok (.getfield 39, 3) := by decide +kernel
theorem dX3_endJob_9 : decode cX3_endJob 9 = .ok (.invokevirtual 89, 3) := by decide +kernel
theorem dX3_endJob_12 : decode cX3_endJob 12 = .ok (.return_, 1) := by decide +kernel
theorem dX3_forgetJobs_0 : decode cX3_forgetJobs 0 = .ok (.iconst 0, 1) := by decide +kernel
theorem dX3_forgetJobs_1 : decode cX3_forgetJobs 1 = .ok (.istore_n 1, 1) := by decide +kernel
theorem dX3_forgetJobs_2 : decode cX3_forgetJobs 2 = .ok (.iload_n 1, 1) := by decide +kernel
theorem dX3_forgetJobs_3 : decode cX3_forgetJobs 3 = .ok (.aload_n 0, 1) := by decide +kernel
theorem dX3_forgetJobs_4 : decode cX3_forgetJobs 4 = .ok (.getfield 45, 3) := by decide +kernel
theorem dX3_forgetJobs_7 : decode cX3_forgetJobs 7 = .ok (.if_icmp .ge 18, 3) := by decide +kernel
theorem dX3_forgetJobs_10 : decode cX3_forgetJobs 10 = .ok (.aload_n 0, 1) := by decide +kernel
theorem dX3_forgetJobs_11 : decode cX3_forgetJobs 11 = .ok (.getfield 11, 3) := by decide +kernel
theorem dX3_forgetJobs_14 : decode cX3_forgetJobs 14 = .ok (.iload_n 1, 1) := by decide +kernel
theorem dX3_forgetJobs_15 : decode cX3_forgetJobs 15 = .ok (.aaload, 1) := by decide +kernel
theorem dX3_forgetJobs_16 : decode cX3_forgetJobs 16 = .ok (.invokevirtual 92, 3) := by decide +kernel
theorem dX3_forgetJobs_19 : decode cX3_forgetJobs 19 = .ok (.iinc 1 1, 3) := by decide +kernel
theorem dX3_forgetJobs_22 : decode cX3_forgetJobs 22 = .ok (.goto (-20), 3) := by decide +kernel
theorem dX3_forgetJobs_25 : decode cX3_forgetJobs 25 = .ok (.aload_n 0, 1) := by decide +kernel
theorem dX3_forgetJobs_26 : decode cX3_forgetJobs 26 = .ok (.getfield 20, 3) := by decide +kernel
theorem dX3_forgetJobs_29 : decode cX3_forgetJobs 29 = .ok (.invokevirtual 95, 3) := by decide +kernel
theorem dX3_forgetJobs_32 : decode cX3_forgetJobs 32 = .ok (.return_, 1) := by decide +kernel
theorem dX3_outerFrom_0 : decode cX3_outerFrom 0 = .ok (.iload_n 1, 1) := by decide +kernel
theorem dX3_outerFrom_1 : decode cX3_outerFrom 1 = .ok (.istore_n 2, 1) := by decide +kernel
theorem dX3_outerFrom_2 : decode cX3_outerFrom 2 = .ok (.iload_n 2, 1) := by decide +kernel
theorem dX3_outerFrom_3 : decode cX3_outerFrom 3 = .ok (.aload_n 0, 1) := by decide +kernel
theorem dX3_outerFrom_4 : decode cX3_outerFrom 4 = .ok (.getfield 45, 3) := by decide +kernel
theorem dX3_outerFrom_7 : decode cX3_outerFrom 7 = .ok (.if_icmp .ge 21, 3) := by decide +kernel
theorem dX3_outerFrom_10 : decode cX3_outerFrom 10 = .ok (.aload_n 0, 1) := by decide +kernel
theorem dX3_outerFrom_11 : decode cX3_outerFrom 11 = .ok (.getfield 11, 3) := by decide +kernel
theorem dX3_outerFrom_14 : decode cX3_outerFrom 14 = .ok (.iload_n 2, 1) := by decide +kernel
theorem dX3_outerFrom_15 : decode cX3_outerFrom 15 = .ok (.aaload, 1) := by decide +kernel
theorem dX3_outerFrom_16 : decode cX3_outerFrom 16 = .ok (.invokevirtual 48, 3) := by decide +kernel
theorem dX3_outerFrom_19 : decode cX3_outerFrom 19 = .ok (.ifCond .ne 9, 3) := by decide +kernel
theorem dX3_outerFrom_22 : decode cX3_outerFrom 22 = .ok (.iinc 2 1, 3) := by decide +kernel
theorem dX3_outerFrom_25 : decode cX3_outerFrom 25 = .ok (.goto (-23), 3) := by decide +kernel
theorem dX3_outerFrom_28 : decode cX3_outerFrom 28 = .ok (.iload_n 2, 1) := by decide +kernel
theorem dX3_outerFrom_29 : decode cX3_outerFrom 29 = .ok (.ireturn, 1) := by decide +kernel
theorem dX3_nextRequest_0 : decode cX3_nextRequest 0 = .ok (.aload_n 0, 1) := by decide +kernel
theorem dX3_nextRequest_1 : decode cX3_nextRequest 1 = .ok (.getfield 11, 3) := by decide +kernel
theorem dX3_nextRequest_4 : decode cX3_nextRequest 4 = .ok (.aload_n 0, 1) := by decide +kernel
theorem dX3_nextRequest_5 : decode cX3_nextRequest 5 = .ok (.getfield 20, 3) := by decide +kernel
theorem dX3_nextRequest_8 : decode cX3_nextRequest 8 = .ok (.getfield 98, 3) := by decide +kernel
theorem dX3_nextRequest_11 : decode cX3_nextRequest 11 = .ok (.iconst 5, 1) := by decide +kernel
theorem dX3_nextRequest_12 : decode cX3_nextRequest 12 = .ok (.invokestatic 101, 3) := by decide +kernel
theorem dX3_nextRequest_15 : decode cX3_nextRequest 15 = .ok (.aaload, 1) := by decide +kernel
theorem dX3_nextRequest_16 : decode cX3_nextRequest 16 = .ok (.areturn, 1) := by decide +kernel
theorem dX3_hasToAsk_0 : decode cX3_hasToAsk 0 = .ok (.aload_n 0, 1) := by decide +kernel
theorem dX3_hasToAsk_1 : decode cX3_hasToAsk 1 = .ok (.getfield 20, 3) := by decide +kernel
theorem dX3_hasToAsk_4 : decode cX3_hasToAsk 4 = .ok (.getfield 98, 3) := by decide +kernel
theorem dX3_hasToAsk_7 : decode cX3_hasToAsk 7 = .ok (.aload_n 0, 1) := by decide +kernel
theorem dX3_hasToAsk_8 : decode cX3_hasToAsk 8 = .ok (.getfield 45, 3) := by decide +kernel
theorem dX3_hasToAsk_11 : decode cX3_hasToAsk 11 = .ok (.if_icmp .ge 24, 3) := by decide +kernel
theorem dX3_hasToAsk_14 : decode cX3_hasToAsk 14 = .ok (.aload_n 0, 1) := by decide +kernel
theorem dX3_hasToAsk_15 : decode cX3_hasToAsk 15 = .ok (.invokevirtual 104, 3) := by decide +kernel
theorem dX3_hasToAsk_18 : decode cX3_hasToAsk 18 = .ok (.getfield 62, 3) := by decide +kernel
theorem dX3_hasToAsk_21 : decode cX3_hasToAsk 21 = .ok (.aload_n 0, 1) := by decide +kernel
theorem dX3_hasToAsk_22 : decode cX3_hasToAsk 22 = .ok (.getfield 20, 3) := by decide +kernel
theorem dX3_hasToAsk_25 : decode cX3_hasToAsk 25 = .ok (.getfield 108, 3) := by decide +kernel
theorem dX3_hasToAsk_28 : decode cX3_hasToAsk 28 = .ok (.if_icmp .ne 7, 3) := by decide +kernel
theorem dX3_hasToAsk_31 : decode cX3_hasToAsk 31 = .ok (.iconst 1, 1) := by decide +kernel
theorem dX3_hasToAsk_32 : decode cX3_hasToAsk 32 = .ok (.goto 4, 3) := by decide +kernel
theorem dX3_hasToAsk_35 : decode cX3_hasToAsk 35 = .ok (.iconst 0, 1) := by decide +kernel
theorem dX3_hasToAsk_36 : decode cX3_hasToAsk 36 = .ok (.ireturn, 1) := by decide +kernel
theorem dX3_startSpinning_0 : decode cX3_startSpinning 0 = .ok (.aload_n 0, 1) := by decide +kernel
theorem dX3_startSpinning_1 : decode cX3_startSpinning 1 = .ok (.getfield 20, 3) := by decide +kernel
theorem dX3_startSpinning_4 : decode cX3_startSpinning 4 = .ok (.iconst 2, 1) := by decide +kernel
theorem dX3_startSpinning_5 : decode cX3_startSpinning 5 = .ok (.putfield 111, 3) := by decide +kernel
theorem dX3_startSpinning_8 : decode cX3_startSpinning 8 = .ok (.aload_n 0, 1) := by decide +kernel
theorem dX3_startSpinning_9 : decode cX3_startSpinning 9 = .ok (.getfield 20, 3) := by decide +kernel
theorem dX3_startSpinning_12 : decode cX3_startSpinning 12 = .ok (.iconst 0, 1) := by decide +kernel
theorem dX3_startSpinning_13 : decode cX3_startSpinning 13 = .ok (.putfield 114, 3) := by decide +kernel
theorem dX3_startSpinning_16 : decode cX3_startSpinning 16 = .ok (.return_, 1) := by decide +kernel
theorem dX3_spinFor_0 : decode cX3_spinFor 0 = .ok (.aload_n 0, 1) := by decide +kernel
theorem dX3_spinFor_1 : decode cX3_spinFor 1 = .ok (.getfield 20, 3) := by decide +kernel
theorem dX3_spinFor_4 : decode cX3_spinFor 4 = .ok (.dup, 1) := by decide +kernel
theorem dX3_spinFor_5 : decode cX3_spinFor 5 = .ok (.getfield 114, 3) := by decide +kernel
theorem dX3_spinFor_8 : decode cX3_spinFor 8 = .ok (.iload_n 1, 1) := by decide +kernel
theorem dX3_spinFor_9 : decode cX3_spinFor 9 = .ok (.iadd, 1) := by decide +kernel
theorem dX3_spinFor_10 : decode cX3_spinFor 10 = .ok (.putfield 114, 3) := by decide +kernel
theorem dX3_spinFor_13 : decode cX3_spinFor 13 = .ok (.aload_n 0, 1) := by decide +kernel
theorem dX3_spinFor_14 : decode cX3_spinFor 14 = .ok (.invokevirtual 104, 3) := by decide +kernel
theorem dX3_spinFor_17 : decode cX3_spinFor 17 = .ok (.astore_n 2, 1) := by decide +kernel
theorem dX3_spinFor_18 : decode cX3_spinFor 18 = .ok (.aload_n 2, 1) := by decide +kernel
theorem dX3_spinFor_19 : decode cX3_spinFor 19 = .ok (.aload_n 2, 1) := by decide +kernel
theorem dX3_spinFor_20 : decode cX3_spinFor 20 = .ok (.getfield 117, 3) := by decide +kernel
theorem dX3_spinFor_23 : decode cX3_spinFor 23 = .ok (.aload_n 0, 1) := by decide +kernel
theorem dX3_spinFor_24 : decode cX3_spinFor 24 = .ok (.getfield 20, 3) := by decide +kernel
theorem dX3_spinFor_27 : decode cX3_spinFor 27 = .ok (.getfield 114, 3) := by decide +kernel
theorem dX3_spinFor_30 : decode cX3_spinFor 30 = .ok (.invokestatic 72, 3) := by decide +kernel
theorem dX3_spinFor_33 : decode cX3_spinFor 33 = .ok (.putfield 117, 3) := by decide +kernel
theorem dX3_spinFor_36 : decode cX3_spinFor 36 = .ok (.return_, 1) := by decide +kernel
theorem dX3_startHolding_0 : decode cX3_startHolding 0 = .ok (.aload_n 0, 1) := by decide +kernel
theorem dX3_startHolding_1 : decode cX3_startHolding 1 = .ok (.getfield 20, 3) := by decide +kernel
theorem dX3_startHolding_4 : decode cX3_startHolding 4 = .ok (.iconst 3, 1) := by decide +kernel
theorem dX3_startHolding_5 : decode cX3_startHolding 5 = .ok (.putfield 111, 3) := by decide +kernel
theorem dX3_startHolding_8 : decode cX3_startHolding 8 = .ok (.aload_n 0, 1) := by decide +kernel
theorem dX3_startHolding_9 : decode cX3_startHolding 9 = .ok (.getfield 20, 3) := by decide +kernel
theorem dX3_startHolding_12 : decode cX3_startHolding 12 = .ok (.aload_n 0, 1) := by decide +kernel
theorem dX3_startHolding_13 : decode cX3_startHolding 13 = .ok (.invokevirtual 104, 3) := by decide +kernel
theorem dX3_startHolding_16 : decode cX3_startHolding 16 = .ok (.getfield 120, 3) := by decide +kernel
theorem dX3_startHolding_19 : decode cX3_startHolding 19 = .ok (.putfield 123, 3) := by decide +kernel
theorem dX3_startHolding_22 : decode cX3_startHolding 22 = .ok (.return_, 1) := by decide +kernel
theorem dX3_leaveSection_0 : decode cX3_leaveSection 0 = .ok (.aload_n 0, 1) := by decide +kernel
theorem dX3_leaveSection_1 : decode cX3_leaveSection 1 = .ok (.getfield 20, 3) := by decide +kernel
theorem dX3_leaveSection_4 : decode cX3_leaveSection 4 = .ok (.iconst 1, 1) := by decide +kernel
theorem dX3_leaveSection_5 : decode cX3_leaveSection 5 = .ok (.putfield 111, 3) := by decide +kernel
theorem dX3_leaveSection_8 : decode cX3_leaveSection 8 = .ok (.aload_n 0, 1) := by decide +kernel
theorem dX3_leaveSection_9 : decode cX3_leaveSection 9 = .ok (.getfield 20, 3) := by decide +kernel
theorem dX3_leaveSection_12 : decode cX3_leaveSection 12 = .ok (.aload_n 0, 1) := by decide +kernel
theorem dX3_leaveSection_13 : decode cX3_leaveSection 13 = .ok (.aload_n 0, 1) := by decide +kernel
theorem dX3_leaveSection_14 : decode cX3_leaveSection 14 = .ok (.getfield 20, 3) := by decide +kernel
theorem dX3_leaveSection_17 : decode cX3_leaveSection 17 = .ok (.getfield 98, 3) := by decide +kernel
theorem dX3_leaveSection_20 : decode cX3_leaveSection 20 = .ok (.iconst 1, 1) := by decide +kernel
theorem dX3_leaveSection_21 : decode cX3_leaveSection 21 = .ok (.iadd, 1) := by decide +kernel
theorem dX3_leaveSection_22 : decode cX3_leaveSection 22 = .ok (.invokevirtual 81, 3) := by decide +kernel
theorem dX3_leaveSection_25 : decode cX3_leaveSection 25 = .ok (.putfield 98, 3) := by decide +kernel
theorem dX3_leaveSection_28 : decode cX3_leaveSection 28 = .ok (.return_, 1) := by decide +kernel
theorem dX3_ticksToChange_0 : decode cX3_ticksToChange 0 = .ok (.aload_n 0, 1) := by decide +kernel
theorem dX3_ticksToChange_1 : decode cX3_ticksToChange 1 = .ok (.getfield 20, 3) := by decide +kernel
theorem dX3_ticksToChange_4 : decode cX3_ticksToChange 4 = .ok (.getfield 111, 3) := by decide +kernel
theorem dX3_ticksToChange_7 : decode cX3_ticksToChange 7 = .ok (.iconst 3, 1) := by decide +kernel
theorem dX3_ticksToChange_8 : decode cX3_ticksToChange 8 = .ok (.if_icmp .ne 11, 3) := by decide +kernel
theorem dX3_ticksToChange_11 : decode cX3_ticksToChange 11 = .ok (.aload_n 0, 1) := by decide +kernel
theorem dX3_ticksToChange_12 : decode cX3_ticksToChange 12 = .ok (.getfield 20, 3) := by decide +kernel
theorem dX3_ticksToChange_15 : decode cX3_ticksToChange 15 = .ok (.getfield 123, 3) := by decide +kernel
theorem dX3_ticksToChange_18 : decode cX3_ticksToChange 18 = .ok (.ireturn, 1) := by decide +kernel
theorem dX3_ticksToChange_19 : decode cX3_ticksToChange 19 = .ok (.aload_n 0, 1) := by decide +kernel
theorem dX3_ticksToChange_20 : decode cX3_ticksToChange 20 = .ok (.getfield 20, 3) := by decide +kernel
theorem dX3_ticksToChange_23 : decode cX3_ticksToChange 23 = .ok (.getfield 98, 3) := by decide +kernel
theorem dX3_ticksToChange_26 : decode cX3_ticksToChange 26 = .ok (.aload_n 0, 1) := by decide +kernel
theorem dX3_ticksToChange_27 : decode cX3_ticksToChange 27 = .ok (.getfield 45, 3) := by decide +kernel
theorem dX3_ticksToChange_30 : decode cX3_ticksToChange 30 = .ok (.if_icmp .ge 13, 3) := by decide +kernel
theorem dX3_ticksToChange_33 : decode cX3_ticksToChange 33 = .ok (.aload_n 0, 1) := by decide +kernel
theorem dX3_ticksToChange_34 : decode cX3_ticksToChange 34 = .ok (.invokevirtual 104, 3) := by decide +kernel
theorem dX3_ticksToChange_37 : decode cX3_ticksToChange 37 = .ok (.getfield 62, 3) := by decide +kernel
theorem dX3_ticksToChange_40 : decode cX3_ticksToChange 40 = .ok (.goto 7, 3) := by decide +kernel
theorem dX3_ticksToChange_43 : decode cX3_ticksToChange 43 = .ok (.aload_n 0, 1) := by decide +kernel
theorem dX3_ticksToChange_44 : decode cX3_ticksToChange 44 = .ok (.getfield 42, 3) := by decide +kernel
theorem dX3_ticksToChange_47 : decode cX3_ticksToChange 47 = .ok (.istore_n 1, 1) := by decide +kernel
theorem dX3_ticksToChange_48 : decode cX3_ticksToChange 48 = .ok (.iload_n 1, 1) := by decide +kernel
theorem dX3_ticksToChange_49 : decode cX3_ticksToChange 49 = .ok (.aload_n 0, 1) := by decide +kernel
theorem dX3_ticksToChange_50 : decode cX3_ticksToChange 50 = .ok (.getfield 20, 3) := by decide +kernel
theorem dX3_ticksToChange_53 : decode cX3_ticksToChange 53 = .ok (.getfield 108, 3) := by decide +kernel
theorem dX3_ticksToChange_56 : decode cX3_ticksToChange 56 = .ok (.isub, 1) := by decide +kernel
theorem dX3_ticksToChange_57 : decode cX3_ticksToChange 57 = .ok (.ireturn, 1) := by decide +kernel
theorem dX3_isAllDone_0 : decode cX3_isAllDone 0 = .ok (.aload_n 0, 1) := by decide +kernel
theorem dX3_isAllDone_1 : decode cX3_isAllDone 1 = .ok (.getfield 20, 3) := by decide +kernel
theorem dX3_isAllDone_4 : decode cX3_isAllDone 4 = .ok (.getfield 111, 3) := by decide +kernel
theorem dX3_isAllDone_7 : decode cX3_isAllDone 7 = .ok (.iconst 1, 1) := by decide +kernel
theorem dX3_isAllDone_8 : decode cX3_isAllDone 8 = .ok (.if_icmp .ne 35, 3) := by decide +kernel
theorem dX3_isAllDone_11 : decode cX3_isAllDone 11 = .ok (.aload_n 0, 1) := by decide +kernel
theorem dX3_isAllDone_12 : decode cX3_isAllDone 12 = .ok (.getfield 20, 3) := by decide +kernel
theorem dX3_isAllDone_15 : decode cX3_isAllDone 15 = .ok (.getfield 108, 3) := by decide +kernel
theorem dX3_isAllDone_18 : decode cX3_isAllDone 18 = .ok (.aload_n 0, 1) := by decide +kernel
theorem dX3_isAllDone_19 : decode cX3_isAllDone 19 = .ok (.getfield 42, 3) := by decide +kernel
theorem dX3_isAllDone_22 : decode cX3_isAllDone 22 = .ok (.if_icmp .lt 21, 3) := by decide +kernel
theorem dX3_isAllDone_25 : decode cX3_isAllDone 25 = .ok (.aload_n 0, 1) := by decide +kernel
theorem dX3_isAllDone_26 : decode cX3_isAllDone 26 = .ok (.getfield 20, 3) := by decide +kernel
theorem dX3_isAllDone_29 : decode cX3_isAllDone 29 = .ok (.getfield 98, 3) := by decide +kernel
theorem dX3_isAllDone_32 : decode cX3_isAllDone 32 = .ok (.aload_n 0, 1) := by decide +kernel
theorem dX3_isAllDone_33 : decode cX3_isAllDone 33 = .ok (.getfield 45, 3) := by decide +kernel
theorem dX3_isAllDone_36 : decode cX3_isAllDone 36 = .ok (.if_icmp .lt 7, 3) := by decide +kernel
theorem dX3_isAllDone_39 : decode cX3_isAllDone 39 = .ok (.iconst 1, 1) := by decide +kernel
theorem dX3_isAllDone_40 : decode cX3_isAllDone 40 = .ok (.goto 4, 3) := by decide +kernel
theorem dX3_isAllDone_43 : decode cX3_isAllDone 43 = .ok (.iconst 0, 1) := by decide +kernel
theorem dX3_isAllDone_44 : decode cX3_isAllDone 44 = .ok (.ireturn, 1) := by decide +kernel
theorem dX4_init_0 : decode cX4_init 0 = .ok (.aload_n 0, 1) := by decide +kernel
theorem dX4_init_1 : decode cX4_init 1 = .ok (.invokespecial 1, 3) := by decide +kernel
theorem dX4_init_4 : decode cX4_init 4 = .ok (.aload_n 0, 1) := by decide +kernel
theorem dX4_init_5 : decode cX4_init 5 = .ok (.bipush 16, 2) := by decide +kernel
theorem dX4_init_7 : decode cX4_init 7 = .ok (.anewarray 9, 3) := by decide +kernel
theorem dX4_init_10 : decode cX4_init 10 = .ok (.putfield 11, 3) := by decide +kernel
theorem dX4_init_13 : decode cX4_init 13 = .ok (.aload_n 0, 1) := by decide +kernel
theorem dX4_init_14 : decode cX4_init 14 = .ok (.bipush 8, 2) := by decide +kernel
theorem dX4_init_16 : decode cX4_init 16 = .ok (.anewarray 15, 3) := by decide +kernel
theorem dX4_init_19 : decode cX4_init 19 = .ok (.putfield 17, 3) := by decide +kernel
theorem dX4_init_22 : decode cX4_init 22 = .ok (.aload_n 0, 1) := by decide +kernel
theorem dX4_init_23 : decode cX4_init 23 = .ok (.bipush 8, 2) := by decide +kernel
theorem dX4_init_25 : decode cX4_init 25 = .ok (.newarray .int, 2) := by decide +kernel
theorem dX4_init_27 : decode cX4_init 27 = .ok (.putfield 21, 3) := by decide +kernel
theorem dX4_init_30 : decode cX4_init 30 = .ok (.aload_n 0, 1) := by decide +kernel
theorem dX4_init_31 : decode cX4_init 31 = .ok (.iconst 4, 1) := by decide +kernel
theorem dX4_init_32 : decode cX4_init 32 = .ok (.bipush 8, 2) := by decide +kernel
theorem dX4_init_34 : decode cX4_init 34 = .ok (.multianewarray 25 2, 4) := by decide +kernel
theorem dX4_init_38 : decode cX4_init 38 = .ok (.putfield 27, 3) := by decide +kernel
theorem dX4_init_41 : decode cX4_init 41 = .ok (.aload_n 0, 1) := by decide +kernel
theorem dX4_init_42 : decode cX4_init 42 = .ok (.iconst 4, 1) := by decide +kernel
theorem dX4_init_43 : decode cX4_init 43 = .ok (.newarray .int, 2) := by decide +kernel
theorem dX4_init_45 : decode cX4_init 45 = .ok (.putfield 30, 3) := by decide +kernel
theorem dX4_init_48 : decode cX4_init 48 = .ok (.aload_n 0, 1) := by decide +kernel
theorem dX4_init_49 : decode cX4_init 49 = .ok (.iconst 4, 1) := by decide +kernel
theorem dX4_init_50 : decode cX4_init 50 = .ok (.newarray .int, 2) := by decide +kernel
theorem dX4_init_52 : decode cX4_init 52 = .ok (.putfield 33, 3) := by decide +kernel
theorem dX4_init_55 : decode cX4_init 55 = .ok (.iconst 0, 1) := by decide +kernel
theorem dX4_init_56 : decode cX4_init 56 = .ok (.istore_n 1, 1) := by decide +kernel
theorem dX4_init_57 : decode cX4_init 57 = .ok (.iload_n 1, 1) := by decide +kernel
theorem dX4_init_58 : decode cX4_init 58 = .ok (.bipush 16, 2) := by decide +kernel
theorem dX4_init_60 : decode cX4_init 60 = .ok (.if_icmp .ge 22, 3) := by decide +kernel
theorem dX4_init_63 : decode cX4_init 63 = .ok (.aload_n 0, 1) := by decide +kernel
theorem dX4_init_64 : decode cX4_init 64 = .ok (.getfield 11, 3) := by decide +kernel
theorem dX4_init_67 : decode cX4_init 67 = .ok (.iload_n 1, 1) := by decide +kernel
theorem dX4_init_68 : decode cX4_init 68 = .ok (.new 9, 3) := by decide +kernel
theorem dX4_init_71 : decode cX4_init 71 = .ok (.dup, 1) := by decide +kernel
theorem dX4_init_72 : decode cX4_init 72 = .ok (.invokespecial 36, 3) := by decide +kernel
theorem dX4_init_75 : decode cX4_init 75 = .ok (.aastore, 1) := by decide +kernel
theorem dX4_init_76 : decode cX4_init 76 = .ok (.iinc 1 1, 3) := by decide +kernel
theorem dX4_init_79 : decode cX4_init 79 = .ok (.goto (-22), 3) := by decide +kernel
theorem dX4_init_82 : decode cX4_init 82 = .ok (.iconst 0, 1) := by decide +kernel
theorem dX4_init_83 : decode cX4_init 83 = .ok (.istore_n 1, 1) := by decide +kernel
theorem dX4_init_84 : decode cX4_init 84 = .ok (.iload_n 1, 1) := by decide +kernel
theorem dX4_init_85 : decode cX4_init 85 = .ok (.bipush 8, 2) := by decide +kernel
theorem dX4_init_87 : decode cX4_init 87 = .ok (.if_icmp .ge 29, 3) := by decide +kernel
theorem dX4_init_90 : decode cX4_init 90 = .ok (.aload_n 0, 1) := by decide +kernel
theorem dX4_init_91 : decode cX4_init 91 = .ok (.getfield 17, 3) := by decide +kernel
theorem dX4_init_94 : decode cX4_init 94 = .ok (.iload_n 1, 1) := by decide +kernel
theorem dX4_init_95 : decode cX4_init 95 = .ok (.new 15, 3) := by decide +kernel
theorem dX4_init_98 : decode cX4_init 98 = .ok (.dup, 1) := by decide +kernel
theorem dX4_init_99 : decode cX4_init 99 = .ok (.invokespecial 37, 3) := by decide +kernel
theorem dX4_init_102 : decode cX4_init 102 = .ok (.aastore, 1) := by decide +kernel
theorem dX4_init_103 : decode cX4_init 103 = .ok (.aload_n 0, 1) := by decide +kernel
theorem dX4_init_104 : decode cX4_init 104 = .ok (.getfield 21, 3) := by decide +kernel
theorem dX4_init_107 : decode cX4_init 107 = .ok (.iload_n 1, 1) := by decide +kernel
theorem dX4_init_108 : decode cX4_init 108 = .ok (.iload_n 1, 1) := by decide +kernel
theorem dX4_init_109 : decode cX4_init 109 = .ok (.iastore, 1) := by decide +kernel
theorem dX4_init_110 : decode cX4_init 110 = .ok (.iinc 1 1, 3) := by decide +kernel
theorem dX4_init_113 : decode cX4_init 113 = .ok (.goto (-29), 3) := by decide +kernel
theorem dX4_init_116 : decode cX4_init 116 = .ok (.aload_n 0, 1) := by decide +kernel
theorem dX4_init_117 : decode cX4_init 117 = .ok (.getfield 30, 3) := by decide +kernel
theorem dX4_init_120 : decode cX4_init 120 = .ok (.iconst (-1), 1) := by decide +kernel
theorem dX4_init_121 : decode cX4_init 121 = .ok (.invokestatic 38, 3) := by decide +kernel
theorem dX4_init_124 : decode cX4_init 124 = .ok (.aload_n 0, 1) := by decide +kernel
theorem dX4_init_125 : decode cX4_init 125 = .ok (.getfield 33, 3) := by decide +kernel
theorem dX4_init_128 : decode cX4_init 128 = .ok (.iconst 0, 1) := by decide +kernel
theorem dX4_init_129 : decode cX4_init 129 = .ok (.invokestatic 38, 3) := by decide +kernel
theorem dX4_init_132 : decode cX4_init 132 = .ok (.return_, 1) := by decide +kernel
theorem dX4_task_0 : decode cX4_task 0 = .ok (.iload_n 1, 1) := by decide +kernel
theorem dX4_task_1 : decode cX4_task 1 = .ok (.iconst 0, 1) := by decide +kernel
theorem dX4_task_2 : decode cX4_task 2 = .ok (.bipush 15, 2) := by decide +kernel
theorem dX4_task_4 : decode cX4_task 4 = .ok (.invokestatic 44, 3) := by decide +kernel
theorem dX4_task_7 : decode cX4_task 7 = .ok (.ifCond .ne 11, 3) := by decide +kernel
theorem dX4_task_10 : decode cX4_task 10 = .ok (.new 48, 3) := by decide +kernel
theorem dX4_task_13 : decode cX4_task 13 = .ok (.dup, 1) := by decide +kernel
theorem dX4_task_14 : decode cX4_task 14 = .ok (.invokespecial 50, 3) := by decide +kernel
theorem dX4_task_17 : decode cX4_task 17 = .ok (.athrow, 1) := by decide +kernel
theorem dX4_task_18 : decode cX4_task 18 = .ok (.aload_n 0, 1) := by decide +kernel
theorem dX4_task_19 : decode cX4_task 19 = .ok (.getfield 51, 3) := by decide +kernel
theorem dX4_task_22 : decode cX4_task 22 = .ok (.ifCond .ne 15, 3) := by decide +kernel
theorem dX4_task_25 : decode cX4_task 25 = .ok (.aload_n 0, 1) := by decide +kernel
theorem dX4_task_26 : decode cX4_task 26 = .ok (.getfield 11, 3) := by decide +kernel
theorem dX4_task_29 : decode cX4_task 29 = .ok (.iload_n 1, 1) := by decide +kernel
theorem dX4_task_30 : decode cX4_task 30 = .ok (.aaload, 1) := by decide +kernel
theorem dX4_task_31 : decode cX4_task 31 = .ok (.getfield 55, 3) := by decide +kernel
theorem dX4_task_34 : decode cX4_task 34 = .ok (.ifCond .eq 11, 3) := by decide +kernel
theorem dX4_task_37 : decode cX4_task 37 = .ok (.new 58, 3) := by decide +kernel
theorem dX4_task_40 : decode cX4_task 40 = .ok (.dup, 1) := by decide +kernel
theorem dX4_task_41 : decode cX4_task 41 = .ok (.invokespecial 60, 3) := by decide +kernel
theorem dX4_task_44 : decode cX4_task 44 = .ok (.athrow, 1) := by decide +kernel
theorem dX4_task_45 : decode cX4_task 45 = .ok (.iload_n 2, 1) := by decide +kernel
theorem dX4_task_46 : decode cX4_task 46 = .ok (.iconst 0, 1) := by decide +kernel
theorem dX4_task_47 : decode cX4_task 47 = .ok (.iconst 3, 1) := by decide +kernel
theorem dX4_task_48 : decode cX4_task 48 = .ok (.invokestatic 44, 3) := by decide +kernel
theorem dX4_task_51 : decode cX4_task 51 = .ok (.ifCond .eq 18, 3) := by decide +kernel
theorem dX4_task_54 : decode cX4_task 54 = .ok (.iload_n 3, 1) := by decide +kernel
theorem dX4_task_55 : decode cX4_task 55 = .ok (.iconst 0, 1) := by decide +kernel
theorem dX4_task_56 : decode cX4_task 56 = .ok (.sipush 1000, 3) := by decide +kernel
theorem dX4_task_59 : decode cX4_task 59 = .ok (.invokestatic 44, 3) := by decide +kernel
theorem dX4_task_62 : decode cX4_task 62 = .ok (.ifCond .eq 7, 3) := by decide +kernel
theorem dX4_task_65 : decode cX4_task 65 = .ok (.iconst 1, 1) := by decide +kernel
theorem dX4_task_66 : decode cX4_task 66 = .ok (.goto 4, 3) := by decide +kernel
theorem dX4_task_69 : decode cX4_task 69 = .ok (.iconst 0, 1) := by decide +kernel
theorem dX4_task_70 : decode cX4_task 70 = .ok (.istore 7, 2) := by decide +kernel
theorem dX4_task_72 : decode cX4_task 72 = .ok (.iload 4, 2) := by decide +kernel
theorem dX4_task_74 : decode cX4_task 74 = .ok (.iconst 1, 1) := by decide +kernel
theorem dX4_task_75 : decode cX4_task 75 = .ok (.sipush 10000, 3) := by decide +kernel
theorem dX4_task_78 : decode cX4_task 78 = .ok (.invokestatic 44, 3) := by decide +kernel
theorem dX4_task_81 : decode cX4_task 81 = .ok (.ifCond .eq 18, 3) := by decide +kernel
theorem dX4_task_84 : decode cX4_task 84 = .ok (.iload 5, 2) := by decide +kernel
theorem dX4_task_86 : decode cX4_task 86 = .ok (.iconst 1, 1) := by decide +kernel
theorem dX4_task_87 : decode cX4_task 87 = .ok (.iload 4, 2) := by decide +kernel
theorem dX4_task_89 : decode cX4_task 89 = .ok (.invokestatic 44, 3) := by decide +kernel
theorem dX4_task_92 : decode cX4_task 92 = .ok (.ifCond .eq 7, 3) := by decide +kernel
theorem dX4_task_95 : decode cX4_task 95 = .ok (.iconst 1, 1) := by decide +kernel
theorem dX4_task_96 : decode cX4_task 96 = .ok (.goto 4, 3) := by decide +kernel
theorem dX4_task_99 : decode cX4_task 99 = .ok (.iconst 0, 1) := by decide +kernel
theorem dX4_task_100 : decode cX4_task 100 = .ok (.istore 8, 2) := by decide +kernel
theorem dX4_task_102 : decode cX4_task 102 = .ok (.iload 7, 2) := by decide +kernel
theorem dX4_task_104 : decode cX4_task 104 = .ok (.ifCond .eq 29, 3) := by decide +kernel
theorem dX4_task_107 : decode cX4_task 107 = .ok (.iload 8, 2) := by decide +kernel
theorem dX4_task_109 : decode cX4_task 109 = .ok (.ifCond .eq 24, 3) := by decide +kernel
theorem dX4_task_112 : decode cX4_task 112 = .ok (.iload 6, 2) := by decide +kernel
theorem dX4_task_114 : decode cX4_task 114 = .ok (.iconst 1, 1) := by decide +kernel
theorem dX4_task_115 : decode cX4_task 115 = .ok (.sipush 1000, 3) := by decide +kernel
theorem dX4_task_118 : decode cX4_task 118 = .ok (.invokestatic 44, 3) := by decide +kernel
theorem dX4_task_121 : decode cX4_task 121 = .ok (.ifCond .eq 12, 3) := by decide +kernel
theorem dX4_task_124 : decode cX4_task 124 = .ok (.aload_n 0, 1) := by decide +kernel
theorem dX4_task_125 : decode cX4_task 125 = .ok (.iload_n 2, 1) := by decide +kernel
theorem dX4_task_126 : decode cX4_task 126 = .ok (.iload_n 3, 1) := by decide +kernel
theorem dX4_task_127 : decode cX4_task 127 = .ok (.invokevirtual 61, 3) := by decide +kernel
theorem dX4_task_130 : decode cX4_task 130 = .ok (.ifCond .eq 11, 3) := by decide +kernel
theorem dX4_task_133 : decode cX4_task 133 = .ok (.new 65, 3) := by decide +kernel
theorem dX4_task_136 : decode cX4_task 136 = .ok (.dup, 1) := by decide +kernel
theorem dX4_task_137 : decode cX4_task 137 = .ok (.invokespecial 67, 3) := by decide +kernel
theorem dX4_task_140 : decode cX4_task 140 = .ok (.athrow, 1) := by decide +kernel
theorem dX4_task_141 : decode cX4_task 141 = .ok (.aload_n 0, 1) := by decide +kernel
theorem dX4_task_142 : decode cX4_task 142 = .ok (.getfield 11, 3) := by decide +kernel
theorem dX4_task_145 : decode cX4_task 145 = .ok (.iload_n 1, 1) := by decide +kernel
theorem dX4_task_146 : decode cX4_task 146 = .ok (.aaload, 1) := by decide +kernel
theorem dX4_task_147 : decode cX4_task 147 = .ok (.iload_n 2, 1) := by decide +kernel
theorem dX4_task_148 : decode cX4_task 148 = .ok (.iload_n 3, 1) := by decide +kernel
theorem dX4_task_149 : decode cX4_task 149 = .ok (.iload 4, 2) := by decide +kernel
theorem dX4_task_151 : decode cX4_task 151 = .ok (.iload 5, 2) := by decide +kernel
theorem dX4_task_153 : decode cX4_task 153 = .ok (.iload 6, 2) := by decide +kernel
theorem dX4_task_155 : decode cX4_task 155 = .ok (.invokevirtual 68, 3) := by decide +kernel
theorem dX4_task_158 : decode cX4_task 158 = .ok (.aload_n 0, 1) := by decide +kernel
theorem dX4_task_159 : decode cX4_task 159 = .ok (.invokevirtual 72, 3) := by decide +kernel
theorem dX4_task_162 : decode cX4_task 162 = .ok (.return_, 1) := by decide +kernel
theorem dX4_request_0 : decode cX4_request 0 = .ok (.aload_n 0, 1) := by decide +kernel
theorem dX4_request_1 : decode cX4_request 1 = .ok (.iload_n 1, 1) := by decide +kernel
theorem dX4_request_2 : decode cX4_request 2 = .ok (.invokevirtual 75, 3) := by decide +kernel
theorem dX4_request_5 : decode cX4_request 5 = .ok (.astore 6, 2) := by decide +kernel
theorem dX4_request_7 : decode cX4_request 7 = .ok (.aload_n 0, 1) := by decide +kernel
theorem dX4_request_8 : decode cX4_request 8 = .ok (.getfield 51, 3) := by decide +kernel
theorem dX4_request_11 : decode cX4_request 11 = .ok (.ifCond .ne 13, 3) := by decide +kernel
theorem dX4_request_14 : decode cX4_request 14 = .ok (.aload 6, 2) := by decide +kernel
theorem dX4_request_16 : decode cX4_request 16 = .ok (.getfield 79, 3) := by decide +kernel
theorem dX4_request_19 : decode cX4_request 19 = .ok (.bipush 6, 2) := by decide +kernel
theorem dX4_request_21 : decode cX4_request 21 = .ok (.if_icmp .lt 11, 3) := by decide +kernel
theorem dX4_request_24 : decode cX4_request 24 = .ok (.new 58, 3) := by decide +kernel
theorem dX4_request_27 : decode cX4_request 27 = .ok (.dup, 1) := by decide +kernel
theorem dX4_request_28 : decode cX4_request 28 = .ok (.invokespecial 60, 3) := by decide +kernel
theorem dX4_request_31 : decode cX4_request 31 = .ok (.athrow, 1) := by decide +kernel
theorem dX4_request_32 : decode cX4_request 32 = .ok (.iload_n 3, 1) := by decide +kernel
theorem dX4_request_33 : decode cX4_request 33 = .ok (.iconst 0, 1) := by decide +kernel
theorem dX4_request_34 : decode cX4_request 34 = .ok (.bipush 7, 2) := by decide +kernel
theorem dX4_request_36 : decode cX4_request 36 = .ok (.invokestatic 44, 3) := by decide +kernel
theorem dX4_request_39 : decode cX4_request 39 = .ok (.ifCond .eq 18, 3) := by decide +kernel
theorem dX4_request_42 : decode cX4_request 42 = .ok (.iload 4, 2) := by decide +kernel
theorem dX4_request_44 : decode cX4_request 44 = .ok (.iconst 1, 1) := by decide +kernel
theorem dX4_request_45 : decode cX4_request 45 = .ok (.bipush 100, 2) := by decide +kernel
theorem dX4_request_47 : decode cX4_request 47 = .ok (.invokestatic 44, 3) := by decide +kernel
theorem dX4_request_50 : decode cX4_request 50 = .ok (.ifCond .eq 7, 3) := by decide +kernel
theorem dX4_request_53 : decode cX4_request 53 = .ok (.iconst 1, 1) := by decide +kernel
theorem dX4_request_54 : decode cX4_request 54 = .ok (.goto 4, 3) := by decide +kernel
theorem dX4_request_57 : decode cX4_request 57 = .ok (.iconst 0, 1) := by decide +kernel
theorem dX4_request_58 : decode cX4_request 58 = .ok (.istore 7, 2) := by decide +kernel
theorem dX4_request_60 : decode cX4_request 60 = .ok (.iload 7, 2) := by decide +kernel
theorem dX4_request_62 : decode cX4_request 62 = .ok (.ifCond .eq 16, 3) := by decide +kernel
theorem dX4_request_65 : decode cX4_request 65 = .ok (.aload 6, 2) := by decide +kernel
theorem dX4_request_67 : decode cX4_request 67 = .ok (.iload_n 2, 1) := by decide +kernel
theorem dX4_request_68 : decode cX4_request 68 = .ok (.iload 4, 2) := by decide +kernel
theorem dX4_request_70 : decode cX4_request 70 = .ok (.iload 5, 2) := by decide +kernel
theorem dX4_request_72 : decode cX4_request 72 = .ok (.invokevirtual 83, 3) := by decide +kernel
theorem dX4_request_75 : decode cX4_request 75 = .ok (.ifCond .ne 11, 3) := by decide +kernel
theorem dX4_request_78 : decode cX4_request 78 = .ok (.new 65, 3) := by decide +kernel
theorem dX4_request_81 : decode cX4_request 81 = .ok (.dup, 1) := by decide +kernel
theorem dX4_request_82 : decode cX4_request 82 = .ok (.invokespecial 67, 3) := by decide +kernel
theorem dX4_request_85 : decode cX4_request 85 = .ok (.athrow, 1) := by decide +kernel
theorem dX4_request_86 : decode cX4_request 86 = .ok (.aload 6, 2) := by decide +kernel
theorem dX4_request_88 : decode cX4_request 88 = .ok (.iload_n 2, 1) := by decide +kernel
theorem dX4_request_89 : decode cX4_request 89 = .ok (.iload_n 3, 1) := by decide +kernel
theorem dX4_request_90 : decode cX4_request 90 = .ok (.iload 4, 2) := by decide +kernel
theorem dX4_request_92 : decode cX4_request 92 = .ok (.iload 5, 2) := by decide +kernel
theorem dX4_request_94 : decode cX4_request 94 = .ok (.invokevirtual 86, 3) := by decide +kernel
theorem dX4_request_97 : decode cX4_request 97 = .ok (.istore 8, 2) := by decide +kernel
theorem dX4_request_99 : decode cX4_request 99 = .ok (.aload_n 0, 1) := by decide +kernel
theorem dX4_request_100 : decode cX4_request 100 = .ok (.invokevirtual 72, 3) := by decide +kernel
theorem dX4_request_103 : decode cX4_request 103 = .ok (.iload 8, 2) := by decide +kernel
theorem dX4_request_105 : decode cX4_request 105 = .ok (.ireturn, 1) := by decide +kernel
theorem dX4_take_0 : decode cX4_take 0 = .ok (.aload_n 0, 1) := by decide +kernel
theorem dX4_take_1 : decode cX4_take 1 = .ok (.iload_n 1, 1) := by decide +kernel
theorem dX4_take_2 : decode cX4_take 2 = .ok (.invokevirtual 75, 3) := by decide +kernel
theorem dX4_take_5 : decode cX4_take 5 = .ok (.astore_n 2, 1) := by decide +kernel
theorem dX4_take_6 : decode cX4_take 6 = .ok (.aload_n 0, 1) := by decide +kernel
theorem dX4_take_7 : decode cX4_take 7 = .ok (.getfield 51, 3) := by decide +kernel
theorem dX4_take_10 : decode cX4_take 10 = .ok (.ifCond .eq 11, 3) := by decide +kernel
theorem dX4_take_13 : decode cX4_take 13 = .ok (.new 58, 3) := by decide +kernel
theorem dX4_take_16 : decode cX4_take 16 = .ok (.dup, 1) := by decide +kernel
theorem dX4_take_17 : decode cX4_take 17 = .ok (.invokespecial 60, 3) := by decide +kernel
theorem dX4_take_20 : decode cX4_take 20 = .ok (.athrow, 1) := by decide +kernel
theorem dX4_take_21 : decode cX4_take 21 = .ok (.aload_n 2, 1) := by decide +kernel
theorem dX4_take_22 : decode cX4_take 22 = .ok (.iconst 0, 1) := by decide +kernel
theorem dX4_take_23 : decode cX4_take 23 = .ok (.putfield 55, 3) := by decide +kernel
theorem dX4_take_26 : decode cX4_take 26 = .ok (.aload_n 0, 1) := by decide +kernel
theorem dX4_take_27 : decode cX4_take 27 = .ok (.invokevirtual 72, 3) := by decide +kernel
theorem dX4_take_30 : decode cX4_take 30 = .ok (.return_, 1) := by decide +kernel
theorem dX4_group_0 : decode cX4_group 0 = .ok (.iload_n 1, 1) := by decide +kernel
theorem dX4_group_1 : decode cX4_group 1 = .ok (.iconst 0, 1) := by decide +kernel
theorem dX4_group_2 : decode cX4_group 2 = .ok (.bipush 7, 2) := by decide +kernel
theorem dX4_group_4 : decode cX4_group 4 = .ok (.invokestatic 44, 3) := by decide +kernel
theorem dX4_group_7 : decode cX4_group 7 = .ok (.ifCond .ne 11, 3) := by decide +kernel
theorem dX4_group_10 : decode cX4_group 10 = .ok (.new 48, 3) := by decide +kernel
theorem dX4_group_13 : decode cX4_group 13 = .ok (.dup, 1) := by decide +kernel
theorem dX4_group_14 : decode cX4_group 14 = .ok (.invokespecial 50, 3) := by decide +kernel
theorem dX4_group_17 : decode cX4_group 17 = .ok (.athrow, 1) := by decide +kernel
theorem dX4_group_18 : decode cX4_group 18 = .ok (.aload_n 0, 1) := by decide +kernel
theorem dX4_group_19 : decode cX4_group 19 = .ok (.getfield 21, 3) := by decide +kernel
theorem dX4_group_22 : decode cX4_group 22 = .ok (.iload_n 1, 1) := by decide +kernel
theorem dX4_group_23 : decode cX4_group 23 = .ok (.iaload, 1) := by decide +kernel
theorem dX4_group_24 : decode cX4_group 24 = .ok (.ireturn, 1) := by decide +kernel
theorem dX4_spin_0 : decode cX4_spin 0 = .ok (.aload_n 0, 1) := by decide +kernel
theorem dX4_spin_1 : decode cX4_spin 1 = .ok (.iload_n 1, 1) := by decide +kernel
theorem dX4_spin_2 : decode cX4_spin 2 = .ok (.invokevirtual 75, 3) := by decide +kernel
theorem dX4_spin_5 : decode cX4_spin 5 = .ok (.iload_n 2, 1) := by decide +kernel
theorem dX4_spin_6 : decode cX4_spin 6 = .ok (.invokestatic 90, 3) := by decide +kernel
theorem dX4_spin_9 : decode cX4_spin 9 = .ok (.getfield 94, 3) := by decide +kernel
theorem dX4_spin_12 : decode cX4_spin 12 = .ok (.ireturn, 1) := by decide +kernel
theorem dX4_bound_0 : decode cX4_bound 0 = .ok (.aload_n 0, 1) := by decide +kernel
theorem dX4_bound_1 : decode cX4_bound 1 = .ok (.iload_n 1, 1) := by decide +kernel
theorem dX4_bound_2 : decode cX4_bound 2 = .ok (.invokevirtual 75, 3) := by decide +kernel
theorem dX4_bound_5 : decode cX4_bound 5 = .ok (.astore_n 3, 1) := by decide +kernel
theorem dX4_bound_6 : decode cX4_bound 6 = .ok (.iload_n 2, 1) := by decide +kernel
theorem dX4_bound_7 : decode cX4_bound 7 = .ok (.tableswitch 42 0 2 #[25, 30, 36], 25) := by decide +kernel
theorem dX4_bound_32 : decode cX4_bound 32 = .ok (.aload_n 3, 1) := by decide +kernel
theorem dX4_bound_33 : decode cX4_bound 33 = .ok (.getfield 99, 3) := by decide +kernel
theorem dX4_bound_36 : decode cX4_bound 36 = .ok (.ireturn, 1) := by decide +kernel
theorem dX4_bound_37 : decode cX4_bound 37 = .ok (.aload_n 0, 1) := by decide +kernel
theorem dX4_bound_38 : decode cX4_bound 38 = .ok (.aload_n 3, 1) := by decide +kernel
theorem dX4_bound_39 : decode cX4_bound 39 = .ok (.invokevirtual 102, 3) := by decide +kernel
theorem dX4_bound_42 : decode cX4_bound 42 = .ok (.ireturn, 1) := by decide +kernel
theorem dX4_bound_43 : decode cX4_bound 43 = .ok (.aload_n 0, 1) := by decide +kernel
theorem dX4_bound_44 : decode cX4_bound 44 = .ok (.aload_n 3, 1) := by decide +kernel
theorem dX4_bound_45 : decode cX4_bound 45 = .ok (.invokevirtual 106, 3) := by decide +kernel
theorem dX4_bound_48 : decode cX4_bound 48 = .ok (.ireturn, 1) := by decide +kernel
theorem dX4_bound_49 : decode cX4_bound 49 = .ok (.new 65, 3) := by decide +kernel
theorem dX4_bound_52 : decode cX4_bound 52 = .ok (.dup, 1) := by decide +kernel
theorem dX4_bound_53 : decode cX4_bound 53 = .ok (.invokespecial 67, 3) := by decide +kernel
theorem dX4_bound_56 : decode cX4_bound 56 = .ok (.athrow, 1) := by decide +kernel
theorem dX4_seal_0 : decode cX4_seal 0 = .ok (.aload_n 0, 1) := by decide +kernel
theorem dX4_seal_1 : decode cX4_seal 1 = .ok (.getfield 51, 3) := by decide +kernel
theorem dX4_seal_4 : decode cX4_seal 4 = .ok (.ifCond .eq 11, 3) := by decide +kernel
theorem dX4_seal_7 : decode cX4_seal 7 = .ok (.new 58, 3) := by decide +kernel
theorem dX4_seal_10 : decode cX4_seal 10 = .ok (.dup, 1) := by decide +kernel
theorem dX4_seal_11 : decode cX4_seal 11 = .ok (.invokespecial 60, 3) := by decide +kernel
theorem dX4_seal_14 : decode cX4_seal 14 = .ok (.athrow, 1) := by decide +kernel
theorem dX4_seal_15 : decode cX4_seal 15 = .ok (.iconst 0, 1) := by decide +kernel
theorem dX4_seal_16 : decode cX4_seal 16 = .ok (.istore_n 1, 1) := by decide +kernel
theorem dX4_seal_17 : decode cX4_seal 17 = .ok (.iload_n 1, 1) := by decide +kernel
theorem dX4_seal_18 : decode cX4_seal 18 = .ok (.bipush 16, 2) := by decide +kernel
theorem dX4_seal_20 : decode cX4_seal 20 = .ok (.if_icmp .ge 37, 3) := by decide +kernel
theorem dX4_seal_23 : decode cX4_seal 23 = .ok (.aload_n 0, 1) := by decide +kernel
theorem dX4_seal_24 : decode cX4_seal 24 = .ok (.getfield 11, 3) := by decide +kernel
theorem dX4_seal_27 : decode cX4_seal 27 = .ok (.iload_n 1, 1) := by decide +kernel
theorem dX4_seal_28 : decode cX4_seal 28 = .ok (.aaload, 1) := by decide +kernel
theorem dX4_seal_29 : decode cX4_seal 29 = .ok (.getfield 55, 3) := by decide +kernel
theorem dX4_seal_32 : decode cX4_seal 32 = .ok (.ifCond .eq 19, 3) := by decide +kernel
theorem dX4_seal_35 : decode cX4_seal 35 = .ok (.aload_n 0, 1) := by decide +kernel
theorem dX4_seal_36 : decode cX4_seal 36 = .ok (.aload_n 0, 1) := by decide +kernel
theorem dX4_seal_37 : decode cX4_seal 37 = .ok (.getfield 11, 3) := by decide +kernel
theorem dX4_seal_40 : decode cX4_seal 40 = .ok (.iload_n 1, 1) := by decide +kernel
theorem dX4_seal_41 : decode cX4_seal 41 = .ok (.aaload, 1) := by decide +kernel
theorem dX4_seal_42 : decode cX4_seal 42 = .ok (.invokevirtual 106, 3) := by decide +kernel
theorem dX4_seal_45 : decode cX4_seal 45 = .ok (.iconst (-1), 1) := by decide +kernel
theorem dX4_seal_46 : decode cX4_seal 46 = .ok (.if_icmp .ne 5, 3) := by decide +kernel
theorem dX4_seal_49 : decode cX4_seal 49 = .ok (.iload_n 1, 1) := by decide +kernel
theorem dX4_seal_50 : decode cX4_seal 50 = .ok (.ireturn, 1) := by decide +kernel
theorem dX4_seal_51 : decode cX4_seal 51 = .ok (.iinc 1 1, 3) := by decide +kernel
theorem dX4_seal_54 : decode cX4_seal 54 = .ok (.goto (-37), 3) := by decide +kernel
theorem dX4_seal_57 : decode cX4_seal 57 = .ok (.aload_n 0, 1) := by decide +kernel
theorem dX4_seal_58 : decode cX4_seal 58 = .ok (.iconst 1, 1) := by decide +kernel
theorem dX4_seal_59 : decode cX4_seal 59 = .ok (.putfield 51, 3) := by decide +kernel
theorem dX4_seal_62 : decode cX4_seal 62 = .ok (.iconst (-1), 1) := by decide +kernel
theorem dX4_seal_63 : decode cX4_seal 63 = .ok (.ireturn, 1) := by decide +kernel
theorem dX4_unseal_0 : decode cX4_unseal 0 = .ok (.aload_n 0, 1) := by decide +kernel
theorem dX4_unseal_1 : decode cX4_unseal 1 = .ok (.getfield 51, 3) := by decide +kernel
theorem dX4_unseal_4 : decode cX4_unseal 4 = .ok (.ifCond .eq 10, 3) := by decide +kernel
theorem dX4_unseal_7 : decode cX4_unseal 7 = .ok (.aload_n 0, 1) := by decide +kernel
theorem dX4_unseal_8 : decode cX4_unseal 8 = .ok (.invokevirtual 109, 3) := by decide +kernel
theorem dX4_unseal_11 : decode cX4_unseal 11 = .ok (.ifCond .eq 11, 3) := by decide +kernel
theorem dX4_unseal_14 : decode cX4_unseal 14 = .ok (.new 58, 3) := by decide +kernel
theorem dX4_unseal_17 : decode cX4_unseal 17 = .ok (.dup, 1) := by decide +kernel
theorem dX4_unseal_18 : decode cX4_unseal 18 = .ok (.invokespecial 60, 3) := by decide +kernel
theorem dX4_unseal_21 : decode cX4_unseal 21 = .ok (.athrow, 1) := by decide +kernel
theorem dX4_unseal_22 : decode cX4_unseal 22 = .ok (.aload_n 0, 1) := by decide +kernel
theorem dX4_unseal_23 : decode cX4_unseal 23 = .ok (.iconst 0, 1) := by decide +kernel
theorem dX4_unseal_24 : decode cX4_unseal 24 = .ok (.putfield 51, 3) := by decide +kernel
theorem dX4_unseal_27 : decode cX4_unseal 27 = .ok (.aload_n 0, 1) := by decide +kernel
theorem dX4_unseal_28 : decode cX4_unseal 28 = .ok (.iconst 0, 1) := by decide +kernel
theorem dX4_unseal_29 : decode cX4_unseal 29 = .ok (.putfield 113, 3) := by decide +kernel
theorem dX4_unseal_32 : decode cX4_unseal 32 = .ok (.aload_n 0, 1) := by decide +kernel
theorem dX4_unseal_33 : decode cX4_unseal 33 = .ok (.getfield 30, 3) := by decide +kernel
theorem dX4_unseal_36 : decode cX4_unseal 36 = .ok (.iconst (-1), 1) := by decide +kernel
theorem dX4_unseal_37 : decode cX4_unseal 37 = .ok (.invokestatic 38, 3) := by decide +kernel
theorem dX4_unseal_40 : decode cX4_unseal 40 = .ok (.aload_n 0, 1) := by decide +kernel
theorem dX4_unseal_41 : decode cX4_unseal 41 = .ok (.getfield 33, 3) := by decide +kernel
theorem dX4_unseal_44 : decode cX4_unseal 44 = .ok (.iconst 0, 1) := by decide +kernel
theorem dX4_unseal_45 : decode cX4_unseal 45 = .ok (.invokestatic 38, 3) := by decide +kernel
theorem dX4_unseal_48 : decode cX4_unseal 48 = .ok (.aload_n 0, 1) := by decide +kernel
theorem dX4_unseal_49 : decode cX4_unseal 49 = .ok (.getfield 11, 3) := by decide +kernel
theorem dX4_unseal_52 : decode cX4_unseal 52 = .ok (.astore_n 1, 1) := by decide +kernel
theorem dX4_unseal_53 : decode cX4_unseal 53 = .ok (.aload_n 1, 1) := by decide +kernel
theorem dX4_unseal_54 : decode cX4_unseal 54 = .ok (.arraylength, 1) := by decide +kernel
theorem dX4_unseal_55 : decode cX4_unseal 55 = .ok (.istore_n 2, 1) := by decide +kernel
theorem dX4_unseal_56 : decode cX4_unseal 56 = .ok (.iconst 0, 1) := by decide +kernel
theorem dX4_unseal_57 : decode cX4_unseal 57 = .ok (.istore_n 3, 1) := by decide +kernel
theorem dX4_unseal_58 : decode cX4_unseal 58 = .ok (.iload_n 3, 1) := by decide +kernel
theorem dX4_unseal_59 : decode cX4_unseal 59 = .ok (.iload_n 2, 1) := by decide +kernel
theorem dX4_unseal_60 : decode cX4_unseal 60 = .ok (.if_icmp .ge 19, 3) := by decide +kernel
theorem dX4_unseal_63 : decode cX4_unseal 63 = .ok (.aload_n 1, 1) := by decide +kernel
theorem dX4_unseal_64 : decode cX4_unseal 64 = .ok (.iload_n 3, 1) := by decide +kernel
theorem dX4_unseal_65 : decode cX4_unseal 65 = .ok (.aaload, 1) := by decide +kernel
theorem dX4_unseal_66 : decode cX4_unseal 66 = .ok (.astore 4, 2) := by decide +kernel
theorem dX4_unseal_68 : decode cX4_unseal 68 = .ok (.aload 4, 2) := by decide +kernel
theorem dX4_unseal_70 : decode cX4_unseal 70 = .ok (.invokevirtual 116, 3) := by decide +kernel
theorem dX4_unseal_73 : decode cX4_unseal 73 = .ok (.iinc 3 1, 3) := by decide +kernel
theorem dX4_unseal_76 : decode cX4_unseal 76 = .ok (.goto (-18), 3) := by decide +kernel
theorem dX4_unseal_79 : decode cX4_unseal 79 = .ok (.return_, 1) := by decide +kernel
theorem dX4_arrive_0 : decode cX4_arrive 0 = .ok (.aload_n 0, 1) := by decide +kernel
theorem dX4_arrive_1 : decode cX4_arrive 1 = .ok (.iload_n 1, 1) := by decide +kernel
theorem dX4_arrive_2 : decode cX4_arrive 2 = .ok (.invokevirtual 75, 3) := by decide +kernel
theorem dX4_arrive_5 : decode cX4_arrive 5 = .ok (.astore_n 2, 1) := by decide +kernel
theorem dX4_arrive_6 : decode cX4_arrive 6 = .ok (.aload_n 0, 1) := by decide +kernel
theorem dX4_arrive_7 : decode cX4_arrive 7 = .ok (.getfield 51, 3) := by decide +kernel
theorem dX4_arrive_10 : decode cX4_arrive 10 = .ok (.ifCond .ne 11, 3) := by decide +kernel
theorem dX4_arrive_13 : decode cX4_arrive 13 = .ok (.new 58, 3) := by decide +kernel
theorem dX4_arrive_16 : decode cX4_arrive 16 = .ok (.dup, 1) := by decide +kernel
theorem dX4_arrive_17 : decode cX4_arrive 17 = .ok (.invokespecial 60, 3) := by decide +kernel
theorem dX4_arrive_20 : decode cX4_arrive 20 = .ok (.athrow, 1) := by decide +kernel
theorem dX4_arrive_21 : decode cX4_arrive 21 = .ok (.aload_n 2, 1) := by decide +kernel
theorem dX4_arrive_22 : decode cX4_arrive 22 = .ok (.getfield 119, 3) := by decide +kernel
theorem dX4_arrive_25 : decode cX4_arrive 25 = .ok (.getfield 123, 3) := by decide +kernel
theorem dX4_arrive_28 : decode cX4_arrive 28 = .ok (.ifCond .eq 24, 3) := by decide +kernel
theorem dX4_arrive_31 : decode cX4_arrive 31 = .ok (.aload_n 0, 1) := by decide +kernel
theorem dX4_arrive_32 : decode cX4_arrive 32 = .ok (.getfield 113, 3) := by decide +kernel
theorem dX4_arrive_35 : decode cX4_arrive 35 = .ok (.aload_n 2, 1) := by decide +kernel
theorem dX4_arrive_36 : decode cX4_arrive 36 = .ok (.getfield 119, 3) := by decide +kernel
theorem dX4_arrive_39 : decode cX4_arrive 39 = .ok (.getfield 128, 3) := by decide +kernel
theorem dX4_arrive_42 : decode cX4_arrive 42 = .ok (.isub, 1) := by decide +kernel
theorem dX4_arrive_43 : decode cX4_arrive 43 = .ok (.aload_n 2, 1) := by decide +kernel
theorem dX4_arrive_44 : decode cX4_arrive 44 = .ok (.getfield 131, 3) := by decide +kernel
theorem dX4_arrive_47 : decode cX4_arrive 47 = .ok (.if_icmp .ge 5, 3) := by decide +kernel
theorem dX4_arrive_50 : decode cX4_arrive 50 = .ok (.iconst 0, 1) := by decide +kernel
theorem dX4_arrive_51 : decode cX4_arrive 51 = .ok (.ireturn, 1) := by decide +kernel
theorem dX4_arrive_52 : decode cX4_arrive 52 = .ok (.aload_n 2, 1) := by decide +kernel
theorem dX4_arrive_53 : decode cX4_arrive 53 = .ok (.aload_n 0, 1) := by decide +kernel
theorem dX4_arrive_54 : decode cX4_arrive 54 = .ok (.getfield 113, 3) := by decide +kernel
theorem dX4_arrive_57 : decode cX4_arrive 57 = .ok (.invokevirtual 134, 3) := by decide +kernel
theorem dX4_arrive_60 : decode cX4_arrive 60 = .ok (.iconst 1, 1) := by decide +kernel
theorem dX4_arrive_61 : decode cX4_arrive 61 = .ok (.ireturn, 1) := by decide +kernel
theorem dX4_shorten_0 : decode cX4_shorten 0 = .ok (.aload_n 0, 1) := by decide +kernel
theorem dX4_shorten_1 : decode cX4_shorten 1 = .ok (.iload_n 1, 1) := by decide +kernel
theorem dX4_shorten_2 : decode cX4_shorten 2 = .ok (.invokevirtual 75, 3) := by decide +kernel
theorem dX4_shorten_5 : decode cX4_shorten 5 = .ok (.iload_n 2, 1) := by decide +kernel
theorem dX4_shorten_6 : decode cX4_shorten 6 = .ok (.invokestatic 90, 3) := by decide +kernel
theorem dX4_shorten_9 : decode cX4_shorten 9 = .ok (.astore 4, 2) := by decide +kernel
theorem dX4_shorten_11 : decode cX4_shorten 11 = .ok (.aload_n 0, 1) := by decide +kernel
theorem dX4_shorten_12 : decode cX4_shorten 12 = .ok (.getfield 51, 3) := by decide +kernel
theorem dX4_shorten_15 : decode cX4_shorten 15 = .ok (.ifCond .ne 11, 3) := by decide +kernel
theorem dX4_shorten_18 : decode cX4_shorten 18 = .ok (.new 58, 3) := by decide +kernel
theorem dX4_shorten_21 : decode cX4_shorten 21 = .ok (.dup, 1) := by decide +kernel
theorem dX4_shorten_22 : decode cX4_shorten 22 = .ok (.invokespecial 60, 3) := by decide +kernel
theorem dX4_shorten_25 : decode cX4_shorten 25 = .ok (.athrow, 1) := by decide +kernel
theorem dX4_shorten_26 : decode cX4_shorten 26 = .ok (.aload 4, 2) := by decide +kernel
theorem dX4_shorten_28 : decode cX4_shorten 28 = .ok (.invokevirtual 138, 3) := by decide +kernel
theorem dX4_shorten_31 : decode cX4_shorten 31 = .ok (.ifCond .eq 16, 3) := by decide +kernel
theorem dX4_shorten_34 : decode cX4_shorten 34 = .ok (.iload_n 3, 1) := by decide +kernel
theorem dX4_shorten_35 : decode cX4_shorten 35 = .ok (.iconst 1, 1) := by decide +kernel
theorem dX4_shorten_36 : decode cX4_shorten 36 = .ok (.aload 4, 2) := by decide +kernel
theorem dX4_shorten_38 : decode cX4_shorten 38 = .ok (.getfield 141, 3) := by decide +kernel
theorem dX4_shorten_41 : decode cX4_shorten 41 = .ok (.invokestatic 44, 3) := by decide +kernel
theorem dX4_shorten_44 : decode cX4_shorten 44 = .ok (.ifCond .ne 11, 3) := by decide +kernel
theorem dX4_shorten_47 : decode cX4_shorten 47 = .ok (.new 65, 3) := by decide +kernel
theorem dX4_shorten_50 : decode cX4_shorten 50 = .ok (.dup, 1) := by decide +kernel
theorem dX4_shorten_51 : decode cX4_shorten 51 = .ok (.invokespecial 67, 3) := by decide +kernel
theorem dX4_shorten_54 : decode cX4_shorten 54 = .ok (.athrow, 1) := by decide +kernel
theorem dX4_shorten_55 : decode cX4_shorten 55 = .ok (.aload 4, 2) := by decide +kernel
theorem dX4_shorten_57 : decode cX4_shorten 57 = .ok (.iload_n 3, 1) := by decide +kernel
theorem dX4_shorten_58 : decode cX4_shorten 58 = .ok (.putfield 144, 3) := by decide +kernel
theorem dX4_shorten_61 : decode cX4_shorten 61 = .ok (.return_, 1) := by decide +kernel
theorem dX4_tick_0 : decode cX4_tick 0 = .ok (.aload_n 0, 1) := by decide +kernel
theorem dX4_tick_1 : decode cX4_tick 1 = .ok (.getfield 51, 3) := by decide +kernel
theorem dX4_tick_4 : decode cX4_tick 4 = .ok (.ifCond .ne 11, 3) := by decide +kernel
theorem dX4_tick_7 : decode cX4_tick 7 = .ok (.new 58, 3) := by decide +kernel
theorem dX4_tick_10 : decode cX4_tick 10 = .ok (.dup, 1) := by decide +kernel
theorem dX4_tick_11 : decode cX4_tick 11 = .ok (.invokespecial 60, 3) := by decide +kernel
theorem dX4_tick_14 : decode cX4_tick 14 = .ok (.athrow, 1) := by decide +kernel
theorem dX4_tick_15 : decode cX4_tick 15 = .ok (.iload_n 1, 1) := by decide +kernel
theorem dX4_tick_16 : decode cX4_tick 16 = .ok (.iconst 1, 1) := by decide +kernel
theorem dX4_tick_17 : decode cX4_tick 17 = .ok (.ldc 147, 2) := by decide +kernel
theorem dX4_tick_19 : decode cX4_tick 19 = .ok (.invokestatic 44, 3) := by decide +kernel
theorem dX4_tick_22 : decode cX4_tick 22 = .ok (.ifCond .ne 11, 3) := by decide +kernel
theorem dX4_tick_25 : decode cX4_tick 25 = .ok (.new 65, 3) := by decide +kernel
theorem dX4_tick_28 : decode cX4_tick 28 = .ok (.dup, 1) := by decide +kernel
theorem dX4_tick_29 : decode cX4_tick 29 = .ok (.invokespecial 67, 3) := by decide +kernel
theorem dX4_tick_32 : decode cX4_tick 32 = .ok (.athrow, 1) := by decide +kernel
theorem dX4_tick_33 : decode cX4_tick 33 = .ok (.iconst 0, 1) := by decide +kernel
theorem dX4_tick_34 : decode cX4_tick 34 = .ok (.istore_n 2, 1) := by decide +kernel
theorem dX4_tick_35 : decode cX4_tick 35 = .ok (.iload_n 1, 1) := by decide +kernel
theorem dX4_tick_36 : decode cX4_tick 36 = .ok (.istore_n 3, 1) := by decide +kernel
theorem dX4_tick_37 : decode cX4_tick 37 = .ok (.iload_n 3, 1) := by decide +kernel
