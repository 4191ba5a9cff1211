theorem dX5_jobs_32 : decode cX5_jobs 32 = .ok (.ifCond .eq 5, 3) := by decide +kernel
theorem dX5_jobs_35 : decode cX5_jobs 35 = .ok (.iconst 0, 1) := by decide +kernel
theorem dX5_jobs_36 : decode cX5_jobs 36 = .ok (.ireturn, 1) := by decide +kernel
theorem dX5_jobs_37 : decode cX5_jobs 37 = .ok (.iload_n 2, 1) := by decide +kernel
theorem dX5_jobs_38 : decode cX5_jobs 38 = .ok (.ifCond .ne 12, 3) := by decide +kernel
theorem dX5_jobs_41 : decode cX5_jobs 41 = .ok (.aload_n 0, 1) := by decide +kernel
theorem dX5_jobs_42 : decode cX5_jobs 42 = .ok (.getfield 71, 3) := by decide +kernel
theorem dX5_jobs_45 : decode cX5_jobs 45 = .ok (.iload_n 1, 1) := by decide +kernel
theorem dX5_jobs_46 : decode cX5_jobs 46 = .ok (.iaload, 1) := by decide +kernel
theorem dX5_jobs_47 : decode cX5_jobs 47 = .ok (.goto 45, 3) := by decide +kernel
theorem dX5_jobs_50 : decode cX5_jobs 50 = .ok (.iload_n 2, 1) := by decide +kernel
theorem dX5_jobs_51 : decode cX5_jobs 51 = .ok (.iconst 1, 1) := by decide +kernel
theorem dX5_jobs_52 : decode cX5_jobs 52 = .ok (.if_icmp .ne 12, 3) := by decide +kernel
theorem dX5_jobs_55 : decode cX5_jobs 55 = .ok (.aload_n 0, 1) := by decide +kernel
theorem dX5_jobs_56 : decode cX5_jobs 56 = .ok (.getfield 74, 3) := by decide +kernel
theorem dX5_jobs_59 : decode cX5_jobs 59 = .ok (.iload_n 1, 1) := by decide +kernel
theorem dX5_jobs_60 : decode cX5_jobs 60 = .ok (.iaload, 1) := by decide +kernel
theorem dX5_jobs_61 : decode cX5_jobs 61 = .ok (.goto 31, 3) := by decide +kernel
theorem dX5_jobs_64 : decode cX5_jobs 64 = .ok (.iload_n 2, 1) := by decide +kernel
theorem dX5_jobs_65 : decode cX5_jobs 65 = .ok (.iconst 2, 1) := by decide +kernel
theorem dX5_jobs_66 : decode cX5_jobs 66 = .ok (.if_icmp .ne 12, 3) := by decide +kernel
theorem dX5_jobs_69 : decode cX5_jobs 69 = .ok (.aload_n 0, 1) := by decide +kernel
theorem dX5_jobs_70 : decode cX5_jobs 70 = .ok (.getfield 77, 3) := by decide +kernel
theorem dX5_jobs_73 : decode cX5_jobs 73 = .ok (.iload_n 1, 1) := by decide +kernel
theorem dX5_jobs_74 : decode cX5_jobs 74 = .ok (.iaload, 1) := by decide +kernel
theorem dX5_jobs_75 : decode cX5_jobs 75 = .ok (.goto 17, 3) := by decide +kernel
theorem dX5_jobs_78 : decode cX5_jobs 78 = .ok (.aload_n 0, 1) := by decide +kernel
theorem dX5_jobs_79 : decode cX5_jobs 79 = .ok (.getfield 43, 3) := by decide +kernel
theorem dX5_jobs_82 : decode cX5_jobs 82 = .ok (.iload_n 1, 1) := by decide +kernel
theorem dX5_jobs_83 : decode cX5_jobs 83 = .ok (.baload, 1) := by decide +kernel
theorem dX5_jobs_84 : decode cX5_jobs 84 = .ok (.ifCond .eq 7, 3) := by decide +kernel
theorem dX5_jobs_87 : decode cX5_jobs 87 = .ok (.iconst 1, 1) := by decide +kernel
theorem dX5_jobs_88 : decode cX5_jobs 88 = .ok (.goto 4, 3) := by decide +kernel
theorem dX5_jobs_91 : decode cX5_jobs 91 = .ok (.iconst 0, 1) := by decide +kernel
theorem dX5_jobs_92 : decode cX5_jobs 92 = .ok (.ireturn, 1) := by decide +kernel
theorem dX5_spun_0 : decode cX5_spun 0 = .ok (.aload_n 0, 1) := by decide +kernel
theorem dX5_spun_1 : decode cX5_spun 1 = .ok (.aload_n 0, 1) := by decide +kernel
theorem dX5_spun_2 : decode cX5_spun 2 = .ok (.iload_n 1, 1) := by decide +kernel
theorem dX5_spun_3 : decode cX5_spun 3 = .ok (.iload_n 2, 1) := by decide +kernel
theorem dX5_spun_4 : decode cX5_spun 4 = .ok (.invokevirtual 132, 3) := by decide +kernel
theorem dX5_spun_7 : decode cX5_spun 7 = .ok (.ifCond .ne 7, 3) := by decide +kernel
theorem dX5_spun_10 : decode cX5_spun 10 = .ok (.iconst 1, 1) := by decide +kernel
theorem dX5_spun_11 : decode cX5_spun 11 = .ok (.goto 4, 3) := by decide +kernel
theorem dX5_spun_14 : decode cX5_spun 14 = .ok (.iconst 0, 1) := by decide +kernel
theorem dX5_spun_15 : decode cX5_spun 15 = .ok (.iconst 0, 1) := by decide +kernel
theorem dX5_spun_16 : decode cX5_spun 16 = .ok (.iconst 0, 1) := by decide +kernel
theorem dX5_spun_17 : decode cX5_spun 17 = .ok (.invokevirtual 124, 3) := by decide +kernel
theorem dX5_spun_20 : decode cX5_spun 20 = .ok (.ifCond .eq 7, 3) := by decide +kernel
theorem dX5_spun_23 : decode cX5_spun 23 = .ok (.iconst 0, 1) := by decide +kernel
theorem dX5_spun_24 : decode cX5_spun 24 = .ok (.goto 14, 3) := by decide +kernel
theorem dX5_spun_27 : decode cX5_spun 27 = .ok (.aload_n 0, 1) := by decide +kernel
theorem dX5_spun_28 : decode cX5_spun 28 = .ok (.getfield 80, 3) := by decide +kernel
theorem dX5_spun_31 : decode cX5_spun 31 = .ok (.bipush 6, 2) := by decide +kernel
theorem dX5_spun_33 : decode cX5_spun 33 = .ok (.iload_n 1, 1) := by decide +kernel
theorem dX5_spun_34 : decode cX5_spun 34 = .ok (.imul, 1) := by decide +kernel
theorem dX5_spun_35 : decode cX5_spun 35 = .ok (.iload_n 2, 1) := by decide +kernel
theorem dX5_spun_36 : decode cX5_spun 36 = .ok (.iadd, 1) := by decide +kernel
theorem dX5_spun_37 : decode cX5_spun 37 = .ok (.iaload, 1) := by decide +kernel
theorem dX5_spun_38 : decode cX5_spun 38 = .ok (.ireturn, 1) := by decide +kernel
theorem dX5_late_0 : decode cX5_late 0 = .ok (.aload_n 0, 1) := by decide +kernel
theorem dX5_late_1 : decode cX5_late 1 = .ok (.iconst 0, 1) := by decide +kernel
theorem dX5_late_2 : decode cX5_late 2 = .ok (.putfield 104, 3) := by decide +kernel
theorem dX5_late_5 : decode cX5_late 5 = .ok (.aload_n 0, 1) := by decide +kernel
theorem dX5_late_6 : decode cX5_late 6 = .ok (.getfield 161, 3) := by decide +kernel
theorem dX5_late_9 : decode cX5_late 9 = .ok (.istore_n 1, 1) := by decide +kernel
theorem dX5_late_10 : decode cX5_late 10 = .ok (.iconst 0, 1) := by decide +kernel
theorem dX5_late_11 : decode cX5_late 11 = .ok (.istore_n 2, 1) := by decide +kernel
theorem dX5_late_12 : decode cX5_late 12 = .ok (.iload_n 2, 1) := by decide +kernel
theorem dX5_late_13 : decode cX5_late 13 = .ok (.bipush 16, 2) := by decide +kernel
theorem dX5_late_15 : decode cX5_late 15 = .ok (.if_icmp .ge 46, 3) := by decide +kernel
theorem dX5_late_18 : decode cX5_late 18 = .ok (.aload_n 0, 1) := by decide +kernel
theorem dX5_late_19 : decode cX5_late 19 = .ok (.getfield 43, 3) := by decide +kernel
theorem dX5_late_22 : decode cX5_late 22 = .ok (.iload_n 2, 1) := by decide +kernel
theorem dX5_late_23 : decode cX5_late 23 = .ok (.baload, 1) := by decide +kernel
theorem dX5_late_24 : decode cX5_late 24 = .ok (.ifCond .eq 29, 3) := by decide +kernel
theorem dX5_late_27 : decode cX5_late 27 = .ok (.aload_n 0, 1) := by decide +kernel
theorem dX5_late_28 : decode cX5_late 28 = .ok (.getfield 158, 3) := by decide +kernel
theorem dX5_late_31 : decode cX5_late 31 = .ok (.aload_n 0, 1) := by decide +kernel
theorem dX5_late_32 : decode cX5_late 32 = .ok (.getfield 50, 3) := by decide +kernel
theorem dX5_late_35 : decode cX5_late 35 = .ok (.iload_n 2, 1) := by decide +kernel
theorem dX5_late_36 : decode cX5_late 36 = .ok (.iaload, 1) := by decide +kernel
theorem dX5_late_37 : decode cX5_late 37 = .ok (.isub, 1) := by decide +kernel
theorem dX5_late_38 : decode cX5_late 38 = .ok (.aload_n 0, 1) := by decide +kernel
theorem dX5_late_39 : decode cX5_late 39 = .ok (.getfield 19, 3) := by decide +kernel
theorem dX5_late_42 : decode cX5_late 42 = .ok (.iload_n 2, 1) := by decide +kernel
theorem dX5_late_43 : decode cX5_late 43 = .ok (.iaload, 1) := by decide +kernel
theorem dX5_late_44 : decode cX5_late 44 = .ok (.if_icmp .le 9, 3) := by decide +kernel
theorem dX5_late_47 : decode cX5_late 47 = .ok (.iload_n 1, 1) := by decide +kernel
theorem dX5_late_48 : decode cX5_late 48 = .ok (.iconst 1, 1) := by decide +kernel
theorem dX5_late_49 : decode cX5_late 49 = .ok (.iadd, 1) := by decide +kernel
theorem dX5_late_50 : decode cX5_late 50 = .ok (.goto 4, 3) := by decide +kernel
theorem dX5_late_53 : decode cX5_late 53 = .ok (.iload_n 1, 1) := by decide +kernel
theorem dX5_late_54 : decode cX5_late 54 = .ok (.istore_n 1, 1) := by decide +kernel
theorem dX5_late_55 : decode cX5_late 55 = .ok (.iinc 2 1, 3) := by decide +kernel
theorem dX5_late_58 : decode cX5_late 58 = .ok (.goto (-46), 3) := by decide +kernel
theorem dX5_late_61 : decode cX5_late 61 = .ok (.iload_n 1, 1) := by decide +kernel
theorem dX5_late_62 : decode cX5_late 62 = .ok (.ireturn, 1) := by decide +kernel
theorem dJ9_max_7cf53_0 : decode cJ9_max_7cf53 0 = .ok (.iload_n 0, 1) := by decide +kernel
theorem dJ9_max_7cf53_1 : decode cJ9_max_7cf53 1 = .ok (.iload_n 1, 1) := by decide +kernel
theorem dJ9_max_7cf53_2 : decode cJ9_max_7cf53 2 = .ok (.if_icmp .lt 7, 3) := by decide +kernel
theorem dJ9_max_7cf53_5 : decode cJ9_max_7cf53 5 = .ok (.iload_n 0, 1) := by decide +kernel
theorem dJ9_max_7cf53_6 : decode cJ9_max_7cf53 6 = .ok (.goto 4, 3) := by decide +kernel
theorem dJ9_max_7cf53_9 : decode cJ9_max_7cf53 9 = .ok (.iload_n 1, 1) := by decide +kernel
theorem dJ9_max_7cf53_10 : decode cJ9_max_7cf53 10 = .ok (.ireturn, 1) := by decide +kernel
theorem dJ9_min_7cf53_0 : decode cJ9_min_7cf53 0 = .ok (.iload_n 0, 1) := by decide +kernel
theorem dJ9_min_7cf53_1 : decode cJ9_min_7cf53 1 = .ok (.iload_n 1, 1) := by decide +kernel
theorem dJ9_min_7cf53_2 : decode cJ9_min_7cf53 2 = .ok (.if_icmp .gt 7, 3) := by decide +kernel
theorem dJ9_min_7cf53_5 : decode cJ9_min_7cf53 5 = .ok (.iload_n 0, 1) := by decide +kernel
theorem dJ9_min_7cf53_6 : decode cJ9_min_7cf53 6 = .ok (.goto 4, 3) := by decide +kernel
theorem dJ9_min_7cf53_9 : decode cJ9_min_7cf53 9 = .ok (.iload_n 1, 1) := by decide +kernel
theorem dJ9_min_7cf53_10 : decode cJ9_min_7cf53 10 = .ok (.ireturn, 1) := by decide +kernel
theorem dJ7_fill_53178_0 : decode cJ7_fill_53178 0 = .ok (.iconst 0, 1) := by decide +kernel
theorem dJ7_fill_53178_1 : decode cJ7_fill_53178 1 = .ok (.istore_n 2, 1) := by decide +kernel
theorem dJ7_fill_53178_2 : decode cJ7_fill_53178 2 = .ok (.aload_n 0, 1) := by decide +kernel
theorem dJ7_fill_53178_3 : decode cJ7_fill_53178 3 = .ok (.arraylength, 1) := by decide +kernel
theorem dJ7_fill_53178_4 : decode cJ7_fill_53178 4 = .ok (.istore_n 3, 1) := by decide +kernel
theorem dJ7_fill_53178_5 : decode cJ7_fill_53178 5 = .ok (.iload_n 2, 1) := by decide +kernel
theorem dJ7_fill_53178_6 : decode cJ7_fill_53178 6 = .ok (.iload_n 3, 1) := by decide +kernel
theorem dJ7_fill_53178_7 : decode cJ7_fill_53178 7 = .ok (.if_icmp .ge 13, 3) := by decide +kernel
theorem dJ7_fill_53178_10 : decode cJ7_fill_53178 10 = .ok (.aload_n 0, 1) := by decide +kernel
theorem dJ7_fill_53178_11 : decode cJ7_fill_53178 11 = .ok (.iload_n 2, 1) := by decide +kernel
theorem dJ7_fill_53178_12 : decode cJ7_fill_53178 12 = .ok (.iload_n 1, 1) := by decide +kernel
theorem dJ7_fill_53178_13 : decode cJ7_fill_53178 13 = .ok (.iastore, 1) := by decide +kernel
theorem dJ7_fill_53178_14 : decode cJ7_fill_53178 14 = .ok (.iinc 2 1, 3) := by decide +kernel
theorem dJ7_fill_53178_17 : decode cJ7_fill_53178 17 = .ok (.goto (-12), 3) := by decide +kernel
theorem dJ7_fill_53178_20 : decode cJ7_fill_53178 20 = .ok (.return_, 1) := by decide +kernel
