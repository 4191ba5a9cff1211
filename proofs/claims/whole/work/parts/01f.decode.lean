theorem dX5_seal_1 : decode cX5_seal 1 = .ok (.aload_n 0, 1) := by decide +kernel
theorem dX5_seal_2 : decode cX5_seal 2 = .ok (.getfield 116, 3) := by decide +kernel
theorem dX5_seal_5 : decode cX5_seal 5 = .ok (.iconst 0, 1) := by decide +kernel
theorem dX5_seal_6 : decode cX5_seal 6 = .ok (.iconst 0, 1) := by decide +kernel
theorem dX5_seal_7 : decode cX5_seal 7 = .ok (.invokevirtual 124, 3) := by decide +kernel
theorem dX5_seal_10 : decode cX5_seal 10 = .ok (.ifCond .eq 5, 3) := by decide +kernel
theorem dX5_seal_13 : decode cX5_seal 13 = .ok (.iconst 0, 1) := by decide +kernel
theorem dX5_seal_14 : decode cX5_seal 14 = .ok (.ireturn, 1) := by decide +kernel
theorem dX5_seal_15 : decode cX5_seal 15 = .ok (.aload_n 0, 1) := by decide +kernel
theorem dX5_seal_16 : decode cX5_seal 16 = .ok (.invokevirtual 139, 3) := by decide +kernel
theorem dX5_seal_19 : decode cX5_seal 19 = .ok (.iconst 0, 1) := by decide +kernel
theorem dX5_seal_20 : decode cX5_seal 20 = .ok (.istore_n 1, 1) := by decide +kernel
theorem dX5_seal_21 : decode cX5_seal 21 = .ok (.iload_n 1, 1) := by decide +kernel
theorem dX5_seal_22 : decode cX5_seal 22 = .ok (.bipush 16, 2) := by decide +kernel
theorem dX5_seal_24 : decode cX5_seal 24 = .ok (.if_icmp .ge 28, 3) := by decide +kernel
theorem dX5_seal_27 : decode cX5_seal 27 = .ok (.aload_n 0, 1) := by decide +kernel
theorem dX5_seal_28 : decode cX5_seal 28 = .ok (.getfield 7, 3) := by decide +kernel
theorem dX5_seal_31 : decode cX5_seal 31 = .ok (.iload_n 1, 1) := by decide +kernel
theorem dX5_seal_32 : decode cX5_seal 32 = .ok (.iaload, 1) := by decide +kernel
theorem dX5_seal_33 : decode cX5_seal 33 = .ok (.ifCond .lt 13, 3) := by decide +kernel
theorem dX5_seal_36 : decode cX5_seal 36 = .ok (.aload_n 0, 1) := by decide +kernel
theorem dX5_seal_37 : decode cX5_seal 37 = .ok (.iload_n 1, 1) := by decide +kernel
theorem dX5_seal_38 : decode cX5_seal 38 = .ok (.invokevirtual 155, 3) := by decide +kernel
theorem dX5_seal_41 : decode cX5_seal 41 = .ok (.ifCond .ge 5, 3) := by decide +kernel
theorem dX5_seal_44 : decode cX5_seal 44 = .ok (.iload_n 1, 1) := by decide +kernel
theorem dX5_seal_45 : decode cX5_seal 45 = .ok (.ireturn, 1) := by decide +kernel
theorem dX5_seal_46 : decode cX5_seal 46 = .ok (.iinc 1 1, 3) := by decide +kernel
theorem dX5_seal_49 : decode cX5_seal 49 = .ok (.goto (-28), 3) := by decide +kernel
theorem dX5_seal_52 : decode cX5_seal 52 = .ok (.aload_n 0, 1) := by decide +kernel
theorem dX5_seal_53 : decode cX5_seal 53 = .ok (.iconst 1, 1) := by decide +kernel
theorem dX5_seal_54 : decode cX5_seal 54 = .ok (.putfield 116, 3) := by decide +kernel
theorem dX5_seal_57 : decode cX5_seal 57 = .ok (.aload_n 0, 1) := by decide +kernel
theorem dX5_seal_58 : decode cX5_seal 58 = .ok (.invokevirtual 101, 3) := by decide +kernel
theorem dX5_seal_61 : decode cX5_seal 61 = .ok (.iconst (-1), 1) := by decide +kernel
theorem dX5_seal_62 : decode cX5_seal 62 = .ok (.ireturn, 1) := by decide +kernel
theorem dX5_forget_0 : decode cX5_forget 0 = .ok (.aload_n 0, 1) := by decide +kernel
theorem dX5_forget_1 : decode cX5_forget 1 = .ok (.iconst 0, 1) := by decide +kernel
theorem dX5_forget_2 : decode cX5_forget 2 = .ok (.putfield 158, 3) := by decide +kernel
theorem dX5_forget_5 : decode cX5_forget 5 = .ok (.aload_n 0, 1) := by decide +kernel
theorem dX5_forget_6 : decode cX5_forget 6 = .ok (.iconst 0, 1) := by decide +kernel
theorem dX5_forget_7 : decode cX5_forget 7 = .ok (.putfield 161, 3) := by decide +kernel
theorem dX5_forget_10 : decode cX5_forget 10 = .ok (.iconst 0, 1) := by decide +kernel
theorem dX5_forget_11 : decode cX5_forget 11 = .ok (.istore_n 1, 1) := by decide +kernel
theorem dX5_forget_12 : decode cX5_forget 12 = .ok (.iload_n 1, 1) := by decide +kernel
theorem dX5_forget_13 : decode cX5_forget 13 = .ok (.bipush 16, 2) := by decide +kernel
theorem dX5_forget_15 : decode cX5_forget 15 = .ok (.if_icmp .ge 44, 3) := by decide +kernel
theorem dX5_forget_18 : decode cX5_forget 18 = .ok (.aload_n 0, 1) := by decide +kernel
theorem dX5_forget_19 : decode cX5_forget 19 = .ok (.getfield 43, 3) := by decide +kernel
theorem dX5_forget_22 : decode cX5_forget 22 = .ok (.iload_n 1, 1) := by decide +kernel
theorem dX5_forget_23 : decode cX5_forget 23 = .ok (.iconst 0, 1) := by decide +kernel
theorem dX5_forget_24 : decode cX5_forget 24 = .ok (.bastore, 1) := by decide +kernel
theorem dX5_forget_25 : decode cX5_forget 25 = .ok (.aload_n 0, 1) := by decide +kernel
theorem dX5_forget_26 : decode cX5_forget 26 = .ok (.getfield 47, 3) := by decide +kernel
theorem dX5_forget_29 : decode cX5_forget 29 = .ok (.iload_n 1, 1) := by decide +kernel
theorem dX5_forget_30 : decode cX5_forget 30 = .ok (.iconst 0, 1) := by decide +kernel
theorem dX5_forget_31 : decode cX5_forget 31 = .ok (.bastore, 1) := by decide +kernel
theorem dX5_forget_32 : decode cX5_forget 32 = .ok (.aload_n 0, 1) := by decide +kernel
theorem dX5_forget_33 : decode cX5_forget 33 = .ok (.getfield 71, 3) := by decide +kernel
theorem dX5_forget_36 : decode cX5_forget 36 = .ok (.iload_n 1, 1) := by decide +kernel
theorem dX5_forget_37 : decode cX5_forget 37 = .ok (.iconst 0, 1) := by decide +kernel
theorem dX5_forget_38 : decode cX5_forget 38 = .ok (.iastore, 1) := by decide +kernel
theorem dX5_forget_39 : decode cX5_forget 39 = .ok (.aload_n 0, 1) := by decide +kernel
theorem dX5_forget_40 : decode cX5_forget 40 = .ok (.getfield 74, 3) := by decide +kernel
theorem dX5_forget_43 : decode cX5_forget 43 = .ok (.iload_n 1, 1) := by decide +kernel
theorem dX5_forget_44 : decode cX5_forget 44 = .ok (.iconst 0, 1) := by decide +kernel
theorem dX5_forget_45 : decode cX5_forget 45 = .ok (.iastore, 1) := by decide +kernel
theorem dX5_forget_46 : decode cX5_forget 46 = .ok (.aload_n 0, 1) := by decide +kernel
theorem dX5_forget_47 : decode cX5_forget 47 = .ok (.getfield 77, 3) := by decide +kernel
theorem dX5_forget_50 : decode cX5_forget 50 = .ok (.iload_n 1, 1) := by decide +kernel
theorem dX5_forget_51 : decode cX5_forget 51 = .ok (.iconst 0, 1) := by decide +kernel
theorem dX5_forget_52 : decode cX5_forget 52 = .ok (.iastore, 1) := by decide +kernel
theorem dX5_forget_53 : decode cX5_forget 53 = .ok (.iinc 1 1, 3) := by decide +kernel
theorem dX5_forget_56 : decode cX5_forget 56 = .ok (.goto (-44), 3) := by decide +kernel
theorem dX5_forget_59 : decode cX5_forget 59 = .ok (.iconst 0, 1) := by decide +kernel
theorem dX5_forget_60 : decode cX5_forget 60 = .ok (.istore_n 1, 1) := by decide +kernel
theorem dX5_forget_61 : decode cX5_forget 61 = .ok (.iload_n 1, 1) := by decide +kernel
theorem dX5_forget_62 : decode cX5_forget 62 = .ok (.bipush 96, 2) := by decide +kernel
theorem dX5_forget_64 : decode cX5_forget 64 = .ok (.if_icmp .ge 28, 3) := by decide +kernel
theorem dX5_forget_67 : decode cX5_forget 67 = .ok (.aload_n 0, 1) := by decide +kernel
theorem dX5_forget_68 : decode cX5_forget 68 = .ok (.getfield 80, 3) := by decide +kernel
theorem dX5_forget_71 : decode cX5_forget 71 = .ok (.iload_n 1, 1) := by decide +kernel
theorem dX5_forget_72 : decode cX5_forget 72 = .ok (.iconst 0, 1) := by decide +kernel
theorem dX5_forget_73 : decode cX5_forget 73 = .ok (.iastore, 1) := by decide +kernel
theorem dX5_forget_74 : decode cX5_forget 74 = .ok (.aload_n 0, 1) := by decide +kernel
theorem dX5_forget_75 : decode cX5_forget 75 = .ok (.getfield 68, 3) := by decide +kernel
theorem dX5_forget_78 : decode cX5_forget 78 = .ok (.iload_n 1, 1) := by decide +kernel
theorem dX5_forget_79 : decode cX5_forget 79 = .ok (.aload_n 0, 1) := by decide +kernel
theorem dX5_forget_80 : decode cX5_forget 80 = .ok (.getfield 34, 3) := by decide +kernel
theorem dX5_forget_83 : decode cX5_forget 83 = .ok (.iload_n 1, 1) := by decide +kernel
theorem dX5_forget_84 : decode cX5_forget 84 = .ok (.iaload, 1) := by decide +kernel
theorem dX5_forget_85 : decode cX5_forget 85 = .ok (.iastore, 1) := by decide +kernel
theorem dX5_forget_86 : decode cX5_forget 86 = .ok (.iinc 1 1, 3) := by decide +kernel
theorem dX5_forget_89 : decode cX5_forget 89 = .ok (.goto (-28), 3) := by decide +kernel
theorem dX5_forget_92 : decode cX5_forget 92 = .ok (.iconst 0, 1) := by decide +kernel
theorem dX5_forget_93 : decode cX5_forget 93 = .ok (.istore_n 1, 1) := by decide +kernel
theorem dX5_forget_94 : decode cX5_forget 94 = .ok (.iload_n 1, 1) := by decide +kernel
theorem dX5_forget_95 : decode cX5_forget 95 = .ok (.iconst 4, 1) := by decide +kernel
theorem dX5_forget_96 : decode cX5_forget 96 = .ok (.if_icmp .ge 37, 3) := by decide +kernel
theorem dX5_forget_99 : decode cX5_forget 99 = .ok (.aload_n 0, 1) := by decide +kernel
theorem dX5_forget_100 : decode cX5_forget 100 = .ok (.getfield 83, 3) := by decide +kernel
theorem dX5_forget_103 : decode cX5_forget 103 = .ok (.iload_n 1, 1) := by decide +kernel
theorem dX5_forget_104 : decode cX5_forget 104 = .ok (.iconst (-1), 1) := by decide +kernel
theorem dX5_forget_105 : decode cX5_forget 105 = .ok (.iastore, 1) := by decide +kernel
theorem dX5_forget_106 : decode cX5_forget 106 = .ok (.aload_n 0, 1) := by decide +kernel
theorem dX5_forget_107 : decode cX5_forget 107 = .ok (.getfield 86, 3) := by decide +kernel
theorem dX5_forget_110 : decode cX5_forget 110 = .ok (.iload_n 1, 1) := by decide +kernel
theorem dX5_forget_111 : decode cX5_forget 111 = .ok (.iconst 0, 1) := by decide +kernel
theorem dX5_forget_112 : decode cX5_forget 112 = .ok (.iastore, 1) := by decide +kernel
theorem dX5_forget_113 : decode cX5_forget 113 = .ok (.aload_n 0, 1) := by decide +kernel
theorem dX5_forget_114 : decode cX5_forget 114 = .ok (.getfield 89, 3) := by decide +kernel
theorem dX5_forget_117 : decode cX5_forget 117 = .ok (.iload_n 1, 1) := by decide +kernel
theorem dX5_forget_118 : decode cX5_forget 118 = .ok (.iconst (-1), 1) := by decide +kernel
theorem dX5_forget_119 : decode cX5_forget 119 = .ok (.iastore, 1) := by decide +kernel
theorem dX5_forget_120 : decode cX5_forget 120 = .ok (.aload_n 0, 1) := by decide +kernel
theorem dX5_forget_121 : decode cX5_forget 121 = .ok (.getfield 92, 3) := by decide +kernel
theorem dX5_forget_124 : decode cX5_forget 124 = .ok (.iload_n 1, 1) := by decide +kernel
theorem dX5_forget_125 : decode cX5_forget 125 = .ok (.iconst 0, 1) := by decide +kernel
theorem dX5_forget_126 : decode cX5_forget 126 = .ok (.iastore, 1) := by decide +kernel
theorem dX5_forget_127 : decode cX5_forget 127 = .ok (.iinc 1 1, 3) := by decide +kernel
theorem dX5_forget_130 : decode cX5_forget 130 = .ok (.goto (-36), 3) := by decide +kernel
theorem dX5_forget_133 : decode cX5_forget 133 = .ok (.iconst 0, 1) := by decide +kernel
theorem dX5_forget_134 : decode cX5_forget 134 = .ok (.istore_n 1, 1) := by decide +kernel
theorem dX5_forget_135 : decode cX5_forget 135 = .ok (.iload_n 1, 1) := by decide +kernel
theorem dX5_forget_136 : decode cX5_forget 136 = .ok (.bipush 8, 2) := by decide +kernel
theorem dX5_forget_138 : decode cX5_forget 138 = .ok (.if_icmp .ge 16, 3) := by decide +kernel
theorem dX5_forget_141 : decode cX5_forget 141 = .ok (.aload_n 0, 1) := by decide +kernel
theorem dX5_forget_142 : decode cX5_forget 142 = .ok (.getfield 98, 3) := by decide +kernel
theorem dX5_forget_145 : decode cX5_forget 145 = .ok (.iload_n 1, 1) := by decide +kernel
theorem dX5_forget_146 : decode cX5_forget 146 = .ok (.iconst 0, 1) := by decide +kernel
theorem dX5_forget_147 : decode cX5_forget 147 = .ok (.iastore, 1) := by decide +kernel
theorem dX5_forget_148 : decode cX5_forget 148 = .ok (.iinc 1 1, 3) := by decide +kernel
theorem dX5_forget_151 : decode cX5_forget 151 = .ok (.goto (-16), 3) := by decide +kernel
theorem dX5_forget_154 : decode cX5_forget 154 = .ok (.return_, 1) := by decide +kernel
theorem dX5_hasOpen_0 : decode cX5_hasOpen 0 = .ok (.iconst 0, 1) := by decide +kernel
theorem dX5_hasOpen_1 : decode cX5_hasOpen 1 = .ok (.istore_n 1, 1) := by decide +kernel
theorem dX5_hasOpen_2 : decode cX5_hasOpen 2 = .ok (.iconst 0, 1) := by decide +kernel
theorem dX5_hasOpen_3 : decode cX5_hasOpen 3 = .ok (.istore_n 2, 1) := by decide +kernel
theorem dX5_hasOpen_4 : decode cX5_hasOpen 4 = .ok (.iload_n 2, 1) := by decide +kernel
theorem dX5_hasOpen_5 : decode cX5_hasOpen 5 = .ok (.bipush 16, 2) := by decide +kernel
theorem dX5_hasOpen_7 : decode cX5_hasOpen 7 = .ok (.if_icmp .ge 28, 3) := by decide +kernel
theorem dX5_hasOpen_10 : decode cX5_hasOpen 10 = .ok (.iload_n 1, 1) := by decide +kernel
theorem dX5_hasOpen_11 : decode cX5_hasOpen 11 = .ok (.ifCond .ne 12, 3) := by decide +kernel
theorem dX5_hasOpen_14 : decode cX5_hasOpen 14 = .ok (.aload_n 0, 1) := by decide +kernel
theorem dX5_hasOpen_15 : decode cX5_hasOpen 15 = .ok (.getfield 43, 3) := by decide +kernel
theorem dX5_hasOpen_18 : decode cX5_hasOpen 18 = .ok (.iload_n 2, 1) := by decide +kernel
theorem dX5_hasOpen_19 : decode cX5_hasOpen 19 = .ok (.baload, 1) := by decide +kernel
theorem dX5_hasOpen_20 : decode cX5_hasOpen 20 = .ok (.ifCond .eq 7, 3) := by decide +kernel
theorem dX5_hasOpen_23 : decode cX5_hasOpen 23 = .ok (.iconst 1, 1) := by decide +kernel
theorem dX5_hasOpen_24 : decode cX5_hasOpen 24 = .ok (.goto 4, 3) := by decide +kernel
theorem dX5_hasOpen_27 : decode cX5_hasOpen 27 = .ok (.iconst 0, 1) := by decide +kernel
theorem dX5_hasOpen_28 : decode cX5_hasOpen 28 = .ok (.istore_n 1, 1) := by decide +kernel
theorem dX5_hasOpen_29 : decode cX5_hasOpen 29 = .ok (.iinc 2 1, 3) := by decide +kernel
theorem dX5_hasOpen_32 : decode cX5_hasOpen 32 = .ok (.goto (-28), 3) := by decide +kernel
theorem dX5_hasOpen_35 : decode cX5_hasOpen 35 = .ok (.iload_n 1, 1) := by decide +kernel
theorem dX5_hasOpen_36 : decode cX5_hasOpen 36 = .ok (.ireturn, 1) := by decide +kernel
theorem dX5_unseal_0 : decode cX5_unseal 0 = .ok (.aload_n 0, 1) := by decide +kernel
theorem dX5_unseal_1 : decode cX5_unseal 1 = .ok (.aload_n 0, 1) := by decide +kernel
theorem dX5_unseal_2 : decode cX5_unseal 2 = .ok (.getfield 116, 3) := by decide +kernel
theorem dX5_unseal_5 : decode cX5_unseal 5 = .ok (.ifCond .eq 10, 3) := by decide +kernel
theorem dX5_unseal_8 : decode cX5_unseal 8 = .ok (.aload_n 0, 1) := by decide +kernel
theorem dX5_unseal_9 : decode cX5_unseal 9 = .ok (.invokevirtual 164, 3) := by decide +kernel
theorem dX5_unseal_12 : decode cX5_unseal 12 = .ok (.ifCond .eq 7, 3) := by decide +kernel
theorem dX5_unseal_15 : decode cX5_unseal 15 = .ok (.iconst 1, 1) := by decide +kernel
theorem dX5_unseal_16 : decode cX5_unseal 16 = .ok (.goto 4, 3) := by decide +kernel
theorem dX5_unseal_19 : decode cX5_unseal 19 = .ok (.iconst 0, 1) := by decide +kernel
theorem dX5_unseal_20 : decode cX5_unseal 20 = .ok (.iconst 0, 1) := by decide +kernel
theorem dX5_unseal_21 : decode cX5_unseal 21 = .ok (.iconst 0, 1) := by decide +kernel
theorem dX5_unseal_22 : decode cX5_unseal 22 = .ok (.invokevirtual 124, 3) := by decide +kernel
theorem dX5_unseal_25 : decode cX5_unseal 25 = .ok (.ifCond .ne 12, 3) := by decide +kernel
theorem dX5_unseal_28 : decode cX5_unseal 28 = .ok (.aload_n 0, 1) := by decide +kernel
theorem dX5_unseal_29 : decode cX5_unseal 29 = .ok (.iconst 0, 1) := by decide +kernel
theorem dX5_unseal_30 : decode cX5_unseal 30 = .ok (.putfield 116, 3) := by decide +kernel
theorem dX5_unseal_33 : decode cX5_unseal 33 = .ok (.aload_n 0, 1) := by decide +kernel
theorem dX5_unseal_34 : decode cX5_unseal 34 = .ok (.invokevirtual 101, 3) := by decide +kernel
theorem dX5_unseal_37 : decode cX5_unseal 37 = .ok (.return_, 1) := by decide +kernel
theorem dX5_arrive_0 : decode cX5_arrive 0 = .ok (.aload_n 0, 1) := by decide +kernel
theorem dX5_arrive_1 : decode cX5_arrive 1 = .ok (.aload_n 0, 1) := by decide +kernel
theorem dX5_arrive_2 : decode cX5_arrive 2 = .ok (.iload_n 1, 1) := by decide +kernel
theorem dX5_arrive_3 : decode cX5_arrive 3 = .ok (.invokevirtual 108, 3) := by decide +kernel
theorem dX5_arrive_6 : decode cX5_arrive 6 = .ok (.ifCond .ne 7, 3) := by decide +kernel
theorem dX5_arrive_9 : decode cX5_arrive 9 = .ok (.iconst 1, 1) := by decide +kernel
theorem dX5_arrive_10 : decode cX5_arrive 10 = .ok (.goto 4, 3) := by decide +kernel
theorem dX5_arrive_13 : decode cX5_arrive 13 = .ok (.iconst 0, 1) := by decide +kernel
theorem dX5_arrive_14 : decode cX5_arrive 14 = .ok (.aload_n 0, 1) := by decide +kernel
theorem dX5_arrive_15 : decode cX5_arrive 15 = .ok (.getfield 116, 3) := by decide +kernel
theorem dX5_arrive_18 : decode cX5_arrive 18 = .ok (.ifCond .ne 7, 3) := by decide +kernel
theorem dX5_arrive_21 : decode cX5_arrive 21 = .ok (.iconst 1, 1) := by decide +kernel
theorem dX5_arrive_22 : decode cX5_arrive 22 = .ok (.goto 4, 3) := by decide +kernel
theorem dX5_arrive_25 : decode cX5_arrive 25 = .ok (.iconst 0, 1) := by decide +kernel
theorem dX5_arrive_26 : decode cX5_arrive 26 = .ok (.iconst 0, 1) := by decide +kernel
theorem dX5_arrive_27 : decode cX5_arrive 27 = .ok (.invokevirtual 124, 3) := by decide +kernel
theorem dX5_arrive_30 : decode cX5_arrive 30 = .ok (.ifCond .eq 5, 3) := by decide +kernel
theorem dX5_arrive_33 : decode cX5_arrive 33 = .ok (.iconst 0, 1) := by decide +kernel
theorem dX5_arrive_34 : decode cX5_arrive 34 = .ok (.ireturn, 1) := by decide +kernel
theorem dX5_arrive_35 : decode cX5_arrive 35 = .ok (.aload_n 0, 1) := by decide +kernel
theorem dX5_arrive_36 : decode cX5_arrive 36 = .ok (.getfield 47, 3) := by decide +kernel
theorem dX5_arrive_39 : decode cX5_arrive 39 = .ok (.iload_n 1, 1) := by decide +kernel
theorem dX5_arrive_40 : decode cX5_arrive 40 = .ok (.baload, 1) := by decide +kernel
theorem dX5_arrive_41 : decode cX5_arrive 41 = .ok (.ifCond .eq 25, 3) := by decide +kernel
theorem dX5_arrive_44 : decode cX5_arrive 44 = .ok (.aload_n 0, 1) := by decide +kernel
theorem dX5_arrive_45 : decode cX5_arrive 45 = .ok (.getfield 158, 3) := by decide +kernel
theorem dX5_arrive_48 : decode cX5_arrive 48 = .ok (.aload_n 0, 1) := by decide +kernel
theorem dX5_arrive_49 : decode cX5_arrive 49 = .ok (.getfield 50, 3) := by decide +kernel
theorem dX5_arrive_52 : decode cX5_arrive 52 = .ok (.iload_n 1, 1) := by decide +kernel
theorem dX5_arrive_53 : decode cX5_arrive 53 = .ok (.iaload, 1) := by decide +kernel
theorem dX5_arrive_54 : decode cX5_arrive 54 = .ok (.isub, 1) := by decide +kernel
theorem dX5_arrive_55 : decode cX5_arrive 55 = .ok (.aload_n 0, 1) := by decide +kernel
theorem dX5_arrive_56 : decode cX5_arrive 56 = .ok (.getfield 16, 3) := by decide +kernel
theorem dX5_arrive_59 : decode cX5_arrive 59 = .ok (.iload_n 1, 1) := by decide +kernel
theorem dX5_arrive_60 : decode cX5_arrive 60 = .ok (.iaload, 1) := by decide +kernel
theorem dX5_arrive_61 : decode cX5_arrive 61 = .ok (.if_icmp .ge 5, 3) := by decide +kernel
theorem dX5_arrive_64 : decode cX5_arrive 64 = .ok (.iconst 0, 1) := by decide +kernel
theorem dX5_arrive_65 : decode cX5_arrive 65 = .ok (.ireturn, 1) := by decide +kernel
theorem dX5_arrive_66 : decode cX5_arrive 66 = .ok (.aload_n 0, 1) := by decide +kernel
theorem dX5_arrive_67 : decode cX5_arrive 67 = .ok (.getfield 47, 3) := by decide +kernel
theorem dX5_arrive_70 : decode cX5_arrive 70 = .ok (.iload_n 1, 1) := by decide +kernel
theorem dX5_arrive_71 : decode cX5_arrive 71 = .ok (.iconst 1, 1) := by decide +kernel
theorem dX5_arrive_72 : decode cX5_arrive 72 = .ok (.bastore, 1) := by decide +kernel
theorem dX5_arrive_73 : decode cX5_arrive 73 = .ok (.aload_n 0, 1) := by decide +kernel
theorem dX5_arrive_74 : decode cX5_arrive 74 = .ok (.getfield 43, 3) := by decide +kernel
theorem dX5_arrive_77 : decode cX5_arrive 77 = .ok (.iload_n 1, 1) := by decide +kernel
theorem dX5_arrive_78 : decode cX5_arrive 78 = .ok (.iconst 1, 1) := by decide +kernel
theorem dX5_arrive_79 : decode cX5_arrive 79 = .ok (.bastore, 1) := by decide +kernel
theorem dX5_arrive_80 : decode cX5_arrive 80 = .ok (.aload_n 0, 1) := by decide +kernel
theorem dX5_arrive_81 : decode cX5_arrive 81 = .ok (.getfield 50, 3) := by decide +kernel
theorem dX5_arrive_84 : decode cX5_arrive 84 = .ok (.iload_n 1, 1) := by decide +kernel
theorem dX5_arrive_85 : decode cX5_arrive 85 = .ok (.aload_n 0, 1) := by decide +kernel
theorem dX5_arrive_86 : decode cX5_arrive 86 = .ok (.getfield 158, 3) := by decide +kernel
theorem dX5_arrive_89 : decode cX5_arrive 89 = .ok (.iastore, 1) := by decide +kernel
theorem dX5_arrive_90 : decode cX5_arrive 90 = .ok (.aload_n 0, 1) := by decide +kernel
theorem dX5_arrive_91 : decode cX5_arrive 91 = .ok (.getfield 53, 3) := by decide +kernel
theorem dX5_arrive_94 : decode cX5_arrive 94 = .ok (.iload_n 1, 1) := by decide +kernel
theorem dX5_arrive_95 : decode cX5_arrive 95 = .ok (.iconst 0, 1) := by decide +kernel
theorem dX5_arrive_96 : decode cX5_arrive 96 = .ok (.iastore, 1) := by decide +kernel
theorem dX5_arrive_97 : decode cX5_arrive 97 = .ok (.aload_n 0, 1) := by decide +kernel
theorem dX5_arrive_98 : decode cX5_arrive 98 = .ok (.getfield 56, 3) := by decide +kernel
theorem dX5_arrive_101 : decode cX5_arrive 101 = .ok (.iload_n 1, 1) := by decide +kernel
theorem dX5_arrive_102 : decode cX5_arrive 102 = .ok (.iconst (-1), 1) := by decide +kernel
theorem dX5_arrive_103 : decode cX5_arrive 103 = .ok (.iastore, 1) := by decide +kernel
theorem dX5_arrive_104 : decode cX5_arrive 104 = .ok (.aload_n 0, 1) := by decide +kernel
theorem dX5_arrive_105 : decode cX5_arrive 105 = .ok (.iload_n 1, 1) := by decide +kernel
theorem dX5_arrive_106 : decode cX5_arrive 106 = .ok (.invokevirtual 168, 3) := by decide +kernel
theorem dX5_arrive_109 : decode cX5_arrive 109 = .ok (.iconst 0, 1) := by decide +kernel
theorem dX5_arrive_110 : decode cX5_arrive 110 = .ok (.istore_n 2, 1) := by decide +kernel
theorem dX5_arrive_111 : decode cX5_arrive 111 = .ok (.iload_n 2, 1) := by decide +kernel
theorem dX5_arrive_112 : decode cX5_arrive 112 = .ok (.aload_n 0, 1) := by decide +kernel
theorem dX5_arrive_113 : decode cX5_arrive 113 = .ok (.getfield 25, 3) := by decide +kernel
theorem dX5_arrive_116 : decode cX5_arrive 116 = .ok (.iload_n 1, 1) := by decide +kernel
theorem dX5_arrive_117 : decode cX5_arrive 117 = .ok (.iaload, 1) := by decide +kernel
theorem dX5_arrive_118 : decode cX5_arrive 118 = .ok (.if_icmp .ge 53, 3) := by decide +kernel
theorem dX5_arrive_121 : decode cX5_arrive 121 = .ok (.aload_n 0, 1) := by decide +kernel
theorem dX5_arrive_122 : decode cX5_arrive 122 = .ok (.getfield 65, 3) := by decide +kernel
theorem dX5_arrive_125 : decode cX5_arrive 125 = .ok (.bipush 6, 2) := by decide +kernel
theorem dX5_arrive_127 : decode cX5_arrive 127 = .ok (.iload_n 1, 1) := by decide +kernel
theorem dX5_arrive_128 : decode cX5_arrive 128 = .ok (.imul, 1) := by decide +kernel
theorem dX5_arrive_129 : decode cX5_arrive 129 = .ok (.iload_n 2, 1) := by decide +kernel
theorem dX5_arrive_130 : decode cX5_arrive 130 = .ok (.iadd, 1) := by decide +kernel
theorem dX5_arrive_131 : decode cX5_arrive 131 = .ok (.aload_n 0, 1) := by decide +kernel
theorem dX5_arrive_132 : decode cX5_arrive 132 = .ok (.getfield 68, 3) := by decide +kernel
theorem dX5_arrive_135 : decode cX5_arrive 135 = .ok (.bipush 6, 2) := by decide +kernel
theorem dX5_arrive_137 : decode cX5_arrive 137 = .ok (.iload_n 1, 1) := by decide +kernel
theorem dX5_arrive_138 : decode cX5_arrive 138 = .ok (.imul, 1) := by decide +kernel
theorem dX5_arrive_139 : decode cX5_arrive 139 = .ok (.iload_n 2, 1) := by decide +kernel
theorem dX5_arrive_140 : decode cX5_arrive 140 = .ok (.iadd, 1) := by decide +kernel
theorem dX5_arrive_141 : decode cX5_arrive 141 = .ok (.iaload, 1) := by decide +kernel
theorem dX5_arrive_142 : decode cX5_arrive 142 = .ok (.iastore, 1) := by decide +kernel
theorem dX5_arrive_143 : decode cX5_arrive 143 = .ok (.aload_n 0, 1) := by decide +kernel
theorem dX5_arrive_144 : decode cX5_arrive 144 = .ok (.getfield 68, 3) := by decide +kernel
theorem dX5_arrive_147 : decode cX5_arrive 147 = .ok (.bipush 6, 2) := by decide +kernel
theorem dX5_arrive_149 : decode cX5_arrive 149 = .ok (.iload_n 1, 1) := by decide +kernel
theorem dX5_arrive_150 : decode cX5_arrive 150 = .ok (.imul, 1) := by decide +kernel
theorem dX5_arrive_151 : decode cX5_arrive 151 = .ok (.iload_n 2, 1) := by decide +kernel
theorem dX5_arrive_152 : decode cX5_arrive 152 = .ok (.iadd, 1) := by decide +kernel
theorem dX5_arrive_153 : decode cX5_arrive 153 = .ok (.aload_n 0, 1) := by decide +kernel
theorem dX5_arrive_154 : decode cX5_arrive 154 = .ok (.getfield 34, 3) := by decide +kernel
theorem dX5_arrive_157 : decode cX5_arrive 157 = .ok (.bipush 6, 2) := by decide +kernel
theorem dX5_arrive_159 : decode cX5_arrive 159 = .ok (.iload_n 1, 1) := by decide +kernel
theorem dX5_arrive_160 : decode cX5_arrive 160 = .ok (.imul, 1) := by decide +kernel
theorem dX5_arrive_161 : decode cX5_arrive 161 = .ok (.iload_n 2, 1) := by decide +kernel
theorem dX5_arrive_162 : decode cX5_arrive 162 = .ok (.iadd, 1) := by decide +kernel
theorem dX5_arrive_163 : decode cX5_arrive 163 = .ok (.iaload, 1) := by decide +kernel
theorem dX5_arrive_164 : decode cX5_arrive 164 = .ok (.iastore, 1) := by decide +kernel
theorem dX5_arrive_165 : decode cX5_arrive 165 = .ok (.iinc 2 1, 3) := by decide +kernel
theorem dX5_arrive_168 : decode cX5_arrive 168 = .ok (.goto (-57), 3) := by decide +kernel
theorem dX5_arrive_171 : decode cX5_arrive 171 = .ok (.iconst 1, 1) := by decide +kernel
theorem dX5_arrive_172 : decode cX5_arrive 172 = .ok (.ireturn, 1) := by decide +kernel
theorem dX5_goToNext_0 : decode cX5_goToNext 0 = .ok (.aload_n 0, 1) := by decide +kernel
theorem dX5_goToNext_1 : decode cX5_goToNext 1 = .ok (.getfield 56, 3) := by decide +kernel
theorem dX5_goToNext_4 : decode cX5_goToNext 4 = .ok (.iload_n 1, 1) := by decide +kernel
theorem dX5_goToNext_5 : decode cX5_goToNext 5 = .ok (.iaload, 1) := by decide +kernel
theorem dX5_goToNext_6 : decode cX5_goToNext 6 = .ok (.iconst 1, 1) := by decide +kernel
theorem dX5_goToNext_7 : decode cX5_goToNext 7 = .ok (.iadd, 1) := by decide +kernel
theorem dX5_goToNext_8 : decode cX5_goToNext 8 = .ok (.istore_n 2, 1) := by decide +kernel
theorem dX5_goToNext_9 : decode cX5_goToNext 9 = .ok (.iload_n 2, 1) := by decide +kernel
theorem dX5_goToNext_10 : decode cX5_goToNext 10 = .ok (.aload_n 0, 1) := by decide +kernel
theorem dX5_goToNext_11 : decode cX5_goToNext 11 = .ok (.getfield 25, 3) := by decide +kernel
theorem dX5_goToNext_14 : decode cX5_goToNext 14 = .ok (.iload_n 1, 1) := by decide +kernel
theorem dX5_goToNext_15 : decode cX5_goToNext 15 = .ok (.iaload, 1) := by decide +kernel
theorem dX5_goToNext_16 : decode cX5_goToNext 16 = .ok (.if_icmp .ge 18, 3) := by decide +kernel
theorem dX5_goToNext_19 : decode cX5_goToNext 19 = .ok (.aload_n 0, 1) := by decide +kernel
theorem dX5_goToNext_20 : decode cX5_goToNext 20 = .ok (.iload_n 1, 1) := by decide +kernel
theorem dX5_goToNext_21 : decode cX5_goToNext 21 = .ok (.iload_n 2, 1) := by decide +kernel
theorem dX5_goToNext_22 : decode cX5_goToNext 22 = .ok (.invokevirtual 142, 3) := by decide +kernel
theorem dX5_goToNext_25 : decode cX5_goToNext 25 = .ok (.ifCond .ne 9, 3) := by decide +kernel
theorem dX5_goToNext_28 : decode cX5_goToNext 28 = .ok (.iinc 2 1, 3) := by decide +kernel
theorem dX5_goToNext_31 : decode cX5_goToNext 31 = .ok (.goto (-22), 3) := by decide +kernel
theorem dX5_goToNext_34 : decode cX5_goToNext 34 = .ok (.aload_n 0, 1) := by decide +kernel
theorem dX5_goToNext_35 : decode cX5_goToNext 35 = .ok (.getfield 56, 3) := by decide +kernel
theorem dX5_goToNext_38 : decode cX5_goToNext 38 = .ok (.iload_n 1, 1) := by decide +kernel
theorem dX5_goToNext_39 : decode cX5_goToNext 39 = .ok (.iload_n 2, 1) := by decide +kernel
theorem dX5_goToNext_40 : decode cX5_goToNext 40 = .ok (.iastore, 1) := by decide +kernel
theorem dX5_goToNext_41 : decode cX5_goToNext 41 = .ok (.return_, 1) := by decide +kernel
theorem dX5_shorten_0 : decode cX5_shorten 0 = .ok (.aload_n 0, 1) := by decide +kernel
theorem dX5_shorten_1 : decode cX5_shorten 1 = .ok (.aload_n 0, 1) := by decide +kernel
theorem dX5_shorten_2 : decode cX5_shorten 2 = .ok (.iload_n 1, 1) := by decide +kernel
theorem dX5_shorten_3 : decode cX5_shorten 3 = .ok (.iload_n 2, 1) := by decide +kernel
theorem dX5_shorten_4 : decode cX5_shorten 4 = .ok (.invokevirtual 132, 3) := by decide +kernel
theorem dX5_shorten_7 : decode cX5_shorten 7 = .ok (.ifCond .ne 7, 3) := by decide +kernel
theorem dX5_shorten_10 : decode cX5_shorten 10 = .ok (.iconst 1, 1) := by decide +kernel
theorem dX5_shorten_11 : decode cX5_shorten 11 = .ok (.goto 4, 3) := by decide +kernel
theorem dX5_shorten_14 : decode cX5_shorten 14 = .ok (.iconst 0, 1) := by decide +kernel
theorem dX5_shorten_15 : decode cX5_shorten 15 = .ok (.aload_n 0, 1) := by decide +kernel
theorem dX5_shorten_16 : decode cX5_shorten 16 = .ok (.getfield 116, 3) := by decide +kernel
theorem dX5_shorten_19 : decode cX5_shorten 19 = .ok (.ifCond .ne 7, 3) := by decide +kernel
theorem dX5_shorten_22 : decode cX5_shorten 22 = .ok (.iconst 1, 1) := by decide +kernel
theorem dX5_shorten_23 : decode cX5_shorten 23 = .ok (.goto 4, 3) := by decide +kernel
theorem dX5_shorten_26 : decode cX5_shorten 26 = .ok (.iconst 0, 1) := by decide +kernel
theorem dX5_shorten_27 : decode cX5_shorten 27 = .ok (.aload_n 0, 1) := by decide +kernel
theorem dX5_shorten_28 : decode cX5_shorten 28 = .ok (.iload_n 1, 1) := by decide +kernel
theorem dX5_shorten_29 : decode cX5_shorten 29 = .ok (.iload_n 2, 1) := by decide +kernel
theorem dX5_shorten_30 : decode cX5_shorten 30 = .ok (.invokevirtual 132, 3) := by decide +kernel
theorem dX5_shorten_33 : decode cX5_shorten 33 = .ok (.ifCond .eq 35, 3) := by decide +kernel
theorem dX5_shorten_36 : decode cX5_shorten 36 = .ok (.aload_n 0, 1) := by decide +kernel
theorem dX5_shorten_37 : decode cX5_shorten 37 = .ok (.iload_n 1, 1) := by decide +kernel
theorem dX5_shorten_38 : decode cX5_shorten 38 = .ok (.iload_n 2, 1) := by decide +kernel
theorem dX5_shorten_39 : decode cX5_shorten 39 = .ok (.invokevirtual 142, 3) := by decide +kernel
theorem dX5_shorten_42 : decode cX5_shorten 42 = .ok (.ifCond .eq 22, 3) := by decide +kernel
theorem dX5_shorten_45 : decode cX5_shorten 45 = .ok (.iload_n 3, 1) := by decide +kernel
theorem dX5_shorten_46 : decode cX5_shorten 46 = .ok (.iconst 1, 1) := by decide +kernel
theorem dX5_shorten_47 : decode cX5_shorten 47 = .ok (.aload_n 0, 1) := by decide +kernel
theorem dX5_shorten_48 : decode cX5_shorten 48 = .ok (.getfield 34, 3) := by decide +kernel
theorem dX5_shorten_51 : decode cX5_shorten 51 = .ok (.bipush 6, 2) := by decide +kernel
theorem dX5_shorten_53 : decode cX5_shorten 53 = .ok (.iload_n 1, 1) := by decide +kernel
theorem dX5_shorten_54 : decode cX5_shorten 54 = .ok (.imul, 1) := by decide +kernel
theorem dX5_shorten_55 : decode cX5_shorten 55 = .ok (.iload_n 2, 1) := by decide +kernel
theorem dX5_shorten_56 : decode cX5_shorten 56 = .ok (.iadd, 1) := by decide +kernel
theorem dX5_shorten_57 : decode cX5_shorten 57 = .ok (.iaload, 1) := by decide +kernel
theorem dX5_shorten_58 : decode cX5_shorten 58 = .ok (.invokestatic 112, 3) := by decide +kernel
theorem dX5_shorten_61 : decode cX5_shorten 61 = .ok (.ifCond .ne 7, 3) := by decide +kernel
theorem dX5_shorten_64 : decode cX5_shorten 64 = .ok (.iconst 1, 1) := by decide +kernel
theorem dX5_shorten_65 : decode cX5_shorten 65 = .ok (.goto 4, 3) := by decide +kernel
theorem dX5_shorten_68 : decode cX5_shorten 68 = .ok (.iconst 0, 1) := by decide +kernel
theorem dX5_shorten_69 : decode cX5_shorten 69 = .ok (.invokevirtual 124, 3) := by decide +kernel
theorem dX5_shorten_72 : decode cX5_shorten 72 = .ok (.ifCond .ne 15, 3) := by decide +kernel
theorem dX5_shorten_75 : decode cX5_shorten 75 = .ok (.aload_n 0, 1) := by decide +kernel
theorem dX5_shorten_76 : decode cX5_shorten 76 = .ok (.getfield 68, 3) := by decide +kernel
theorem dX5_shorten_79 : decode cX5_shorten 79 = .ok (.bipush 6, 2) := by decide +kernel
theorem dX5_shorten_81 : decode cX5_shorten 81 = .ok (.iload_n 1, 1) := by decide +kernel
theorem dX5_shorten_82 : decode cX5_shorten 82 = .ok (.imul, 1) := by decide +kernel
theorem dX5_shorten_83 : decode cX5_shorten 83 = .ok (.iload_n 2, 1) := by decide +kernel
theorem dX5_shorten_84 : decode cX5_shorten 84 = .ok (.iadd, 1) := by decide +kernel
theorem dX5_shorten_85 : decode cX5_shorten 85 = .ok (.iload_n 3, 1) := by decide +kernel
theorem dX5_shorten_86 : decode cX5_shorten 86 = .ok (.iastore, 1) := by decide +kernel
theorem dX5_shorten_87 : decode cX5_shorten 87 = .ok (.return_, 1) := by decide +kernel
theorem dX5_groupOf_0 : decode cX5_groupOf 0 = .ok (.aload_n 0, 1) := by decide +kernel
theorem dX5_groupOf_1 : decode cX5_groupOf 1 = .ok (.getfield 40, 3) := by decide +kernel
theorem dX5_groupOf_4 : decode cX5_groupOf 4 = .ok (.aload_n 0, 1) := by decide +kernel
theorem dX5_groupOf_5 : decode cX5_groupOf 5 = .ok (.getfield 31, 3) := by decide +kernel
theorem dX5_groupOf_8 : decode cX5_groupOf 8 = .ok (.bipush 6, 2) := by decide +kernel
theorem dX5_groupOf_10 : decode cX5_groupOf 10 = .ok (.iload_n 1, 1) := by decide +kernel
theorem dX5_groupOf_11 : decode cX5_groupOf 11 = .ok (.imul, 1) := by decide +kernel
theorem dX5_groupOf_12 : decode cX5_groupOf 12 = .ok (.aload_n 0, 1) := by decide +kernel
theorem dX5_groupOf_13 : decode cX5_groupOf 13 = .ok (.getfield 56, 3) := by decide +kernel
theorem dX5_groupOf_16 : decode cX5_groupOf 16 = .ok (.iload_n 1, 1) := by decide +kernel
theorem dX5_groupOf_17 : decode cX5_groupOf 17 = .ok (.iaload, 1) := by decide +kernel
theorem dX5_groupOf_18 : decode cX5_groupOf 18 = .ok (.iadd, 1) := by decide +kernel
theorem dX5_groupOf_19 : decode cX5_groupOf 19 = .ok (.iaload, 1) := by decide +kernel
theorem dX5_groupOf_20 : decode cX5_groupOf 20 = .ok (.iaload, 1) := by decide +kernel
theorem dX5_groupOf_21 : decode cX5_groupOf 21 = .ok (.ireturn, 1) := by decide +kernel
theorem dX5_choose_0 : decode cX5_choose 0 = .ok (.aload_n 0, 1) := by decide +kernel
theorem dX5_choose_1 : decode cX5_choose 1 = .ok (.getfield 86, 3) := by decide +kernel
theorem dX5_choose_4 : decode cX5_choose 4 = .ok (.iload_n 1, 1) := by decide +kernel
theorem dX5_choose_5 : decode cX5_choose 5 = .ok (.iaload, 1) := by decide +kernel
theorem dX5_choose_6 : decode cX5_choose 6 = .ok (.iconst 1, 1) := by decide +kernel
theorem dX5_choose_7 : decode cX5_choose 7 = .ok (.if_icmp .le 4, 3) := by decide +kernel
theorem dX5_choose_10 : decode cX5_choose 10 = .ok (.return_, 1) := by decide +kernel
theorem dX5_choose_11 : decode cX5_choose 11 = .ok (.aload_n 0, 1) := by decide +kernel
theorem dX5_choose_12 : decode cX5_choose 12 = .ok (.getfield 83, 3) := by decide +kernel
theorem dX5_choose_15 : decode cX5_choose 15 = .ok (.iload_n 1, 1) := by decide +kernel
theorem dX5_choose_16 : decode cX5_choose 16 = .ok (.iconst (-1), 1) := by decide +kernel
theorem dX5_choose_17 : decode cX5_choose 17 = .ok (.iastore, 1) := by decide +kernel
theorem dX5_choose_18 : decode cX5_choose 18 = .ok (.iconst 0, 1) := by decide +kernel
theorem dX5_choose_19 : decode cX5_choose 19 = .ok (.istore_n 2, 1) := by decide +kernel
theorem dX5_choose_20 : decode cX5_choose 20 = .ok (.iload_n 2, 1) := by decide +kernel
theorem dX5_choose_21 : decode cX5_choose 21 = .ok (.bipush 16, 2) := by decide +kernel
theorem dX5_choose_23 : decode cX5_choose 23 = .ok (.if_icmp .ge 64, 3) := by decide +kernel
theorem dX5_choose_26 : decode cX5_choose 26 = .ok (.aload_n 0, 1) := by decide +kernel
theorem dX5_choose_27 : decode cX5_choose 27 = .ok (.getfield 43, 3) := by decide +kernel
theorem dX5_choose_30 : decode cX5_choose 30 = .ok (.iload_n 2, 1) := by decide +kernel
theorem dX5_choose_31 : decode cX5_choose 31 = .ok (.baload, 1) := by decide +kernel
theorem dX5_choose_32 : decode cX5_choose 32 = .ok (.ifCond .eq 49, 3) := by decide +kernel
theorem dX5_choose_35 : decode cX5_choose 35 = .ok (.aload_n 0, 1) := by decide +kernel
theorem dX5_choose_36 : decode cX5_choose 36 = .ok (.getfield 7, 3) := by decide +kernel
theorem dX5_choose_39 : decode cX5_choose 39 = .ok (.iload_n 2, 1) := by decide +kernel
theorem dX5_choose_40 : decode cX5_choose 40 = .ok (.iaload, 1) := by decide +kernel
theorem dX5_choose_41 : decode cX5_choose 41 = .ok (.iload_n 1, 1) := by decide +kernel
theorem dX5_choose_42 : decode cX5_choose 42 = .ok (.if_icmp .ne 39, 3) := by decide +kernel
theorem dX5_choose_45 : decode cX5_choose 45 = .ok (.aload_n 0, 1) := by decide +kernel
theorem dX5_choose_46 : decode cX5_choose 46 = .ok (.getfield 83, 3) := by decide +kernel
theorem dX5_choose_49 : decode cX5_choose 49 = .ok (.iload_n 1, 1) := by decide +kernel
theorem dX5_choose_50 : decode cX5_choose 50 = .ok (.iaload, 1) := by decide +kernel
theorem dX5_choose_51 : decode cX5_choose 51 = .ok (.ifCond .lt 23, 3) := by decide +kernel
theorem dX5_choose_54 : decode cX5_choose 54 = .ok (.aload_n 0, 1) := by decide +kernel
theorem dX5_choose_55 : decode cX5_choose 55 = .ok (.getfield 13, 3) := by decide +kernel
theorem dX5_choose_58 : decode cX5_choose 58 = .ok (.iload_n 2, 1) := by decide +kernel
theorem dX5_choose_59 : decode cX5_choose 59 = .ok (.iaload, 1) := by decide +kernel
theorem dX5_choose_60 : decode cX5_choose 60 = .ok (.aload_n 0, 1) := by decide +kernel
theorem dX5_choose_61 : decode cX5_choose 61 = .ok (.getfield 13, 3) := by decide +kernel
theorem dX5_choose_64 : decode cX5_choose 64 = .ok (.aload_n 0, 1) := by decide +kernel
theorem dX5_choose_65 : decode cX5_choose 65 = .ok (.getfield 83, 3) := by decide +kernel
theorem dX5_choose_68 : decode cX5_choose 68 = .ok (.iload_n 1, 1) := by decide +kernel
theorem dX5_choose_69 : decode cX5_choose 69 = .ok (.iaload, 1) := by decide +kernel
theorem dX5_choose_70 : decode cX5_choose 70 = .ok (.iaload, 1) := by decide +kernel
theorem dX5_choose_71 : decode cX5_choose 71 = .ok (.if_icmp .le 10, 3) := by decide +kernel
theorem dX5_choose_74 : decode cX5_choose 74 = .ok (.aload_n 0, 1) := by decide +kernel
theorem dX5_choose_75 : decode cX5_choose 75 = .ok (.getfield 83, 3) := by decide +kernel
theorem dX5_choose_78 : decode cX5_choose 78 = .ok (.iload_n 1, 1) := by decide +kernel
theorem dX5_choose_79 : decode cX5_choose 79 = .ok (.iload_n 2, 1) := by decide +kernel
theorem dX5_choose_80 : decode cX5_choose 80 = .ok (.iastore, 1) := by decide +kernel
theorem dX5_choose_81 : decode cX5_choose 81 = .ok (.iinc 2 1, 3) := by decide +kernel
theorem dX5_choose_84 : decode cX5_choose 84 = .ok (.goto (-64), 3) := by decide +kernel
theorem dX5_choose_87 : decode cX5_choose 87 = .ok (.aload_n 0, 1) := by decide +kernel
theorem dX5_choose_88 : decode cX5_choose 88 = .ok (.getfield 86, 3) := by decide +kernel
theorem dX5_choose_91 : decode cX5_choose 91 = .ok (.iload_n 1, 1) := by decide +kernel
theorem dX5_choose_92 : decode cX5_choose 92 = .ok (.aload_n 0, 1) := by decide +kernel
theorem dX5_choose_93 : decode cX5_choose 93 = .ok (.getfield 83, 3) := by decide +kernel
theorem dX5_choose_96 : decode cX5_choose 96 = .ok (.iload_n 1, 1) := by decide +kernel
theorem dX5_choose_97 : decode cX5_choose 97 = .ok (.iaload, 1) := by decide +kernel
theorem dX5_choose_98 : decode cX5_choose 98 = .ok (.ifCond .ge 7, 3) := by decide +kernel
theorem dX5_choose_101 : decode cX5_choose 101 = .ok (.iconst 0, 1) := by decide +kernel
theorem dX5_choose_102 : decode cX5_choose 102 = .ok (.goto 4, 3) := by decide +kernel
theorem dX5_choose_105 : decode cX5_choose 105 = .ok (.iconst 1, 1) := by decide +kernel
theorem dX5_choose_106 : decode cX5_choose 106 = .ok (.iastore, 1) := by decide +kernel
theorem dX5_choose_107 : decode cX5_choose 107 = .ok (.aload_n 0, 1) := by decide +kernel
theorem dX5_choose_108 : decode cX5_choose 108 = .ok (.getfield 83, 3) := by decide +kernel
theorem dX5_choose_111 : decode cX5_choose 111 = .ok (.iload_n 1, 1) := by decide +kernel
theorem dX5_choose_112 : decode cX5_choose 112 = .ok (.iaload, 1) := by decide +kernel
theorem dX5_choose_113 : decode cX5_choose 113 = .ok (.istore_n 2, 1) := by decide +kernel
theorem dX5_choose_114 : decode cX5_choose 114 = .ok (.iload_n 2, 1) := by decide +kernel
theorem dX5_choose_115 : decode cX5_choose 115 = .ok (.ifCond .lt 111, 3) := by decide +kernel
theorem dX5_choose_118 : decode cX5_choose 118 = .ok (.aload_n 0, 1) := by decide +kernel
theorem dX5_choose_119 : decode cX5_choose 119 = .ok (.getfield 56, 3) := by decide +kernel
theorem dX5_choose_122 : decode cX5_choose 122 = .ok (.iload_n 2, 1) := by decide +kernel
theorem dX5_choose_123 : decode cX5_choose 123 = .ok (.iaload, 1) := by decide +kernel
theorem dX5_choose_124 : decode cX5_choose 124 = .ok (.aload_n 0, 1) := by decide +kernel
theorem dX5_choose_125 : decode cX5_choose 125 = .ok (.getfield 25, 3) := by decide +kernel
theorem dX5_choose_128 : decode cX5_choose 128 = .ok (.iload_n 2, 1) := by decide +kernel
theorem dX5_choose_129 : decode cX5_choose 129 = .ok (.iaload, 1) := by decide +kernel
theorem dX5_choose_130 : decode cX5_choose 130 = .ok (.if_icmp .ge 96, 3) := by decide +kernel
theorem dX5_choose_133 : decode cX5_choose 133 = .ok (.aload_n 0, 1) := by decide +kernel
theorem dX5_choose_134 : decode cX5_choose 134 = .ok (.getfield 53, 3) := by decide +kernel
theorem dX5_choose_137 : decode cX5_choose 137 = .ok (.iload_n 2, 1) := by decide +kernel
theorem dX5_choose_138 : decode cX5_choose 138 = .ok (.iaload, 1) := by decide +kernel
theorem dX5_choose_139 : decode cX5_choose 139 = .ok (.aload_n 0, 1) := by decide +kernel
theorem dX5_choose_140 : decode cX5_choose 140 = .ok (.getfield 28, 3) := by decide +kernel
theorem dX5_choose_143 : decode cX5_choose 143 = .ok (.bipush 6, 2) := by decide +kernel
theorem dX5_choose_145 : decode cX5_choose 145 = .ok (.iload_n 2, 1) := by decide +kernel
theorem dX5_choose_146 : decode cX5_choose 146 = .ok (.imul, 1) := by decide +kernel
theorem dX5_choose_147 : decode cX5_choose 147 = .ok (.aload_n 0, 1) := by decide +kernel
theorem dX5_choose_148 : decode cX5_choose 148 = .ok (.getfield 56, 3) := by decide +kernel
theorem dX5_choose_151 : decode cX5_choose 151 = .ok (.iload_n 2, 1) := by decide +kernel
theorem dX5_choose_152 : decode cX5_choose 152 = .ok (.iaload, 1) := by decide +kernel
theorem dX5_choose_153 : decode cX5_choose 153 = .ok (.iadd, 1) := by decide +kernel
theorem dX5_choose_154 : decode cX5_choose 154 = .ok (.iaload, 1) := by decide +kernel
theorem dX5_choose_155 : decode cX5_choose 155 = .ok (.if_icmp .ne 71, 3) := by decide +kernel
theorem dX5_choose_158 : decode cX5_choose 158 = .ok (.aload_n 0, 1) := by decide +kernel
theorem dX5_choose_159 : decode cX5_choose 159 = .ok (.iload_n 2, 1) := by decide +kernel
theorem dX5_choose_160 : decode cX5_choose 160 = .ok (.invokevirtual 172, 3) := by decide +kernel
theorem dX5_choose_163 : decode cX5_choose 163 = .ok (.istore_n 3, 1) := by decide +kernel
theorem dX5_choose_164 : decode cX5_choose 164 = .ok (.aload_n 0, 1) := by decide +kernel
theorem dX5_choose_165 : decode cX5_choose 165 = .ok (.getfield 95, 3) := by decide +kernel
theorem dX5_choose_168 : decode cX5_choose 168 = .ok (.iconst 4, 1) := by decide +kernel
theorem dX5_choose_169 : decode cX5_choose 169 = .ok (.iload_n 3, 1) := by decide +kernel
theorem dX5_choose_170 : decode cX5_choose 170 = .ok (.imul, 1) := by decide +kernel
theorem dX5_choose_171 : decode cX5_choose 171 = .ok (.aload_n 0, 1) := by decide +kernel
theorem dX5_choose_172 : decode cX5_choose 172 = .ok (.getfield 98, 3) := by decide +kernel
theorem dX5_choose_175 : decode cX5_choose 175 = .ok (.iload_n 3, 1) := by decide +kernel
theorem dX5_choose_176 : decode cX5_choose 176 = .ok (.iaload, 1) := by decide +kernel
theorem dX5_choose_177 : decode cX5_choose 177 = .ok (.iadd, 1) := by decide +kernel
theorem dX5_choose_178 : decode cX5_choose 178 = .ok (.iload_n 1, 1) := by decide +kernel
theorem dX5_choose_179 : decode cX5_choose 179 = .ok (.iastore, 1) := by decide +kernel
theorem dX5_choose_180 : decode cX5_choose 180 = .ok (.aload_n 0, 1) := by decide +kernel
theorem dX5_choose_181 : decode cX5_choose 181 = .ok (.getfield 98, 3) := by decide +kernel
theorem dX5_choose_184 : decode cX5_choose 184 = .ok (.iload_n 3, 1) := by decide +kernel
theorem dX5_choose_185 : decode cX5_choose 185 = .ok (.dup2, 1) := by decide +kernel
theorem dX5_choose_186 : decode cX5_choose 186 = .ok (.iaload, 1) := by decide +kernel
theorem dX5_choose_187 : decode cX5_choose 187 = .ok (.iconst 1, 1) := by decide +kernel
theorem dX5_choose_188 : decode cX5_choose 188 = .ok (.iadd, 1) := by decide +kernel
theorem dX5_choose_189 : decode cX5_choose 189 = .ok (.iastore, 1) := by decide +kernel
theorem dX5_choose_190 : decode cX5_choose 190 = .ok (.aload_n 0, 1) := by decide +kernel
theorem dX5_choose_191 : decode cX5_choose 191 = .ok (.getfield 86, 3) := by decide +kernel
theorem dX5_choose_194 : decode cX5_choose 194 = .ok (.iload_n 1, 1) := by decide +kernel
theorem dX5_choose_195 : decode cX5_choose 195 = .ok (.iconst 2, 1) := by decide +kernel
theorem dX5_choose_196 : decode cX5_choose 196 = .ok (.iastore, 1) := by decide +kernel
theorem dX5_choose_197 : decode cX5_choose 197 = .ok (.aload_n 0, 1) := by decide +kernel
theorem dX5_choose_198 : decode cX5_choose 198 = .ok (.getfield 62, 3) := by decide +kernel
theorem dX5_choose_201 : decode cX5_choose 201 = .ok (.iload_n 2, 1) := by decide +kernel
theorem dX5_choose_202 : decode cX5_choose 202 = .ok (.iconst 0, 1) := by decide +kernel
theorem dX5_choose_203 : decode cX5_choose 203 = .ok (.iastore, 1) := by decide +kernel
theorem dX5_choose_204 : decode cX5_choose 204 = .ok (.aload_n 0, 1) := by decide +kernel
theorem dX5_choose_205 : decode cX5_choose 205 = .ok (.getfield 59, 3) := by decide +kernel
theorem dX5_choose_208 : decode cX5_choose 208 = .ok (.iload_n 2, 1) := by decide +kernel
theorem dX5_choose_209 : decode cX5_choose 209 = .ok (.aload_n 0, 1) := by decide +kernel
theorem dX5_choose_210 : decode cX5_choose 210 = .ok (.getfield 65, 3) := by decide +kernel
theorem dX5_choose_213 : decode cX5_choose 213 = .ok (.bipush 6, 2) := by decide +kernel
theorem dX5_choose_215 : decode cX5_choose 215 = .ok (.iload_n 2, 1) := by decide +kernel
theorem dX5_choose_216 : decode cX5_choose 216 = .ok (.imul, 1) := by decide +kernel
theorem dX5_choose_217 : decode cX5_choose 217 = .ok (.aload_n 0, 1) := by decide +kernel
theorem dX5_choose_218 : decode cX5_choose 218 = .ok (.getfield 56, 3) := by decide +kernel
theorem dX5_choose_221 : decode cX5_choose 221 = .ok (.iload_n 2, 1) := by decide +kernel
theorem dX5_choose_222 : decode cX5_choose 222 = .ok (.iaload, 1) := by decide +kernel
theorem dX5_choose_223 : decode cX5_choose 223 = .ok (.iadd, 1) := by decide +kernel
theorem dX5_choose_224 : decode cX5_choose 224 = .ok (.iaload, 1) := by decide +kernel
theorem dX5_choose_225 : decode cX5_choose 225 = .ok (.iastore, 1) := by decide +kernel
theorem dX5_choose_226 : decode cX5_choose 226 = .ok (.return_, 1) := by decide +kernel
theorem dX5_goOn_0 : decode cX5_goOn 0 = .ok (.aload_n 0, 1) := by decide +kernel
theorem dX5_goOn_1 : decode cX5_goOn 1 = .ok (.getfield 83, 3) := by decide +kernel
theorem dX5_goOn_4 : decode cX5_goOn 4 = .ok (.iload_n 1, 1) := by decide +kernel
theorem dX5_goOn_5 : decode cX5_goOn 5 = .ok (.iaload, 1) := by decide +kernel
theorem dX5_goOn_6 : decode cX5_goOn 6 = .ok (.istore_n 2, 1) := by decide +kernel
theorem dX5_goOn_7 : decode cX5_goOn 7 = .ok (.aload_n 0, 1) := by decide +kernel
theorem dX5_goOn_8 : decode cX5_goOn 8 = .ok (.getfield 89, 3) := by decide +kernel
theorem dX5_goOn_11 : decode cX5_goOn 11 = .ok (.iload_n 1, 1) := by decide +kernel
theorem dX5_goOn_12 : decode cX5_goOn 12 = .ok (.iload_n 2, 1) := by decide +kernel
theorem dX5_goOn_13 : decode cX5_goOn 13 = .ok (.iastore, 1) := by decide +kernel
theorem dX5_goOn_14 : decode cX5_goOn 14 = .ok (.aload_n 0, 1) := by decide +kernel
theorem dX5_goOn_15 : decode cX5_goOn 15 = .ok (.getfield 92, 3) := by decide +kernel
theorem dX5_goOn_18 : decode cX5_goOn 18 = .ok (.iload_n 1, 1) := by decide +kernel
theorem dX5_goOn_19 : decode cX5_goOn 19 = .ok (.aload_n 0, 1) := by decide +kernel
theorem dX5_goOn_20 : decode cX5_goOn 20 = .ok (.getfield 86, 3) := by decide +kernel
theorem dX5_goOn_23 : decode cX5_goOn 23 = .ok (.iload_n 1, 1) := by decide +kernel
theorem dX5_goOn_24 : decode cX5_goOn 24 = .ok (.iaload, 1) := by decide +kernel
theorem dX5_goOn_25 : decode cX5_goOn 25 = .ok (.iastore, 1) := by decide +kernel
theorem dX5_goOn_26 : decode cX5_goOn 26 = .ok (.iload_n 2, 1) := by decide +kernel
theorem dX5_goOn_27 : decode cX5_goOn 27 = .ok (.ifCond .ge 5, 3) := by decide +kernel
theorem dX5_goOn_30 : decode cX5_goOn 30 = .ok (.iconst 0, 1) := by decide +kernel
theorem dX5_goOn_31 : decode cX5_goOn 31 = .ok (.ireturn, 1) := by decide +kernel
theorem dX5_goOn_32 : decode cX5_goOn 32 = .ok (.aload_n 0, 1) := by decide +kernel
theorem dX5_goOn_33 : decode cX5_goOn 33 = .ok (.getfield 86, 3) := by decide +kernel
theorem dX5_goOn_36 : decode cX5_goOn 36 = .ok (.iload_n 1, 1) := by decide +kernel
theorem dX5_goOn_37 : decode cX5_goOn 37 = .ok (.iaload, 1) := by decide +kernel
theorem dX5_goOn_38 : decode cX5_goOn 38 = .ok (.iconst 1, 1) := by decide +kernel
theorem dX5_goOn_39 : decode cX5_goOn 39 = .ok (.if_icmp .ne 16, 3) := by decide +kernel
theorem dX5_goOn_42 : decode cX5_goOn 42 = .ok (.aload_n 0, 1) := by decide +kernel
theorem dX5_goOn_43 : decode cX5_goOn 43 = .ok (.getfield 53, 3) := by decide +kernel
theorem dX5_goOn_46 : decode cX5_goOn 46 = .ok (.iload_n 2, 1) := by decide +kernel
theorem dX5_goOn_47 : decode cX5_goOn 47 = .ok (.dup2, 1) := by decide +kernel
theorem dX5_goOn_48 : decode cX5_goOn 48 = .ok (.iaload, 1) := by decide +kernel
theorem dX5_goOn_49 : decode cX5_goOn 49 = .ok (.iconst 1, 1) := by decide +kernel
theorem dX5_goOn_50 : decode cX5_goOn 50 = .ok (.iadd, 1) := by decide +kernel
theorem dX5_goOn_51 : decode cX5_goOn 51 = .ok (.iastore, 1) := by decide +kernel
theorem dX5_goOn_52 : decode cX5_goOn 52 = .ok (.goto 108, 3) := by decide +kernel
theorem dX5_goOn_55 : decode cX5_goOn 55 = .ok (.aload_n 0, 1) := by decide +kernel
theorem dX5_goOn_56 : decode cX5_goOn 56 = .ok (.getfield 86, 3) := by decide +kernel
theorem dX5_goOn_59 : decode cX5_goOn 59 = .ok (.iload_n 1, 1) := by decide +kernel
theorem dX5_goOn_60 : decode cX5_goOn 60 = .ok (.iaload, 1) := by decide +kernel
theorem dX5_goOn_61 : decode cX5_goOn 61 = .ok (.iconst 2, 1) := by decide +kernel
theorem dX5_goOn_62 : decode cX5_goOn 62 = .ok (.if_icmp .ne 64, 3) := by decide +kernel
theorem dX5_goOn_65 : decode cX5_goOn 65 = .ok (.aload_n 0, 1) := by decide +kernel
theorem dX5_goOn_66 : decode cX5_goOn 66 = .ok (.getfield 62, 3) := by decide +kernel
theorem dX5_goOn_69 : decode cX5_goOn 69 = .ok (.iload_n 2, 1) := by decide +kernel
theorem dX5_goOn_70 : decode cX5_goOn 70 = .ok (.dup2, 1) := by decide +kernel
theorem dX5_goOn_71 : decode cX5_goOn 71 = .ok (.iaload, 1) := by decide +kernel
theorem dX5_goOn_72 : decode cX5_goOn 72 = .ok (.iconst 1, 1) := by decide +kernel
theorem dX5_goOn_73 : decode cX5_goOn 73 = .ok (.iadd, 1) := by decide +kernel
theorem dX5_goOn_74 : decode cX5_goOn 74 = .ok (.iastore, 1) := by decide +kernel
theorem dX5_goOn_75 : decode cX5_goOn 75 = .ok (.bipush 6, 2) := by decide +kernel
theorem dX5_goOn_77 : decode cX5_goOn 77 = .ok (.iload_n 2, 1) := by decide +kernel
theorem dX5_goOn_78 : decode cX5_goOn 78 = .ok (.imul, 1) := by decide +kernel
theorem dX5_goOn_79 : decode cX5_goOn 79 = .ok (.aload_n 0, 1) := by decide +kernel
theorem dX5_goOn_80 : decode cX5_goOn 80 = .ok (.getfield 56, 3) := by decide +kernel
theorem dX5_goOn_83 : decode cX5_goOn 83 = .ok (.iload_n 2, 1) := by decide +kernel
theorem dX5_goOn_84 : decode cX5_goOn 84 = .ok (.iaload, 1) := by decide +kernel
theorem dX5_goOn_85 : decode cX5_goOn 85 = .ok (.iadd, 1) := by decide +kernel
theorem dX5_goOn_86 : decode cX5_goOn 86 = .ok (.istore_n 3, 1) := by decide +kernel
theorem dX5_goOn_87 : decode cX5_goOn 87 = .ok (.aload_n 0, 1) := by decide +kernel
theorem dX5_goOn_88 : decode cX5_goOn 88 = .ok (.getfield 80, 3) := by decide +kernel
theorem dX5_goOn_91 : decode cX5_goOn 91 = .ok (.iload_n 3, 1) := by decide +kernel
theorem dX5_goOn_92 : decode cX5_goOn 92 = .ok (.aload_n 0, 1) := by decide +kernel
theorem dX5_goOn_93 : decode cX5_goOn 93 = .ok (.getfield 62, 3) := by decide +kernel
theorem dX5_goOn_96 : decode cX5_goOn 96 = .ok (.iload_n 2, 1) := by decide +kernel
theorem dX5_goOn_97 : decode cX5_goOn 97 = .ok (.iaload, 1) := by decide +kernel
theorem dX5_goOn_98 : decode cX5_goOn 98 = .ok (.aload_n 0, 1) := by decide +kernel
theorem dX5_goOn_99 : decode cX5_goOn 99 = .ok (.getfield 80, 3) := by decide +kernel
theorem dX5_goOn_102 : decode cX5_goOn 102 = .ok (.iload_n 3, 1) := by decide +kernel
theorem dX5_goOn_103 : decode cX5_goOn 103 = .ok (.iaload, 1) := by decide +kernel
theorem dX5_goOn_104 : decode cX5_goOn 104 = .ok (.if_icmp .le 12, 3) := by decide +kernel
theorem dX5_goOn_107 : decode cX5_goOn 107 = .ok (.aload_n 0, 1) := by decide +kernel
theorem dX5_goOn_108 : decode cX5_goOn 108 = .ok (.getfield 62, 3) := by decide +kernel
theorem dX5_goOn_111 : decode cX5_goOn 111 = .ok (.iload_n 2, 1) := by decide +kernel
theorem dX5_goOn_112 : decode cX5_goOn 112 = .ok (.iaload, 1) := by decide +kernel
theorem dX5_goOn_113 : decode cX5_goOn 113 = .ok (.goto 9, 3) := by decide +kernel
theorem dX5_goOn_116 : decode cX5_goOn 116 = .ok (.aload_n 0, 1) := by decide +kernel
theorem dX5_goOn_117 : decode cX5_goOn 117 = .ok (.getfield 80, 3) := by decide +kernel
theorem dX5_goOn_120 : decode cX5_goOn 120 = .ok (.iload_n 3, 1) := by decide +kernel
theorem dX5_goOn_121 : decode cX5_goOn 121 = .ok (.iaload, 1) := by decide +kernel
theorem dX5_goOn_122 : decode cX5_goOn 122 = .ok (.iastore, 1) := by decide +kernel
theorem dX5_goOn_123 : decode cX5_goOn 123 = .ok (.goto 37, 3) := by decide +kernel
theorem dX5_goOn_126 : decode cX5_goOn 126 = .ok (.aload_n 0, 1) := by decide +kernel
theorem dX5_goOn_127 : decode cX5_goOn 127 = .ok (.getfield 59, 3) := by decide +kernel
theorem dX5_goOn_130 : decode cX5_goOn 130 = .ok (.iload_n 2, 1) := by decide +kernel
theorem dX5_goOn_131 : decode cX5_goOn 131 = .ok (.dup2, 1) := by decide +kernel
theorem dX5_goOn_132 : decode cX5_goOn 132 = .ok (.iaload, 1) := by decide +kernel
theorem dX5_goOn_133 : decode cX5_goOn 133 = .ok (.iconst 1, 1) := by decide +kernel
theorem dX5_goOn_134 : decode cX5_goOn 134 = .ok (.isub, 1) := by decide +kernel
theorem dX5_goOn_135 : decode cX5_goOn 135 = .ok (.iastore, 1) := by decide +kernel
theorem dX5_goOn_136 : decode cX5_goOn 136 = .ok (.aload_n 0, 1) := by decide +kernel
theorem dX5_goOn_137 : decode cX5_goOn 137 = .ok (.getfield 59, 3) := by decide +kernel
theorem dX5_goOn_140 : decode cX5_goOn 140 = .ok (.iload_n 2, 1) := by decide +kernel
theorem dX5_goOn_141 : decode cX5_goOn 141 = .ok (.iaload, 1) := by decide +kernel
theorem dX5_goOn_142 : decode cX5_goOn 142 = .ok (.ifCond .ne 18, 3) := by decide +kernel
theorem dX5_goOn_145 : decode cX5_goOn 145 = .ok (.aload_n 0, 1) := by decide +kernel
theorem dX5_goOn_146 : decode cX5_goOn 146 = .ok (.iload_n 1, 1) := by decide +kernel
theorem dX5_goOn_147 : decode cX5_goOn 147 = .ok (.aload_n 0, 1) := by decide +kernel
theorem dX5_goOn_148 : decode cX5_goOn 148 = .ok (.iload_n 2, 1) := by decide +kernel
theorem dX5_goOn_149 : decode cX5_goOn 149 = .ok (.invokevirtual 172, 3) := by decide +kernel
theorem dX5_goOn_152 : decode cX5_goOn 152 = .ok (.invokevirtual 175, 3) := by decide +kernel
theorem dX5_goOn_155 : decode cX5_goOn 155 = .ok (.aload_n 0, 1) := by decide +kernel
theorem dX5_goOn_156 : decode cX5_goOn 156 = .ok (.iload_n 2, 1) := by decide +kernel
theorem dX5_goOn_157 : decode cX5_goOn 157 = .ok (.invokevirtual 168, 3) := by decide +kernel
theorem dX5_goOn_160 : decode cX5_goOn 160 = .ok (.aload_n 0, 1) := by decide +kernel
theorem dX5_goOn_161 : decode cX5_goOn 161 = .ok (.getfield 86, 3) := by decide +kernel
theorem dX5_goOn_164 : decode cX5_goOn 164 = .ok (.iload_n 1, 1) := by decide +kernel
theorem dX5_goOn_165 : decode cX5_goOn 165 = .ok (.iaload, 1) := by decide +kernel
theorem dX5_goOn_166 : decode cX5_goOn 166 = .ok (.iconst 1, 1) := by decide +kernel
theorem dX5_goOn_167 : decode cX5_goOn 167 = .ok (.if_icmp .gt 33, 3) := by decide +kernel
theorem dX5_goOn_170 : decode cX5_goOn 170 = .ok (.aload_n 0, 1) := by decide +kernel
theorem dX5_goOn_171 : decode cX5_goOn 171 = .ok (.getfield 53, 3) := by decide +kernel
theorem dX5_goOn_174 : decode cX5_goOn 174 = .ok (.iload_n 2, 1) := by decide +kernel
theorem dX5_goOn_175 : decode cX5_goOn 175 = .ok (.iaload, 1) := by decide +kernel
theorem dX5_goOn_176 : decode cX5_goOn 176 = .ok (.aload_n 0, 1) := by decide +kernel
theorem dX5_goOn_177 : decode cX5_goOn 177 = .ok (.getfield 22, 3) := by decide +kernel
theorem dX5_goOn_180 : decode cX5_goOn 180 = .ok (.iload_n 2, 1) := by decide +kernel
theorem dX5_goOn_181 : decode cX5_goOn 181 = .ok (.iaload, 1) := by decide +kernel
theorem dX5_goOn_182 : decode cX5_goOn 182 = .ok (.if_icmp .lt 18, 3) := by decide +kernel
theorem dX5_goOn_185 : decode cX5_goOn 185 = .ok (.aload_n 0, 1) := by decide +kernel
theorem dX5_goOn_186 : decode cX5_goOn 186 = .ok (.getfield 56, 3) := by decide +kernel
theorem dX5_goOn_189 : decode cX5_goOn 189 = .ok (.iload_n 2, 1) := by decide +kernel
theorem dX5_goOn_190 : decode cX5_goOn 190 = .ok (.iaload, 1) := by decide +kernel
theorem dX5_goOn_191 : decode cX5_goOn 191 = .ok (.aload_n 0, 1) := by decide +kernel
theorem dX5_goOn_192 : decode cX5_goOn 192 = .ok (.getfield 25, 3) := by decide +kernel
theorem dX5_goOn_195 : decode cX5_goOn 195 = .ok (.iload_n 2, 1) := by decide +kernel
theorem dX5_goOn_196 : decode cX5_goOn 196 = .ok (.iaload, 1) := by decide +kernel
theorem dX5_goOn_197 : decode cX5_goOn 197 = .ok (.if_icmp .ge 5, 3) := by decide +kernel
theorem dX5_goOn_200 : decode cX5_goOn 200 = .ok (.iconst 0, 1) := by decide +kernel
theorem dX5_goOn_201 : decode cX5_goOn 201 = .ok (.ireturn, 1) := by decide +kernel
theorem dX5_goOn_202 : decode cX5_goOn 202 = .ok (.aload_n 0, 1) := by decide +kernel
theorem dX5_goOn_203 : decode cX5_goOn 203 = .ok (.iload_n 2, 1) := by decide +kernel
theorem dX5_goOn_204 : decode cX5_goOn 204 = .ok (.invokevirtual 179, 3) := by decide +kernel
theorem dX5_goOn_207 : decode cX5_goOn 207 = .ok (.iconst 1, 1) := by decide +kernel
theorem dX5_goOn_208 : decode cX5_goOn 208 = .ok (.ireturn, 1) := by decide +kernel
theorem dX5_leave_0 : decode cX5_leave 0 = .ok (.iconst 1, 1) := by decide +kernel
theorem dX5_leave_1 : decode cX5_leave 1 = .ok (.istore_n 3, 1) := by decide +kernel
theorem dX5_leave_2 : decode cX5_leave 2 = .ok (.iload_n 3, 1) := by decide +kernel
theorem dX5_leave_3 : decode cX5_leave 3 = .ok (.aload_n 0, 1) := by decide +kernel
theorem dX5_leave_4 : decode cX5_leave 4 = .ok (.getfield 98, 3) := by decide +kernel
theorem dX5_leave_7 : decode cX5_leave 7 = .ok (.iload_n 2, 1) := by decide +kernel
theorem dX5_leave_8 : decode cX5_leave 8 = .ok (.iaload, 1) := by decide +kernel
theorem dX5_leave_9 : decode cX5_leave 9 = .ok (.if_icmp .ge 31, 3) := by decide +kernel
theorem dX5_leave_12 : decode cX5_leave 12 = .ok (.aload_n 0, 1) := by decide +kernel
theorem dX5_leave_13 : decode cX5_leave 13 = .ok (.getfield 95, 3) := by decide +kernel
theorem dX5_leave_16 : decode cX5_leave 16 = .ok (.iconst 4, 1) := by decide +kernel
theorem dX5_leave_17 : decode cX5_leave 17 = .ok (.iload_n 2, 1) := by decide +kernel
theorem dX5_leave_18 : decode cX5_leave 18 = .ok (.imul, 1) := by decide +kernel
theorem dX5_leave_19 : decode cX5_leave 19 = .ok (.iload_n 3, 1) := by decide +kernel
theorem dX5_leave_20 : decode cX5_leave 20 = .ok (.iadd, 1) := by decide +kernel
theorem dX5_leave_21 : decode cX5_leave 21 = .ok (.iconst 1, 1) := by decide +kernel
theorem dX5_leave_22 : decode cX5_leave 22 = .ok (.isub, 1) := by decide +kernel
theorem dX5_leave_23 : decode cX5_leave 23 = .ok (.aload_n 0, 1) := by decide +kernel
theorem dX5_leave_24 : decode cX5_leave 24 = .ok (.getfield 95, 3) := by decide +kernel
theorem dX5_leave_27 : decode cX5_leave 27 = .ok (.iconst 4, 1) := by decide +kernel
theorem dX5_leave_28 : decode cX5_leave 28 = .ok (.iload_n 2, 1) := by decide +kernel
theorem dX5_leave_29 : decode cX5_leave 29 = .ok (.imul, 1) := by decide +kernel
theorem dX5_leave_30 : decode cX5_leave 30 = .ok (.iload_n 3, 1) := by decide +kernel
theorem dX5_leave_31 : decode cX5_leave 31 = .ok (.iadd, 1) := by decide +kernel
theorem dX5_leave_32 : decode cX5_leave 32 = .ok (.iaload, 1) := by decide +kernel
theorem dX5_leave_33 : decode cX5_leave 33 = .ok (.iastore, 1) := by decide +kernel
theorem dX5_leave_34 : decode cX5_leave 34 = .ok (.iinc 3 1, 3) := by decide +kernel
theorem dX5_leave_37 : decode cX5_leave 37 = .ok (.goto (-35), 3) := by decide +kernel
theorem dX5_leave_40 : decode cX5_leave 40 = .ok (.aload_n 0, 1) := by decide +kernel
theorem dX5_leave_41 : decode cX5_leave 41 = .ok (.getfield 98, 3) := by decide +kernel
theorem dX5_leave_44 : decode cX5_leave 44 = .ok (.iload_n 2, 1) := by decide +kernel
theorem dX5_leave_45 : decode cX5_leave 45 = .ok (.dup2, 1) := by decide +kernel
theorem dX5_leave_46 : decode cX5_leave 46 = .ok (.iaload, 1) := by decide +kernel
theorem dX5_leave_47 : decode cX5_leave 47 = .ok (.iconst 1, 1) := by decide +kernel
theorem dX5_leave_48 : decode cX5_leave 48 = .ok (.isub, 1) := by decide +kernel
theorem dX5_leave_49 : decode cX5_leave 49 = .ok (.iastore, 1) := by decide +kernel
theorem dX5_leave_50 : decode cX5_leave 50 = .ok (.aload_n 0, 1) := by decide +kernel
theorem dX5_leave_51 : decode cX5_leave 51 = .ok (.getfield 86, 3) := by decide +kernel
theorem dX5_leave_54 : decode cX5_leave 54 = .ok (.iload_n 1, 1) := by decide +kernel
theorem dX5_leave_55 : decode cX5_leave 55 = .ok (.iconst 1, 1) := by decide +kernel
theorem dX5_leave_56 : decode cX5_leave 56 = .ok (.iastore, 1) := by decide +kernel
theorem dX5_leave_57 : decode cX5_leave 57 = .ok (.return_, 1) := by decide +kernel
theorem dX5_end_0 : decode cX5_end 0 = .ok (.aload_n 0, 1) := by decide +kernel
theorem dX5_end_1 : decode cX5_end 1 = .ok (.getfield 43, 3) := by decide +kernel
theorem dX5_end_4 : decode cX5_end 4 = .ok (.iload_n 1, 1) := by decide +kernel
theorem dX5_end_5 : decode cX5_end 5 = .ok (.iconst 0, 1) := by decide +kernel
theorem dX5_end_6 : decode cX5_end 6 = .ok (.bastore, 1) := by decide +kernel
theorem dX5_end_7 : decode cX5_end 7 = .ok (.aload_n 0, 1) := by decide +kernel
theorem dX5_end_8 : decode cX5_end 8 = .ok (.getfield 71, 3) := by decide +kernel
theorem dX5_end_11 : decode cX5_end 11 = .ok (.iload_n 1, 1) := by decide +kernel
theorem dX5_end_12 : decode cX5_end 12 = .ok (.dup2, 1) := by decide +kernel
theorem dX5_end_13 : decode cX5_end 13 = .ok (.iaload, 1) := by decide +kernel
theorem dX5_end_14 : decode cX5_end 14 = .ok (.iconst 1, 1) := by decide +kernel
theorem dX5_end_15 : decode cX5_end 15 = .ok (.iadd, 1) := by decide +kernel
theorem dX5_end_16 : decode cX5_end 16 = .ok (.iastore, 1) := by decide +kernel
theorem dX5_end_17 : decode cX5_end 17 = .ok (.aload_n 0, 1) := by decide +kernel
theorem dX5_end_18 : decode cX5_end 18 = .ok (.getfield 77, 3) := by decide +kernel
theorem dX5_end_21 : decode cX5_end 21 = .ok (.iload_n 1, 1) := by decide +kernel
theorem dX5_end_22 : decode cX5_end 22 = .ok (.aload_n 0, 1) := by decide +kernel
theorem dX5_end_23 : decode cX5_end 23 = .ok (.getfield 158, 3) := by decide +kernel
theorem dX5_end_26 : decode cX5_end 26 = .ok (.iconst 1, 1) := by decide +kernel
theorem dX5_end_27 : decode cX5_end 27 = .ok (.iadd, 1) := by decide +kernel
theorem dX5_end_28 : decode cX5_end 28 = .ok (.aload_n 0, 1) := by decide +kernel
theorem dX5_end_29 : decode cX5_end 29 = .ok (.getfield 50, 3) := by decide +kernel
theorem dX5_end_32 : decode cX5_end 32 = .ok (.iload_n 1, 1) := by decide +kernel
theorem dX5_end_33 : decode cX5_end 33 = .ok (.iaload, 1) := by decide +kernel
theorem dX5_end_34 : decode cX5_end 34 = .ok (.isub, 1) := by decide +kernel
theorem dX5_end_35 : decode cX5_end 35 = .ok (.iastore, 1) := by decide +kernel
theorem dX5_end_36 : decode cX5_end 36 = .ok (.aload_n 0, 1) := by decide +kernel
theorem dX5_end_37 : decode cX5_end 37 = .ok (.getfield 74, 3) := by decide +kernel
theorem dX5_end_40 : decode cX5_end 40 = .ok (.iload_n 1, 1) := by decide +kernel
theorem dX5_end_41 : decode cX5_end 41 = .ok (.aload_n 0, 1) := by decide +kernel
theorem dX5_end_42 : decode cX5_end 42 = .ok (.getfield 77, 3) := by decide +kernel
theorem dX5_end_45 : decode cX5_end 45 = .ok (.iload_n 1, 1) := by decide +kernel
theorem dX5_end_46 : decode cX5_end 46 = .ok (.iaload, 1) := by decide +kernel
theorem dX5_end_47 : decode cX5_end 47 = .ok (.aload_n 0, 1) := by decide +kernel
theorem dX5_end_48 : decode cX5_end 48 = .ok (.getfield 74, 3) := by decide +kernel
theorem dX5_end_51 : decode cX5_end 51 = .ok (.iload_n 1, 1) := by decide +kernel
theorem dX5_end_52 : decode cX5_end 52 = .ok (.iaload, 1) := by decide +kernel
theorem dX5_end_53 : decode cX5_end 53 = .ok (.if_icmp .le 12, 3) := by decide +kernel
theorem dX5_end_56 : decode cX5_end 56 = .ok (.aload_n 0, 1) := by decide +kernel
theorem dX5_end_57 : decode cX5_end 57 = .ok (.getfield 77, 3) := by decide +kernel
theorem dX5_end_60 : decode cX5_end 60 = .ok (.iload_n 1, 1) := by decide +kernel
theorem dX5_end_61 : decode cX5_end 61 = .ok (.iaload, 1) := by decide +kernel
theorem dX5_end_62 : decode cX5_end 62 = .ok (.goto 9, 3) := by decide +kernel
theorem dX5_end_65 : decode cX5_end 65 = .ok (.aload_n 0, 1) := by decide +kernel
theorem dX5_end_66 : decode cX5_end 66 = .ok (.getfield 74, 3) := by decide +kernel
theorem dX5_end_69 : decode cX5_end 69 = .ok (.iload_n 1, 1) := by decide +kernel
theorem dX5_end_70 : decode cX5_end 70 = .ok (.iaload, 1) := by decide +kernel
theorem dX5_end_71 : decode cX5_end 71 = .ok (.iastore, 1) := by decide +kernel
theorem dX5_end_72 : decode cX5_end 72 = .ok (.aload_n 0, 1) := by decide +kernel
theorem dX5_end_73 : decode cX5_end 73 = .ok (.aload_n 0, 1) := by decide +kernel
theorem dX5_end_74 : decode cX5_end 74 = .ok (.getfield 77, 3) := by decide +kernel
theorem dX5_end_77 : decode cX5_end 77 = .ok (.iload_n 1, 1) := by decide +kernel
theorem dX5_end_78 : decode cX5_end 78 = .ok (.iaload, 1) := by decide +kernel
theorem dX5_end_79 : decode cX5_end 79 = .ok (.aload_n 0, 1) := by decide +kernel
theorem dX5_end_80 : decode cX5_end 80 = .ok (.getfield 19, 3) := by decide +kernel
theorem dX5_end_83 : decode cX5_end 83 = .ok (.iload_n 1, 1) := by decide +kernel
theorem dX5_end_84 : decode cX5_end 84 = .ok (.iaload, 1) := by decide +kernel
theorem dX5_end_85 : decode cX5_end 85 = .ok (.if_icmp .le 12, 3) := by decide +kernel
theorem dX5_end_88 : decode cX5_end 88 = .ok (.aload_n 0, 1) := by decide +kernel
theorem dX5_end_89 : decode cX5_end 89 = .ok (.getfield 161, 3) := by decide +kernel
theorem dX5_end_92 : decode cX5_end 92 = .ok (.iconst 1, 1) := by decide +kernel
theorem dX5_end_93 : decode cX5_end 93 = .ok (.iadd, 1) := by decide +kernel
theorem dX5_end_94 : decode cX5_end 94 = .ok (.goto 7, 3) := by decide +kernel
theorem dX5_end_97 : decode cX5_end 97 = .ok (.aload_n 0, 1) := by decide +kernel
theorem dX5_end_98 : decode cX5_end 98 = .ok (.getfield 161, 3) := by decide +kernel
theorem dX5_end_101 : decode cX5_end 101 = .ok (.putfield 161, 3) := by decide +kernel
theorem dX5_end_104 : decode cX5_end 104 = .ok (.return_, 1) := by decide +kernel
theorem dX5_tick_0 : decode cX5_tick 0 = .ok (.aload_n 0, 1) := by decide +kernel
theorem dX5_tick_1 : decode cX5_tick 1 = .ok (.aload_n 0, 1) := by decide +kernel
theorem dX5_tick_2 : decode cX5_tick 2 = .ok (.getfield 116, 3) := by decide +kernel
theorem dX5_tick_5 : decode cX5_tick 5 = .ok (.ifCond .ne 7, 3) := by decide +kernel
theorem dX5_tick_8 : decode cX5_tick 8 = .ok (.iconst 1, 1) := by decide +kernel
theorem dX5_tick_9 : decode cX5_tick 9 = .ok (.goto 4, 3) := by decide +kernel
theorem dX5_tick_12 : decode cX5_tick 12 = .ok (.iconst 0, 1) := by decide +kernel
theorem dX5_tick_13 : decode cX5_tick 13 = .ok (.iload_n 1, 1) := by decide +kernel
theorem dX5_tick_14 : decode cX5_tick 14 = .ok (.iconst 1, 1) := by decide +kernel
theorem dX5_tick_15 : decode cX5_tick 15 = .ok (.ldc 182, 2) := by decide +kernel
theorem dX5_tick_17 : decode cX5_tick 17 = .ok (.invokestatic 112, 3) := by decide +kernel
theorem dX5_tick_20 : decode cX5_tick 20 = .ok (.ifCond .ne 7, 3) := by decide +kernel
theorem dX5_tick_23 : decode cX5_tick 23 = .ok (.iconst 1, 1) := by decide +kernel
theorem dX5_tick_24 : decode cX5_tick 24 = .ok (.goto 4, 3) := by decide +kernel
theorem dX5_tick_27 : decode cX5_tick 27 = .ok (.iconst 0, 1) := by decide +kernel
theorem dX5_tick_28 : decode cX5_tick 28 = .ok (.iconst 0, 1) := by decide +kernel
theorem dX5_tick_29 : decode cX5_tick 29 = .ok (.invokevirtual 124, 3) := by decide +kernel
theorem dX5_tick_32 : decode cX5_tick 32 = .ok (.ifCond .eq 5, 3) := by decide +kernel
theorem dX5_tick_35 : decode cX5_tick 35 = .ok (.iconst 0, 1) := by decide +kernel
theorem dX5_tick_36 : decode cX5_tick 36 = .ok (.ireturn, 1) := by decide +kernel
theorem dX5_tick_37 : decode cX5_tick 37 = .ok (.iconst 0, 1) := by decide +kernel
theorem dX5_tick_38 : decode cX5_tick 38 = .ok (.istore_n 2, 1) := by decide +kernel
theorem dX5_tick_39 : decode cX5_tick 39 = .ok (.iconst 0, 1) := by decide +kernel
theorem dX5_tick_40 : decode cX5_tick 40 = .ok (.istore_n 3, 1) := by decide +kernel
theorem dX5_tick_41 : decode cX5_tick 41 = .ok (.iload_n 3, 1) := by decide +kernel
theorem dX5_tick_42 : decode cX5_tick 42 = .ok (.iload_n 1, 1) := by decide +kernel
theorem dX5_tick_43 : decode cX5_tick 43 = .ok (.if_icmp .ge 194, 3) := by decide +kernel
theorem dX5_tick_46 : decode cX5_tick 46 = .ok (.iconst 0, 1) := by decide +kernel
theorem dX5_tick_47 : decode cX5_tick 47 = .ok (.istore 4, 2) := by decide +kernel
theorem dX5_tick_49 : decode cX5_tick 49 = .ok (.iload 4, 2) := by decide +kernel
theorem dX5_tick_51 : decode cX5_tick 51 = .ok (.iconst 4, 1) := by decide +kernel
theorem dX5_tick_52 : decode cX5_tick 52 = .ok (.if_icmp .ge 15, 3) := by decide +kernel
theorem dX5_tick_55 : decode cX5_tick 55 = .ok (.aload_n 0, 1) := by decide +kernel
theorem dX5_tick_56 : decode cX5_tick 56 = .ok (.iload 4, 2) := by decide +kernel
theorem dX5_tick_58 : decode cX5_tick 58 = .ok (.invokevirtual 183, 3) := by decide +kernel
theorem dX5_tick_61 : decode cX5_tick 61 = .ok (.iinc 4 1, 3) := by decide +kernel
theorem dX5_tick_64 : decode cX5_tick 64 = .ok (.goto (-15), 3) := by decide +kernel
theorem dX5_tick_67 : decode cX5_tick 67 = .ok (.iconst 0, 1) := by decide +kernel
theorem dX5_tick_68 : decode cX5_tick 68 = .ok (.istore 4, 2) := by decide +kernel
theorem dX5_tick_70 : decode cX5_tick 70 = .ok (.iload 4, 2) := by decide +kernel
theorem dX5_tick_72 : decode cX5_tick 72 = .ok (.bipush 8, 2) := by decide +kernel
theorem dX5_tick_74 : decode cX5_tick 74 = .ok (.if_icmp .ge 34, 3) := by decide +kernel
theorem dX5_tick_77 : decode cX5_tick 77 = .ok (.aload_n 0, 1) := by decide +kernel
theorem dX5_tick_78 : decode cX5_tick 78 = .ok (.getfield 98, 3) := by decide +kernel
theorem dX5_tick_81 : decode cX5_tick 81 = .ok (.iload 4, 2) := by decide +kernel
theorem dX5_tick_83 : decode cX5_tick 83 = .ok (.iaload, 1) := by decide +kernel
theorem dX5_tick_84 : decode cX5_tick 84 = .ok (.ifCond .le 18, 3) := by decide +kernel
theorem dX5_tick_87 : decode cX5_tick 87 = .ok (.aload_n 0, 1) := by decide +kernel
theorem dX5_tick_88 : decode cX5_tick 88 = .ok (.getfield 86, 3) := by decide +kernel
theorem dX5_tick_91 : decode cX5_tick 91 = .ok (.aload_n 0, 1) := by decide +kernel
theorem dX5_tick_92 : decode cX5_tick 92 = .ok (.getfield 95, 3) := by decide +kernel
theorem dX5_tick_95 : decode cX5_tick 95 = .ok (.iconst 4, 1) := by decide +kernel
theorem dX5_tick_96 : decode cX5_tick 96 = .ok (.iload 4, 2) := by decide +kernel
theorem dX5_tick_98 : decode cX5_tick 98 = .ok (.imul, 1) := by decide +kernel
theorem dX5_tick_99 : decode cX5_tick 99 = .ok (.iaload, 1) := by decide +kernel
theorem dX5_tick_100 : decode cX5_tick 100 = .ok (.iconst 3, 1) := by decide +kernel
theorem dX5_tick_101 : decode cX5_tick 101 = .ok (.iastore, 1) := by decide +kernel
theorem dX5_tick_102 : decode cX5_tick 102 = .ok (.iinc 4 1, 3) := by decide +kernel
theorem dX5_tick_105 : decode cX5_tick 105 = .ok (.goto (-35), 3) := by decide +kernel
theorem dX5_tick_108 : decode cX5_tick 108 = .ok (.iconst 0, 1) := by decide +kernel
theorem dX5_tick_109 : decode cX5_tick 109 = .ok (.istore 4, 2) := by decide +kernel
theorem dX5_tick_111 : decode cX5_tick 111 = .ok (.iload 4, 2) := by decide +kernel
theorem dX5_tick_113 : decode cX5_tick 113 = .ok (.iconst 4, 1) := by decide +kernel
theorem dX5_tick_114 : decode cX5_tick 114 = .ok (.if_icmp .ge 18, 3) := by decide +kernel
theorem dX5_tick_117 : decode cX5_tick 117 = .ok (.iload_n 2, 1) := by decide +kernel
theorem dX5_tick_118 : decode cX5_tick 118 = .ok (.aload_n 0, 1) := by decide +kernel
theorem dX5_tick_119 : decode cX5_tick 119 = .ok (.iload 4, 2) := by decide +kernel
theorem dX5_tick_121 : decode cX5_tick 121 = .ok (.invokevirtual 186, 3) := by decide +kernel
theorem dX5_tick_124 : decode cX5_tick 124 = .ok (.iadd, 1) := by decide +kernel
theorem dX5_tick_125 : decode cX5_tick 125 = .ok (.istore_n 2, 1) := by decide +kernel
theorem dX5_tick_126 : decode cX5_tick 126 = .ok (.iinc 4 1, 3) := by decide +kernel
theorem dX5_tick_129 : decode cX5_tick 129 = .ok (.goto (-18), 3) := by decide +kernel
theorem dX5_tick_132 : decode cX5_tick 132 = .ok (.aload_n 0, 1) := by decide +kernel
theorem dX5_tick_133 : decode cX5_tick 133 = .ok (.dup, 1) := by decide +kernel
theorem dX5_tick_134 : decode cX5_tick 134 = .ok (.getfield 158, 3) := by decide +kernel
theorem dX5_tick_137 : decode cX5_tick 137 = .ok (.iconst 1, 1) := by decide +kernel
theorem dX5_tick_138 : decode cX5_tick 138 = .ok (.iadd, 1) := by decide +kernel
theorem dX5_tick_139 : decode cX5_tick 139 = .ok (.putfield 158, 3) := by decide +kernel
theorem dX5_tick_142 : decode cX5_tick 142 = .ok (.aload_n 0, 1) := by decide +kernel
theorem dX5_tick_143 : decode cX5_tick 143 = .ok (.invokevirtual 164, 3) := by decide +kernel
theorem dX5_tick_146 : decode cX5_tick 146 = .ok (.ifCond .ne 85, 3) := by decide +kernel
theorem dX5_tick_149 : decode cX5_tick 149 = .ok (.iload_n 3, 1) := by decide +kernel
theorem dX5_tick_150 : decode cX5_tick 150 = .ok (.iconst 1, 1) := by decide +kernel
theorem dX5_tick_151 : decode cX5_tick 151 = .ok (.iadd, 1) := by decide +kernel
theorem dX5_tick_152 : decode cX5_tick 152 = .ok (.iload_n 1, 1) := by decide +kernel
theorem dX5_tick_153 : decode cX5_tick 153 = .ok (.if_icmp .ge 7, 3) := by decide +kernel
theorem dX5_tick_156 : decode cX5_tick 156 = .ok (.iconst 1, 1) := by decide +kernel
theorem dX5_tick_157 : decode cX5_tick 157 = .ok (.goto 4, 3) := by decide +kernel
theorem dX5_tick_160 : decode cX5_tick 160 = .ok (.iconst 0, 1) := by decide +kernel
theorem dX5_tick_161 : decode cX5_tick 161 = .ok (.istore 4, 2) := by decide +kernel
theorem dX5_tick_163 : decode cX5_tick 163 = .ok (.iconst 0, 1) := by decide +kernel
theorem dX5_tick_164 : decode cX5_tick 164 = .ok (.istore 5, 2) := by decide +kernel
theorem dX5_tick_166 : decode cX5_tick 166 = .ok (.iload 5, 2) := by decide +kernel
theorem dX5_tick_168 : decode cX5_tick 168 = .ok (.iconst 4, 1) := by decide +kernel
theorem dX5_tick_169 : decode cX5_tick 169 = .ok (.if_icmp .ge 46, 3) := by decide +kernel
theorem dX5_tick_172 : decode cX5_tick 172 = .ok (.iload 4, 2) := by decide +kernel
theorem dX5_tick_174 : decode cX5_tick 174 = .ok (.ifCond .eq 41, 3) := by decide +kernel
theorem dX5_tick_177 : decode cX5_tick 177 = .ok (.aload_n 0, 1) := by decide +kernel
theorem dX5_tick_178 : decode cX5_tick 178 = .ok (.getfield 89, 3) := by decide +kernel
theorem dX5_tick_181 : decode cX5_tick 181 = .ok (.iload 5, 2) := by decide +kernel
theorem dX5_tick_183 : decode cX5_tick 183 = .ok (.iconst (-1), 1) := by decide +kernel
theorem dX5_tick_184 : decode cX5_tick 184 = .ok (.iastore, 1) := by decide +kernel
theorem dX5_tick_185 : decode cX5_tick 185 = .ok (.aload_n 0, 1) := by decide +kernel
theorem dX5_tick_186 : decode cX5_tick 186 = .ok (.getfield 92, 3) := by decide +kernel
theorem dX5_tick_189 : decode cX5_tick 189 = .ok (.iload 5, 2) := by decide +kernel
theorem dX5_tick_191 : decode cX5_tick 191 = .ok (.iconst 0, 1) := by decide +kernel
theorem dX5_tick_192 : decode cX5_tick 192 = .ok (.iastore, 1) := by decide +kernel
theorem dX5_tick_193 : decode cX5_tick 193 = .ok (.aload_n 0, 1) := by decide +kernel
theorem dX5_tick_194 : decode cX5_tick 194 = .ok (.getfield 83, 3) := by decide +kernel
theorem dX5_tick_197 : decode cX5_tick 197 = .ok (.iload 5, 2) := by decide +kernel
theorem dX5_tick_199 : decode cX5_tick 199 = .ok (.iconst (-1), 1) := by decide +kernel
theorem dX5_tick_200 : decode cX5_tick 200 = .ok (.iastore, 1) := by decide +kernel
theorem dX5_tick_201 : decode cX5_tick 201 = .ok (.aload_n 0, 1) := by decide +kernel
theorem dX5_tick_202 : decode cX5_tick 202 = .ok (.getfield 86, 3) := by decide +kernel
theorem dX5_tick_205 : decode cX5_tick 205 = .ok (.iload 5, 2) := by decide +kernel
theorem dX5_tick_207 : decode cX5_tick 207 = .ok (.iconst 0, 1) := by decide +kernel
theorem dX5_tick_208 : decode cX5_tick 208 = .ok (.iastore, 1) := by decide +kernel
theorem dX5_tick_209 : decode cX5_tick 209 = .ok (.iinc 5 1, 3) := by decide +kernel
theorem dX5_tick_212 : decode cX5_tick 212 = .ok (.goto (-46), 3) := by decide +kernel
theorem dX5_tick_215 : decode cX5_tick 215 = .ok (.aload_n 0, 1) := by decide +kernel
theorem dX5_tick_216 : decode cX5_tick 216 = .ok (.aload_n 0, 1) := by decide +kernel
theorem dX5_tick_217 : decode cX5_tick 217 = .ok (.getfield 158, 3) := by decide +kernel
theorem dX5_tick_220 : decode cX5_tick 220 = .ok (.iload_n 1, 1) := by decide +kernel
theorem dX5_tick_221 : decode cX5_tick 221 = .ok (.iadd, 1) := by decide +kernel
theorem dX5_tick_222 : decode cX5_tick 222 = .ok (.iload_n 3, 1) := by decide +kernel
theorem dX5_tick_223 : decode cX5_tick 223 = .ok (.isub, 1) := by decide +kernel
theorem dX5_tick_224 : decode cX5_tick 224 = .ok (.iconst 1, 1) := by decide +kernel
theorem dX5_tick_225 : decode cX5_tick 225 = .ok (.isub, 1) := by decide +kernel
theorem dX5_tick_226 : decode cX5_tick 226 = .ok (.putfield 158, 3) := by decide +kernel
theorem dX5_tick_229 : decode cX5_tick 229 = .ok (.iload_n 1, 1) := by decide +kernel
theorem dX5_tick_230 : decode cX5_tick 230 = .ok (.istore_n 3, 1) := by decide +kernel
theorem dX5_tick_231 : decode cX5_tick 231 = .ok (.iinc 3 1, 3) := by decide +kernel
theorem dX5_tick_234 : decode cX5_tick 234 = .ok (.goto (-193), 3) := by decide +kernel
theorem dX5_tick_237 : decode cX5_tick 237 = .ok (.iload_n 2, 1) := by decide +kernel
theorem dX5_tick_238 : decode cX5_tick 238 = .ok (.ireturn, 1) := by decide +kernel
theorem dX5_core_0 : decode cX5_core 0 = .ok (.aload_n 0, 1) := by decide +kernel
theorem dX5_core_1 : decode cX5_core 1 = .ok (.iload_n 1, 1) := by decide +kernel
theorem dX5_core_2 : decode cX5_core 2 = .ok (.iconst 0, 1) := by decide +kernel
theorem dX5_core_3 : decode cX5_core 3 = .ok (.iconst 3, 1) := by decide +kernel
theorem dX5_core_4 : decode cX5_core 4 = .ok (.invokestatic 112, 3) := by decide +kernel
theorem dX5_core_7 : decode cX5_core 7 = .ok (.ifCond .ne 7, 3) := by decide +kernel
theorem dX5_core_10 : decode cX5_core 10 = .ok (.iconst 1, 1) := by decide +kernel
theorem dX5_core_11 : decode cX5_core 11 = .ok (.goto 4, 3) := by decide +kernel
theorem dX5_core_14 : decode cX5_core 14 = .ok (.iconst 0, 1) := by decide +kernel
theorem dX5_core_15 : decode cX5_core 15 = .ok (.iload_n 2, 1) := by decide +kernel
theorem dX5_core_16 : decode cX5_core 16 = .ok (.iconst 0, 1) := by decide +kernel
theorem dX5_core_17 : decode cX5_core 17 = .ok (.iconst 1, 1) := by decide +kernel
theorem dX5_core_18 : decode cX5_core 18 = .ok (.invokestatic 112, 3) := by decide +kernel
theorem dX5_core_21 : decode cX5_core 21 = .ok (.ifCond .ne 7, 3) := by decide +kernel
theorem dX5_core_24 : decode cX5_core 24 = .ok (.iconst 1, 1) := by decide +kernel
theorem dX5_core_25 : decode cX5_core 25 = .ok (.goto 4, 3) := by decide +kernel
theorem dX5_core_28 : decode cX5_core 28 = .ok (.iconst 0, 1) := by decide +kernel
theorem dX5_core_29 : decode cX5_core 29 = .ok (.iconst 0, 1) := by decide +kernel
theorem dX5_core_30 : decode cX5_core 30 = .ok (.invokevirtual 124, 3) := by decide +kernel
theorem dX5_core_33 : decode cX5_core 33 = .ok (.ifCond .eq 7, 3) := by decide +kernel
theorem dX5_core_36 : decode cX5_core 36 = .ok (.iconst 0, 1) := by decide +kernel
theorem dX5_core_37 : decode cX5_core 37 = .ok (.goto 22, 3) := by decide +kernel
theorem dX5_core_40 : decode cX5_core 40 = .ok (.iload_n 2, 1) := by decide +kernel
theorem dX5_core_41 : decode cX5_core 41 = .ok (.ifCond .ne 12, 3) := by decide +kernel
theorem dX5_core_44 : decode cX5_core 44 = .ok (.aload_n 0, 1) := by decide +kernel
theorem dX5_core_45 : decode cX5_core 45 = .ok (.getfield 89, 3) := by decide +kernel
theorem dX5_core_48 : decode cX5_core 48 = .ok (.iload_n 1, 1) := by decide +kernel
theorem dX5_core_49 : decode cX5_core 49 = .ok (.iaload, 1) := by decide +kernel
theorem dX5_core_50 : decode cX5_core 50 = .ok (.goto 9, 3) := by decide +kernel
theorem dX5_core_53 : decode cX5_core 53 = .ok (.aload_n 0, 1) := by decide +kernel
theorem dX5_core_54 : decode cX5_core 54 = .ok (.getfield 92, 3) := by decide +kernel
theorem dX5_core_57 : decode cX5_core 57 = .ok (.iload_n 1, 1) := by decide +kernel
theorem dX5_core_58 : decode cX5_core 58 = .ok (.iaload, 1) := by decide +kernel
theorem dX5_core_59 : decode cX5_core 59 = .ok (.ireturn, 1) := by decide +kernel
theorem dX5_row_0 : decode cX5_row 0 = .ok (.aload_n 0, 1) := by decide +kernel
theorem dX5_row_1 : decode cX5_row 1 = .ok (.iload_n 1, 1) := by decide +kernel
theorem dX5_row_2 : decode cX5_row 2 = .ok (.iconst 0, 1) := by decide +kernel
theorem dX5_row_3 : decode cX5_row 3 = .ok (.bipush 7, 2) := by decide +kernel
theorem dX5_row_5 : decode cX5_row 5 = .ok (.invokestatic 112, 3) := by decide +kernel
theorem dX5_row_8 : decode cX5_row 8 = .ok (.ifCond .ne 7, 3) := by decide +kernel
theorem dX5_row_11 : decode cX5_row 11 = .ok (.iconst 1, 1) := by decide +kernel
theorem dX5_row_12 : decode cX5_row 12 = .ok (.goto 4, 3) := by decide +kernel
theorem dX5_row_15 : decode cX5_row 15 = .ok (.iconst 0, 1) := by decide +kernel
theorem dX5_row_16 : decode cX5_row 16 = .ok (.iconst 0, 1) := by decide +kernel
theorem dX5_row_17 : decode cX5_row 17 = .ok (.iconst 0, 1) := by decide +kernel
theorem dX5_row_18 : decode cX5_row 18 = .ok (.invokevirtual 124, 3) := by decide +kernel
theorem dX5_row_21 : decode cX5_row 21 = .ok (.ifCond .eq 5, 3) := by decide +kernel
theorem dX5_row_24 : decode cX5_row 24 = .ok (.iconst 0, 1) := by decide +kernel
theorem dX5_row_25 : decode cX5_row 25 = .ok (.ireturn, 1) := by decide +kernel
theorem dX5_row_26 : decode cX5_row 26 = .ok (.aload_n 0, 1) := by decide +kernel
theorem dX5_row_27 : decode cX5_row 27 = .ok (.invokevirtual 139, 3) := by decide +kernel
theorem dX5_row_30 : decode cX5_row 30 = .ok (.aload_n 0, 1) := by decide +kernel
theorem dX5_row_31 : decode cX5_row 31 = .ok (.getfield 40, 3) := by decide +kernel
theorem dX5_row_34 : decode cX5_row 34 = .ok (.iload_n 1, 1) := by decide +kernel
theorem dX5_row_35 : decode cX5_row 35 = .ok (.iaload, 1) := by decide +kernel
theorem dX5_row_36 : decode cX5_row 36 = .ok (.istore_n 3, 1) := by decide +kernel
theorem dX5_row_37 : decode cX5_row 37 = .ok (.iload_n 2, 1) := by decide +kernel
theorem dX5_row_38 : decode cX5_row 38 = .ok (.iconst 0, 1) := by decide +kernel
theorem dX5_row_39 : decode cX5_row 39 = .ok (.aload_n 0, 1) := by decide +kernel
theorem dX5_row_40 : decode cX5_row 40 = .ok (.getfield 98, 3) := by decide +kernel
theorem dX5_row_43 : decode cX5_row 43 = .ok (.iload_n 3, 1) := by decide +kernel
theorem dX5_row_44 : decode cX5_row 44 = .ok (.iaload, 1) := by decide +kernel
theorem dX5_row_45 : decode cX5_row 45 = .ok (.iconst 1, 1) := by decide +kernel
theorem dX5_row_46 : decode cX5_row 46 = .ok (.isub, 1) := by decide +kernel
theorem dX5_row_47 : decode cX5_row 47 = .ok (.invokestatic 112, 3) := by decide +kernel
theorem dX5_row_50 : decode cX5_row 50 = .ok (.ifCond .eq 16, 3) := by decide +kernel
theorem dX5_row_53 : decode cX5_row 53 = .ok (.aload_n 0, 1) := by decide +kernel
theorem dX5_row_54 : decode cX5_row 54 = .ok (.getfield 95, 3) := by decide +kernel
theorem dX5_row_57 : decode cX5_row 57 = .ok (.iconst 4, 1) := by decide +kernel
theorem dX5_row_58 : decode cX5_row 58 = .ok (.iload_n 3, 1) := by decide +kernel
theorem dX5_row_59 : decode cX5_row 59 = .ok (.imul, 1) := by decide +kernel
theorem dX5_row_60 : decode cX5_row 60 = .ok (.iload_n 2, 1) := by decide +kernel
theorem dX5_row_61 : decode cX5_row 61 = .ok (.iadd, 1) := by decide +kernel
theorem dX5_row_62 : decode cX5_row 62 = .ok (.iaload, 1) := by decide +kernel
theorem dX5_row_63 : decode cX5_row 63 = .ok (.goto 4, 3) := by decide +kernel
theorem dX5_row_66 : decode cX5_row 66 = .ok (.iconst (-1), 1) := by decide +kernel
theorem dX5_row_67 : decode cX5_row 67 = .ok (.ireturn, 1) := by decide +kernel
theorem dX5_jobs_0 : decode cX5_jobs 0 = .ok (.aload_n 0, 1) := by decide +kernel
theorem dX5_jobs_1 : decode cX5_jobs 1 = .ok (.aload_n 0, 1) := by decide +kernel
theorem dX5_jobs_2 : decode cX5_jobs 2 = .ok (.iload_n 1, 1) := by decide +kernel
theorem dX5_jobs_3 : decode cX5_jobs 3 = .ok (.invokevirtual 108, 3) := by decide +kernel
theorem dX5_jobs_6 : decode cX5_jobs 6 = .ok (.ifCond .ne 7, 3) := by decide +kernel
theorem dX5_jobs_9 : decode cX5_jobs 9 = .ok (.iconst 1, 1) := by decide +kernel
theorem dX5_jobs_10 : decode cX5_jobs 10 = .ok (.goto 4, 3) := by decide +kernel
theorem dX5_jobs_13 : decode cX5_jobs 13 = .ok (.iconst 0, 1) := by decide +kernel
theorem dX5_jobs_14 : decode cX5_jobs 14 = .ok (.iload_n 2, 1) := by decide +kernel
theorem dX5_jobs_15 : decode cX5_jobs 15 = .ok (.iconst 0, 1) := by decide +kernel
theorem dX5_jobs_16 : decode cX5_jobs 16 = .ok (.iconst 3, 1) := by decide +kernel
theorem dX5_jobs_17 : decode cX5_jobs 17 = .ok (.invokestatic 112, 3) := by decide +kernel
theorem dX5_jobs_20 : decode cX5_jobs 20 = .ok (.ifCond .ne 7, 3) := by decide +kernel
theorem dX5_jobs_23 : decode cX5_jobs 23 = .ok (.iconst 1, 1) := by decide +kernel
theorem dX5_jobs_24 : decode cX5_jobs 24 = .ok (.goto 4, 3) := by decide +kernel
theorem dX5_jobs_27 : decode cX5_jobs 27 = .ok (.iconst 0, 1) := by decide +kernel
theorem dX5_jobs_28 : decode cX5_jobs 28 = .ok (.iconst 0, 1) := by decide +kernel
theorem dX5_jobs_29 : decode cX5_jobs 29 = .ok (.invokevirtual 124, 3) := by decide +kernel
