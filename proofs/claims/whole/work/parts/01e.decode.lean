theorem dX5_init_117 : decode cX5_init 117 = .ok (.bipush 16, 2) := by decide +kernel
theorem dX5_init_119 : decode cX5_init 119 = .ok (.newarray .int, 2) := by decide +kernel
theorem dX5_init_121 : decode cX5_init 121 = .ok (.putfield 53, 3) := by decide +kernel
theorem dX5_init_124 : decode cX5_init 124 = .ok (.aload_n 0, 1) := by decide +kernel
theorem dX5_init_125 : decode cX5_init 125 = .ok (.bipush 16, 2) := by decide +kernel
theorem dX5_init_127 : decode cX5_init 127 = .ok (.newarray .int, 2) := by decide +kernel
theorem dX5_init_129 : decode cX5_init 129 = .ok (.putfield 56, 3) := by decide +kernel
theorem dX5_init_132 : decode cX5_init 132 = .ok (.aload_n 0, 1) := by decide +kernel
theorem dX5_init_133 : decode cX5_init 133 = .ok (.bipush 16, 2) := by decide +kernel
theorem dX5_init_135 : decode cX5_init 135 = .ok (.newarray .int, 2) := by decide +kernel
theorem dX5_init_137 : decode cX5_init 137 = .ok (.putfield 59, 3) := by decide +kernel
theorem dX5_init_140 : decode cX5_init 140 = .ok (.aload_n 0, 1) := by decide +kernel
theorem dX5_init_141 : decode cX5_init 141 = .ok (.bipush 16, 2) := by decide +kernel
theorem dX5_init_143 : decode cX5_init 143 = .ok (.newarray .int, 2) := by decide +kernel
theorem dX5_init_145 : decode cX5_init 145 = .ok (.putfield 62, 3) := by decide +kernel
theorem dX5_init_148 : decode cX5_init 148 = .ok (.aload_n 0, 1) := by decide +kernel
theorem dX5_init_149 : decode cX5_init 149 = .ok (.bipush 96, 2) := by decide +kernel
theorem dX5_init_151 : decode cX5_init 151 = .ok (.newarray .int, 2) := by decide +kernel
theorem dX5_init_153 : decode cX5_init 153 = .ok (.putfield 65, 3) := by decide +kernel
theorem dX5_init_156 : decode cX5_init 156 = .ok (.aload_n 0, 1) := by decide +kernel
theorem dX5_init_157 : decode cX5_init 157 = .ok (.bipush 96, 2) := by decide +kernel
theorem dX5_init_159 : decode cX5_init 159 = .ok (.newarray .int, 2) := by decide +kernel
theorem dX5_init_161 : decode cX5_init 161 = .ok (.putfield 68, 3) := by decide +kernel
theorem dX5_init_164 : decode cX5_init 164 = .ok (.aload_n 0, 1) := by decide +kernel
theorem dX5_init_165 : decode cX5_init 165 = .ok (.bipush 16, 2) := by decide +kernel
theorem dX5_init_167 : decode cX5_init 167 = .ok (.newarray .int, 2) := by decide +kernel
theorem dX5_init_169 : decode cX5_init 169 = .ok (.putfield 71, 3) := by decide +kernel
theorem dX5_init_172 : decode cX5_init 172 = .ok (.aload_n 0, 1) := by decide +kernel
theorem dX5_init_173 : decode cX5_init 173 = .ok (.bipush 16, 2) := by decide +kernel
theorem dX5_init_175 : decode cX5_init 175 = .ok (.newarray .int, 2) := by decide +kernel
theorem dX5_init_177 : decode cX5_init 177 = .ok (.putfield 74, 3) := by decide +kernel
theorem dX5_init_180 : decode cX5_init 180 = .ok (.aload_n 0, 1) := by decide +kernel
theorem dX5_init_181 : decode cX5_init 181 = .ok (.bipush 16, 2) := by decide +kernel
theorem dX5_init_183 : decode cX5_init 183 = .ok (.newarray .int, 2) := by decide +kernel
theorem dX5_init_185 : decode cX5_init 185 = .ok (.putfield 77, 3) := by decide +kernel
theorem dX5_init_188 : decode cX5_init 188 = .ok (.aload_n 0, 1) := by decide +kernel
theorem dX5_init_189 : decode cX5_init 189 = .ok (.bipush 96, 2) := by decide +kernel
theorem dX5_init_191 : decode cX5_init 191 = .ok (.newarray .int, 2) := by decide +kernel
theorem dX5_init_193 : decode cX5_init 193 = .ok (.putfield 80, 3) := by decide +kernel
theorem dX5_init_196 : decode cX5_init 196 = .ok (.aload_n 0, 1) := by decide +kernel
theorem dX5_init_197 : decode cX5_init 197 = .ok (.iconst 4, 1) := by decide +kernel
theorem dX5_init_198 : decode cX5_init 198 = .ok (.newarray .int, 2) := by decide +kernel
theorem dX5_init_200 : decode cX5_init 200 = .ok (.putfield 83, 3) := by decide +kernel
theorem dX5_init_203 : decode cX5_init 203 = .ok (.aload_n 0, 1) := by decide +kernel
theorem dX5_init_204 : decode cX5_init 204 = .ok (.iconst 4, 1) := by decide +kernel
theorem dX5_init_205 : decode cX5_init 205 = .ok (.newarray .int, 2) := by decide +kernel
theorem dX5_init_207 : decode cX5_init 207 = .ok (.putfield 86, 3) := by decide +kernel
theorem dX5_init_210 : decode cX5_init 210 = .ok (.aload_n 0, 1) := by decide +kernel
theorem dX5_init_211 : decode cX5_init 211 = .ok (.iconst 4, 1) := by decide +kernel
theorem dX5_init_212 : decode cX5_init 212 = .ok (.newarray .int, 2) := by decide +kernel
theorem dX5_init_214 : decode cX5_init 214 = .ok (.putfield 89, 3) := by decide +kernel
theorem dX5_init_217 : decode cX5_init 217 = .ok (.aload_n 0, 1) := by decide +kernel
theorem dX5_init_218 : decode cX5_init 218 = .ok (.iconst 4, 1) := by decide +kernel
theorem dX5_init_219 : decode cX5_init 219 = .ok (.newarray .int, 2) := by decide +kernel
theorem dX5_init_221 : decode cX5_init 221 = .ok (.putfield 92, 3) := by decide +kernel
theorem dX5_init_224 : decode cX5_init 224 = .ok (.aload_n 0, 1) := by decide +kernel
theorem dX5_init_225 : decode cX5_init 225 = .ok (.bipush 32, 2) := by decide +kernel
theorem dX5_init_227 : decode cX5_init 227 = .ok (.newarray .int, 2) := by decide +kernel
theorem dX5_init_229 : decode cX5_init 229 = .ok (.putfield 95, 3) := by decide +kernel
theorem dX5_init_232 : decode cX5_init 232 = .ok (.aload_n 0, 1) := by decide +kernel
theorem dX5_init_233 : decode cX5_init 233 = .ok (.bipush 8, 2) := by decide +kernel
theorem dX5_init_235 : decode cX5_init 235 = .ok (.newarray .int, 2) := by decide +kernel
theorem dX5_init_237 : decode cX5_init 237 = .ok (.putfield 98, 3) := by decide +kernel
theorem dX5_init_240 : decode cX5_init 240 = .ok (.iconst 0, 1) := by decide +kernel
theorem dX5_init_241 : decode cX5_init 241 = .ok (.istore_n 1, 1) := by decide +kernel
theorem dX5_init_242 : decode cX5_init 242 = .ok (.iload_n 1, 1) := by decide +kernel
theorem dX5_init_243 : decode cX5_init 243 = .ok (.bipush 16, 2) := by decide +kernel
theorem dX5_init_245 : decode cX5_init 245 = .ok (.if_icmp .ge 16, 3) := by decide +kernel
theorem dX5_init_248 : decode cX5_init 248 = .ok (.aload_n 0, 1) := by decide +kernel
theorem dX5_init_249 : decode cX5_init 249 = .ok (.getfield 7, 3) := by decide +kernel
theorem dX5_init_252 : decode cX5_init 252 = .ok (.iload_n 1, 1) := by decide +kernel
theorem dX5_init_253 : decode cX5_init 253 = .ok (.iconst (-1), 1) := by decide +kernel
theorem dX5_init_254 : decode cX5_init 254 = .ok (.iastore, 1) := by decide +kernel
theorem dX5_init_255 : decode cX5_init 255 = .ok (.iinc 1 1, 3) := by decide +kernel
theorem dX5_init_258 : decode cX5_init 258 = .ok (.goto (-16), 3) := by decide +kernel
theorem dX5_init_261 : decode cX5_init 261 = .ok (.aload_n 0, 1) := by decide +kernel
theorem dX5_init_262 : decode cX5_init 262 = .ok (.invokevirtual 101, 3) := by decide +kernel
theorem dX5_init_265 : decode cX5_init 265 = .ok (.return_, 1) := by decide +kernel
theorem dX5_thrown_0 : decode cX5_thrown 0 = .ok (.aload_n 0, 1) := by decide +kernel
theorem dX5_thrown_1 : decode cX5_thrown 1 = .ok (.getfield 104, 3) := by decide +kernel
theorem dX5_thrown_4 : decode cX5_thrown 4 = .ok (.ireturn, 1) := by decide +kernel
theorem dX5_refused_0 : decode cX5_refused 0 = .ok (.aload_n 0, 1) := by decide +kernel
theorem dX5_refused_1 : decode cX5_refused 1 = .ok (.iload_n 1, 1) := by decide +kernel
theorem dX5_refused_2 : decode cX5_refused 2 = .ok (.ifCond .eq 7, 3) := by decide +kernel
theorem dX5_refused_5 : decode cX5_refused 5 = .ok (.iconst 1, 1) := by decide +kernel
theorem dX5_refused_6 : decode cX5_refused 6 = .ok (.goto 20, 3) := by decide +kernel
theorem dX5_refused_9 : decode cX5_refused 9 = .ok (.iload_n 2, 1) := by decide +kernel
theorem dX5_refused_10 : decode cX5_refused 10 = .ok (.ifCond .eq 7, 3) := by decide +kernel
theorem dX5_refused_13 : decode cX5_refused 13 = .ok (.iconst 2, 1) := by decide +kernel
theorem dX5_refused_14 : decode cX5_refused 14 = .ok (.goto 12, 3) := by decide +kernel
theorem dX5_refused_17 : decode cX5_refused 17 = .ok (.iload_n 3, 1) := by decide +kernel
theorem dX5_refused_18 : decode cX5_refused 18 = .ok (.ifCond .eq 7, 3) := by decide +kernel
theorem dX5_refused_21 : decode cX5_refused 21 = .ok (.iconst 3, 1) := by decide +kernel
theorem dX5_refused_22 : decode cX5_refused 22 = .ok (.goto 4, 3) := by decide +kernel
theorem dX5_refused_25 : decode cX5_refused 25 = .ok (.iconst 0, 1) := by decide +kernel
theorem dX5_refused_26 : decode cX5_refused 26 = .ok (.putfield 104, 3) := by decide +kernel
theorem dX5_refused_29 : decode cX5_refused 29 = .ok (.aload_n 0, 1) := by decide +kernel
theorem dX5_refused_30 : decode cX5_refused 30 = .ok (.getfield 104, 3) := by decide +kernel
theorem dX5_refused_33 : decode cX5_refused 33 = .ok (.ifCond .le 7, 3) := by decide +kernel
theorem dX5_refused_36 : decode cX5_refused 36 = .ok (.iconst 1, 1) := by decide +kernel
theorem dX5_refused_37 : decode cX5_refused 37 = .ok (.goto 4, 3) := by decide +kernel
theorem dX5_refused_40 : decode cX5_refused 40 = .ok (.iconst 0, 1) := by decide +kernel
theorem dX5_refused_41 : decode cX5_refused 41 = .ok (.ireturn, 1) := by decide +kernel
theorem dX5_isTask_0 : decode cX5_isTask 0 = .ok (.iload_n 1, 1) := by decide +kernel
theorem dX5_isTask_1 : decode cX5_isTask 1 = .ok (.ifCond .lt 22, 3) := by decide +kernel
theorem dX5_isTask_4 : decode cX5_isTask 4 = .ok (.iload_n 1, 1) := by decide +kernel
theorem dX5_isTask_5 : decode cX5_isTask 5 = .ok (.bipush 16, 2) := by decide +kernel
theorem dX5_isTask_7 : decode cX5_isTask 7 = .ok (.if_icmp .ge 16, 3) := by decide +kernel
theorem dX5_isTask_10 : decode cX5_isTask 10 = .ok (.aload_n 0, 1) := by decide +kernel
theorem dX5_isTask_11 : decode cX5_isTask 11 = .ok (.getfield 7, 3) := by decide +kernel
theorem dX5_isTask_14 : decode cX5_isTask 14 = .ok (.iload_n 1, 1) := by decide +kernel
theorem dX5_isTask_15 : decode cX5_isTask 15 = .ok (.iaload, 1) := by decide +kernel
theorem dX5_isTask_16 : decode cX5_isTask 16 = .ok (.ifCond .lt 7, 3) := by decide +kernel
theorem dX5_isTask_19 : decode cX5_isTask 19 = .ok (.iconst 1, 1) := by decide +kernel
theorem dX5_isTask_20 : decode cX5_isTask 20 = .ok (.goto 4, 3) := by decide +kernel
theorem dX5_isTask_23 : decode cX5_isTask 23 = .ok (.iconst 0, 1) := by decide +kernel
theorem dX5_isTask_24 : decode cX5_isTask 24 = .ok (.ireturn, 1) := by decide +kernel
theorem dX5_isRequest_0 : decode cX5_isRequest 0 = .ok (.aload_n 0, 1) := by decide +kernel
theorem dX5_isRequest_1 : decode cX5_isRequest 1 = .ok (.iload_n 1, 1) := by decide +kernel
theorem dX5_isRequest_2 : decode cX5_isRequest 2 = .ok (.invokevirtual 108, 3) := by decide +kernel
theorem dX5_isRequest_5 : decode cX5_isRequest 5 = .ok (.ifCond .eq 21, 3) := by decide +kernel
theorem dX5_isRequest_8 : decode cX5_isRequest 8 = .ok (.iload_n 2, 1) := by decide +kernel
theorem dX5_isRequest_9 : decode cX5_isRequest 9 = .ok (.ifCond .lt 17, 3) := by decide +kernel
theorem dX5_isRequest_12 : decode cX5_isRequest 12 = .ok (.iload_n 2, 1) := by decide +kernel
theorem dX5_isRequest_13 : decode cX5_isRequest 13 = .ok (.aload_n 0, 1) := by decide +kernel
theorem dX5_isRequest_14 : decode cX5_isRequest 14 = .ok (.getfield 25, 3) := by decide +kernel
theorem dX5_isRequest_17 : decode cX5_isRequest 17 = .ok (.iload_n 1, 1) := by decide +kernel
theorem dX5_isRequest_18 : decode cX5_isRequest 18 = .ok (.iaload, 1) := by decide +kernel
theorem dX5_isRequest_19 : decode cX5_isRequest 19 = .ok (.if_icmp .ge 7, 3) := by decide +kernel
theorem dX5_isRequest_22 : decode cX5_isRequest 22 = .ok (.iconst 1, 1) := by decide +kernel
theorem dX5_isRequest_23 : decode cX5_isRequest 23 = .ok (.goto 4, 3) := by decide +kernel
theorem dX5_isRequest_26 : decode cX5_isRequest 26 = .ok (.iconst 0, 1) := by decide +kernel
theorem dX5_isRequest_27 : decode cX5_isRequest 27 = .ok (.ireturn, 1) := by decide +kernel
theorem dX5_within_0 : decode cX5_within 0 = .ok (.iload_n 0, 1) := by decide +kernel
theorem dX5_within_1 : decode cX5_within 1 = .ok (.iload_n 1, 1) := by decide +kernel
theorem dX5_within_2 : decode cX5_within 2 = .ok (.if_icmp .lt 12, 3) := by decide +kernel
theorem dX5_within_5 : decode cX5_within 5 = .ok (.iload_n 0, 1) := by decide +kernel
theorem dX5_within_6 : decode cX5_within 6 = .ok (.iload_n 2, 1) := by decide +kernel
theorem dX5_within_7 : decode cX5_within 7 = .ok (.if_icmp .gt 7, 3) := by decide +kernel
theorem dX5_within_10 : decode cX5_within 10 = .ok (.iconst 1, 1) := by decide +kernel
theorem dX5_within_11 : decode cX5_within 11 = .ok (.goto 4, 3) := by decide +kernel
theorem dX5_within_14 : decode cX5_within 14 = .ok (.iconst 0, 1) := by decide +kernel
theorem dX5_within_15 : decode cX5_within 15 = .ok (.ireturn, 1) := by decide +kernel
theorem dX5_hasPriority_0 : decode cX5_hasPriority 0 = .ok (.iconst 0, 1) := by decide +kernel
theorem dX5_hasPriority_1 : decode cX5_hasPriority 1 = .ok (.istore_n 3, 1) := by decide +kernel
theorem dX5_hasPriority_2 : decode cX5_hasPriority 2 = .ok (.iload_n 3, 1) := by decide +kernel
theorem dX5_hasPriority_3 : decode cX5_hasPriority 3 = .ok (.bipush 16, 2) := by decide +kernel
theorem dX5_hasPriority_5 : decode cX5_hasPriority 5 = .ok (.if_icmp .ge 35, 3) := by decide +kernel
theorem dX5_hasPriority_8 : decode cX5_hasPriority 8 = .ok (.aload_n 0, 1) := by decide +kernel
theorem dX5_hasPriority_9 : decode cX5_hasPriority 9 = .ok (.getfield 7, 3) := by decide +kernel
theorem dX5_hasPriority_12 : decode cX5_hasPriority 12 = .ok (.iload_n 3, 1) := by decide +kernel
theorem dX5_hasPriority_13 : decode cX5_hasPriority 13 = .ok (.iaload, 1) := by decide +kernel
theorem dX5_hasPriority_14 : decode cX5_hasPriority 14 = .ok (.iload_n 1, 1) := by decide +kernel
theorem dX5_hasPriority_15 : decode cX5_hasPriority 15 = .ok (.if_icmp .ne 19, 3) := by decide +kernel
theorem dX5_hasPriority_18 : decode cX5_hasPriority 18 = .ok (.iload_n 1, 1) := by decide +kernel
theorem dX5_hasPriority_19 : decode cX5_hasPriority 19 = .ok (.ifCond .lt 15, 3) := by decide +kernel
theorem dX5_hasPriority_22 : decode cX5_hasPriority 22 = .ok (.aload_n 0, 1) := by decide +kernel
theorem dX5_hasPriority_23 : decode cX5_hasPriority 23 = .ok (.getfield 13, 3) := by decide +kernel
theorem dX5_hasPriority_26 : decode cX5_hasPriority 26 = .ok (.iload_n 3, 1) := by decide +kernel
theorem dX5_hasPriority_27 : decode cX5_hasPriority 27 = .ok (.iaload, 1) := by decide +kernel
theorem dX5_hasPriority_28 : decode cX5_hasPriority 28 = .ok (.iload_n 2, 1) := by decide +kernel
theorem dX5_hasPriority_29 : decode cX5_hasPriority 29 = .ok (.if_icmp .ne 5, 3) := by decide +kernel
theorem dX5_hasPriority_32 : decode cX5_hasPriority 32 = .ok (.iconst 1, 1) := by decide +kernel
theorem dX5_hasPriority_33 : decode cX5_hasPriority 33 = .ok (.ireturn, 1) := by decide +kernel
theorem dX5_hasPriority_34 : decode cX5_hasPriority 34 = .ok (.iinc 3 1, 3) := by decide +kernel
theorem dX5_hasPriority_37 : decode cX5_hasPriority 37 = .ok (.goto (-35), 3) := by decide +kernel
theorem dX5_hasPriority_40 : decode cX5_hasPriority 40 = .ok (.iconst 0, 1) := by decide +kernel
theorem dX5_hasPriority_41 : decode cX5_hasPriority 41 = .ok (.ireturn, 1) := by decide +kernel
theorem dX5_task_0 : decode cX5_task 0 = .ok (.iload_n 1, 1) := by decide +kernel
theorem dX5_task_1 : decode cX5_task 1 = .ok (.iconst 0, 1) := by decide +kernel
theorem dX5_task_2 : decode cX5_task 2 = .ok (.bipush 15, 2) := by decide +kernel
theorem dX5_task_4 : decode cX5_task 4 = .ok (.invokestatic 112, 3) := by decide +kernel
theorem dX5_task_7 : decode cX5_task 7 = .ok (.ifCond .ne 7, 3) := by decide +kernel
theorem dX5_task_10 : decode cX5_task 10 = .ok (.iconst 1, 1) := by decide +kernel
theorem dX5_task_11 : decode cX5_task 11 = .ok (.goto 4, 3) := by decide +kernel
theorem dX5_task_14 : decode cX5_task 14 = .ok (.iconst 0, 1) := by decide +kernel
theorem dX5_task_15 : decode cX5_task 15 = .ok (.istore 7, 2) := by decide +kernel
theorem dX5_task_17 : decode cX5_task 17 = .ok (.iload 7, 2) := by decide +kernel
theorem dX5_task_19 : decode cX5_task 19 = .ok (.ifCond .ne 23, 3) := by decide +kernel
theorem dX5_task_22 : decode cX5_task 22 = .ok (.aload_n 0, 1) := by decide +kernel
theorem dX5_task_23 : decode cX5_task 23 = .ok (.getfield 116, 3) := by decide +kernel
theorem dX5_task_26 : decode cX5_task 26 = .ok (.ifCond .ne 12, 3) := by decide +kernel
theorem dX5_task_29 : decode cX5_task 29 = .ok (.aload_n 0, 1) := by decide +kernel
theorem dX5_task_30 : decode cX5_task 30 = .ok (.getfield 7, 3) := by decide +kernel
theorem dX5_task_33 : decode cX5_task 33 = .ok (.iload_n 1, 1) := by decide +kernel
theorem dX5_task_34 : decode cX5_task 34 = .ok (.iaload, 1) := by decide +kernel
theorem dX5_task_35 : decode cX5_task 35 = .ok (.ifCond .lt 7, 3) := by decide +kernel
theorem dX5_task_38 : decode cX5_task 38 = .ok (.iconst 1, 1) := by decide +kernel
theorem dX5_task_39 : decode cX5_task 39 = .ok (.goto 4, 3) := by decide +kernel
theorem dX5_task_42 : decode cX5_task 42 = .ok (.iconst 0, 1) := by decide +kernel
theorem dX5_task_43 : decode cX5_task 43 = .ok (.istore 8, 2) := by decide +kernel
theorem dX5_task_45 : decode cX5_task 45 = .ok (.iload_n 2, 1) := by decide +kernel
theorem dX5_task_46 : decode cX5_task 46 = .ok (.iconst 0, 1) := by decide +kernel
theorem dX5_task_47 : decode cX5_task 47 = .ok (.iconst 3, 1) := by decide +kernel
theorem dX5_task_48 : decode cX5_task 48 = .ok (.invokestatic 112, 3) := by decide +kernel
theorem dX5_task_51 : decode cX5_task 51 = .ok (.ifCond .eq 62, 3) := by decide +kernel
theorem dX5_task_54 : decode cX5_task 54 = .ok (.iload_n 3, 1) := by decide +kernel
theorem dX5_task_55 : decode cX5_task 55 = .ok (.iconst 0, 1) := by decide +kernel
theorem dX5_task_56 : decode cX5_task 56 = .ok (.sipush 1000, 3) := by decide +kernel
theorem dX5_task_59 : decode cX5_task 59 = .ok (.invokestatic 112, 3) := by decide +kernel
theorem dX5_task_62 : decode cX5_task 62 = .ok (.ifCond .eq 51, 3) := by decide +kernel
theorem dX5_task_65 : decode cX5_task 65 = .ok (.iload 4, 2) := by decide +kernel
theorem dX5_task_67 : decode cX5_task 67 = .ok (.iconst 1, 1) := by decide +kernel
theorem dX5_task_68 : decode cX5_task 68 = .ok (.sipush 10000, 3) := by decide +kernel
theorem dX5_task_71 : decode cX5_task 71 = .ok (.invokestatic 112, 3) := by decide +kernel
theorem dX5_task_74 : decode cX5_task 74 = .ok (.ifCond .eq 39, 3) := by decide +kernel
theorem dX5_task_77 : decode cX5_task 77 = .ok (.iload 5, 2) := by decide +kernel
theorem dX5_task_79 : decode cX5_task 79 = .ok (.iconst 1, 1) := by decide +kernel
theorem dX5_task_80 : decode cX5_task 80 = .ok (.iload 4, 2) := by decide +kernel
theorem dX5_task_82 : decode cX5_task 82 = .ok (.invokestatic 112, 3) := by decide +kernel
theorem dX5_task_85 : decode cX5_task 85 = .ok (.ifCond .eq 28, 3) := by decide +kernel
theorem dX5_task_88 : decode cX5_task 88 = .ok (.iload 6, 2) := by decide +kernel
theorem dX5_task_90 : decode cX5_task 90 = .ok (.iconst 1, 1) := by decide +kernel
theorem dX5_task_91 : decode cX5_task 91 = .ok (.sipush 1000, 3) := by decide +kernel
theorem dX5_task_94 : decode cX5_task 94 = .ok (.invokestatic 112, 3) := by decide +kernel
theorem dX5_task_97 : decode cX5_task 97 = .ok (.ifCond .eq 16, 3) := by decide +kernel
theorem dX5_task_100 : decode cX5_task 100 = .ok (.aload_n 0, 1) := by decide +kernel
theorem dX5_task_101 : decode cX5_task 101 = .ok (.iload_n 2, 1) := by decide +kernel
theorem dX5_task_102 : decode cX5_task 102 = .ok (.iload_n 3, 1) := by decide +kernel
theorem dX5_task_103 : decode cX5_task 103 = .ok (.invokevirtual 120, 3) := by decide +kernel
theorem dX5_task_106 : decode cX5_task 106 = .ok (.ifCond .ne 7, 3) := by decide +kernel
theorem dX5_task_109 : decode cX5_task 109 = .ok (.iconst 1, 1) := by decide +kernel
theorem dX5_task_110 : decode cX5_task 110 = .ok (.goto 4, 3) := by decide +kernel
theorem dX5_task_113 : decode cX5_task 113 = .ok (.iconst 0, 1) := by decide +kernel
theorem dX5_task_114 : decode cX5_task 114 = .ok (.istore 9, 2) := by decide +kernel
theorem dX5_task_116 : decode cX5_task 116 = .ok (.aload_n 0, 1) := by decide +kernel
theorem dX5_task_117 : decode cX5_task 117 = .ok (.iload 7, 2) := by decide +kernel
theorem dX5_task_119 : decode cX5_task 119 = .ok (.iload 8, 2) := by decide +kernel
theorem dX5_task_121 : decode cX5_task 121 = .ok (.iload 9, 2) := by decide +kernel
theorem dX5_task_123 : decode cX5_task 123 = .ok (.ifCond .ne 7, 3) := by decide +kernel
theorem dX5_task_126 : decode cX5_task 126 = .ok (.iconst 1, 1) := by decide +kernel
theorem dX5_task_127 : decode cX5_task 127 = .ok (.goto 4, 3) := by decide +kernel
theorem dX5_task_130 : decode cX5_task 130 = .ok (.iconst 0, 1) := by decide +kernel
theorem dX5_task_131 : decode cX5_task 131 = .ok (.invokevirtual 124, 3) := by decide +kernel
theorem dX5_task_134 : decode cX5_task 134 = .ok (.ifCond .eq 4, 3) := by decide +kernel
theorem dX5_task_137 : decode cX5_task 137 = .ok (.return_, 1) := by decide +kernel
theorem dX5_task_138 : decode cX5_task 138 = .ok (.aload_n 0, 1) := by decide +kernel
theorem dX5_task_139 : decode cX5_task 139 = .ok (.getfield 7, 3) := by decide +kernel
theorem dX5_task_142 : decode cX5_task 142 = .ok (.iload_n 1, 1) := by decide +kernel
theorem dX5_task_143 : decode cX5_task 143 = .ok (.iload_n 2, 1) := by decide +kernel
theorem dX5_task_144 : decode cX5_task 144 = .ok (.iastore, 1) := by decide +kernel
theorem dX5_task_145 : decode cX5_task 145 = .ok (.aload_n 0, 1) := by decide +kernel
theorem dX5_task_146 : decode cX5_task 146 = .ok (.getfield 13, 3) := by decide +kernel
theorem dX5_task_149 : decode cX5_task 149 = .ok (.iload_n 1, 1) := by decide +kernel
theorem dX5_task_150 : decode cX5_task 150 = .ok (.iload_n 3, 1) := by decide +kernel
theorem dX5_task_151 : decode cX5_task 151 = .ok (.iastore, 1) := by decide +kernel
theorem dX5_task_152 : decode cX5_task 152 = .ok (.aload_n 0, 1) := by decide +kernel
theorem dX5_task_153 : decode cX5_task 153 = .ok (.getfield 16, 3) := by decide +kernel
theorem dX5_task_156 : decode cX5_task 156 = .ok (.iload_n 1, 1) := by decide +kernel
theorem dX5_task_157 : decode cX5_task 157 = .ok (.iload 4, 2) := by decide +kernel
theorem dX5_task_159 : decode cX5_task 159 = .ok (.iastore, 1) := by decide +kernel
theorem dX5_task_160 : decode cX5_task 160 = .ok (.aload_n 0, 1) := by decide +kernel
theorem dX5_task_161 : decode cX5_task 161 = .ok (.getfield 19, 3) := by decide +kernel
theorem dX5_task_164 : decode cX5_task 164 = .ok (.iload_n 1, 1) := by decide +kernel
theorem dX5_task_165 : decode cX5_task 165 = .ok (.iload 5, 2) := by decide +kernel
theorem dX5_task_167 : decode cX5_task 167 = .ok (.iastore, 1) := by decide +kernel
theorem dX5_task_168 : decode cX5_task 168 = .ok (.aload_n 0, 1) := by decide +kernel
theorem dX5_task_169 : decode cX5_task 169 = .ok (.getfield 22, 3) := by decide +kernel
theorem dX5_task_172 : decode cX5_task 172 = .ok (.iload_n 1, 1) := by decide +kernel
theorem dX5_task_173 : decode cX5_task 173 = .ok (.iload 6, 2) := by decide +kernel
theorem dX5_task_175 : decode cX5_task 175 = .ok (.iastore, 1) := by decide +kernel
theorem dX5_task_176 : decode cX5_task 176 = .ok (.aload_n 0, 1) := by decide +kernel
theorem dX5_task_177 : decode cX5_task 177 = .ok (.getfield 25, 3) := by decide +kernel
theorem dX5_task_180 : decode cX5_task 180 = .ok (.iload_n 1, 1) := by decide +kernel
theorem dX5_task_181 : decode cX5_task 181 = .ok (.iconst 0, 1) := by decide +kernel
theorem dX5_task_182 : decode cX5_task 182 = .ok (.iastore, 1) := by decide +kernel
theorem dX5_task_183 : decode cX5_task 183 = .ok (.return_, 1) := by decide +kernel
theorem dX5_outerBefore_0 : decode cX5_outerBefore 0 = .ok (.aload_n 0, 1) := by decide +kernel
theorem dX5_outerBefore_1 : decode cX5_outerBefore 1 = .ok (.getfield 25, 3) := by decide +kernel
theorem dX5_outerBefore_4 : decode cX5_outerBefore 4 = .ok (.iload_n 1, 1) := by decide +kernel
theorem dX5_outerBefore_5 : decode cX5_outerBefore 5 = .ok (.iaload, 1) := by decide +kernel
theorem dX5_outerBefore_6 : decode cX5_outerBefore 6 = .ok (.iconst 1, 1) := by decide +kernel
theorem dX5_outerBefore_7 : decode cX5_outerBefore 7 = .ok (.isub, 1) := by decide +kernel
theorem dX5_outerBefore_8 : decode cX5_outerBefore 8 = .ok (.istore_n 2, 1) := by decide +kernel
theorem dX5_outerBefore_9 : decode cX5_outerBefore 9 = .ok (.iload_n 2, 1) := by decide +kernel
theorem dX5_outerBefore_10 : decode cX5_outerBefore 10 = .ok (.ifCond .lt 23, 3) := by decide +kernel
theorem dX5_outerBefore_13 : decode cX5_outerBefore 13 = .ok (.aload_n 0, 1) := by decide +kernel
theorem dX5_outerBefore_14 : decode cX5_outerBefore 14 = .ok (.getfield 37, 3) := by decide +kernel
theorem dX5_outerBefore_17 : decode cX5_outerBefore 17 = .ok (.bipush 6, 2) := by decide +kernel
theorem dX5_outerBefore_19 : decode cX5_outerBefore 19 = .ok (.iload_n 1, 1) := by decide +kernel
theorem dX5_outerBefore_20 : decode cX5_outerBefore 20 = .ok (.imul, 1) := by decide +kernel
theorem dX5_outerBefore_21 : decode cX5_outerBefore 21 = .ok (.iload_n 2, 1) := by decide +kernel
theorem dX5_outerBefore_22 : decode cX5_outerBefore 22 = .ok (.iadd, 1) := by decide +kernel
theorem dX5_outerBefore_23 : decode cX5_outerBefore 23 = .ok (.iaload, 1) := by decide +kernel
theorem dX5_outerBefore_24 : decode cX5_outerBefore 24 = .ok (.ifCond .lt 9, 3) := by decide +kernel
theorem dX5_outerBefore_27 : decode cX5_outerBefore 27 = .ok (.iinc 2 (-1), 3) := by decide +kernel
theorem dX5_outerBefore_30 : decode cX5_outerBefore 30 = .ok (.goto (-21), 3) := by decide +kernel
theorem dX5_outerBefore_33 : decode cX5_outerBefore 33 = .ok (.iload_n 2, 1) := by decide +kernel
theorem dX5_outerBefore_34 : decode cX5_outerBefore 34 = .ok (.ireturn, 1) := by decide +kernel
theorem dX5_mayBe_0 : decode cX5_mayBe 0 = .ok (.iload_n 3, 1) := by decide +kernel
theorem dX5_mayBe_1 : decode cX5_mayBe 1 = .ok (.iconst 0, 1) := by decide +kernel
theorem dX5_mayBe_2 : decode cX5_mayBe 2 = .ok (.bipush 7, 2) := by decide +kernel
theorem dX5_mayBe_4 : decode cX5_mayBe 4 = .ok (.invokestatic 112, 3) := by decide +kernel
theorem dX5_mayBe_7 : decode cX5_mayBe 7 = .ok (.ifCond .eq 18, 3) := by decide +kernel
theorem dX5_mayBe_10 : decode cX5_mayBe 10 = .ok (.iload 4, 2) := by decide +kernel
theorem dX5_mayBe_12 : decode cX5_mayBe 12 = .ok (.iconst 1, 1) := by decide +kernel
theorem dX5_mayBe_13 : decode cX5_mayBe 13 = .ok (.bipush 100, 2) := by decide +kernel
theorem dX5_mayBe_15 : decode cX5_mayBe 15 = .ok (.invokestatic 112, 3) := by decide +kernel
theorem dX5_mayBe_18 : decode cX5_mayBe 18 = .ok (.ifCond .eq 7, 3) := by decide +kernel
theorem dX5_mayBe_21 : decode cX5_mayBe 21 = .ok (.iload_n 2, 1) := by decide +kernel
theorem dX5_mayBe_22 : decode cX5_mayBe 22 = .ok (.ifCond .ge 5, 3) := by decide +kernel
theorem dX5_mayBe_25 : decode cX5_mayBe 25 = .ok (.iconst 0, 1) := by decide +kernel
theorem dX5_mayBe_26 : decode cX5_mayBe 26 = .ok (.ireturn, 1) := by decide +kernel
theorem dX5_mayBe_27 : decode cX5_mayBe 27 = .ok (.iload 5, 2) := by decide +kernel
theorem dX5_mayBe_29 : decode cX5_mayBe 29 = .ok (.iconst (-1), 1) := by decide +kernel
theorem dX5_mayBe_30 : decode cX5_mayBe 30 = .ok (.if_icmp .ne 47, 3) := by decide +kernel
theorem dX5_mayBe_33 : decode cX5_mayBe 33 = .ok (.aload_n 0, 1) := by decide +kernel
theorem dX5_mayBe_34 : decode cX5_mayBe 34 = .ok (.iload_n 1, 1) := by decide +kernel
theorem dX5_mayBe_35 : decode cX5_mayBe 35 = .ok (.invokevirtual 128, 3) := by decide +kernel
theorem dX5_mayBe_38 : decode cX5_mayBe 38 = .ok (.istore 6, 2) := by decide +kernel
theorem dX5_mayBe_40 : decode cX5_mayBe 40 = .ok (.iload_n 2, 1) := by decide +kernel
theorem dX5_mayBe_41 : decode cX5_mayBe 41 = .ok (.aload_n 0, 1) := by decide +kernel
theorem dX5_mayBe_42 : decode cX5_mayBe 42 = .ok (.getfield 22, 3) := by decide +kernel
theorem dX5_mayBe_45 : decode cX5_mayBe 45 = .ok (.iload_n 1, 1) := by decide +kernel
theorem dX5_mayBe_46 : decode cX5_mayBe 46 = .ok (.iaload, 1) := by decide +kernel
theorem dX5_mayBe_47 : decode cX5_mayBe 47 = .ok (.if_icmp .gt 28, 3) := by decide +kernel
theorem dX5_mayBe_50 : decode cX5_mayBe 50 = .ok (.iload 6, 2) := by decide +kernel
theorem dX5_mayBe_52 : decode cX5_mayBe 52 = .ok (.ifCond .lt 19, 3) := by decide +kernel
theorem dX5_mayBe_55 : decode cX5_mayBe 55 = .ok (.iload_n 2, 1) := by decide +kernel
theorem dX5_mayBe_56 : decode cX5_mayBe 56 = .ok (.aload_n 0, 1) := by decide +kernel
theorem dX5_mayBe_57 : decode cX5_mayBe 57 = .ok (.getfield 28, 3) := by decide +kernel
theorem dX5_mayBe_60 : decode cX5_mayBe 60 = .ok (.bipush 6, 2) := by decide +kernel
theorem dX5_mayBe_62 : decode cX5_mayBe 62 = .ok (.iload_n 1, 1) := by decide +kernel
theorem dX5_mayBe_63 : decode cX5_mayBe 63 = .ok (.imul, 1) := by decide +kernel
theorem dX5_mayBe_64 : decode cX5_mayBe 64 = .ok (.iload 6, 2) := by decide +kernel
theorem dX5_mayBe_66 : decode cX5_mayBe 66 = .ok (.iadd, 1) := by decide +kernel
theorem dX5_mayBe_67 : decode cX5_mayBe 67 = .ok (.iaload, 1) := by decide +kernel
theorem dX5_mayBe_68 : decode cX5_mayBe 68 = .ok (.if_icmp .lt 7, 3) := by decide +kernel
theorem dX5_mayBe_71 : decode cX5_mayBe 71 = .ok (.iconst 1, 1) := by decide +kernel
theorem dX5_mayBe_72 : decode cX5_mayBe 72 = .ok (.goto 4, 3) := by decide +kernel
theorem dX5_mayBe_75 : decode cX5_mayBe 75 = .ok (.iconst 0, 1) := by decide +kernel
theorem dX5_mayBe_76 : decode cX5_mayBe 76 = .ok (.ireturn, 1) := by decide +kernel
theorem dX5_mayBe_77 : decode cX5_mayBe 77 = .ok (.aload_n 0, 1) := by decide +kernel
theorem dX5_mayBe_78 : decode cX5_mayBe 78 = .ok (.iload_n 1, 1) := by decide +kernel
theorem dX5_mayBe_79 : decode cX5_mayBe 79 = .ok (.iload 5, 2) := by decide +kernel
theorem dX5_mayBe_81 : decode cX5_mayBe 81 = .ok (.invokevirtual 132, 3) := by decide +kernel
theorem dX5_mayBe_84 : decode cX5_mayBe 84 = .ok (.ifCond .eq 48, 3) := by decide +kernel
theorem dX5_mayBe_87 : decode cX5_mayBe 87 = .ok (.aload_n 0, 1) := by decide +kernel
theorem dX5_mayBe_88 : decode cX5_mayBe 88 = .ok (.getfield 37, 3) := by decide +kernel
theorem dX5_mayBe_91 : decode cX5_mayBe 91 = .ok (.bipush 6, 2) := by decide +kernel
theorem dX5_mayBe_93 : decode cX5_mayBe 93 = .ok (.iload_n 1, 1) := by decide +kernel
theorem dX5_mayBe_94 : decode cX5_mayBe 94 = .ok (.imul, 1) := by decide +kernel
theorem dX5_mayBe_95 : decode cX5_mayBe 95 = .ok (.iload 5, 2) := by decide +kernel
theorem dX5_mayBe_97 : decode cX5_mayBe 97 = .ok (.iadd, 1) := by decide +kernel
theorem dX5_mayBe_98 : decode cX5_mayBe 98 = .ok (.iaload, 1) := by decide +kernel
theorem dX5_mayBe_99 : decode cX5_mayBe 99 = .ok (.iconst (-1), 1) := by decide +kernel
theorem dX5_mayBe_100 : decode cX5_mayBe 100 = .ok (.if_icmp .ne 32, 3) := by decide +kernel
theorem dX5_mayBe_103 : decode cX5_mayBe 103 = .ok (.iload_n 2, 1) := by decide +kernel
theorem dX5_mayBe_104 : decode cX5_mayBe 104 = .ok (.bipush 100, 2) := by decide +kernel
theorem dX5_mayBe_106 : decode cX5_mayBe 106 = .ok (.if_icmp .gt 26, 3) := by decide +kernel
theorem dX5_mayBe_109 : decode cX5_mayBe 109 = .ok (.iload_n 2, 1) := by decide +kernel
theorem dX5_mayBe_110 : decode cX5_mayBe 110 = .ok (.iload 4, 2) := by decide +kernel
theorem dX5_mayBe_112 : decode cX5_mayBe 112 = .ok (.iadd, 1) := by decide +kernel
theorem dX5_mayBe_113 : decode cX5_mayBe 113 = .ok (.aload_n 0, 1) := by decide +kernel
theorem dX5_mayBe_114 : decode cX5_mayBe 114 = .ok (.getfield 34, 3) := by decide +kernel
theorem dX5_mayBe_117 : decode cX5_mayBe 117 = .ok (.bipush 6, 2) := by decide +kernel
theorem dX5_mayBe_119 : decode cX5_mayBe 119 = .ok (.iload_n 1, 1) := by decide +kernel
theorem dX5_mayBe_120 : decode cX5_mayBe 120 = .ok (.imul, 1) := by decide +kernel
theorem dX5_mayBe_121 : decode cX5_mayBe 121 = .ok (.iload 5, 2) := by decide +kernel
theorem dX5_mayBe_123 : decode cX5_mayBe 123 = .ok (.iadd, 1) := by decide +kernel
theorem dX5_mayBe_124 : decode cX5_mayBe 124 = .ok (.iaload, 1) := by decide +kernel
theorem dX5_mayBe_125 : decode cX5_mayBe 125 = .ok (.if_icmp .gt 7, 3) := by decide +kernel
theorem dX5_mayBe_128 : decode cX5_mayBe 128 = .ok (.iconst 1, 1) := by decide +kernel
theorem dX5_mayBe_129 : decode cX5_mayBe 129 = .ok (.goto 4, 3) := by decide +kernel
theorem dX5_mayBe_132 : decode cX5_mayBe 132 = .ok (.iconst 0, 1) := by decide +kernel
theorem dX5_mayBe_133 : decode cX5_mayBe 133 = .ok (.ireturn, 1) := by decide +kernel
theorem dX5_request_0 : decode cX5_request 0 = .ok (.aload_n 0, 1) := by decide +kernel
theorem dX5_request_1 : decode cX5_request 1 = .ok (.iload_n 1, 1) := by decide +kernel
theorem dX5_request_2 : decode cX5_request 2 = .ok (.invokevirtual 108, 3) := by decide +kernel
theorem dX5_request_5 : decode cX5_request 5 = .ok (.ifCond .ne 7, 3) := by decide +kernel
theorem dX5_request_8 : decode cX5_request 8 = .ok (.iconst 1, 1) := by decide +kernel
theorem dX5_request_9 : decode cX5_request 9 = .ok (.goto 4, 3) := by decide +kernel
theorem dX5_request_12 : decode cX5_request 12 = .ok (.iconst 0, 1) := by decide +kernel
theorem dX5_request_13 : decode cX5_request 13 = .ok (.istore 6, 2) := by decide +kernel
theorem dX5_request_15 : decode cX5_request 15 = .ok (.iload 6, 2) := by decide +kernel
theorem dX5_request_17 : decode cX5_request 17 = .ok (.ifCond .ne 25, 3) := by decide +kernel
theorem dX5_request_20 : decode cX5_request 20 = .ok (.aload_n 0, 1) := by decide +kernel
theorem dX5_request_21 : decode cX5_request 21 = .ok (.getfield 116, 3) := by decide +kernel
theorem dX5_request_24 : decode cX5_request 24 = .ok (.ifCond .ne 14, 3) := by decide +kernel
theorem dX5_request_27 : decode cX5_request 27 = .ok (.aload_n 0, 1) := by decide +kernel
theorem dX5_request_28 : decode cX5_request 28 = .ok (.getfield 25, 3) := by decide +kernel
theorem dX5_request_31 : decode cX5_request 31 = .ok (.iload_n 1, 1) := by decide +kernel
theorem dX5_request_32 : decode cX5_request 32 = .ok (.iaload, 1) := by decide +kernel
theorem dX5_request_33 : decode cX5_request 33 = .ok (.bipush 6, 2) := by decide +kernel
theorem dX5_request_35 : decode cX5_request 35 = .ok (.if_icmp .ne 7, 3) := by decide +kernel
theorem dX5_request_38 : decode cX5_request 38 = .ok (.iconst 1, 1) := by decide +kernel
theorem dX5_request_39 : decode cX5_request 39 = .ok (.goto 4, 3) := by decide +kernel
theorem dX5_request_42 : decode cX5_request 42 = .ok (.iconst 0, 1) := by decide +kernel
theorem dX5_request_43 : decode cX5_request 43 = .ok (.istore 7, 2) := by decide +kernel
theorem dX5_request_45 : decode cX5_request 45 = .ok (.aload_n 0, 1) := by decide +kernel
theorem dX5_request_46 : decode cX5_request 46 = .ok (.iload 6, 2) := by decide +kernel
theorem dX5_request_48 : decode cX5_request 48 = .ok (.iload 7, 2) := by decide +kernel
theorem dX5_request_50 : decode cX5_request 50 = .ok (.iload 6, 2) := by decide +kernel
theorem dX5_request_52 : decode cX5_request 52 = .ok (.ifCond .ne 26, 3) := by decide +kernel
theorem dX5_request_55 : decode cX5_request 55 = .ok (.iload 7, 2) := by decide +kernel
theorem dX5_request_57 : decode cX5_request 57 = .ok (.ifCond .ne 21, 3) := by decide +kernel
theorem dX5_request_60 : decode cX5_request 60 = .ok (.aload_n 0, 1) := by decide +kernel
theorem dX5_request_61 : decode cX5_request 61 = .ok (.iload_n 1, 1) := by decide +kernel
theorem dX5_request_62 : decode cX5_request 62 = .ok (.iload_n 2, 1) := by decide +kernel
theorem dX5_request_63 : decode cX5_request 63 = .ok (.iload_n 3, 1) := by decide +kernel
theorem dX5_request_64 : decode cX5_request 64 = .ok (.iload 4, 2) := by decide +kernel
theorem dX5_request_66 : decode cX5_request 66 = .ok (.iload 5, 2) := by decide +kernel
theorem dX5_request_68 : decode cX5_request 68 = .ok (.invokevirtual 135, 3) := by decide +kernel
theorem dX5_request_71 : decode cX5_request 71 = .ok (.ifCond .ne 7, 3) := by decide +kernel
theorem dX5_request_74 : decode cX5_request 74 = .ok (.iconst 1, 1) := by decide +kernel
theorem dX5_request_75 : decode cX5_request 75 = .ok (.goto 4, 3) := by decide +kernel
theorem dX5_request_78 : decode cX5_request 78 = .ok (.iconst 0, 1) := by decide +kernel
theorem dX5_request_79 : decode cX5_request 79 = .ok (.invokevirtual 124, 3) := by decide +kernel
theorem dX5_request_82 : decode cX5_request 82 = .ok (.ifCond .eq 5, 3) := by decide +kernel
theorem dX5_request_85 : decode cX5_request 85 = .ok (.iconst 0, 1) := by decide +kernel
theorem dX5_request_86 : decode cX5_request 86 = .ok (.ireturn, 1) := by decide +kernel
theorem dX5_request_87 : decode cX5_request 87 = .ok (.bipush 6, 2) := by decide +kernel
theorem dX5_request_89 : decode cX5_request 89 = .ok (.iload_n 1, 1) := by decide +kernel
theorem dX5_request_90 : decode cX5_request 90 = .ok (.imul, 1) := by decide +kernel
theorem dX5_request_91 : decode cX5_request 91 = .ok (.aload_n 0, 1) := by decide +kernel
theorem dX5_request_92 : decode cX5_request 92 = .ok (.getfield 25, 3) := by decide +kernel
theorem dX5_request_95 : decode cX5_request 95 = .ok (.iload_n 1, 1) := by decide +kernel
theorem dX5_request_96 : decode cX5_request 96 = .ok (.iaload, 1) := by decide +kernel
theorem dX5_request_97 : decode cX5_request 97 = .ok (.iadd, 1) := by decide +kernel
theorem dX5_request_98 : decode cX5_request 98 = .ok (.istore 8, 2) := by decide +kernel
theorem dX5_request_100 : decode cX5_request 100 = .ok (.aload_n 0, 1) := by decide +kernel
theorem dX5_request_101 : decode cX5_request 101 = .ok (.getfield 28, 3) := by decide +kernel
theorem dX5_request_104 : decode cX5_request 104 = .ok (.iload 8, 2) := by decide +kernel
theorem dX5_request_106 : decode cX5_request 106 = .ok (.iload_n 2, 1) := by decide +kernel
theorem dX5_request_107 : decode cX5_request 107 = .ok (.iastore, 1) := by decide +kernel
theorem dX5_request_108 : decode cX5_request 108 = .ok (.aload_n 0, 1) := by decide +kernel
theorem dX5_request_109 : decode cX5_request 109 = .ok (.getfield 31, 3) := by decide +kernel
theorem dX5_request_112 : decode cX5_request 112 = .ok (.iload 8, 2) := by decide +kernel
theorem dX5_request_114 : decode cX5_request 114 = .ok (.iload_n 3, 1) := by decide +kernel
theorem dX5_request_115 : decode cX5_request 115 = .ok (.iastore, 1) := by decide +kernel
theorem dX5_request_116 : decode cX5_request 116 = .ok (.aload_n 0, 1) := by decide +kernel
theorem dX5_request_117 : decode cX5_request 117 = .ok (.getfield 34, 3) := by decide +kernel
theorem dX5_request_120 : decode cX5_request 120 = .ok (.iload 8, 2) := by decide +kernel
theorem dX5_request_122 : decode cX5_request 122 = .ok (.iload 4, 2) := by decide +kernel
theorem dX5_request_124 : decode cX5_request 124 = .ok (.iastore, 1) := by decide +kernel
theorem dX5_request_125 : decode cX5_request 125 = .ok (.aload_n 0, 1) := by decide +kernel
theorem dX5_request_126 : decode cX5_request 126 = .ok (.getfield 37, 3) := by decide +kernel
theorem dX5_request_129 : decode cX5_request 129 = .ok (.iload 8, 2) := by decide +kernel
theorem dX5_request_131 : decode cX5_request 131 = .ok (.iload 5, 2) := by decide +kernel
theorem dX5_request_133 : decode cX5_request 133 = .ok (.iastore, 1) := by decide +kernel
theorem dX5_request_134 : decode cX5_request 134 = .ok (.aload_n 0, 1) := by decide +kernel
theorem dX5_request_135 : decode cX5_request 135 = .ok (.getfield 68, 3) := by decide +kernel
theorem dX5_request_138 : decode cX5_request 138 = .ok (.iload 8, 2) := by decide +kernel
theorem dX5_request_140 : decode cX5_request 140 = .ok (.iload 4, 2) := by decide +kernel
theorem dX5_request_142 : decode cX5_request 142 = .ok (.iastore, 1) := by decide +kernel
theorem dX5_request_143 : decode cX5_request 143 = .ok (.aload_n 0, 1) := by decide +kernel
theorem dX5_request_144 : decode cX5_request 144 = .ok (.getfield 25, 3) := by decide +kernel
theorem dX5_request_147 : decode cX5_request 147 = .ok (.iload_n 1, 1) := by decide +kernel
theorem dX5_request_148 : decode cX5_request 148 = .ok (.dup2, 1) := by decide +kernel
theorem dX5_request_149 : decode cX5_request 149 = .ok (.iaload, 1) := by decide +kernel
theorem dX5_request_150 : decode cX5_request 150 = .ok (.iconst 1, 1) := by decide +kernel
theorem dX5_request_151 : decode cX5_request 151 = .ok (.iadd, 1) := by decide +kernel
theorem dX5_request_152 : decode cX5_request 152 = .ok (.iastore, 1) := by decide +kernel
theorem dX5_request_153 : decode cX5_request 153 = .ok (.aload_n 0, 1) := by decide +kernel
theorem dX5_request_154 : decode cX5_request 154 = .ok (.getfield 25, 3) := by decide +kernel
theorem dX5_request_157 : decode cX5_request 157 = .ok (.iload_n 1, 1) := by decide +kernel
theorem dX5_request_158 : decode cX5_request 158 = .ok (.iaload, 1) := by decide +kernel
theorem dX5_request_159 : decode cX5_request 159 = .ok (.iconst 1, 1) := by decide +kernel
theorem dX5_request_160 : decode cX5_request 160 = .ok (.isub, 1) := by decide +kernel
theorem dX5_request_161 : decode cX5_request 161 = .ok (.ireturn, 1) := by decide +kernel
theorem dX5_take_0 : decode cX5_take 0 = .ok (.aload_n 0, 1) := by decide +kernel
theorem dX5_take_1 : decode cX5_take 1 = .ok (.aload_n 0, 1) := by decide +kernel
theorem dX5_take_2 : decode cX5_take 2 = .ok (.iload_n 1, 1) := by decide +kernel
theorem dX5_take_3 : decode cX5_take 3 = .ok (.invokevirtual 108, 3) := by decide +kernel
theorem dX5_take_6 : decode cX5_take 6 = .ok (.ifCond .ne 7, 3) := by decide +kernel
theorem dX5_take_9 : decode cX5_take 9 = .ok (.iconst 1, 1) := by decide +kernel
theorem dX5_take_10 : decode cX5_take 10 = .ok (.goto 4, 3) := by decide +kernel
theorem dX5_take_13 : decode cX5_take 13 = .ok (.iconst 0, 1) := by decide +kernel
theorem dX5_take_14 : decode cX5_take 14 = .ok (.aload_n 0, 1) := by decide +kernel
theorem dX5_take_15 : decode cX5_take 15 = .ok (.getfield 116, 3) := by decide +kernel
theorem dX5_take_18 : decode cX5_take 18 = .ok (.iconst 0, 1) := by decide +kernel
theorem dX5_take_19 : decode cX5_take 19 = .ok (.invokevirtual 124, 3) := by decide +kernel
theorem dX5_take_22 : decode cX5_take 22 = .ok (.ifCond .ne 17, 3) := by decide +kernel
theorem dX5_take_25 : decode cX5_take 25 = .ok (.aload_n 0, 1) := by decide +kernel
theorem dX5_take_26 : decode cX5_take 26 = .ok (.getfield 7, 3) := by decide +kernel
theorem dX5_take_29 : decode cX5_take 29 = .ok (.iload_n 1, 1) := by decide +kernel
theorem dX5_take_30 : decode cX5_take 30 = .ok (.iconst (-1), 1) := by decide +kernel
theorem dX5_take_31 : decode cX5_take 31 = .ok (.iastore, 1) := by decide +kernel
theorem dX5_take_32 : decode cX5_take 32 = .ok (.aload_n 0, 1) := by decide +kernel
theorem dX5_take_33 : decode cX5_take 33 = .ok (.getfield 25, 3) := by decide +kernel
theorem dX5_take_36 : decode cX5_take 36 = .ok (.iload_n 1, 1) := by decide +kernel
theorem dX5_take_37 : decode cX5_take 37 = .ok (.iconst 0, 1) := by decide +kernel
theorem dX5_take_38 : decode cX5_take 38 = .ok (.iastore, 1) := by decide +kernel
theorem dX5_take_39 : decode cX5_take 39 = .ok (.return_, 1) := by decide +kernel
theorem dX5_findGroups_0 : decode cX5_findGroups 0 = .ok (.iconst 0, 1) := by decide +kernel
theorem dX5_findGroups_1 : decode cX5_findGroups 1 = .ok (.istore_n 1, 1) := by decide +kernel
theorem dX5_findGroups_2 : decode cX5_findGroups 2 = .ok (.iload_n 1, 1) := by decide +kernel
theorem dX5_findGroups_3 : decode cX5_findGroups 3 = .ok (.bipush 8, 2) := by decide +kernel
theorem dX5_findGroups_5 : decode cX5_findGroups 5 = .ok (.if_icmp .ge 16, 3) := by decide +kernel
theorem dX5_findGroups_8 : decode cX5_findGroups 8 = .ok (.aload_n 0, 1) := by decide +kernel
theorem dX5_findGroups_9 : decode cX5_findGroups 9 = .ok (.getfield 40, 3) := by decide +kernel
theorem dX5_findGroups_12 : decode cX5_findGroups 12 = .ok (.iload_n 1, 1) := by decide +kernel
theorem dX5_findGroups_13 : decode cX5_findGroups 13 = .ok (.iload_n 1, 1) := by decide +kernel
theorem dX5_findGroups_14 : decode cX5_findGroups 14 = .ok (.iastore, 1) := by decide +kernel
theorem dX5_findGroups_15 : decode cX5_findGroups 15 = .ok (.iinc 1 1, 3) := by decide +kernel
theorem dX5_findGroups_18 : decode cX5_findGroups 18 = .ok (.goto (-16), 3) := by decide +kernel
theorem dX5_findGroups_21 : decode cX5_findGroups 21 = .ok (.iconst 1, 1) := by decide +kernel
theorem dX5_findGroups_22 : decode cX5_findGroups 22 = .ok (.istore_n 1, 1) := by decide +kernel
theorem dX5_findGroups_23 : decode cX5_findGroups 23 = .ok (.iload_n 1, 1) := by decide +kernel
theorem dX5_findGroups_24 : decode cX5_findGroups 24 = .ok (.ifCond .eq 166, 3) := by decide +kernel
theorem dX5_findGroups_27 : decode cX5_findGroups 27 = .ok (.iconst 0, 1) := by decide +kernel
theorem dX5_findGroups_28 : decode cX5_findGroups 28 = .ok (.istore_n 1, 1) := by decide +kernel
theorem dX5_findGroups_29 : decode cX5_findGroups 29 = .ok (.iconst 0, 1) := by decide +kernel
theorem dX5_findGroups_30 : decode cX5_findGroups 30 = .ok (.istore_n 2, 1) := by decide +kernel
theorem dX5_findGroups_31 : decode cX5_findGroups 31 = .ok (.iload_n 2, 1) := by decide +kernel
theorem dX5_findGroups_32 : decode cX5_findGroups 32 = .ok (.bipush 16, 2) := by decide +kernel
theorem dX5_findGroups_34 : decode cX5_findGroups 34 = .ok (.if_icmp .ge 153, 3) := by decide +kernel
theorem dX5_findGroups_37 : decode cX5_findGroups 37 = .ok (.iconst 0, 1) := by decide +kernel
theorem dX5_findGroups_38 : decode cX5_findGroups 38 = .ok (.istore_n 3, 1) := by decide +kernel
theorem dX5_findGroups_39 : decode cX5_findGroups 39 = .ok (.iload_n 3, 1) := by decide +kernel
theorem dX5_findGroups_40 : decode cX5_findGroups 40 = .ok (.aload_n 0, 1) := by decide +kernel
theorem dX5_findGroups_41 : decode cX5_findGroups 41 = .ok (.getfield 25, 3) := by decide +kernel
theorem dX5_findGroups_44 : decode cX5_findGroups 44 = .ok (.iload_n 2, 1) := by decide +kernel
theorem dX5_findGroups_45 : decode cX5_findGroups 45 = .ok (.iaload, 1) := by decide +kernel
theorem dX5_findGroups_46 : decode cX5_findGroups 46 = .ok (.if_icmp .ge 135, 3) := by decide +kernel
theorem dX5_findGroups_49 : decode cX5_findGroups 49 = .ok (.aload_n 0, 1) := by decide +kernel
theorem dX5_findGroups_50 : decode cX5_findGroups 50 = .ok (.getfield 37, 3) := by decide +kernel
theorem dX5_findGroups_53 : decode cX5_findGroups 53 = .ok (.bipush 6, 2) := by decide +kernel
theorem dX5_findGroups_55 : decode cX5_findGroups 55 = .ok (.iload_n 2, 1) := by decide +kernel
theorem dX5_findGroups_56 : decode cX5_findGroups 56 = .ok (.imul, 1) := by decide +kernel
theorem dX5_findGroups_57 : decode cX5_findGroups 57 = .ok (.iload_n 3, 1) := by decide +kernel
theorem dX5_findGroups_58 : decode cX5_findGroups 58 = .ok (.iadd, 1) := by decide +kernel
theorem dX5_findGroups_59 : decode cX5_findGroups 59 = .ok (.iaload, 1) := by decide +kernel
theorem dX5_findGroups_60 : decode cX5_findGroups 60 = .ok (.istore 4, 2) := by decide +kernel
theorem dX5_findGroups_62 : decode cX5_findGroups 62 = .ok (.iload 4, 2) := by decide +kernel
theorem dX5_findGroups_64 : decode cX5_findGroups 64 = .ok (.ifCond .lt 111, 3) := by decide +kernel
theorem dX5_findGroups_67 : decode cX5_findGroups 67 = .ok (.aload_n 0, 1) := by decide +kernel
theorem dX5_findGroups_68 : decode cX5_findGroups 68 = .ok (.getfield 31, 3) := by decide +kernel
theorem dX5_findGroups_71 : decode cX5_findGroups 71 = .ok (.bipush 6, 2) := by decide +kernel
theorem dX5_findGroups_73 : decode cX5_findGroups 73 = .ok (.iload_n 2, 1) := by decide +kernel
theorem dX5_findGroups_74 : decode cX5_findGroups 74 = .ok (.imul, 1) := by decide +kernel
theorem dX5_findGroups_75 : decode cX5_findGroups 75 = .ok (.iload_n 3, 1) := by decide +kernel
theorem dX5_findGroups_76 : decode cX5_findGroups 76 = .ok (.iadd, 1) := by decide +kernel
theorem dX5_findGroups_77 : decode cX5_findGroups 77 = .ok (.iaload, 1) := by decide +kernel
theorem dX5_findGroups_78 : decode cX5_findGroups 78 = .ok (.istore 5, 2) := by decide +kernel
theorem dX5_findGroups_80 : decode cX5_findGroups 80 = .ok (.aload_n 0, 1) := by decide +kernel
theorem dX5_findGroups_81 : decode cX5_findGroups 81 = .ok (.getfield 31, 3) := by decide +kernel
theorem dX5_findGroups_84 : decode cX5_findGroups 84 = .ok (.bipush 6, 2) := by decide +kernel
theorem dX5_findGroups_86 : decode cX5_findGroups 86 = .ok (.iload_n 2, 1) := by decide +kernel
theorem dX5_findGroups_87 : decode cX5_findGroups 87 = .ok (.imul, 1) := by decide +kernel
theorem dX5_findGroups_88 : decode cX5_findGroups 88 = .ok (.iload 4, 2) := by decide +kernel
theorem dX5_findGroups_90 : decode cX5_findGroups 90 = .ok (.iadd, 1) := by decide +kernel
theorem dX5_findGroups_91 : decode cX5_findGroups 91 = .ok (.iaload, 1) := by decide +kernel
theorem dX5_findGroups_92 : decode cX5_findGroups 92 = .ok (.istore 6, 2) := by decide +kernel
theorem dX5_findGroups_94 : decode cX5_findGroups 94 = .ok (.iload_n 1, 1) := by decide +kernel
theorem dX5_findGroups_95 : decode cX5_findGroups 95 = .ok (.ifCond .ne 20, 3) := by decide +kernel
theorem dX5_findGroups_98 : decode cX5_findGroups 98 = .ok (.aload_n 0, 1) := by decide +kernel
theorem dX5_findGroups_99 : decode cX5_findGroups 99 = .ok (.getfield 40, 3) := by decide +kernel
theorem dX5_findGroups_102 : decode cX5_findGroups 102 = .ok (.iload 5, 2) := by decide +kernel
theorem dX5_findGroups_104 : decode cX5_findGroups 104 = .ok (.iaload, 1) := by decide +kernel
theorem dX5_findGroups_105 : decode cX5_findGroups 105 = .ok (.aload_n 0, 1) := by decide +kernel
theorem dX5_findGroups_106 : decode cX5_findGroups 106 = .ok (.getfield 40, 3) := by decide +kernel
theorem dX5_findGroups_109 : decode cX5_findGroups 109 = .ok (.iload 6, 2) := by decide +kernel
theorem dX5_findGroups_111 : decode cX5_findGroups 111 = .ok (.iaload, 1) := by decide +kernel
theorem dX5_findGroups_112 : decode cX5_findGroups 112 = .ok (.if_icmp .eq 7, 3) := by decide +kernel
theorem dX5_findGroups_115 : decode cX5_findGroups 115 = .ok (.iconst 1, 1) := by decide +kernel
theorem dX5_findGroups_116 : decode cX5_findGroups 116 = .ok (.goto 4, 3) := by decide +kernel
theorem dX5_findGroups_119 : decode cX5_findGroups 119 = .ok (.iconst 0, 1) := by decide +kernel
theorem dX5_findGroups_120 : decode cX5_findGroups 120 = .ok (.istore_n 1, 1) := by decide +kernel
theorem dX5_findGroups_121 : decode cX5_findGroups 121 = .ok (.aload_n 0, 1) := by decide +kernel
theorem dX5_findGroups_122 : decode cX5_findGroups 122 = .ok (.getfield 40, 3) := by decide +kernel
theorem dX5_findGroups_125 : decode cX5_findGroups 125 = .ok (.iload 5, 2) := by decide +kernel
theorem dX5_findGroups_127 : decode cX5_findGroups 127 = .ok (.iaload, 1) := by decide +kernel
theorem dX5_findGroups_128 : decode cX5_findGroups 128 = .ok (.aload_n 0, 1) := by decide +kernel
theorem dX5_findGroups_129 : decode cX5_findGroups 129 = .ok (.getfield 40, 3) := by decide +kernel
theorem dX5_findGroups_132 : decode cX5_findGroups 132 = .ok (.iload 6, 2) := by decide +kernel
theorem dX5_findGroups_134 : decode cX5_findGroups 134 = .ok (.iaload, 1) := by decide +kernel
theorem dX5_findGroups_135 : decode cX5_findGroups 135 = .ok (.if_icmp .ge 13, 3) := by decide +kernel
theorem dX5_findGroups_138 : decode cX5_findGroups 138 = .ok (.aload_n 0, 1) := by decide +kernel
theorem dX5_findGroups_139 : decode cX5_findGroups 139 = .ok (.getfield 40, 3) := by decide +kernel
theorem dX5_findGroups_142 : decode cX5_findGroups 142 = .ok (.iload 5, 2) := by decide +kernel
theorem dX5_findGroups_144 : decode cX5_findGroups 144 = .ok (.iaload, 1) := by decide +kernel
theorem dX5_findGroups_145 : decode cX5_findGroups 145 = .ok (.goto 10, 3) := by decide +kernel
theorem dX5_findGroups_148 : decode cX5_findGroups 148 = .ok (.aload_n 0, 1) := by decide +kernel
theorem dX5_findGroups_149 : decode cX5_findGroups 149 = .ok (.getfield 40, 3) := by decide +kernel
theorem dX5_findGroups_152 : decode cX5_findGroups 152 = .ok (.iload 6, 2) := by decide +kernel
theorem dX5_findGroups_154 : decode cX5_findGroups 154 = .ok (.iaload, 1) := by decide +kernel
theorem dX5_findGroups_155 : decode cX5_findGroups 155 = .ok (.istore 7, 2) := by decide +kernel
theorem dX5_findGroups_157 : decode cX5_findGroups 157 = .ok (.aload_n 0, 1) := by decide +kernel
theorem dX5_findGroups_158 : decode cX5_findGroups 158 = .ok (.getfield 40, 3) := by decide +kernel
theorem dX5_findGroups_161 : decode cX5_findGroups 161 = .ok (.iload 5, 2) := by decide +kernel
theorem dX5_findGroups_163 : decode cX5_findGroups 163 = .ok (.iload 7, 2) := by decide +kernel
theorem dX5_findGroups_165 : decode cX5_findGroups 165 = .ok (.iastore, 1) := by decide +kernel
theorem dX5_findGroups_166 : decode cX5_findGroups 166 = .ok (.aload_n 0, 1) := by decide +kernel
theorem dX5_findGroups_167 : decode cX5_findGroups 167 = .ok (.getfield 40, 3) := by decide +kernel
theorem dX5_findGroups_170 : decode cX5_findGroups 170 = .ok (.iload 6, 2) := by decide +kernel
theorem dX5_findGroups_172 : decode cX5_findGroups 172 = .ok (.iload 7, 2) := by decide +kernel
theorem dX5_findGroups_174 : decode cX5_findGroups 174 = .ok (.iastore, 1) := by decide +kernel
theorem dX5_findGroups_175 : decode cX5_findGroups 175 = .ok (.iinc 3 1, 3) := by decide +kernel
theorem dX5_findGroups_178 : decode cX5_findGroups 178 = .ok (.goto (-139), 3) := by decide +kernel
theorem dX5_findGroups_181 : decode cX5_findGroups 181 = .ok (.iinc 2 1, 3) := by decide +kernel
theorem dX5_findGroups_184 : decode cX5_findGroups 184 = .ok (.goto (-153), 3) := by decide +kernel
theorem dX5_findGroups_187 : decode cX5_findGroups 187 = .ok (.goto (-164), 3) := by decide +kernel
theorem dX5_findGroups_190 : decode cX5_findGroups 190 = .ok (.return_, 1) := by decide +kernel
theorem dX5_group_0 : decode cX5_group 0 = .ok (.aload_n 0, 1) := by decide +kernel
theorem dX5_group_1 : decode cX5_group 1 = .ok (.iload_n 1, 1) := by decide +kernel
theorem dX5_group_2 : decode cX5_group 2 = .ok (.iconst 0, 1) := by decide +kernel
theorem dX5_group_3 : decode cX5_group 3 = .ok (.bipush 7, 2) := by decide +kernel
theorem dX5_group_5 : decode cX5_group 5 = .ok (.invokestatic 112, 3) := by decide +kernel
theorem dX5_group_8 : decode cX5_group 8 = .ok (.ifCond .ne 7, 3) := by decide +kernel
theorem dX5_group_11 : decode cX5_group 11 = .ok (.iconst 1, 1) := by decide +kernel
theorem dX5_group_12 : decode cX5_group 12 = .ok (.goto 4, 3) := by decide +kernel
theorem dX5_group_15 : decode cX5_group 15 = .ok (.iconst 0, 1) := by decide +kernel
theorem dX5_group_16 : decode cX5_group 16 = .ok (.iconst 0, 1) := by decide +kernel
theorem dX5_group_17 : decode cX5_group 17 = .ok (.iconst 0, 1) := by decide +kernel
theorem dX5_group_18 : decode cX5_group 18 = .ok (.invokevirtual 124, 3) := by decide +kernel
theorem dX5_group_21 : decode cX5_group 21 = .ok (.ifCond .eq 5, 3) := by decide +kernel
theorem dX5_group_24 : decode cX5_group 24 = .ok (.iconst 0, 1) := by decide +kernel
theorem dX5_group_25 : decode cX5_group 25 = .ok (.ireturn, 1) := by decide +kernel
theorem dX5_group_26 : decode cX5_group 26 = .ok (.aload_n 0, 1) := by decide +kernel
theorem dX5_group_27 : decode cX5_group 27 = .ok (.invokevirtual 139, 3) := by decide +kernel
theorem dX5_group_30 : decode cX5_group 30 = .ok (.aload_n 0, 1) := by decide +kernel
theorem dX5_group_31 : decode cX5_group 31 = .ok (.getfield 40, 3) := by decide +kernel
theorem dX5_group_34 : decode cX5_group 34 = .ok (.iload_n 1, 1) := by decide +kernel
theorem dX5_group_35 : decode cX5_group 35 = .ok (.iaload, 1) := by decide +kernel
theorem dX5_group_36 : decode cX5_group 36 = .ok (.ireturn, 1) := by decide +kernel
theorem dX5_isOuter_0 : decode cX5_isOuter 0 = .ok (.aload_n 0, 1) := by decide +kernel
theorem dX5_isOuter_1 : decode cX5_isOuter 1 = .ok (.getfield 37, 3) := by decide +kernel
theorem dX5_isOuter_4 : decode cX5_isOuter 4 = .ok (.bipush 6, 2) := by decide +kernel
theorem dX5_isOuter_6 : decode cX5_isOuter 6 = .ok (.iload_n 1, 1) := by decide +kernel
theorem dX5_isOuter_7 : decode cX5_isOuter 7 = .ok (.imul, 1) := by decide +kernel
theorem dX5_isOuter_8 : decode cX5_isOuter 8 = .ok (.iload_n 2, 1) := by decide +kernel
theorem dX5_isOuter_9 : decode cX5_isOuter 9 = .ok (.iadd, 1) := by decide +kernel
theorem dX5_isOuter_10 : decode cX5_isOuter 10 = .ok (.iaload, 1) := by decide +kernel
theorem dX5_isOuter_11 : decode cX5_isOuter 11 = .ok (.iconst (-1), 1) := by decide +kernel
theorem dX5_isOuter_12 : decode cX5_isOuter 12 = .ok (.if_icmp .ne 7, 3) := by decide +kernel
theorem dX5_isOuter_15 : decode cX5_isOuter 15 = .ok (.iconst 1, 1) := by decide +kernel
theorem dX5_isOuter_16 : decode cX5_isOuter 16 = .ok (.goto 4, 3) := by decide +kernel
theorem dX5_isOuter_19 : decode cX5_isOuter 19 = .ok (.iconst 0, 1) := by decide +kernel
theorem dX5_isOuter_20 : decode cX5_isOuter 20 = .ok (.ireturn, 1) := by decide +kernel
theorem dX5_spinOf_0 : decode cX5_spinOf 0 = .ok (.iconst 0, 1) := by decide +kernel
theorem dX5_spinOf_1 : decode cX5_spinOf 1 = .ok (.istore_n 3, 1) := by decide +kernel
theorem dX5_spinOf_2 : decode cX5_spinOf 2 = .ok (.iconst 0, 1) := by decide +kernel
theorem dX5_spinOf_3 : decode cX5_spinOf 3 = .ok (.istore 4, 2) := by decide +kernel
theorem dX5_spinOf_5 : decode cX5_spinOf 5 = .ok (.iload 4, 2) := by decide +kernel
theorem dX5_spinOf_7 : decode cX5_spinOf 7 = .ok (.iconst 4, 1) := by decide +kernel
theorem dX5_spinOf_8 : decode cX5_spinOf 8 = .ok (.if_icmp .ge 175, 3) := by decide +kernel
theorem dX5_spinOf_11 : decode cX5_spinOf 11 = .ok (.iconst 0, 1) := by decide +kernel
theorem dX5_spinOf_12 : decode cX5_spinOf 12 = .ok (.istore 5, 2) := by decide +kernel
theorem dX5_spinOf_14 : decode cX5_spinOf 14 = .ok (.iconst 0, 1) := by decide +kernel
theorem dX5_spinOf_15 : decode cX5_spinOf 15 = .ok (.istore 6, 2) := by decide +kernel
theorem dX5_spinOf_17 : decode cX5_spinOf 17 = .ok (.iload 6, 2) := by decide +kernel
theorem dX5_spinOf_19 : decode cX5_spinOf 19 = .ok (.bipush 16, 2) := by decide +kernel
theorem dX5_spinOf_21 : decode cX5_spinOf 21 = .ok (.if_icmp .ge 151, 3) := by decide +kernel
theorem dX5_spinOf_24 : decode cX5_spinOf 24 = .ok (.iconst 0, 1) := by decide +kernel
theorem dX5_spinOf_25 : decode cX5_spinOf 25 = .ok (.istore 7, 2) := by decide +kernel
theorem dX5_spinOf_27 : decode cX5_spinOf 27 = .ok (.iload 7, 2) := by decide +kernel
theorem dX5_spinOf_29 : decode cX5_spinOf 29 = .ok (.aload_n 0, 1) := by decide +kernel
theorem dX5_spinOf_30 : decode cX5_spinOf 30 = .ok (.getfield 25, 3) := by decide +kernel
theorem dX5_spinOf_33 : decode cX5_spinOf 33 = .ok (.iload 6, 2) := by decide +kernel
theorem dX5_spinOf_35 : decode cX5_spinOf 35 = .ok (.iaload, 1) := by decide +kernel
theorem dX5_spinOf_36 : decode cX5_spinOf 36 = .ok (.if_icmp .ge 130, 3) := by decide +kernel
theorem dX5_spinOf_39 : decode cX5_spinOf 39 = .ok (.aload_n 0, 1) := by decide +kernel
theorem dX5_spinOf_40 : decode cX5_spinOf 40 = .ok (.getfield 7, 3) := by decide +kernel
theorem dX5_spinOf_43 : decode cX5_spinOf 43 = .ok (.iload 6, 2) := by decide +kernel
theorem dX5_spinOf_45 : decode cX5_spinOf 45 = .ok (.iaload, 1) := by decide +kernel
theorem dX5_spinOf_46 : decode cX5_spinOf 46 = .ok (.iload 4, 2) := by decide +kernel
theorem dX5_spinOf_48 : decode cX5_spinOf 48 = .ok (.if_icmp .ne 118, 3) := by decide +kernel
theorem dX5_spinOf_51 : decode cX5_spinOf 51 = .ok (.iload 4, 2) := by decide +kernel
theorem dX5_spinOf_53 : decode cX5_spinOf 53 = .ok (.aload_n 0, 1) := by decide +kernel
theorem dX5_spinOf_54 : decode cX5_spinOf 54 = .ok (.getfield 7, 3) := by decide +kernel
theorem dX5_spinOf_57 : decode cX5_spinOf 57 = .ok (.iload_n 1, 1) := by decide +kernel
theorem dX5_spinOf_58 : decode cX5_spinOf 58 = .ok (.iaload, 1) := by decide +kernel
theorem dX5_spinOf_59 : decode cX5_spinOf 59 = .ok (.if_icmp .eq 107, 3) := by decide +kernel
theorem dX5_spinOf_62 : decode cX5_spinOf 62 = .ok (.aload_n 0, 1) := by decide +kernel
theorem dX5_spinOf_63 : decode cX5_spinOf 63 = .ok (.iload 6, 2) := by decide +kernel
theorem dX5_spinOf_65 : decode cX5_spinOf 65 = .ok (.iload 7, 2) := by decide +kernel
theorem dX5_spinOf_67 : decode cX5_spinOf 67 = .ok (.invokevirtual 142, 3) := by decide +kernel
theorem dX5_spinOf_70 : decode cX5_spinOf 70 = .ok (.ifCond .eq 44, 3) := by decide +kernel
theorem dX5_spinOf_73 : decode cX5_spinOf 73 = .ok (.aload_n 0, 1) := by decide +kernel
theorem dX5_spinOf_74 : decode cX5_spinOf 74 = .ok (.getfield 40, 3) := by decide +kernel
theorem dX5_spinOf_77 : decode cX5_spinOf 77 = .ok (.aload_n 0, 1) := by decide +kernel
theorem dX5_spinOf_78 : decode cX5_spinOf 78 = .ok (.getfield 31, 3) := by decide +kernel
theorem dX5_spinOf_81 : decode cX5_spinOf 81 = .ok (.bipush 6, 2) := by decide +kernel
theorem dX5_spinOf_83 : decode cX5_spinOf 83 = .ok (.iload 6, 2) := by decide +kernel
theorem dX5_spinOf_85 : decode cX5_spinOf 85 = .ok (.imul, 1) := by decide +kernel
theorem dX5_spinOf_86 : decode cX5_spinOf 86 = .ok (.iload 7, 2) := by decide +kernel
theorem dX5_spinOf_88 : decode cX5_spinOf 88 = .ok (.iadd, 1) := by decide +kernel
theorem dX5_spinOf_89 : decode cX5_spinOf 89 = .ok (.iaload, 1) := by decide +kernel
theorem dX5_spinOf_90 : decode cX5_spinOf 90 = .ok (.iaload, 1) := by decide +kernel
theorem dX5_spinOf_91 : decode cX5_spinOf 91 = .ok (.aload_n 0, 1) := by decide +kernel
theorem dX5_spinOf_92 : decode cX5_spinOf 92 = .ok (.getfield 40, 3) := by decide +kernel
theorem dX5_spinOf_95 : decode cX5_spinOf 95 = .ok (.aload_n 0, 1) := by decide +kernel
theorem dX5_spinOf_96 : decode cX5_spinOf 96 = .ok (.getfield 31, 3) := by decide +kernel
theorem dX5_spinOf_99 : decode cX5_spinOf 99 = .ok (.bipush 6, 2) := by decide +kernel
theorem dX5_spinOf_101 : decode cX5_spinOf 101 = .ok (.iload_n 1, 1) := by decide +kernel
theorem dX5_spinOf_102 : decode cX5_spinOf 102 = .ok (.imul, 1) := by decide +kernel
theorem dX5_spinOf_103 : decode cX5_spinOf 103 = .ok (.iload_n 2, 1) := by decide +kernel
theorem dX5_spinOf_104 : decode cX5_spinOf 104 = .ok (.iadd, 1) := by decide +kernel
theorem dX5_spinOf_105 : decode cX5_spinOf 105 = .ok (.iaload, 1) := by decide +kernel
theorem dX5_spinOf_106 : decode cX5_spinOf 106 = .ok (.iaload, 1) := by decide +kernel
theorem dX5_spinOf_107 : decode cX5_spinOf 107 = .ok (.if_icmp .ne 7, 3) := by decide +kernel
theorem dX5_spinOf_110 : decode cX5_spinOf 110 = .ok (.iconst 1, 1) := by decide +kernel
theorem dX5_spinOf_111 : decode cX5_spinOf 111 = .ok (.goto 4, 3) := by decide +kernel
theorem dX5_spinOf_114 : decode cX5_spinOf 114 = .ok (.iconst 0, 1) := by decide +kernel
theorem dX5_spinOf_115 : decode cX5_spinOf 115 = .ok (.istore 8, 2) := by decide +kernel
theorem dX5_spinOf_117 : decode cX5_spinOf 117 = .ok (.iload 8, 2) := by decide +kernel
theorem dX5_spinOf_119 : decode cX5_spinOf 119 = .ok (.ifCond .eq 37, 3) := by decide +kernel
theorem dX5_spinOf_122 : decode cX5_spinOf 122 = .ok (.aload_n 0, 1) := by decide +kernel
theorem dX5_spinOf_123 : decode cX5_spinOf 123 = .ok (.getfield 34, 3) := by decide +kernel
theorem dX5_spinOf_126 : decode cX5_spinOf 126 = .ok (.bipush 6, 2) := by decide +kernel
theorem dX5_spinOf_128 : decode cX5_spinOf 128 = .ok (.iload 6, 2) := by decide +kernel
theorem dX5_spinOf_130 : decode cX5_spinOf 130 = .ok (.imul, 1) := by decide +kernel
theorem dX5_spinOf_131 : decode cX5_spinOf 131 = .ok (.iload 7, 2) := by decide +kernel
theorem dX5_spinOf_133 : decode cX5_spinOf 133 = .ok (.iadd, 1) := by decide +kernel
theorem dX5_spinOf_134 : decode cX5_spinOf 134 = .ok (.iaload, 1) := by decide +kernel
theorem dX5_spinOf_135 : decode cX5_spinOf 135 = .ok (.iload 5, 2) := by decide +kernel
theorem dX5_spinOf_137 : decode cX5_spinOf 137 = .ok (.if_icmp .le 19, 3) := by decide +kernel
theorem dX5_spinOf_140 : decode cX5_spinOf 140 = .ok (.aload_n 0, 1) := by decide +kernel
theorem dX5_spinOf_141 : decode cX5_spinOf 141 = .ok (.getfield 34, 3) := by decide +kernel
theorem dX5_spinOf_144 : decode cX5_spinOf 144 = .ok (.bipush 6, 2) := by decide +kernel
theorem dX5_spinOf_146 : decode cX5_spinOf 146 = .ok (.iload 6, 2) := by decide +kernel
theorem dX5_spinOf_148 : decode cX5_spinOf 148 = .ok (.imul, 1) := by decide +kernel
theorem dX5_spinOf_149 : decode cX5_spinOf 149 = .ok (.iload 7, 2) := by decide +kernel
theorem dX5_spinOf_151 : decode cX5_spinOf 151 = .ok (.iadd, 1) := by decide +kernel
theorem dX5_spinOf_152 : decode cX5_spinOf 152 = .ok (.iaload, 1) := by decide +kernel
theorem dX5_spinOf_153 : decode cX5_spinOf 153 = .ok (.goto 5, 3) := by decide +kernel
theorem dX5_spinOf_156 : decode cX5_spinOf 156 = .ok (.iload 5, 2) := by decide +kernel
theorem dX5_spinOf_158 : decode cX5_spinOf 158 = .ok (.istore 5, 2) := by decide +kernel
theorem dX5_spinOf_160 : decode cX5_spinOf 160 = .ok (.iinc 7 1, 3) := by decide +kernel
theorem dX5_spinOf_163 : decode cX5_spinOf 163 = .ok (.goto (-136), 3) := by decide +kernel
theorem dX5_spinOf_166 : decode cX5_spinOf 166 = .ok (.iinc 6 1, 3) := by decide +kernel
theorem dX5_spinOf_169 : decode cX5_spinOf 169 = .ok (.goto (-152), 3) := by decide +kernel
theorem dX5_spinOf_172 : decode cX5_spinOf 172 = .ok (.iload_n 3, 1) := by decide +kernel
theorem dX5_spinOf_173 : decode cX5_spinOf 173 = .ok (.iload 5, 2) := by decide +kernel
theorem dX5_spinOf_175 : decode cX5_spinOf 175 = .ok (.iadd, 1) := by decide +kernel
theorem dX5_spinOf_176 : decode cX5_spinOf 176 = .ok (.istore_n 3, 1) := by decide +kernel
theorem dX5_spinOf_177 : decode cX5_spinOf 177 = .ok (.iinc 4 1, 3) := by decide +kernel
theorem dX5_spinOf_180 : decode cX5_spinOf 180 = .ok (.goto (-175), 3) := by decide +kernel
theorem dX5_spinOf_183 : decode cX5_spinOf 183 = .ok (.iload_n 3, 1) := by decide +kernel
theorem dX5_spinOf_184 : decode cX5_spinOf 184 = .ok (.ireturn, 1) := by decide +kernel
theorem dX5_spin_0 : decode cX5_spin 0 = .ok (.aload_n 0, 1) := by decide +kernel
theorem dX5_spin_1 : decode cX5_spin 1 = .ok (.aload_n 0, 1) := by decide +kernel
theorem dX5_spin_2 : decode cX5_spin 2 = .ok (.iload_n 1, 1) := by decide +kernel
theorem dX5_spin_3 : decode cX5_spin 3 = .ok (.iload_n 2, 1) := by decide +kernel
theorem dX5_spin_4 : decode cX5_spin 4 = .ok (.invokevirtual 132, 3) := by decide +kernel
theorem dX5_spin_7 : decode cX5_spin 7 = .ok (.ifCond .ne 7, 3) := by decide +kernel
theorem dX5_spin_10 : decode cX5_spin 10 = .ok (.iconst 1, 1) := by decide +kernel
theorem dX5_spin_11 : decode cX5_spin 11 = .ok (.goto 4, 3) := by decide +kernel
theorem dX5_spin_14 : decode cX5_spin 14 = .ok (.iconst 0, 1) := by decide +kernel
theorem dX5_spin_15 : decode cX5_spin 15 = .ok (.iconst 0, 1) := by decide +kernel
theorem dX5_spin_16 : decode cX5_spin 16 = .ok (.iconst 0, 1) := by decide +kernel
theorem dX5_spin_17 : decode cX5_spin 17 = .ok (.invokevirtual 124, 3) := by decide +kernel
theorem dX5_spin_20 : decode cX5_spin 20 = .ok (.ifCond .eq 5, 3) := by decide +kernel
theorem dX5_spin_23 : decode cX5_spin 23 = .ok (.iconst 0, 1) := by decide +kernel
theorem dX5_spin_24 : decode cX5_spin 24 = .ok (.ireturn, 1) := by decide +kernel
theorem dX5_spin_25 : decode cX5_spin 25 = .ok (.aload_n 0, 1) := by decide +kernel
theorem dX5_spin_26 : decode cX5_spin 26 = .ok (.invokevirtual 139, 3) := by decide +kernel
theorem dX5_spin_29 : decode cX5_spin 29 = .ok (.aload_n 0, 1) := by decide +kernel
theorem dX5_spin_30 : decode cX5_spin 30 = .ok (.iload_n 1, 1) := by decide +kernel
theorem dX5_spin_31 : decode cX5_spin 31 = .ok (.iload_n 2, 1) := by decide +kernel
theorem dX5_spin_32 : decode cX5_spin 32 = .ok (.invokevirtual 142, 3) := by decide +kernel
theorem dX5_spin_35 : decode cX5_spin 35 = .ok (.ifCond .eq 12, 3) := by decide +kernel
theorem dX5_spin_38 : decode cX5_spin 38 = .ok (.aload_n 0, 1) := by decide +kernel
theorem dX5_spin_39 : decode cX5_spin 39 = .ok (.iload_n 1, 1) := by decide +kernel
theorem dX5_spin_40 : decode cX5_spin 40 = .ok (.iload_n 2, 1) := by decide +kernel
theorem dX5_spin_41 : decode cX5_spin 41 = .ok (.invokevirtual 145, 3) := by decide +kernel
theorem dX5_spin_44 : decode cX5_spin 44 = .ok (.goto 4, 3) := by decide +kernel
theorem dX5_spin_47 : decode cX5_spin 47 = .ok (.iconst 0, 1) := by decide +kernel
theorem dX5_spin_48 : decode cX5_spin 48 = .ok (.ireturn, 1) := by decide +kernel
theorem dX5_inflated_0 : decode cX5_inflated 0 = .ok (.aload_n 0, 1) := by decide +kernel
theorem dX5_inflated_1 : decode cX5_inflated 1 = .ok (.getfield 22, 3) := by decide +kernel
theorem dX5_inflated_4 : decode cX5_inflated 4 = .ok (.iload_n 1, 1) := by decide +kernel
theorem dX5_inflated_5 : decode cX5_inflated 5 = .ok (.iaload, 1) := by decide +kernel
theorem dX5_inflated_6 : decode cX5_inflated 6 = .ok (.istore_n 2, 1) := by decide +kernel
theorem dX5_inflated_7 : decode cX5_inflated 7 = .ok (.iconst 0, 1) := by decide +kernel
theorem dX5_inflated_8 : decode cX5_inflated 8 = .ok (.istore_n 3, 1) := by decide +kernel
theorem dX5_inflated_9 : decode cX5_inflated 9 = .ok (.iload_n 3, 1) := by decide +kernel
theorem dX5_inflated_10 : decode cX5_inflated 10 = .ok (.aload_n 0, 1) := by decide +kernel
theorem dX5_inflated_11 : decode cX5_inflated 11 = .ok (.getfield 25, 3) := by decide +kernel
theorem dX5_inflated_14 : decode cX5_inflated 14 = .ok (.iload_n 1, 1) := by decide +kernel
theorem dX5_inflated_15 : decode cX5_inflated 15 = .ok (.iaload, 1) := by decide +kernel
theorem dX5_inflated_16 : decode cX5_inflated 16 = .ok (.if_icmp .ge 43, 3) := by decide +kernel
theorem dX5_inflated_19 : decode cX5_inflated 19 = .ok (.aload_n 0, 1) := by decide +kernel
theorem dX5_inflated_20 : decode cX5_inflated 20 = .ok (.iload_n 1, 1) := by decide +kernel
theorem dX5_inflated_21 : decode cX5_inflated 21 = .ok (.iload_n 3, 1) := by decide +kernel
theorem dX5_inflated_22 : decode cX5_inflated 22 = .ok (.invokevirtual 142, 3) := by decide +kernel
theorem dX5_inflated_25 : decode cX5_inflated 25 = .ok (.ifCond .eq 26, 3) := by decide +kernel
theorem dX5_inflated_28 : decode cX5_inflated 28 = .ok (.iload_n 2, 1) := by decide +kernel
theorem dX5_inflated_29 : decode cX5_inflated 29 = .ok (.aload_n 0, 1) := by decide +kernel
theorem dX5_inflated_30 : decode cX5_inflated 30 = .ok (.getfield 34, 3) := by decide +kernel
theorem dX5_inflated_33 : decode cX5_inflated 33 = .ok (.bipush 6, 2) := by decide +kernel
theorem dX5_inflated_35 : decode cX5_inflated 35 = .ok (.iload_n 1, 1) := by decide +kernel
theorem dX5_inflated_36 : decode cX5_inflated 36 = .ok (.imul, 1) := by decide +kernel
theorem dX5_inflated_37 : decode cX5_inflated 37 = .ok (.iload_n 3, 1) := by decide +kernel
theorem dX5_inflated_38 : decode cX5_inflated 38 = .ok (.iadd, 1) := by decide +kernel
theorem dX5_inflated_39 : decode cX5_inflated 39 = .ok (.iaload, 1) := by decide +kernel
theorem dX5_inflated_40 : decode cX5_inflated 40 = .ok (.iadd, 1) := by decide +kernel
theorem dX5_inflated_41 : decode cX5_inflated 41 = .ok (.aload_n 0, 1) := by decide +kernel
theorem dX5_inflated_42 : decode cX5_inflated 42 = .ok (.iload_n 1, 1) := by decide +kernel
theorem dX5_inflated_43 : decode cX5_inflated 43 = .ok (.iload_n 3, 1) := by decide +kernel
theorem dX5_inflated_44 : decode cX5_inflated 44 = .ok (.invokevirtual 145, 3) := by decide +kernel
theorem dX5_inflated_47 : decode cX5_inflated 47 = .ok (.iadd, 1) := by decide +kernel
theorem dX5_inflated_48 : decode cX5_inflated 48 = .ok (.goto 4, 3) := by decide +kernel
theorem dX5_inflated_51 : decode cX5_inflated 51 = .ok (.iload_n 2, 1) := by decide +kernel
theorem dX5_inflated_52 : decode cX5_inflated 52 = .ok (.istore_n 2, 1) := by decide +kernel
theorem dX5_inflated_53 : decode cX5_inflated 53 = .ok (.iinc 3 1, 3) := by decide +kernel
theorem dX5_inflated_56 : decode cX5_inflated 56 = .ok (.goto (-47), 3) := by decide +kernel
theorem dX5_inflated_59 : decode cX5_inflated 59 = .ok (.iload_n 2, 1) := by decide +kernel
theorem dX5_inflated_60 : decode cX5_inflated 60 = .ok (.ireturn, 1) := by decide +kernel
theorem dX5_blocking_0 : decode cX5_blocking 0 = .ok (.iconst 0, 1) := by decide +kernel
theorem dX5_blocking_1 : decode cX5_blocking 1 = .ok (.istore_n 2, 1) := by decide +kernel
theorem dX5_blocking_2 : decode cX5_blocking 2 = .ok (.iconst 0, 1) := by decide +kernel
theorem dX5_blocking_3 : decode cX5_blocking 3 = .ok (.istore_n 3, 1) := by decide +kernel
theorem dX5_blocking_4 : decode cX5_blocking 4 = .ok (.iload_n 3, 1) := by decide +kernel
theorem dX5_blocking_5 : decode cX5_blocking 5 = .ok (.bipush 16, 2) := by decide +kernel
theorem dX5_blocking_7 : decode cX5_blocking 7 = .ok (.if_icmp .ge 110, 3) := by decide +kernel
theorem dX5_blocking_10 : decode cX5_blocking 10 = .ok (.iconst 0, 1) := by decide +kernel
theorem dX5_blocking_11 : decode cX5_blocking 11 = .ok (.istore 4, 2) := by decide +kernel
theorem dX5_blocking_13 : decode cX5_blocking 13 = .ok (.iload 4, 2) := by decide +kernel
theorem dX5_blocking_15 : decode cX5_blocking 15 = .ok (.aload_n 0, 1) := by decide +kernel
theorem dX5_blocking_16 : decode cX5_blocking 16 = .ok (.getfield 25, 3) := by decide +kernel
theorem dX5_blocking_19 : decode cX5_blocking 19 = .ok (.iload_n 3, 1) := by decide +kernel
theorem dX5_blocking_20 : decode cX5_blocking 20 = .ok (.iaload, 1) := by decide +kernel
theorem dX5_blocking_21 : decode cX5_blocking 21 = .ok (.if_icmp .ge 90, 3) := by decide +kernel
theorem dX5_blocking_24 : decode cX5_blocking 24 = .ok (.aload_n 0, 1) := by decide +kernel
theorem dX5_blocking_25 : decode cX5_blocking 25 = .ok (.getfield 7, 3) := by decide +kernel
theorem dX5_blocking_28 : decode cX5_blocking 28 = .ok (.iload_n 3, 1) := by decide +kernel
theorem dX5_blocking_29 : decode cX5_blocking 29 = .ok (.iaload, 1) := by decide +kernel
theorem dX5_blocking_30 : decode cX5_blocking 30 = .ok (.aload_n 0, 1) := by decide +kernel
theorem dX5_blocking_31 : decode cX5_blocking 31 = .ok (.getfield 7, 3) := by decide +kernel
theorem dX5_blocking_34 : decode cX5_blocking 34 = .ok (.iload_n 1, 1) := by decide +kernel
theorem dX5_blocking_35 : decode cX5_blocking 35 = .ok (.iaload, 1) := by decide +kernel
theorem dX5_blocking_36 : decode cX5_blocking 36 = .ok (.if_icmp .ne 75, 3) := by decide +kernel
theorem dX5_blocking_39 : decode cX5_blocking 39 = .ok (.aload_n 0, 1) := by decide +kernel
theorem dX5_blocking_40 : decode cX5_blocking 40 = .ok (.getfield 13, 3) := by decide +kernel
theorem dX5_blocking_43 : decode cX5_blocking 43 = .ok (.iload_n 3, 1) := by decide +kernel
theorem dX5_blocking_44 : decode cX5_blocking 44 = .ok (.iaload, 1) := by decide +kernel
theorem dX5_blocking_45 : decode cX5_blocking 45 = .ok (.aload_n 0, 1) := by decide +kernel
theorem dX5_blocking_46 : decode cX5_blocking 46 = .ok (.getfield 13, 3) := by decide +kernel
theorem dX5_blocking_49 : decode cX5_blocking 49 = .ok (.iload_n 1, 1) := by decide +kernel
theorem dX5_blocking_50 : decode cX5_blocking 50 = .ok (.iaload, 1) := by decide +kernel
theorem dX5_blocking_51 : decode cX5_blocking 51 = .ok (.if_icmp .ge 60, 3) := by decide +kernel
theorem dX5_blocking_54 : decode cX5_blocking 54 = .ok (.aload_n 0, 1) := by decide +kernel
theorem dX5_blocking_55 : decode cX5_blocking 55 = .ok (.iload_n 3, 1) := by decide +kernel
theorem dX5_blocking_56 : decode cX5_blocking 56 = .ok (.iload 4, 2) := by decide +kernel
theorem dX5_blocking_58 : decode cX5_blocking 58 = .ok (.invokevirtual 142, 3) := by decide +kernel
theorem dX5_blocking_61 : decode cX5_blocking 61 = .ok (.ifCond .eq 28, 3) := by decide +kernel
theorem dX5_blocking_64 : decode cX5_blocking 64 = .ok (.aload_n 0, 1) := by decide +kernel
theorem dX5_blocking_65 : decode cX5_blocking 65 = .ok (.getfield 34, 3) := by decide +kernel
theorem dX5_blocking_68 : decode cX5_blocking 68 = .ok (.bipush 6, 2) := by decide +kernel
theorem dX5_blocking_70 : decode cX5_blocking 70 = .ok (.iload_n 3, 1) := by decide +kernel
theorem dX5_blocking_71 : decode cX5_blocking 71 = .ok (.imul, 1) := by decide +kernel
theorem dX5_blocking_72 : decode cX5_blocking 72 = .ok (.iload 4, 2) := by decide +kernel
theorem dX5_blocking_74 : decode cX5_blocking 74 = .ok (.iadd, 1) := by decide +kernel
theorem dX5_blocking_75 : decode cX5_blocking 75 = .ok (.iaload, 1) := by decide +kernel
theorem dX5_blocking_76 : decode cX5_blocking 76 = .ok (.aload_n 0, 1) := by decide +kernel
theorem dX5_blocking_77 : decode cX5_blocking 77 = .ok (.iload_n 3, 1) := by decide +kernel
theorem dX5_blocking_78 : decode cX5_blocking 78 = .ok (.iload 4, 2) := by decide +kernel
theorem dX5_blocking_80 : decode cX5_blocking 80 = .ok (.invokevirtual 145, 3) := by decide +kernel
theorem dX5_blocking_83 : decode cX5_blocking 83 = .ok (.iadd, 1) := by decide +kernel
theorem dX5_blocking_84 : decode cX5_blocking 84 = .ok (.iconst 1, 1) := by decide +kernel
theorem dX5_blocking_85 : decode cX5_blocking 85 = .ok (.isub, 1) := by decide +kernel
theorem dX5_blocking_86 : decode cX5_blocking 86 = .ok (.goto 4, 3) := by decide +kernel
theorem dX5_blocking_89 : decode cX5_blocking 89 = .ok (.iconst 0, 1) := by decide +kernel
theorem dX5_blocking_90 : decode cX5_blocking 90 = .ok (.istore 5, 2) := by decide +kernel
theorem dX5_blocking_92 : decode cX5_blocking 92 = .ok (.iload 5, 2) := by decide +kernel
theorem dX5_blocking_94 : decode cX5_blocking 94 = .ok (.iload_n 2, 1) := by decide +kernel
theorem dX5_blocking_95 : decode cX5_blocking 95 = .ok (.if_icmp .le 8, 3) := by decide +kernel
theorem dX5_blocking_98 : decode cX5_blocking 98 = .ok (.iload 5, 2) := by decide +kernel
theorem dX5_blocking_100 : decode cX5_blocking 100 = .ok (.goto 4, 3) := by decide +kernel
theorem dX5_blocking_103 : decode cX5_blocking 103 = .ok (.iload_n 2, 1) := by decide +kernel
theorem dX5_blocking_104 : decode cX5_blocking 104 = .ok (.istore_n 2, 1) := by decide +kernel
theorem dX5_blocking_105 : decode cX5_blocking 105 = .ok (.iinc 4 1, 3) := by decide +kernel
theorem dX5_blocking_108 : decode cX5_blocking 108 = .ok (.goto (-95), 3) := by decide +kernel
theorem dX5_blocking_111 : decode cX5_blocking 111 = .ok (.iinc 3 1, 3) := by decide +kernel
theorem dX5_blocking_114 : decode cX5_blocking 114 = .ok (.goto (-110), 3) := by decide +kernel
theorem dX5_blocking_117 : decode cX5_blocking 117 = .ok (.iload_n 2, 1) := by decide +kernel
theorem dX5_blocking_118 : decode cX5_blocking 118 = .ok (.ireturn, 1) := by decide +kernel
theorem dX5_responseOf_0 : decode cX5_responseOf 0 = .ok (.aload_n 0, 1) := by decide +kernel
theorem dX5_responseOf_1 : decode cX5_responseOf 1 = .ok (.iload_n 1, 1) := by decide +kernel
theorem dX5_responseOf_2 : decode cX5_responseOf 2 = .ok (.invokevirtual 149, 3) := by decide +kernel
theorem dX5_responseOf_5 : decode cX5_responseOf 5 = .ok (.aload_n 0, 1) := by decide +kernel
theorem dX5_responseOf_6 : decode cX5_responseOf 6 = .ok (.iload_n 1, 1) := by decide +kernel
theorem dX5_responseOf_7 : decode cX5_responseOf 7 = .ok (.invokevirtual 152, 3) := by decide +kernel
theorem dX5_responseOf_10 : decode cX5_responseOf 10 = .ok (.iadd, 1) := by decide +kernel
theorem dX5_responseOf_11 : decode cX5_responseOf 11 = .ok (.istore_n 2, 1) := by decide +kernel
theorem dX5_responseOf_12 : decode cX5_responseOf 12 = .ok (.iload_n 2, 1) := by decide +kernel
theorem dX5_responseOf_13 : decode cX5_responseOf 13 = .ok (.istore_n 3, 1) := by decide +kernel
theorem dX5_responseOf_14 : decode cX5_responseOf 14 = .ok (.iconst 1, 1) := by decide +kernel
theorem dX5_responseOf_15 : decode cX5_responseOf 15 = .ok (.istore 4, 2) := by decide +kernel
theorem dX5_responseOf_17 : decode cX5_responseOf 17 = .ok (.iload 4, 2) := by decide +kernel
theorem dX5_responseOf_19 : decode cX5_responseOf 19 = .ok (.ifCond .eq 120, 3) := by decide +kernel
theorem dX5_responseOf_22 : decode cX5_responseOf 22 = .ok (.iload_n 3, 1) := by decide +kernel
theorem dX5_responseOf_23 : decode cX5_responseOf 23 = .ok (.aload_n 0, 1) := by decide +kernel
theorem dX5_responseOf_24 : decode cX5_responseOf 24 = .ok (.getfield 19, 3) := by decide +kernel
theorem dX5_responseOf_27 : decode cX5_responseOf 27 = .ok (.iload_n 1, 1) := by decide +kernel
theorem dX5_responseOf_28 : decode cX5_responseOf 28 = .ok (.iaload, 1) := by decide +kernel
theorem dX5_responseOf_29 : decode cX5_responseOf 29 = .ok (.if_icmp .gt 110, 3) := by decide +kernel
theorem dX5_responseOf_32 : decode cX5_responseOf 32 = .ok (.iload_n 2, 1) := by decide +kernel
theorem dX5_responseOf_33 : decode cX5_responseOf 33 = .ok (.istore 5, 2) := by decide +kernel
theorem dX5_responseOf_35 : decode cX5_responseOf 35 = .ok (.iconst 0, 1) := by decide +kernel
theorem dX5_responseOf_36 : decode cX5_responseOf 36 = .ok (.istore 6, 2) := by decide +kernel
theorem dX5_responseOf_38 : decode cX5_responseOf 38 = .ok (.iload 6, 2) := by decide +kernel
theorem dX5_responseOf_40 : decode cX5_responseOf 40 = .ok (.bipush 16, 2) := by decide +kernel
theorem dX5_responseOf_42 : decode cX5_responseOf 42 = .ok (.if_icmp .ge 78, 3) := by decide +kernel
theorem dX5_responseOf_45 : decode cX5_responseOf 45 = .ok (.iload 6, 2) := by decide +kernel
theorem dX5_responseOf_47 : decode cX5_responseOf 47 = .ok (.iload_n 1, 1) := by decide +kernel
theorem dX5_responseOf_48 : decode cX5_responseOf 48 = .ok (.if_icmp .eq 66, 3) := by decide +kernel
theorem dX5_responseOf_51 : decode cX5_responseOf 51 = .ok (.aload_n 0, 1) := by decide +kernel
theorem dX5_responseOf_52 : decode cX5_responseOf 52 = .ok (.getfield 7, 3) := by decide +kernel
theorem dX5_responseOf_55 : decode cX5_responseOf 55 = .ok (.iload 6, 2) := by decide +kernel
theorem dX5_responseOf_57 : decode cX5_responseOf 57 = .ok (.iaload, 1) := by decide +kernel
theorem dX5_responseOf_58 : decode cX5_responseOf 58 = .ok (.aload_n 0, 1) := by decide +kernel
theorem dX5_responseOf_59 : decode cX5_responseOf 59 = .ok (.getfield 7, 3) := by decide +kernel
theorem dX5_responseOf_62 : decode cX5_responseOf 62 = .ok (.iload_n 1, 1) := by decide +kernel
theorem dX5_responseOf_63 : decode cX5_responseOf 63 = .ok (.iaload, 1) := by decide +kernel
theorem dX5_responseOf_64 : decode cX5_responseOf 64 = .ok (.if_icmp .ne 50, 3) := by decide +kernel
theorem dX5_responseOf_67 : decode cX5_responseOf 67 = .ok (.aload_n 0, 1) := by decide +kernel
theorem dX5_responseOf_68 : decode cX5_responseOf 68 = .ok (.getfield 13, 3) := by decide +kernel
theorem dX5_responseOf_71 : decode cX5_responseOf 71 = .ok (.iload 6, 2) := by decide +kernel
theorem dX5_responseOf_73 : decode cX5_responseOf 73 = .ok (.iaload, 1) := by decide +kernel
theorem dX5_responseOf_74 : decode cX5_responseOf 74 = .ok (.aload_n 0, 1) := by decide +kernel
theorem dX5_responseOf_75 : decode cX5_responseOf 75 = .ok (.getfield 13, 3) := by decide +kernel
theorem dX5_responseOf_78 : decode cX5_responseOf 78 = .ok (.iload_n 1, 1) := by decide +kernel
theorem dX5_responseOf_79 : decode cX5_responseOf 79 = .ok (.iaload, 1) := by decide +kernel
theorem dX5_responseOf_80 : decode cX5_responseOf 80 = .ok (.if_icmp .le 34, 3) := by decide +kernel
theorem dX5_responseOf_83 : decode cX5_responseOf 83 = .ok (.iload 5, 2) := by decide +kernel
theorem dX5_responseOf_85 : decode cX5_responseOf 85 = .ok (.iload_n 3, 1) := by decide +kernel
theorem dX5_responseOf_86 : decode cX5_responseOf 86 = .ok (.aload_n 0, 1) := by decide +kernel
theorem dX5_responseOf_87 : decode cX5_responseOf 87 = .ok (.getfield 16, 3) := by decide +kernel
theorem dX5_responseOf_90 : decode cX5_responseOf 90 = .ok (.iload 6, 2) := by decide +kernel
theorem dX5_responseOf_92 : decode cX5_responseOf 92 = .ok (.iaload, 1) := by decide +kernel
theorem dX5_responseOf_93 : decode cX5_responseOf 93 = .ok (.iadd, 1) := by decide +kernel
theorem dX5_responseOf_94 : decode cX5_responseOf 94 = .ok (.iconst 1, 1) := by decide +kernel
theorem dX5_responseOf_95 : decode cX5_responseOf 95 = .ok (.isub, 1) := by decide +kernel
theorem dX5_responseOf_96 : decode cX5_responseOf 96 = .ok (.aload_n 0, 1) := by decide +kernel
theorem dX5_responseOf_97 : decode cX5_responseOf 97 = .ok (.getfield 16, 3) := by decide +kernel
theorem dX5_responseOf_100 : decode cX5_responseOf 100 = .ok (.iload 6, 2) := by decide +kernel
theorem dX5_responseOf_102 : decode cX5_responseOf 102 = .ok (.iaload, 1) := by decide +kernel
theorem dX5_responseOf_103 : decode cX5_responseOf 103 = .ok (.idiv, 1) := by decide +kernel
theorem dX5_responseOf_104 : decode cX5_responseOf 104 = .ok (.aload_n 0, 1) := by decide +kernel
theorem dX5_responseOf_105 : decode cX5_responseOf 105 = .ok (.iload 6, 2) := by decide +kernel
theorem dX5_responseOf_107 : decode cX5_responseOf 107 = .ok (.invokevirtual 149, 3) := by decide +kernel
theorem dX5_responseOf_110 : decode cX5_responseOf 110 = .ok (.imul, 1) := by decide +kernel
theorem dX5_responseOf_111 : decode cX5_responseOf 111 = .ok (.iadd, 1) := by decide +kernel
theorem dX5_responseOf_112 : decode cX5_responseOf 112 = .ok (.istore 5, 2) := by decide +kernel
theorem dX5_responseOf_114 : decode cX5_responseOf 114 = .ok (.iinc 6 1, 3) := by decide +kernel
theorem dX5_responseOf_117 : decode cX5_responseOf 117 = .ok (.goto (-79), 3) := by decide +kernel
theorem dX5_responseOf_120 : decode cX5_responseOf 120 = .ok (.iload 5, 2) := by decide +kernel
theorem dX5_responseOf_122 : decode cX5_responseOf 122 = .ok (.iload_n 3, 1) := by decide +kernel
theorem dX5_responseOf_123 : decode cX5_responseOf 123 = .ok (.if_icmp .le 7, 3) := by decide +kernel
theorem dX5_responseOf_126 : decode cX5_responseOf 126 = .ok (.iconst 1, 1) := by decide +kernel
theorem dX5_responseOf_127 : decode cX5_responseOf 127 = .ok (.goto 4, 3) := by decide +kernel
theorem dX5_responseOf_130 : decode cX5_responseOf 130 = .ok (.iconst 0, 1) := by decide +kernel
theorem dX5_responseOf_131 : decode cX5_responseOf 131 = .ok (.istore 4, 2) := by decide +kernel
theorem dX5_responseOf_133 : decode cX5_responseOf 133 = .ok (.iload 5, 2) := by decide +kernel
theorem dX5_responseOf_135 : decode cX5_responseOf 135 = .ok (.istore_n 3, 1) := by decide +kernel
theorem dX5_responseOf_136 : decode cX5_responseOf 136 = .ok (.goto (-119), 3) := by decide +kernel
theorem dX5_responseOf_139 : decode cX5_responseOf 139 = .ok (.iload_n 3, 1) := by decide +kernel
theorem dX5_responseOf_140 : decode cX5_responseOf 140 = .ok (.aload_n 0, 1) := by decide +kernel
theorem dX5_responseOf_141 : decode cX5_responseOf 141 = .ok (.getfield 19, 3) := by decide +kernel
theorem dX5_responseOf_144 : decode cX5_responseOf 144 = .ok (.iload_n 1, 1) := by decide +kernel
theorem dX5_responseOf_145 : decode cX5_responseOf 145 = .ok (.iaload, 1) := by decide +kernel
theorem dX5_responseOf_146 : decode cX5_responseOf 146 = .ok (.if_icmp .gt 7, 3) := by decide +kernel
theorem dX5_responseOf_149 : decode cX5_responseOf 149 = .ok (.iload_n 3, 1) := by decide +kernel
theorem dX5_responseOf_150 : decode cX5_responseOf 150 = .ok (.goto 4, 3) := by decide +kernel
theorem dX5_responseOf_153 : decode cX5_responseOf 153 = .ok (.iconst (-1), 1) := by decide +kernel
theorem dX5_responseOf_154 : decode cX5_responseOf 154 = .ok (.ireturn, 1) := by decide +kernel
theorem dX5_bound_0 : decode cX5_bound 0 = .ok (.aload_n 0, 1) := by decide +kernel
theorem dX5_bound_1 : decode cX5_bound 1 = .ok (.aload_n 0, 1) := by decide +kernel
theorem dX5_bound_2 : decode cX5_bound 2 = .ok (.iload_n 1, 1) := by decide +kernel
theorem dX5_bound_3 : decode cX5_bound 3 = .ok (.invokevirtual 108, 3) := by decide +kernel
theorem dX5_bound_6 : decode cX5_bound 6 = .ok (.ifCond .ne 7, 3) := by decide +kernel
theorem dX5_bound_9 : decode cX5_bound 9 = .ok (.iconst 1, 1) := by decide +kernel
theorem dX5_bound_10 : decode cX5_bound 10 = .ok (.goto 4, 3) := by decide +kernel
theorem dX5_bound_13 : decode cX5_bound 13 = .ok (.iconst 0, 1) := by decide +kernel
theorem dX5_bound_14 : decode cX5_bound 14 = .ok (.iload_n 2, 1) := by decide +kernel
theorem dX5_bound_15 : decode cX5_bound 15 = .ok (.iconst 0, 1) := by decide +kernel
theorem dX5_bound_16 : decode cX5_bound 16 = .ok (.iconst 2, 1) := by decide +kernel
theorem dX5_bound_17 : decode cX5_bound 17 = .ok (.invokestatic 112, 3) := by decide +kernel
theorem dX5_bound_20 : decode cX5_bound 20 = .ok (.ifCond .ne 7, 3) := by decide +kernel
theorem dX5_bound_23 : decode cX5_bound 23 = .ok (.iconst 1, 1) := by decide +kernel
theorem dX5_bound_24 : decode cX5_bound 24 = .ok (.goto 4, 3) := by decide +kernel
theorem dX5_bound_27 : decode cX5_bound 27 = .ok (.iconst 0, 1) := by decide +kernel
theorem dX5_bound_28 : decode cX5_bound 28 = .ok (.iconst 0, 1) := by decide +kernel
theorem dX5_bound_29 : decode cX5_bound 29 = .ok (.invokevirtual 124, 3) := by decide +kernel
theorem dX5_bound_32 : decode cX5_bound 32 = .ok (.ifCond .eq 5, 3) := by decide +kernel
theorem dX5_bound_35 : decode cX5_bound 35 = .ok (.iconst 0, 1) := by decide +kernel
theorem dX5_bound_36 : decode cX5_bound 36 = .ok (.ireturn, 1) := by decide +kernel
theorem dX5_bound_37 : decode cX5_bound 37 = .ok (.aload_n 0, 1) := by decide +kernel
theorem dX5_bound_38 : decode cX5_bound 38 = .ok (.invokevirtual 139, 3) := by decide +kernel
theorem dX5_bound_41 : decode cX5_bound 41 = .ok (.iload_n 2, 1) := by decide +kernel
theorem dX5_bound_42 : decode cX5_bound 42 = .ok (.ifCond .ne 11, 3) := by decide +kernel
theorem dX5_bound_45 : decode cX5_bound 45 = .ok (.aload_n 0, 1) := by decide +kernel
theorem dX5_bound_46 : decode cX5_bound 46 = .ok (.iload_n 1, 1) := by decide +kernel
theorem dX5_bound_47 : decode cX5_bound 47 = .ok (.invokevirtual 149, 3) := by decide +kernel
theorem dX5_bound_50 : decode cX5_bound 50 = .ok (.goto 21, 3) := by decide +kernel
theorem dX5_bound_53 : decode cX5_bound 53 = .ok (.iload_n 2, 1) := by decide +kernel
theorem dX5_bound_54 : decode cX5_bound 54 = .ok (.iconst 1, 1) := by decide +kernel
theorem dX5_bound_55 : decode cX5_bound 55 = .ok (.if_icmp .ne 11, 3) := by decide +kernel
theorem dX5_bound_58 : decode cX5_bound 58 = .ok (.aload_n 0, 1) := by decide +kernel
theorem dX5_bound_59 : decode cX5_bound 59 = .ok (.iload_n 1, 1) := by decide +kernel
theorem dX5_bound_60 : decode cX5_bound 60 = .ok (.invokevirtual 152, 3) := by decide +kernel
theorem dX5_bound_63 : decode cX5_bound 63 = .ok (.goto 8, 3) := by decide +kernel
theorem dX5_bound_66 : decode cX5_bound 66 = .ok (.aload_n 0, 1) := by decide +kernel
theorem dX5_bound_67 : decode cX5_bound 67 = .ok (.iload_n 1, 1) := by decide +kernel
theorem dX5_bound_68 : decode cX5_bound 68 = .ok (.invokevirtual 155, 3) := by decide +kernel
theorem dX5_bound_71 : decode cX5_bound 71 = .ok (.ireturn, 1) := by decide +kernel
theorem dX5_seal_0 : decode cX5_seal 0 = .ok (.aload_n 0, 1) := by decide +kernel
