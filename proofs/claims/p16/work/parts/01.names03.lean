theorem dX9_init_171 : decode cX9_init 171 = .ok (.aload_n 0, 1) := by decide +kernel
theorem dX9_init_172 : decode cX9_init 172 = .ok (.getfield 66, 3) := by decide +kernel
theorem dX9_init_175 : decode cX9_init 175 = .ok (.invokespecial 75, 3) := by decide +kernel
theorem dX9_init_178 : decode cX9_init 178 = .ok (.putfield 78, 3) := by decide +kernel
theorem dX9_init_181 : decode cX9_init 181 = .ok (.aload_n 0, 1) := by decide +kernel
theorem dX9_init_182 : decode cX9_init 182 = .ok (.iconst (-1), 1) := by decide +kernel
theorem dX9_init_183 : decode cX9_init 183 = .ok (.putfield 82, 3) := by decide +kernel
theorem dX9_init_186 : decode cX9_init 186 = .ok (.aload_n 0, 1) := by decide +kernel
theorem dX9_init_187 : decode cX9_init 187 = .ok (.iconst 0, 1) := by decide +kernel
theorem dX9_init_188 : decode cX9_init 188 = .ok (.putfield 86, 3) := by decide +kernel
theorem dX9_init_191 : decode cX9_init 191 = .ok (.aload_n 0, 1) := by decide +kernel
theorem dX9_init_192 : decode cX9_init 192 = .ok (.iconst (-1), 1) := by decide +kernel
theorem dX9_init_193 : decode cX9_init 193 = .ok (.putfield 89, 3) := by decide +kernel
theorem dX9_init_196 : decode cX9_init 196 = .ok (.aload_n 0, 1) := by decide +kernel
theorem dX9_init_197 : decode cX9_init 197 = .ok (.iconst 0, 1) := by decide +kernel
theorem dX9_init_198 : decode cX9_init 198 = .ok (.putfield 92, 3) := by decide +kernel
theorem dX9_init_201 : decode cX9_init 201 = .ok (.aload_n 0, 1) := by decide +kernel
theorem dX9_init_202 : decode cX9_init 202 = .ok (.iconst 0, 1) := by decide +kernel
theorem dX9_init_203 : decode cX9_init 203 = .ok (.putfield 96, 3) := by decide +kernel
theorem dX9_init_206 : decode cX9_init 206 = .ok (.aload_n 0, 1) := by decide +kernel
theorem dX9_init_207 : decode cX9_init 207 = .ok (.getfield 48, 3) := by decide +kernel
theorem dX9_init_210 : decode cX9_init 210 = .ok (.iconst 1, 1) := by decide +kernel
theorem dX9_init_211 : decode cX9_init 211 = .ok (.invokevirtual 99, 3) := by decide +kernel
theorem dX9_init_214 : decode cX9_init 214 = .ok (.pop, 1) := by decide +kernel
theorem dX9_init_215 : decode cX9_init 215 = .ok (.aload_n 0, 1) := by decide +kernel
theorem dX9_init_216 : decode cX9_init 216 = .ok (.getfield 48, 3) := by decide +kernel
theorem dX9_init_219 : decode cX9_init 219 = .ok (.iconst 2, 1) := by decide +kernel
theorem dX9_init_220 : decode cX9_init 220 = .ok (.invokevirtual 99, 3) := by decide +kernel
theorem dX9_init_223 : decode cX9_init 223 = .ok (.pop, 1) := by decide +kernel
theorem dX9_init_224 : decode cX9_init 224 = .ok (.aload_n 0, 1) := by decide +kernel
theorem dX9_init_225 : decode cX9_init 225 = .ok (.getfield 78, 3) := by decide +kernel
theorem dX9_init_228 : decode cX9_init 228 = .ok (.aload_n 0, 1) := by decide +kernel
theorem dX9_init_229 : decode cX9_init 229 = .ok (.getfield 48, 3) := by decide +kernel
theorem dX9_init_232 : decode cX9_init 232 = .ok (.aload_n 0, 1) := by decide +kernel
theorem dX9_init_233 : decode cX9_init 233 = .ok (.getfield 66, 3) := by decide +kernel
theorem dX9_init_236 : decode cX9_init 236 = .ok (.invokevirtual 103, 3) := by decide +kernel
theorem dX9_init_239 : decode cX9_init 239 = .ok (.pop, 1) := by decide +kernel
theorem dX9_init_240 : decode cX9_init 240 = .ok (.aload_n 0, 1) := by decide +kernel
theorem dX9_init_241 : decode cX9_init 241 = .ok (.invokevirtual 107, 3) := by decide +kernel
theorem dX9_init_244 : decode cX9_init 244 = .ok (.return_, 1) := by decide +kernel
theorem dX9_feed_0 : decode cX9_feed 0 = .ok (.aload_n 0, 1) := by decide +kernel
theorem dX9_feed_1 : decode cX9_feed 1 = .ok (.getfield 14, 3) := by decide +kernel
theorem dX9_feed_4 : decode cX9_feed 4 = .ok (.invokevirtual 110, 3) := by decide +kernel
theorem dX9_feed_7 : decode cX9_feed 7 = .ok (.bipush 20, 2) := by decide +kernel
theorem dX9_feed_9 : decode cX9_feed 9 = .ok (.iadd, 1) := by decide +kernel
theorem dX9_feed_10 : decode cX9_feed 10 = .ok (.sipush 700, 3) := by decide +kernel
theorem dX9_feed_13 : decode cX9_feed 13 = .ok (.if_icmp .le 5, 3) := by decide +kernel
theorem dX9_feed_16 : decode cX9_feed 16 = .ok (.iconst (-1), 1) := by decide +kernel
theorem dX9_feed_17 : decode cX9_feed 17 = .ok (.ireturn, 1) := by decide +kernel
theorem dX9_feed_18 : decode cX9_feed 18 = .ok (.aload_n 0, 1) := by decide +kernel
theorem dX9_feed_19 : decode cX9_feed 19 = .ok (.iload_n 1, 1) := by decide +kernel
theorem dX9_feed_20 : decode cX9_feed 20 = .ok (.invokevirtual 114, 3) := by decide +kernel
theorem dX9_feed_23 : decode cX9_feed 23 = .ok (.aload_n 0, 1) := by decide +kernel
theorem dX9_feed_24 : decode cX9_feed 24 = .ok (.iload_n 2, 1) := by decide +kernel
theorem dX9_feed_25 : decode cX9_feed 25 = .ok (.invokevirtual 114, 3) := by decide +kernel
theorem dX9_feed_28 : decode cX9_feed 28 = .ok (.aload_n 0, 1) := by decide +kernel
theorem dX9_feed_29 : decode cX9_feed 29 = .ok (.iload_n 3, 1) := by decide +kernel
theorem dX9_feed_30 : decode cX9_feed 30 = .ok (.invokevirtual 114, 3) := by decide +kernel
theorem dX9_feed_33 : decode cX9_feed 33 = .ok (.aload_n 0, 1) := by decide +kernel
theorem dX9_feed_34 : decode cX9_feed 34 = .ok (.iload 4, 2) := by decide +kernel
theorem dX9_feed_36 : decode cX9_feed 36 = .ok (.invokevirtual 114, 3) := by decide +kernel
theorem dX9_feed_39 : decode cX9_feed 39 = .ok (.aload_n 0, 1) := by decide +kernel
theorem dX9_feed_40 : decode cX9_feed 40 = .ok (.iload 5, 2) := by decide +kernel
theorem dX9_feed_42 : decode cX9_feed 42 = .ok (.invokevirtual 114, 3) := by decide +kernel
theorem dX9_feed_45 : decode cX9_feed 45 = .ok (.aload_n 0, 1) := by decide +kernel
theorem dX9_feed_46 : decode cX9_feed 46 = .ok (.getfield 14, 3) := by decide +kernel
theorem dX9_feed_49 : decode cX9_feed 49 = .ok (.invokevirtual 110, 3) := by decide +kernel
theorem dX9_feed_52 : decode cX9_feed 52 = .ok (.ireturn, 1) := by decide +kernel
theorem dX9_tell_0 : decode cX9_tell 0 = .ok (.iload_n 1, 1) := by decide +kernel
theorem dX9_tell_1 : decode cX9_tell 1 = .ok (.ifCond .lt 14, 3) := by decide +kernel
theorem dX9_tell_4 : decode cX9_tell 4 = .ok (.iload_n 1, 1) := by decide +kernel
theorem dX9_tell_5 : decode cX9_tell 5 = .ok (.aload_n 0, 1) := by decide +kernel
theorem dX9_tell_6 : decode cX9_tell 6 = .ok (.getfield 14, 3) := by decide +kernel
theorem dX9_tell_9 : decode cX9_tell 9 = .ok (.invokevirtual 110, 3) := by decide +kernel
theorem dX9_tell_12 : decode cX9_tell 12 = .ok (.if_icmp .le 13, 3) := by decide +kernel
theorem dX9_tell_15 : decode cX9_tell 15 = .ok (.new 118, 3) := by decide +kernel
theorem dX9_tell_18 : decode cX9_tell 18 = .ok (.dup, 1) := by decide +kernel
theorem dX9_tell_19 : decode cX9_tell 19 = .ok (.ldc 120, 2) := by decide +kernel
theorem dX9_tell_21 : decode cX9_tell 21 = .ok (.invokespecial 122, 3) := by decide +kernel
theorem dX9_tell_24 : decode cX9_tell 24 = .ok (.athrow, 1) := by decide +kernel
theorem dX9_tell_25 : decode cX9_tell 25 = .ok (.aload_n 0, 1) := by decide +kernel
theorem dX9_tell_26 : decode cX9_tell 26 = .ok (.getfield 14, 3) := by decide +kernel
theorem dX9_tell_29 : decode cX9_tell 29 = .ok (.iload_n 1, 1) := by decide +kernel
theorem dX9_tell_30 : decode cX9_tell 30 = .ok (.invokevirtual 125, 3) := by decide +kernel
theorem dX9_tell_33 : decode cX9_tell 33 = .ok (.aload_n 0, 1) := by decide +kernel
theorem dX9_tell_34 : decode cX9_tell 34 = .ok (.getfield 23, 3) := by decide +kernel
theorem dX9_tell_37 : decode cX9_tell 37 = .ok (.invokevirtual 128, 3) := by decide +kernel
theorem dX9_tell_40 : decode cX9_tell 40 = .ok (.istore_n 2, 1) := by decide +kernel
theorem dX9_tell_41 : decode cX9_tell 41 = .ok (.aload_n 0, 1) := by decide +kernel
theorem dX9_tell_42 : decode cX9_tell 42 = .ok (.iload_n 2, 1) := by decide +kernel
theorem dX9_tell_43 : decode cX9_tell 43 = .ok (.ifCond .ne 7, 3) := by decide +kernel
theorem dX9_tell_46 : decode cX9_tell 46 = .ok (.iconst (-1), 1) := by decide +kernel
theorem dX9_tell_47 : decode cX9_tell 47 = .ok (.goto 10, 3) := by decide +kernel
theorem dX9_tell_50 : decode cX9_tell 50 = .ok (.aload_n 0, 1) := by decide +kernel
theorem dX9_tell_51 : decode cX9_tell 51 = .ok (.getfield 23, 3) := by decide +kernel
theorem dX9_tell_54 : decode cX9_tell 54 = .ok (.invokevirtual 131, 3) := by decide +kernel
theorem dX9_tell_57 : decode cX9_tell 57 = .ok (.putfield 82, 3) := by decide +kernel
theorem dX9_tell_60 : decode cX9_tell 60 = .ok (.iload_n 2, 1) := by decide +kernel
theorem dX9_tell_61 : decode cX9_tell 61 = .ok (.ifCond .ne 17, 3) := by decide +kernel
theorem dX9_tell_64 : decode cX9_tell 64 = .ok (.aload_n 0, 1) := by decide +kernel
theorem dX9_tell_65 : decode cX9_tell 65 = .ok (.invokevirtual 134, 3) := by decide +kernel
theorem dX9_tell_68 : decode cX9_tell 68 = .ok (.ifCond .ne 10, 3) := by decide +kernel
theorem dX9_tell_71 : decode cX9_tell 71 = .ok (.iconst 5, 1) := by decide +kernel
theorem dX9_tell_72 : decode cX9_tell 72 = .ok (.istore_n 2, 1) := by decide +kernel
theorem dX9_tell_73 : decode cX9_tell 73 = .ok (.aload_n 0, 1) := by decide +kernel
theorem dX9_tell_74 : decode cX9_tell 74 = .ok (.iload_n 1, 1) := by decide +kernel
theorem dX9_tell_75 : decode cX9_tell 75 = .ok (.putfield 82, 3) := by decide +kernel
theorem dX9_tell_78 : decode cX9_tell 78 = .ok (.aload_n 0, 1) := by decide +kernel
theorem dX9_tell_79 : decode cX9_tell 79 = .ok (.getfield 14, 3) := by decide +kernel
theorem dX9_tell_82 : decode cX9_tell 82 = .ok (.iconst 0, 1) := by decide +kernel
theorem dX9_tell_83 : decode cX9_tell 83 = .ok (.invokevirtual 125, 3) := by decide +kernel
theorem dX9_tell_86 : decode cX9_tell 86 = .ok (.iload_n 2, 1) := by decide +kernel
theorem dX9_tell_87 : decode cX9_tell 87 = .ok (.ireturn, 1) := by decide +kernel
theorem dX9_fault_0 : decode cX9_fault 0 = .ok (.aload_n 0, 1) := by decide +kernel
theorem dX9_fault_1 : decode cX9_fault 1 = .ok (.getfield 82, 3) := by decide +kernel
theorem dX9_fault_4 : decode cX9_fault 4 = .ok (.ireturn, 1) := by decide +kernel
theorem dX9_again_0 : decode cX9_again 0 = .ok (.aload_n 0, 1) := by decide +kernel
theorem dX9_again_1 : decode cX9_again 1 = .ok (.getfield 66, 3) := by decide +kernel
theorem dX9_again_4 : decode cX9_again 4 = .ok (.invokevirtual 138, 3) := by decide +kernel
theorem dX9_again_7 : decode cX9_again 7 = .ok (.istore_n 1, 1) := by decide +kernel
theorem dX9_again_8 : decode cX9_again 8 = .ok (.aload_n 0, 1) := by decide +kernel
theorem dX9_again_9 : decode cX9_again 9 = .ok (.getfield 78, 3) := by decide +kernel
theorem dX9_again_12 : decode cX9_again 12 = .ok (.aload_n 0, 1) := by decide +kernel
theorem dX9_again_13 : decode cX9_again 13 = .ok (.getfield 48, 3) := by decide +kernel
theorem dX9_again_16 : decode cX9_again 16 = .ok (.aload_n 0, 1) := by decide +kernel
theorem dX9_again_17 : decode cX9_again 17 = .ok (.getfield 66, 3) := by decide +kernel
theorem dX9_again_20 : decode cX9_again 20 = .ok (.invokevirtual 103, 3) := by decide +kernel
theorem dX9_again_23 : decode cX9_again 23 = .ok (.pop, 1) := by decide +kernel
theorem dX9_again_24 : decode cX9_again 24 = .ok (.aload_n 0, 1) := by decide +kernel
theorem dX9_again_25 : decode cX9_again 25 = .ok (.invokevirtual 107, 3) := by decide +kernel
theorem dX9_again_28 : decode cX9_again 28 = .ok (.iload_n 1, 1) := by decide +kernel
theorem dX9_again_29 : decode cX9_again 29 = .ok (.ireturn, 1) := by decide +kernel
theorem dX9_step_0 : decode cX9_step 0 = .ok (.iload_n 1, 1) := by decide +kernel
theorem dX9_step_1 : decode cX9_step 1 = .ok (.invokestatic 139, 3) := by decide +kernel
theorem dX9_step_4 : decode cX9_step 4 = .ok (.aload_n 0, 1) := by decide +kernel
theorem dX9_step_5 : decode cX9_step 5 = .ok (.aload_n 0, 1) := by decide +kernel
theorem dX9_step_6 : decode cX9_step 6 = .ok (.getfield 66, 3) := by decide +kernel
theorem dX9_step_9 : decode cX9_step 9 = .ok (.iload_n 1, 1) := by decide +kernel
theorem dX9_step_10 : decode cX9_step 10 = .ok (.invokevirtual 142, 3) := by decide +kernel
theorem dX9_step_13 : decode cX9_step 13 = .ok (.istore_n 2, 1) := by decide +kernel
theorem dX9_step_14 : decode cX9_step 14 = .ok (.aload_n 0, 1) := by decide +kernel
theorem dX9_step_15 : decode cX9_step 15 = .ok (.iload_n 2, 1) := by decide +kernel
theorem dX9_step_16 : decode cX9_step 16 = .ok (.invokevirtual 146, 3) := by decide +kernel
theorem dX9_step_19 : decode cX9_step 19 = .ok (.iload_n 2, 1) := by decide +kernel
theorem dX9_step_20 : decode cX9_step 20 = .ok (.ireturn, 1) := by decide +kernel
theorem dX9_run_0 : decode cX9_run 0 = .ok (.iload_n 1, 1) := by decide +kernel
theorem dX9_run_1 : decode cX9_run 1 = .ok (.invokestatic 139, 3) := by decide +kernel
theorem dX9_run_4 : decode cX9_run 4 = .ok (.iload_n 2, 1) := by decide +kernel
theorem dX9_run_5 : decode cX9_run 5 = .ok (.ifCond .lt 9, 3) := by decide +kernel
theorem dX9_run_8 : decode cX9_run 8 = .ok (.iload_n 2, 1) := by decide +kernel
theorem dX9_run_9 : decode cX9_run 9 = .ok (.bipush 60, 2) := by decide +kernel
theorem dX9_run_11 : decode cX9_run 11 = .ok (.if_icmp .le 13, 3) := by decide +kernel
theorem dX9_run_14 : decode cX9_run 14 = .ok (.new 118, 3) := by decide +kernel
theorem dX9_run_17 : decode cX9_run 17 = .ok (.dup, 1) := by decide +kernel
theorem dX9_run_18 : decode cX9_run 18 = .ok (.ldc 149, 2) := by decide +kernel
theorem dX9_run_20 : decode cX9_run 20 = .ok (.invokespecial 122, 3) := by decide +kernel
theorem dX9_run_23 : decode cX9_run 23 = .ok (.athrow, 1) := by decide +kernel
theorem dX9_run_24 : decode cX9_run 24 = .ok (.iconst 0, 1) := by decide +kernel
theorem dX9_run_25 : decode cX9_run 25 = .ok (.istore_n 3, 1) := by decide +kernel
theorem dX9_run_26 : decode cX9_run 26 = .ok (.iload_n 3, 1) := by decide +kernel
theorem dX9_run_27 : decode cX9_run 27 = .ok (.iload_n 2, 1) := by decide +kernel
theorem dX9_run_28 : decode cX9_run 28 = .ok (.if_icmp .ge 33, 3) := by decide +kernel
theorem dX9_run_31 : decode cX9_run 31 = .ok (.aload_n 0, 1) := by decide +kernel
theorem dX9_run_32 : decode cX9_run 32 = .ok (.aload_n 0, 1) := by decide +kernel
theorem dX9_run_33 : decode cX9_run 33 = .ok (.getfield 66, 3) := by decide +kernel
theorem dX9_run_36 : decode cX9_run 36 = .ok (.iload_n 1, 1) := by decide +kernel
theorem dX9_run_37 : decode cX9_run 37 = .ok (.invokevirtual 142, 3) := by decide +kernel
theorem dX9_run_40 : decode cX9_run 40 = .ok (.istore 4, 2) := by decide +kernel
theorem dX9_run_42 : decode cX9_run 42 = .ok (.iload 4, 2) := by decide +kernel
theorem dX9_run_44 : decode cX9_run 44 = .ok (.ifCond .gt 5, 3) := by decide +kernel
theorem dX9_run_47 : decode cX9_run 47 = .ok (.iload_n 3, 1) := by decide +kernel
theorem dX9_run_48 : decode cX9_run 48 = .ok (.ireturn, 1) := by decide +kernel
theorem dX9_run_49 : decode cX9_run 49 = .ok (.aload_n 0, 1) := by decide +kernel
theorem dX9_run_50 : decode cX9_run 50 = .ok (.iload 4, 2) := by decide +kernel
theorem dX9_run_52 : decode cX9_run 52 = .ok (.invokevirtual 146, 3) := by decide +kernel
theorem dX9_run_55 : decode cX9_run 55 = .ok (.iinc 3 1, 3) := by decide +kernel
theorem dX9_run_58 : decode cX9_run 58 = .ok (.goto (-32), 3) := by decide +kernel
theorem dX9_run_61 : decode cX9_run 61 = .ok (.iload_n 2, 1) := by decide +kernel
theorem dX9_run_62 : decode cX9_run 62 = .ok (.ireturn, 1) := by decide +kernel
theorem dX9_count_0 : decode cX9_count 0 = .ok (.iload_n 1, 1) := by decide +kernel
theorem dX9_count_1 : decode cX9_count 1 = .ok (.bipush 16, 2) := by decide +kernel
theorem dX9_count_3 : decode cX9_count 3 = .ok (.if_icmp .lt 21, 3) := by decide +kernel
theorem dX9_count_6 : decode cX9_count 6 = .ok (.iload_n 1, 1) := by decide +kernel
theorem dX9_count_7 : decode cX9_count 7 = .ok (.bipush 23, 2) := by decide +kernel
theorem dX9_count_9 : decode cX9_count 9 = .ok (.if_icmp .ge 15, 3) := by decide +kernel
theorem dX9_count_12 : decode cX9_count 12 = .ok (.aload_n 0, 1) := by decide +kernel
theorem dX9_count_13 : decode cX9_count 13 = .ok (.getfield 66, 3) := by decide +kernel
theorem dX9_count_16 : decode cX9_count 16 = .ok (.iload_n 1, 1) := by decide +kernel
theorem dX9_count_17 : decode cX9_count 17 = .ok (.bipush 16, 2) := by decide +kernel
theorem dX9_count_19 : decode cX9_count 19 = .ok (.isub, 1) := by decide +kernel
theorem dX9_count_20 : decode cX9_count 20 = .ok (.invokevirtual 151, 3) := by decide +kernel
theorem dX9_count_23 : decode cX9_count 23 = .ok (.ireturn, 1) := by decide +kernel
theorem dX9_count_24 : decode cX9_count 24 = .ok (.iload_n 1, 1) := by decide +kernel
theorem dX9_count_25 : decode cX9_count 25 = .ok (.iconst 3, 1) := by decide +kernel
theorem dX9_count_26 : decode cX9_count 26 = .ok (.if_icmp .lt 20, 3) := by decide +kernel
theorem dX9_count_29 : decode cX9_count 29 = .ok (.iload_n 1, 1) := by decide +kernel
theorem dX9_count_30 : decode cX9_count 30 = .ok (.bipush 8, 2) := by decide +kernel
theorem dX9_count_32 : decode cX9_count 32 = .ok (.if_icmp .gt 14, 3) := by decide +kernel
theorem dX9_count_35 : decode cX9_count 35 = .ok (.aload_n 0, 1) := by decide +kernel
theorem dX9_count_36 : decode cX9_count 36 = .ok (.getfield 57, 3) := by decide +kernel
theorem dX9_count_39 : decode cX9_count 39 = .ok (.iload_n 1, 1) := by decide +kernel
theorem dX9_count_40 : decode cX9_count 40 = .ok (.iconst 3, 1) := by decide +kernel
theorem dX9_count_41 : decode cX9_count 41 = .ok (.isub, 1) := by decide +kernel
theorem dX9_count_42 : decode cX9_count 42 = .ok (.invokevirtual 155, 3) := by decide +kernel
theorem dX9_count_45 : decode cX9_count 45 = .ok (.ireturn, 1) := by decide +kernel
theorem dX9_count_46 : decode cX9_count 46 = .ok (.iload_n 1, 1) := by decide +kernel
theorem dX9_count_47 : decode cX9_count 47 = .ok (.tableswitch 227 0 23 #[109, 117, 125, 227, 227, 227, 227, 227, 227, 133, 138, 147, 171, 188, 197, 205, 227, 227, 227, 227, 227, 227, 227, 213], 109) := by decide +kernel
theorem dX9_count_156 : decode cX9_count 156 = .ok (.aload_n 0, 1) := by decide +kernel
theorem dX9_count_157 : decode cX9_count 157 = .ok (.getfield 66, 3) := by decide +kernel
theorem dX9_count_160 : decode cX9_count 160 = .ok (.invokevirtual 138, 3) := by decide +kernel
theorem dX9_count_163 : decode cX9_count 163 = .ok (.ireturn, 1) := by decide +kernel
theorem dX9_count_164 : decode cX9_count 164 = .ok (.aload_n 0, 1) := by decide +kernel
theorem dX9_count_165 : decode cX9_count 165 = .ok (.getfield 66, 3) := by decide +kernel
theorem dX9_count_168 : decode cX9_count 168 = .ok (.invokevirtual 158, 3) := by decide +kernel
theorem dX9_count_171 : decode cX9_count 171 = .ok (.ireturn, 1) := by decide +kernel
theorem dX9_count_172 : decode cX9_count 172 = .ok (.aload_n 0, 1) := by decide +kernel
theorem dX9_count_173 : decode cX9_count 173 = .ok (.getfield 66, 3) := by decide +kernel
theorem dX9_count_176 : decode cX9_count 176 = .ok (.invokevirtual 161, 3) := by decide +kernel
theorem dX9_count_179 : decode cX9_count 179 = .ok (.ireturn, 1) := by decide +kernel
theorem dX9_count_180 : decode cX9_count 180 = .ok (.aload_n 0, 1) := by decide +kernel
theorem dX9_count_181 : decode cX9_count 181 = .ok (.getfield 86, 3) := by decide +kernel
theorem dX9_count_184 : decode cX9_count 184 = .ok (.ireturn, 1) := by decide +kernel
theorem dX9_count_185 : decode cX9_count 185 = .ok (.aload_n 0, 1) := by decide +kernel
theorem dX9_count_186 : decode cX9_count 186 = .ok (.iconst 0, 1) := by decide +kernel
theorem dX9_count_187 : decode cX9_count 187 = .ok (.invokevirtual 164, 3) := by decide +kernel
theorem dX9_count_190 : decode cX9_count 190 = .ok (.invokestatic 168, 3) := by decide +kernel
theorem dX9_count_193 : decode cX9_count 193 = .ok (.ireturn, 1) := by decide +kernel
theorem dX9_count_194 : decode cX9_count 194 = .ok (.aload_n 0, 1) := by decide +kernel
theorem dX9_count_195 : decode cX9_count 195 = .ok (.iconst 0, 1) := by decide +kernel
theorem dX9_count_196 : decode cX9_count 196 = .ok (.invokevirtual 164, 3) := by decide +kernel
theorem dX9_count_199 : decode cX9_count 199 = .ok (.ifnull 17, 3) := by decide +kernel
theorem dX9_count_202 : decode cX9_count 202 = .ok (.aload_n 0, 1) := by decide +kernel
theorem dX9_count_203 : decode cX9_count 203 = .ok (.getfield 30, 3) := by decide +kernel
theorem dX9_count_206 : decode cX9_count 206 = .ok (.invokevirtual 172, 3) := by decide +kernel
theorem dX9_count_209 : decode cX9_count 209 = .ok (.ifCond .ne 7, 3) := by decide +kernel
theorem dX9_count_212 : decode cX9_count 212 = .ok (.iconst 1, 1) := by decide +kernel
theorem dX9_count_213 : decode cX9_count 213 = .ok (.goto 4, 3) := by decide +kernel
theorem dX9_count_216 : decode cX9_count 216 = .ok (.iconst 0, 1) := by decide +kernel
theorem dX9_count_217 : decode cX9_count 217 = .ok (.ireturn, 1) := by decide +kernel
theorem dX9_count_218 : decode cX9_count 218 = .ok (.aload_n 0, 1) := by decide +kernel
theorem dX9_count_219 : decode cX9_count 219 = .ok (.iconst 1, 1) := by decide +kernel
theorem dX9_count_220 : decode cX9_count 220 = .ok (.invokevirtual 164, 3) := by decide +kernel
theorem dX9_count_223 : decode cX9_count 223 = .ok (.ifnonnull 7, 3) := by decide +kernel
theorem dX9_count_226 : decode cX9_count 226 = .ok (.iconst (-1), 1) := by decide +kernel
theorem dX9_count_227 : decode cX9_count 227 = .ok (.goto 7, 3) := by decide +kernel
theorem dX9_count_230 : decode cX9_count 230 = .ok (.aload_n 0, 1) := by decide +kernel
theorem dX9_count_231 : decode cX9_count 231 = .ok (.getfield 89, 3) := by decide +kernel
theorem dX9_count_234 : decode cX9_count 234 = .ok (.ireturn, 1) := by decide +kernel
theorem dX9_count_235 : decode cX9_count 235 = .ok (.aload_n 0, 1) := by decide +kernel
theorem dX9_count_236 : decode cX9_count 236 = .ok (.iconst 1, 1) := by decide +kernel
theorem dX9_count_237 : decode cX9_count 237 = .ok (.invokevirtual 164, 3) := by decide +kernel
theorem dX9_count_240 : decode cX9_count 240 = .ok (.invokestatic 168, 3) := by decide +kernel
theorem dX9_count_243 : decode cX9_count 243 = .ok (.ireturn, 1) := by decide +kernel
theorem dX9_count_244 : decode cX9_count 244 = .ok (.aload_n 0, 1) := by decide +kernel
theorem dX9_count_245 : decode cX9_count 245 = .ok (.getfield 48, 3) := by decide +kernel
theorem dX9_count_248 : decode cX9_count 248 = .ok (.invokevirtual 110, 3) := by decide +kernel
theorem dX9_count_251 : decode cX9_count 251 = .ok (.ireturn, 1) := by decide +kernel
theorem dX9_count_252 : decode cX9_count 252 = .ok (.aload_n 0, 1) := by decide +kernel
theorem dX9_count_253 : decode cX9_count 253 = .ok (.getfield 14, 3) := by decide +kernel
theorem dX9_count_256 : decode cX9_count 256 = .ok (.invokevirtual 110, 3) := by decide +kernel
theorem dX9_count_259 : decode cX9_count 259 = .ok (.ireturn, 1) := by decide +kernel
theorem dX9_count_260 : decode cX9_count 260 = .ok (.aload_n 0, 1) := by decide +kernel
theorem dX9_count_261 : decode cX9_count 261 = .ok (.iconst 0, 1) := by decide +kernel
theorem dX9_count_262 : decode cX9_count 262 = .ok (.invokevirtual 164, 3) := by decide +kernel
theorem dX9_count_265 : decode cX9_count 265 = .ok (.pop, 1) := by decide +kernel
theorem dX9_count_266 : decode cX9_count 266 = .ok (.aload_n 0, 1) := by decide +kernel
theorem dX9_count_267 : decode cX9_count 267 = .ok (.getfield 30, 3) := by decide +kernel
theorem dX9_count_270 : decode cX9_count 270 = .ok (.invokevirtual 175, 3) := by decide +kernel
theorem dX9_count_273 : decode cX9_count 273 = .ok (.ireturn, 1) := by decide +kernel
theorem dX9_count_274 : decode cX9_count 274 = .ok (.new 178, 3) := by decide +kernel
theorem dX9_count_277 : decode cX9_count 277 = .ok (.dup, 1) := by decide +kernel
theorem dX9_count_278 : decode cX9_count 278 = .ok (.ldc 180, 2) := by decide +kernel
theorem dX9_count_280 : decode cX9_count 280 = .ok (.invokespecial 182, 3) := by decide +kernel
theorem dX9_count_283 : decode cX9_count 283 = .ok (.athrow, 1) := by decide +kernel
theorem dX9_node_0 : decode cX9_node 0 = .ok (.aload_n 0, 1) := by decide +kernel
theorem dX9_node_1 : decode cX9_node 1 = .ok (.getfield 66, 3) := by decide +kernel
theorem dX9_node_4 : decode cX9_node 4 = .ok (.iload_n 1, 1) := by decide +kernel
theorem dX9_node_5 : decode cX9_node 5 = .ok (.invokevirtual 183, 3) := by decide +kernel
theorem dX9_node_8 : decode cX9_node 8 = .ok (.ifCond .eq 12, 3) := by decide +kernel
theorem dX9_node_11 : decode cX9_node 11 = .ok (.iload_n 2, 1) := by decide +kernel
theorem dX9_node_12 : decode cX9_node 12 = .ok (.ifCond .lt 8, 3) := by decide +kernel
theorem dX9_node_15 : decode cX9_node 15 = .ok (.iload_n 2, 1) := by decide +kernel
theorem dX9_node_16 : decode cX9_node 16 = .ok (.iconst 4, 1) := by decide +kernel
theorem dX9_node_17 : decode cX9_node 17 = .ok (.if_icmp .le 13, 3) := by decide +kernel
theorem dX9_node_20 : decode cX9_node 20 = .ok (.new 178, 3) := by decide +kernel
theorem dX9_node_23 : decode cX9_node 23 = .ok (.dup, 1) := by decide +kernel
theorem dX9_node_24 : decode cX9_node 24 = .ok (.ldc 186, 2) := by decide +kernel
theorem dX9_node_26 : decode cX9_node 26 = .ok (.invokespecial 182, 3) := by decide +kernel
theorem dX9_node_29 : decode cX9_node 29 = .ok (.athrow, 1) := by decide +kernel
theorem dX9_node_30 : decode cX9_node 30 = .ok (.iload_n 2, 1) := by decide +kernel
theorem dX9_node_31 : decode cX9_node 31 = .ok (.ifCond .ne 12, 3) := by decide +kernel
theorem dX9_node_34 : decode cX9_node 34 = .ok (.aload_n 0, 1) := by decide +kernel
theorem dX9_node_35 : decode cX9_node 35 = .ok (.getfield 66, 3) := by decide +kernel
theorem dX9_node_38 : decode cX9_node 38 = .ok (.iload_n 1, 1) := by decide +kernel
theorem dX9_node_39 : decode cX9_node 39 = .ok (.invokevirtual 188, 3) := by decide +kernel
theorem dX9_node_42 : decode cX9_node 42 = .ok (.ireturn, 1) := by decide +kernel
theorem dX9_node_43 : decode cX9_node 43 = .ok (.iload_n 2, 1) := by decide +kernel
theorem dX9_node_44 : decode cX9_node 44 = .ok (.iconst 1, 1) := by decide +kernel
theorem dX9_node_45 : decode cX9_node 45 = .ok (.if_icmp .ne 12, 3) := by decide +kernel
theorem dX9_node_48 : decode cX9_node 48 = .ok (.aload_n 0, 1) := by decide +kernel
theorem dX9_node_49 : decode cX9_node 49 = .ok (.getfield 66, 3) := by decide +kernel
theorem dX9_node_52 : decode cX9_node 52 = .ok (.iload_n 1, 1) := by decide +kernel
theorem dX9_node_53 : decode cX9_node 53 = .ok (.invokevirtual 191, 3) := by decide +kernel
theorem dX9_node_56 : decode cX9_node 56 = .ok (.ireturn, 1) := by decide +kernel
theorem dX9_node_57 : decode cX9_node 57 = .ok (.iload_n 2, 1) := by decide +kernel
theorem dX9_node_58 : decode cX9_node 58 = .ok (.iconst 2, 1) := by decide +kernel
theorem dX9_node_59 : decode cX9_node 59 = .ok (.isub, 1) := by decide +kernel
theorem dX9_node_60 : decode cX9_node 60 = .ok (.istore_n 3, 1) := by decide +kernel
theorem dX9_node_61 : decode cX9_node 61 = .ok (.iload_n 3, 1) := by decide +kernel
theorem dX9_node_62 : decode cX9_node 62 = .ok (.aload_n 0, 1) := by decide +kernel
theorem dX9_node_63 : decode cX9_node 63 = .ok (.getfield 66, 3) := by decide +kernel
theorem dX9_node_66 : decode cX9_node 66 = .ok (.iload_n 1, 1) := by decide +kernel
theorem dX9_node_67 : decode cX9_node 67 = .ok (.invokevirtual 194, 3) := by decide +kernel
theorem dX9_node_70 : decode cX9_node 70 = .ok (.if_icmp .ge 18, 3) := by decide +kernel
theorem dX9_node_73 : decode cX9_node 73 = .ok (.aload_n 0, 1) := by decide +kernel
theorem dX9_node_74 : decode cX9_node 74 = .ok (.getfield 66, 3) := by decide +kernel
theorem dX9_node_77 : decode cX9_node 77 = .ok (.iconst 4, 1) := by decide +kernel
theorem dX9_node_78 : decode cX9_node 78 = .ok (.iload_n 1, 1) := by decide +kernel
theorem dX9_node_79 : decode cX9_node 79 = .ok (.imul, 1) := by decide +kernel
theorem dX9_node_80 : decode cX9_node 80 = .ok (.iload_n 3, 1) := by decide +kernel
theorem dX9_node_81 : decode cX9_node 81 = .ok (.iadd, 1) := by decide +kernel
theorem dX9_node_82 : decode cX9_node 82 = .ok (.invokevirtual 197, 3) := by decide +kernel
theorem dX9_node_85 : decode cX9_node 85 = .ok (.goto 4, 3) := by decide +kernel
theorem dX9_node_88 : decode cX9_node 88 = .ok (.iconst (-1), 1) := by decide +kernel
theorem dX9_node_89 : decode cX9_node 89 = .ok (.ireturn, 1) := by decide +kernel
theorem dX9_active_0 : decode cX9_active 0 = .ok (.iload_n 1, 1) := by decide +kernel
theorem dX9_active_1 : decode cX9_active 1 = .ok (.ifCond .lt 12, 3) := by decide +kernel
theorem dX9_active_4 : decode cX9_active 4 = .ok (.iload_n 2, 1) := by decide +kernel
theorem dX9_active_5 : decode cX9_active 5 = .ok (.ifCond .lt 8, 3) := by decide +kernel
theorem dX9_active_8 : decode cX9_active 8 = .ok (.iload_n 2, 1) := by decide +kernel
theorem dX9_active_9 : decode cX9_active 9 = .ok (.iconst 2, 1) := by decide +kernel
theorem dX9_active_10 : decode cX9_active 10 = .ok (.if_icmp .le 7, 3) := by decide +kernel
theorem dX9_active_13 : decode cX9_active 13 = .ok (.iconst (-1), 1) := by decide +kernel
theorem dX9_active_14 : decode cX9_active 14 = .ok (.goto 11, 3) := by decide +kernel
theorem dX9_active_17 : decode cX9_active 17 = .ok (.aload_n 0, 1) := by decide +kernel
theorem dX9_active_18 : decode cX9_active 18 = .ok (.getfield 66, 3) := by decide +kernel
theorem dX9_active_21 : decode cX9_active 21 = .ok (.iload_n 1, 1) := by decide +kernel
theorem dX9_active_22 : decode cX9_active 22 = .ok (.invokevirtual 200, 3) := by decide +kernel
theorem dX9_active_25 : decode cX9_active 25 = .ok (.istore_n 3, 1) := by decide +kernel
theorem dX9_active_26 : decode cX9_active 26 = .ok (.iload_n 3, 1) := by decide +kernel
theorem dX9_active_27 : decode cX9_active 27 = .ok (.iconst (-1), 1) := by decide +kernel
theorem dX9_active_28 : decode cX9_active 28 = .ok (.if_icmp .ne 13, 3) := by decide +kernel
theorem dX9_active_31 : decode cX9_active 31 = .ok (.new 178, 3) := by decide +kernel
theorem dX9_active_34 : decode cX9_active 34 = .ok (.dup, 1) := by decide +kernel
theorem dX9_active_35 : decode cX9_active 35 = .ok (.ldc 203, 2) := by decide +kernel
theorem dX9_active_37 : decode cX9_active 37 = .ok (.invokespecial 182, 3) := by decide +kernel
theorem dX9_active_40 : decode cX9_active 40 = .ok (.athrow, 1) := by decide +kernel
theorem dX9_active_41 : decode cX9_active 41 = .ok (.aload_n 0, 1) := by decide +kernel
theorem dX9_active_42 : decode cX9_active 42 = .ok (.getfield 66, 3) := by decide +kernel
theorem dX9_active_45 : decode cX9_active 45 = .ok (.iconst 4, 1) := by decide +kernel
theorem dX9_active_46 : decode cX9_active 46 = .ok (.iload_n 3, 1) := by decide +kernel
theorem dX9_active_47 : decode cX9_active 47 = .ok (.imul, 1) := by decide +kernel
theorem dX9_active_48 : decode cX9_active 48 = .ok (.invokevirtual 197, 3) := by decide +kernel
theorem dX9_active_51 : decode cX9_active 51 = .ok (.iconst 4, 1) := by decide +kernel
theorem dX9_active_52 : decode cX9_active 52 = .ok (.idiv, 1) := by decide +kernel
theorem dX9_active_53 : decode cX9_active 53 = .ok (.istore 4, 2) := by decide +kernel
theorem dX9_active_55 : decode cX9_active 55 = .ok (.iload_n 2, 1) := by decide +kernel
theorem dX9_active_56 : decode cX9_active 56 = .ok (.iconst 2, 1) := by decide +kernel
theorem dX9_active_57 : decode cX9_active 57 = .ok (.if_icmp .ne 14, 3) := by decide +kernel
theorem dX9_active_60 : decode cX9_active 60 = .ok (.aload_n 0, 1) := by decide +kernel
theorem dX9_active_61 : decode cX9_active 61 = .ok (.getfield 66, 3) := by decide +kernel
theorem dX9_active_64 : decode cX9_active 64 = .ok (.iload_n 3, 1) := by decide +kernel
theorem dX9_active_65 : decode cX9_active 65 = .ok (.iload 4, 2) := by decide +kernel
theorem dX9_active_67 : decode cX9_active 67 = .ok (.invokevirtual 205, 3) := by decide +kernel
theorem dX9_active_70 : decode cX9_active 70 = .ok (.ireturn, 1) := by decide +kernel
theorem dX9_active_71 : decode cX9_active 71 = .ok (.iload_n 2, 1) := by decide +kernel
theorem dX9_active_72 : decode cX9_active 72 = .ok (.ifCond .ne 7, 3) := by decide +kernel
theorem dX9_active_75 : decode cX9_active 75 = .ok (.iload_n 3, 1) := by decide +kernel
theorem dX9_active_76 : decode cX9_active 76 = .ok (.goto 5, 3) := by decide +kernel
theorem dX9_active_79 : decode cX9_active 79 = .ok (.iload 4, 2) := by decide +kernel
theorem dX9_active_81 : decode cX9_active 81 = .ok (.ireturn, 1) := by decide +kernel
theorem dX9_wanted_0 : decode cX9_wanted 0 = .ok (.iload_n 1, 1) := by decide +kernel
theorem dX9_wanted_1 : decode cX9_wanted 1 = .ok (.ifCond .lt 8, 3) := by decide +kernel
theorem dX9_wanted_4 : decode cX9_wanted 4 = .ok (.iload_n 1, 1) := by decide +kernel
theorem dX9_wanted_5 : decode cX9_wanted 5 = .ok (.iconst 2, 1) := by decide +kernel
theorem dX9_wanted_6 : decode cX9_wanted 6 = .ok (.if_icmp .le 13, 3) := by decide +kernel
theorem dX9_wanted_9 : decode cX9_wanted 9 = .ok (.new 178, 3) := by decide +kernel
theorem dX9_wanted_12 : decode cX9_wanted 12 = .ok (.dup, 1) := by decide +kernel
theorem dX9_wanted_13 : decode cX9_wanted 13 = .ok (.ldc 209, 2) := by decide +kernel
theorem dX9_wanted_15 : decode cX9_wanted 15 = .ok (.invokespecial 182, 3) := by decide +kernel
theorem dX9_wanted_18 : decode cX9_wanted 18 = .ok (.athrow, 1) := by decide +kernel
theorem dX9_wanted_19 : decode cX9_wanted 19 = .ok (.aload_n 0, 1) := by decide +kernel
theorem dX9_wanted_20 : decode cX9_wanted 20 = .ok (.iconst 0, 1) := by decide +kernel
theorem dX9_wanted_21 : decode cX9_wanted 21 = .ok (.invokevirtual 164, 3) := by decide +kernel
theorem dX9_wanted_24 : decode cX9_wanted 24 = .ok (.pop, 1) := by decide +kernel
theorem dX9_wanted_25 : decode cX9_wanted 25 = .ok (.iload_n 1, 1) := by decide +kernel
theorem dX9_wanted_26 : decode cX9_wanted 26 = .ok (.iconst 2, 1) := by decide +kernel
theorem dX9_wanted_27 : decode cX9_wanted 27 = .ok (.if_icmp .ne 11, 3) := by decide +kernel
theorem dX9_wanted_30 : decode cX9_wanted 30 = .ok (.aload_n 0, 1) := by decide +kernel
theorem dX9_wanted_31 : decode cX9_wanted 31 = .ok (.getfield 30, 3) := by decide +kernel
theorem dX9_wanted_34 : decode cX9_wanted 34 = .ok (.invokevirtual 172, 3) := by decide +kernel
theorem dX9_wanted_37 : decode cX9_wanted 37 = .ok (.ireturn, 1) := by decide +kernel
theorem dX9_wanted_38 : decode cX9_wanted 38 = .ok (.aload_n 0, 1) := by decide +kernel
theorem dX9_wanted_39 : decode cX9_wanted 39 = .ok (.getfield 30, 3) := by decide +kernel
theorem dX9_wanted_42 : decode cX9_wanted 42 = .ok (.invokevirtual 211, 3) := by decide +kernel
theorem dX9_wanted_45 : decode cX9_wanted 45 = .ok (.istore_n 2, 1) := by decide +kernel
theorem dX9_wanted_46 : decode cX9_wanted 46 = .ok (.iload_n 2, 1) := by decide +kernel
theorem dX9_wanted_47 : decode cX9_wanted 47 = .ok (.iconst (-1), 1) := by decide +kernel
theorem dX9_wanted_48 : decode cX9_wanted 48 = .ok (.if_icmp .ne 5, 3) := by decide +kernel
theorem dX9_wanted_51 : decode cX9_wanted 51 = .ok (.iconst (-1), 1) := by decide +kernel
theorem dX9_wanted_52 : decode cX9_wanted 52 = .ok (.ireturn, 1) := by decide +kernel
theorem dX9_wanted_53 : decode cX9_wanted 53 = .ok (.iload_n 1, 1) := by decide +kernel
theorem dX9_wanted_54 : decode cX9_wanted 54 = .ok (.ifCond .ne 7, 3) := by decide +kernel
theorem dX9_wanted_57 : decode cX9_wanted 57 = .ok (.iload_n 2, 1) := by decide +kernel
theorem dX9_wanted_58 : decode cX9_wanted 58 = .ok (.goto 15, 3) := by decide +kernel
theorem dX9_wanted_61 : decode cX9_wanted 61 = .ok (.aload_n 0, 1) := by decide +kernel
theorem dX9_wanted_62 : decode cX9_wanted 62 = .ok (.getfield 66, 3) := by decide +kernel
theorem dX9_wanted_65 : decode cX9_wanted 65 = .ok (.iconst 4, 1) := by decide +kernel
theorem dX9_wanted_66 : decode cX9_wanted 66 = .ok (.iload_n 2, 1) := by decide +kernel
theorem dX9_wanted_67 : decode cX9_wanted 67 = .ok (.imul, 1) := by decide +kernel
theorem dX9_wanted_68 : decode cX9_wanted 68 = .ok (.invokevirtual 197, 3) := by decide +kernel
theorem dX9_wanted_71 : decode cX9_wanted 71 = .ok (.iconst 4, 1) := by decide +kernel
theorem dX9_wanted_72 : decode cX9_wanted 72 = .ok (.idiv, 1) := by decide +kernel
theorem dX9_wanted_73 : decode cX9_wanted 73 = .ok (.ireturn, 1) := by decide +kernel
theorem dX9_part_0 : decode cX9_part 0 = .ok (.aload_n 0, 1) := by decide +kernel
theorem dX9_part_1 : decode cX9_part 1 = .ok (.iload_n 1, 1) := by decide +kernel
theorem dX9_part_2 : decode cX9_part 2 = .ok (.invokevirtual 164, 3) := by decide +kernel
theorem dX9_part_5 : decode cX9_part 5 = .ok (.astore_n 3, 1) := by decide +kernel
theorem dX9_part_6 : decode cX9_part 6 = .ok (.aload_n 3, 1) := by decide +kernel
theorem dX9_part_7 : decode cX9_part 7 = .ok (.ifnull 15, 3) := by decide +kernel
theorem dX9_part_10 : decode cX9_part 10 = .ok (.iload_n 2, 1) := by decide +kernel
theorem dX9_part_11 : decode cX9_part 11 = .ok (.ifCond .lt 11, 3) := by decide +kernel
theorem dX9_part_14 : decode cX9_part 14 = .ok (.iload_n 2, 1) := by decide +kernel
theorem dX9_part_15 : decode cX9_part 15 = .ok (.aload_n 3, 1) := by decide +kernel
theorem dX9_part_16 : decode cX9_part 16 = .ok (.invokevirtual 110, 3) := by decide +kernel
theorem dX9_part_19 : decode cX9_part 19 = .ok (.if_icmp .lt 13, 3) := by decide +kernel
theorem dX9_part_22 : decode cX9_part 22 = .ok (.new 178, 3) := by decide +kernel
theorem dX9_part_25 : decode cX9_part 25 = .ok (.dup, 1) := by decide +kernel
theorem dX9_part_26 : decode cX9_part 26 = .ok (.ldc 214, 2) := by decide +kernel
theorem dX9_part_28 : decode cX9_part 28 = .ok (.invokespecial 182, 3) := by decide +kernel
theorem dX9_part_31 : decode cX9_part 31 = .ok (.athrow, 1) := by decide +kernel
theorem dX9_part_32 : decode cX9_part 32 = .ok (.aload_n 3, 1) := by decide +kernel
theorem dX9_part_33 : decode cX9_part 33 = .ok (.iload_n 2, 1) := by decide +kernel
theorem dX9_part_34 : decode cX9_part 34 = .ok (.invokevirtual 155, 3) := by decide +kernel
theorem dX9_part_37 : decode cX9_part 37 = .ok (.ireturn, 1) := by decide +kernel
theorem dX9_say_0 : decode cX9_say 0 = .ok (.iload_n 1, 1) := by decide +kernel
theorem dX9_say_1 : decode cX9_say 1 = .ok (.invokestatic 216, 3) := by decide +kernel
theorem dX9_say_4 : decode cX9_say 4 = .ok (.aload_n 0, 1) := by decide +kernel
theorem dX9_say_5 : decode cX9_say 5 = .ok (.iload_n 1, 1) := by decide +kernel
theorem dX9_say_6 : decode cX9_say 6 = .ok (.invokevirtual 164, 3) := by decide +kernel
theorem dX9_say_9 : decode cX9_say 9 = .ok (.astore_n 2, 1) := by decide +kernel
theorem dX9_say_10 : decode cX9_say 10 = .ok (.aload_n 2, 1) := by decide +kernel
theorem dX9_say_11 : decode cX9_say 11 = .ok (.ifnonnull 7, 3) := by decide +kernel
theorem dX9_say_14 : decode cX9_say 14 = .ok (.iconst (-1), 1) := by decide +kernel
theorem dX9_say_15 : decode cX9_say 15 = .ok (.goto 11, 3) := by decide +kernel
theorem dX9_say_18 : decode cX9_say 18 = .ok (.aload_n 0, 1) := by decide +kernel
theorem dX9_say_19 : decode cX9_say 19 = .ok (.getfield 44, 3) := by decide +kernel
theorem dX9_say_22 : decode cX9_say 22 = .ok (.aload_n 2, 1) := by decide +kernel
theorem dX9_say_23 : decode cX9_say 23 = .ok (.invokevirtual 219, 3) := by decide +kernel
theorem dX9_say_26 : decode cX9_say 26 = .ok (.ireturn, 1) := by decide +kernel
theorem dX9_said_0 : decode cX9_said 0 = .ok (.aload_n 0, 1) := by decide +kernel
theorem dX9_said_1 : decode cX9_said 1 = .ok (.getfield 44, 3) := by decide +kernel
theorem dX9_said_4 : decode cX9_said 4 = .ok (.iload_n 1, 1) := by decide +kernel
theorem dX9_said_5 : decode cX9_said 5 = .ok (.invokevirtual 222, 3) := by decide +kernel
theorem dX9_said_8 : decode cX9_said 8 = .ok (.ireturn, 1) := by decide +kernel
theorem dX9_same_0 : decode cX9_same 0 = .ok (.iload_n 1, 1) := by decide +kernel
theorem dX9_same_1 : decode cX9_same 1 = .ok (.invokestatic 216, 3) := by decide +kernel
theorem dX9_same_4 : decode cX9_same 4 = .ok (.iload_n 2, 1) := by decide +kernel
theorem dX9_same_5 : decode cX9_same 5 = .ok (.invokestatic 216, 3) := by decide +kernel
theorem dX9_same_8 : decode cX9_same 8 = .ok (.aload_n 0, 1) := by decide +kernel
theorem dX9_same_9 : decode cX9_same 9 = .ok (.iload_n 1, 1) := by decide +kernel
theorem dX9_same_10 : decode cX9_same 10 = .ok (.invokevirtual 164, 3) := by decide +kernel
theorem dX9_same_13 : decode cX9_same 13 = .ok (.astore_n 3, 1) := by decide +kernel
theorem dX9_same_14 : decode cX9_same 14 = .ok (.aload_n 0, 1) := by decide +kernel
theorem dX9_same_15 : decode cX9_same 15 = .ok (.iload_n 2, 1) := by decide +kernel
theorem dX9_same_16 : decode cX9_same 16 = .ok (.invokevirtual 164, 3) := by decide +kernel
theorem dX9_same_19 : decode cX9_same 19 = .ok (.astore 4, 2) := by decide +kernel
theorem dX9_same_21 : decode cX9_same 21 = .ok (.aload_n 3, 1) := by decide +kernel
theorem dX9_same_22 : decode cX9_same 22 = .ok (.ifnull 8, 3) := by decide +kernel
theorem dX9_same_25 : decode cX9_same 25 = .ok (.aload 4, 2) := by decide +kernel
theorem dX9_same_27 : decode cX9_same 27 = .ok (.ifnonnull 13, 3) := by decide +kernel
theorem dX9_same_30 : decode cX9_same 30 = .ok (.new 178, 3) := by decide +kernel
theorem dX9_same_33 : decode cX9_same 33 = .ok (.dup, 1) := by decide +kernel
theorem dX9_same_34 : decode cX9_same 34 = .ok (.ldc 225, 2) := by decide +kernel
theorem dX9_same_36 : decode cX9_same 36 = .ok (.invokespecial 182, 3) := by decide +kernel
theorem dX9_same_39 : decode cX9_same 39 = .ok (.athrow, 1) := by decide +kernel
theorem dX9_same_40 : decode cX9_same 40 = .ok (.aload_n 3, 1) := by decide +kernel
theorem dX9_same_41 : decode cX9_same 41 = .ok (.aload 4, 2) := by decide +kernel
theorem dX9_same_43 : decode cX9_same 43 = .ok (.invokevirtual 227, 3) := by decide +kernel
theorem dX9_same_46 : decode cX9_same 46 = .ok (.ireturn, 1) := by decide +kernel
theorem dX9_plain_0 : decode cX9_plain 0 = .ok (.iload_n 1, 1) := by decide +kernel
theorem dX9_plain_1 : decode cX9_plain 1 = .ok (.ifCond .lt 10, 3) := by decide +kernel
theorem dX9_plain_4 : decode cX9_plain 4 = .ok (.iload_n 1, 1) := by decide +kernel
theorem dX9_plain_5 : decode cX9_plain 5 = .ok (.sipush 200, 3) := by decide +kernel
theorem dX9_plain_8 : decode cX9_plain 8 = .ok (.if_icmp .le 13, 3) := by decide +kernel
theorem dX9_plain_11 : decode cX9_plain 11 = .ok (.new 118, 3) := by decide +kernel
theorem dX9_plain_14 : decode cX9_plain 14 = .ok (.dup, 1) := by decide +kernel
theorem dX9_plain_15 : decode cX9_plain 15 = .ok (.ldc 231, 2) := by decide +kernel
theorem dX9_plain_17 : decode cX9_plain 17 = .ok (.invokespecial 122, 3) := by decide +kernel
theorem dX9_plain_20 : decode cX9_plain 20 = .ok (.athrow, 1) := by decide +kernel
theorem dX9_plain_21 : decode cX9_plain 21 = .ok (.aload_n 0, 1) := by decide +kernel
theorem dX9_plain_22 : decode cX9_plain 22 = .ok (.getfield 37, 3) := by decide +kernel
theorem dX9_plain_25 : decode cX9_plain 25 = .ok (.aload_n 0, 1) := by decide +kernel
theorem dX9_plain_26 : decode cX9_plain 26 = .ok (.getfield 48, 3) := by decide +kernel
theorem dX9_plain_29 : decode cX9_plain 29 = .ok (.iload_n 1, 1) := by decide +kernel
theorem dX9_plain_30 : decode cX9_plain 30 = .ok (.invokevirtual 233, 3) := by decide +kernel
theorem dX9_plain_33 : decode cX9_plain 33 = .ok (.aload_n 0, 1) := by decide +kernel
theorem dX9_plain_34 : decode cX9_plain 34 = .ok (.getfield 37, 3) := by decide +kernel
theorem dX9_plain_37 : decode cX9_plain 37 = .ok (.invokevirtual 237, 3) := by decide +kernel
theorem dX9_plain_40 : decode cX9_plain 40 = .ok (.ifCond .eq 7, 3) := by decide +kernel
theorem dX9_plain_43 : decode cX9_plain 43 = .ok (.iconst (-1), 1) := by decide +kernel
theorem dX9_plain_44 : decode cX9_plain 44 = .ok (.goto 13, 3) := by decide +kernel
theorem dX9_plain_47 : decode cX9_plain 47 = .ok (.aload_n 0, 1) := by decide +kernel
theorem dX9_plain_48 : decode cX9_plain 48 = .ok (.getfield 37, 3) := by decide +kernel
theorem dX9_plain_51 : decode cX9_plain 51 = .ok (.invokevirtual 240, 3) := by decide +kernel
theorem dX9_plain_54 : decode cX9_plain 54 = .ok (.invokevirtual 110, 3) := by decide +kernel
theorem dX9_plain_57 : decode cX9_plain 57 = .ok (.ireturn, 1) := by decide +kernel
theorem dX9_redexes_0 : decode cX9_redexes 0 = .ok (.iload_n 1, 1) := by decide +kernel
theorem dX9_redexes_1 : decode cX9_redexes 1 = .ok (.invokestatic 216, 3) := by decide +kernel
theorem dX9_redexes_4 : decode cX9_redexes 4 = .ok (.aload_n 0, 1) := by decide +kernel
theorem dX9_redexes_5 : decode cX9_redexes 5 = .ok (.iload_n 1, 1) := by decide +kernel
theorem dX9_redexes_6 : decode cX9_redexes 6 = .ok (.invokevirtual 164, 3) := by decide +kernel
theorem dX9_redexes_9 : decode cX9_redexes 9 = .ok (.astore_n 2, 1) := by decide +kernel
theorem dX9_redexes_10 : decode cX9_redexes 10 = .ok (.aload_n 2, 1) := by decide +kernel
theorem dX9_redexes_11 : decode cX9_redexes 11 = .ok (.ifnonnull 13, 3) := by decide +kernel
theorem dX9_redexes_14 : decode cX9_redexes 14 = .ok (.new 178, 3) := by decide +kernel
theorem dX9_redexes_17 : decode cX9_redexes 17 = .ok (.dup, 1) := by decide +kernel
theorem dX9_redexes_18 : decode cX9_redexes 18 = .ok (.ldc 225, 2) := by decide +kernel
theorem dX9_redexes_20 : decode cX9_redexes 20 = .ok (.invokespecial 182, 3) := by decide +kernel
theorem dX9_redexes_23 : decode cX9_redexes 23 = .ok (.athrow, 1) := by decide +kernel
theorem dX9_redexes_24 : decode cX9_redexes 24 = .ok (.iconst 0, 1) := by decide +kernel
theorem dX9_redexes_25 : decode cX9_redexes 25 = .ok (.istore_n 3, 1) := by decide +kernel
theorem dX9_redexes_26 : decode cX9_redexes 26 = .ok (.iconst 0, 1) := by decide +kernel
theorem dX9_redexes_27 : decode cX9_redexes 27 = .ok (.istore 4, 2) := by decide +kernel
theorem dX9_redexes_29 : decode cX9_redexes 29 = .ok (.iload 4, 2) := by decide +kernel
theorem dX9_redexes_31 : decode cX9_redexes 31 = .ok (.aload_n 2, 1) := by decide +kernel
theorem dX9_redexes_32 : decode cX9_redexes 32 = .ok (.invokevirtual 110, 3) := by decide +kernel
theorem dX9_redexes_35 : decode cX9_redexes 35 = .ok (.if_icmp .ge 21, 3) := by decide +kernel
theorem dX9_redexes_38 : decode cX9_redexes 38 = .ok (.aload_n 2, 1) := by decide +kernel
theorem dX9_redexes_39 : decode cX9_redexes 39 = .ok (.iload 4, 2) := by decide +kernel
theorem dX9_redexes_41 : decode cX9_redexes 41 = .ok (.invokestatic 244, 3) := by decide +kernel
theorem dX9_redexes_44 : decode cX9_redexes 44 = .ok (.ifCond .eq 6, 3) := by decide +kernel
theorem dX9_redexes_47 : decode cX9_redexes 47 = .ok (.iinc 3 1, 3) := by decide +kernel
theorem dX9_redexes_50 : decode cX9_redexes 50 = .ok (.iinc 4 1, 3) := by decide +kernel
theorem dX9_redexes_53 : decode cX9_redexes 53 = .ok (.goto (-24), 3) := by decide +kernel
theorem dX9_redexes_56 : decode cX9_redexes 56 = .ok (.iload_n 3, 1) := by decide +kernel
theorem dX9_redexes_57 : decode cX9_redexes 57 = .ok (.ireturn, 1) := by decide +kernel
theorem dX9_trial_0 : decode cX9_trial 0 = .ok (.iload_n 1, 1) := by decide +kernel
theorem dX9_trial_1 : decode cX9_trial 1 = .ok (.invokestatic 139, 3) := by decide +kernel
theorem dX9_trial_4 : decode cX9_trial 4 = .ok (.iload_n 2, 1) := by decide +kernel
theorem dX9_trial_5 : decode cX9_trial 5 = .ok (.ifCond .lt 8, 3) := by decide +kernel
theorem dX9_trial_8 : decode cX9_trial 8 = .ok (.iload_n 2, 1) := by decide +kernel
theorem dX9_trial_9 : decode cX9_trial 9 = .ok (.iconst 3, 1) := by decide +kernel
theorem dX9_trial_10 : decode cX9_trial 10 = .ok (.if_icmp .le 13, 3) := by decide +kernel
theorem dX9_trial_13 : decode cX9_trial 13 = .ok (.new 178, 3) := by decide +kernel
theorem dX9_trial_16 : decode cX9_trial 16 = .ok (.dup, 1) := by decide +kernel
theorem dX9_trial_17 : decode cX9_trial 17 = .ok (.ldc 248, 2) := by decide +kernel
theorem dX9_trial_19 : decode cX9_trial 19 = .ok (.invokespecial 182, 3) := by decide +kernel
theorem dX9_trial_22 : decode cX9_trial 22 = .ok (.athrow, 1) := by decide +kernel
theorem dX9_trial_23 : decode cX9_trial 23 = .ok (.iconst 5, 1) := by decide +kernel
theorem dX9_trial_24 : decode cX9_trial 24 = .ok (.iload_n 1, 1) := by decide +kernel
theorem dX9_trial_25 : decode cX9_trial 25 = .ok (.imul, 1) := by decide +kernel
theorem dX9_trial_26 : decode cX9_trial 26 = .ok (.istore_n 3, 1) := by decide +kernel
theorem dX9_trial_27 : decode cX9_trial 27 = .ok (.aload_n 0, 1) := by decide +kernel
theorem dX9_trial_28 : decode cX9_trial 28 = .ok (.getfield 60, 3) := by decide +kernel
theorem dX9_trial_31 : decode cX9_trial 31 = .ok (.iload_n 3, 1) := by decide +kernel
theorem dX9_trial_32 : decode cX9_trial 32 = .ok (.iconst 4, 1) := by decide +kernel
theorem dX9_trial_33 : decode cX9_trial 33 = .ok (.iadd, 1) := by decide +kernel
theorem dX9_trial_34 : decode cX9_trial 34 = .ok (.invokevirtual 155, 3) := by decide +kernel
theorem dX9_trial_37 : decode cX9_trial 37 = .ok (.iconst 1, 1) := by decide +kernel
theorem dX9_trial_38 : decode cX9_trial 38 = .ok (.if_icmp .ne 14, 3) := by decide +kernel
theorem dX9_trial_41 : decode cX9_trial 41 = .ok (.aload_n 0, 1) := by decide +kernel
theorem dX9_trial_42 : decode cX9_trial 42 = .ok (.getfield 60, 3) := by decide +kernel
theorem dX9_trial_45 : decode cX9_trial 45 = .ok (.iload_n 3, 1) := by decide +kernel
theorem dX9_trial_46 : decode cX9_trial 46 = .ok (.iload_n 2, 1) := by decide +kernel
theorem dX9_trial_47 : decode cX9_trial 47 = .ok (.iadd, 1) := by decide +kernel
theorem dX9_trial_48 : decode cX9_trial 48 = .ok (.invokevirtual 155, 3) := by decide +kernel
theorem dX9_trial_51 : decode cX9_trial 51 = .ok (.ireturn, 1) := by decide +kernel
theorem dX9_trial_52 : decode cX9_trial 52 = .ok (.iconst 0, 1) := by decide +kernel
theorem dX9_trial_53 : decode cX9_trial 53 = .ok (.istore 4, 2) := by decide +kernel
theorem dX9_trial_55 : decode cX9_trial 55 = .ok (.iconst 0, 1) := by decide +kernel
theorem dX9_trial_56 : decode cX9_trial 56 = .ok (.istore 5, 2) := by decide +kernel
theorem dX9_trial_58 : decode cX9_trial 58 = .ok (.aload_n 0, 1) := by decide +kernel
theorem dX9_trial_59 : decode cX9_trial 59 = .ok (.getfield 66, 3) := by decide +kernel
theorem dX9_trial_62 : decode cX9_trial 62 = .ok (.invokevirtual 138, 3) := by decide +kernel
theorem dX9_trial_65 : decode cX9_trial 65 = .ok (.istore 6, 2) := by decide +kernel
theorem dX9_trial_67 : decode cX9_trial 67 = .ok (.iconst 1, 1) := by decide +kernel
theorem dX9_trial_68 : decode cX9_trial 68 = .ok (.istore 7, 2) := by decide +kernel
theorem dX9_trial_70 : decode cX9_trial 70 = .ok (.aload_n 0, 1) := by decide +kernel
theorem dX9_trial_71 : decode cX9_trial 71 = .ok (.getfield 70, 3) := by decide +kernel
theorem dX9_trial_74 : decode cX9_trial 74 = .ok (.aload_n 0, 1) := by decide +kernel
theorem dX9_trial_75 : decode cX9_trial 75 = .ok (.getfield 66, 3) := by decide +kernel
theorem dX9_trial_78 : decode cX9_trial 78 = .ok (.invokevirtual 250, 3) := by decide +kernel
theorem dX9_trial_81 : decode cX9_trial 81 = .ok (.iload 4, 2) := by decide +kernel
theorem dX9_trial_83 : decode cX9_trial 83 = .ok (.sipush 400, 3) := by decide +kernel
theorem dX9_trial_86 : decode cX9_trial 86 = .ok (.if_icmp .ge 67, 3) := by decide +kernel
theorem dX9_trial_89 : decode cX9_trial 89 = .ok (.iload 7, 2) := by decide +kernel
theorem dX9_trial_91 : decode cX9_trial 91 = .ok (.ifCond .le 62, 3) := by decide +kernel
theorem dX9_trial_94 : decode cX9_trial 94 = .ok (.aload_n 0, 1) := by decide +kernel
theorem dX9_trial_95 : decode cX9_trial 95 = .ok (.aload_n 0, 1) := by decide +kernel
theorem dX9_trial_96 : decode cX9_trial 96 = .ok (.getfield 70, 3) := by decide +kernel
theorem dX9_trial_99 : decode cX9_trial 99 = .ok (.iload_n 1, 1) := by decide +kernel
theorem dX9_trial_100 : decode cX9_trial 100 = .ok (.invokevirtual 142, 3) := by decide +kernel
theorem dX9_trial_103 : decode cX9_trial 103 = .ok (.istore 8, 2) := by decide +kernel
theorem dX9_trial_105 : decode cX9_trial 105 = .ok (.iload 8, 2) := by decide +kernel
theorem dX9_trial_107 : decode cX9_trial 107 = .ok (.ifCond .le 39, 3) := by decide +kernel
theorem dX9_trial_110 : decode cX9_trial 110 = .ok (.iinc 4 1, 3) := by decide +kernel
theorem dX9_trial_113 : decode cX9_trial 113 = .ok (.iload 5, 2) := by decide +kernel
theorem dX9_trial_115 : decode cX9_trial 115 = .ok (.iload 8, 2) := by decide +kernel
theorem dX9_trial_117 : decode cX9_trial 117 = .ok (.iconst 1, 1) := by decide +kernel
theorem dX9_trial_118 : decode cX9_trial 118 = .ok (.if_icmp .ne 7, 3) := by decide +kernel
theorem dX9_trial_121 : decode cX9_trial 121 = .ok (.iconst 1, 1) := by decide +kernel
theorem dX9_trial_122 : decode cX9_trial 122 = .ok (.goto 4, 3) := by decide +kernel
theorem dX9_trial_125 : decode cX9_trial 125 = .ok (.iconst 0, 1) := by decide +kernel
theorem dX9_trial_126 : decode cX9_trial 126 = .ok (.iadd, 1) := by decide +kernel
theorem dX9_trial_127 : decode cX9_trial 127 = .ok (.istore 5, 2) := by decide +kernel
theorem dX9_trial_129 : decode cX9_trial 129 = .ok (.iload 6, 2) := by decide +kernel
theorem dX9_trial_131 : decode cX9_trial 131 = .ok (.aload_n 0, 1) := by decide +kernel
theorem dX9_trial_132 : decode cX9_trial 132 = .ok (.getfield 70, 3) := by decide +kernel
theorem dX9_trial_135 : decode cX9_trial 135 = .ok (.invokevirtual 138, 3) := by decide +kernel
theorem dX9_trial_138 : decode cX9_trial 138 = .ok (.invokestatic 253, 3) := by decide +kernel
theorem dX9_trial_141 : decode cX9_trial 141 = .ok (.istore 6, 2) := by decide +kernel
theorem dX9_trial_143 : decode cX9_trial 143 = .ok (.goto 7, 3) := by decide +kernel
theorem dX9_trial_146 : decode cX9_trial 146 = .ok (.iload 8, 2) := by decide +kernel
theorem dX9_trial_148 : decode cX9_trial 148 = .ok (.istore 7, 2) := by decide +kernel
theorem dX9_trial_150 : decode cX9_trial 150 = .ok (.goto (-69), 3) := by decide +kernel
theorem dX9_trial_153 : decode cX9_trial 153 = .ok (.aload_n 0, 1) := by decide +kernel
theorem dX9_trial_154 : decode cX9_trial 154 = .ok (.getfield 60, 3) := by decide +kernel
theorem dX9_trial_157 : decode cX9_trial 157 = .ok (.iload_n 3, 1) := by decide +kernel
theorem dX9_trial_158 : decode cX9_trial 158 = .ok (.iload 4, 2) := by decide +kernel
theorem dX9_trial_160 : decode cX9_trial 160 = .ok (.invokevirtual 258, 3) := by decide +kernel
theorem dX9_trial_163 : decode cX9_trial 163 = .ok (.aload_n 0, 1) := by decide +kernel
theorem dX9_trial_164 : decode cX9_trial 164 = .ok (.getfield 60, 3) := by decide +kernel
theorem dX9_trial_167 : decode cX9_trial 167 = .ok (.iload_n 3, 1) := by decide +kernel
theorem dX9_trial_168 : decode cX9_trial 168 = .ok (.iconst 1, 1) := by decide +kernel
theorem dX9_trial_169 : decode cX9_trial 169 = .ok (.iadd, 1) := by decide +kernel
theorem dX9_trial_170 : decode cX9_trial 170 = .ok (.iload 5, 2) := by decide +kernel
theorem dX9_trial_172 : decode cX9_trial 172 = .ok (.invokevirtual 258, 3) := by decide +kernel
theorem dX9_trial_175 : decode cX9_trial 175 = .ok (.aload_n 0, 1) := by decide +kernel
theorem dX9_trial_176 : decode cX9_trial 176 = .ok (.getfield 60, 3) := by decide +kernel
theorem dX9_trial_179 : decode cX9_trial 179 = .ok (.iload_n 3, 1) := by decide +kernel
theorem dX9_trial_180 : decode cX9_trial 180 = .ok (.iconst 2, 1) := by decide +kernel
theorem dX9_trial_181 : decode cX9_trial 181 = .ok (.iadd, 1) := by decide +kernel
theorem dX9_trial_182 : decode cX9_trial 182 = .ok (.iload 6, 2) := by decide +kernel
theorem dX9_trial_184 : decode cX9_trial 184 = .ok (.invokevirtual 258, 3) := by decide +kernel
theorem dX9_trial_187 : decode cX9_trial 187 = .ok (.aload_n 0, 1) := by decide +kernel
theorem dX9_trial_188 : decode cX9_trial 188 = .ok (.getfield 60, 3) := by decide +kernel
theorem dX9_trial_191 : decode cX9_trial 191 = .ok (.iload_n 3, 1) := by decide +kernel
theorem dX9_trial_192 : decode cX9_trial 192 = .ok (.iconst 3, 1) := by decide +kernel
theorem dX9_trial_193 : decode cX9_trial 193 = .ok (.iadd, 1) := by decide +kernel
theorem dX9_trial_194 : decode cX9_trial 194 = .ok (.iload 7, 2) := by decide +kernel
theorem dX9_trial_196 : decode cX9_trial 196 = .ok (.invokevirtual 258, 3) := by decide +kernel
theorem dX9_trial_199 : decode cX9_trial 199 = .ok (.aload_n 0, 1) := by decide +kernel
theorem dX9_trial_200 : decode cX9_trial 200 = .ok (.getfield 60, 3) := by decide +kernel
theorem dX9_trial_203 : decode cX9_trial 203 = .ok (.iload_n 3, 1) := by decide +kernel
theorem dX9_trial_204 : decode cX9_trial 204 = .ok (.iconst 4, 1) := by decide +kernel
theorem dX9_trial_205 : decode cX9_trial 205 = .ok (.iadd, 1) := by decide +kernel
theorem dX9_trial_206 : decode cX9_trial 206 = .ok (.iconst 1, 1) := by decide +kernel
theorem dX9_trial_207 : decode cX9_trial 207 = .ok (.invokevirtual 258, 3) := by decide +kernel
theorem dX9_trial_210 : decode cX9_trial 210 = .ok (.aload_n 0, 1) := by decide +kernel
theorem dX9_trial_211 : decode cX9_trial 211 = .ok (.getfield 60, 3) := by decide +kernel
theorem dX9_trial_214 : decode cX9_trial 214 = .ok (.iload_n 3, 1) := by decide +kernel
theorem dX9_trial_215 : decode cX9_trial 215 = .ok (.iload_n 2, 1) := by decide +kernel
theorem dX9_trial_216 : decode cX9_trial 216 = .ok (.iadd, 1) := by decide +kernel
theorem dX9_trial_217 : decode cX9_trial 217 = .ok (.invokevirtual 155, 3) := by decide +kernel
theorem dX9_trial_220 : decode cX9_trial 220 = .ok (.ireturn, 1) := by decide +kernel
theorem dX9_feedNumber_0 : decode cX9_feedNumber 0 = .ok (.aload_n 0, 1) := by decide +kernel
theorem dX9_feedNumber_1 : decode cX9_feedNumber 1 = .ok (.getfield 14, 3) := by decide +kernel
theorem dX9_feedNumber_4 : decode cX9_feedNumber 4 = .ok (.iload_n 1, 1) := by decide +kernel
theorem dX9_feedNumber_5 : decode cX9_feedNumber 5 = .ok (.bipush 24, 2) := by decide +kernel
theorem dX9_feedNumber_7 : decode cX9_feedNumber 7 = .ok (.iushr, 1) := by decide +kernel
theorem dX9_feedNumber_8 : decode cX9_feedNumber 8 = .ok (.invokevirtual 99, 3) := by decide +kernel
theorem dX9_feedNumber_11 : decode cX9_feedNumber 11 = .ok (.pop, 1) := by decide +kernel
theorem dX9_feedNumber_12 : decode cX9_feedNumber 12 = .ok (.aload_n 0, 1) := by decide +kernel
theorem dX9_feedNumber_13 : decode cX9_feedNumber 13 = .ok (.getfield 14, 3) := by decide +kernel
theorem dX9_feedNumber_16 : decode cX9_feedNumber 16 = .ok (.iload_n 1, 1) := by decide +kernel
theorem dX9_feedNumber_17 : decode cX9_feedNumber 17 = .ok (.bipush 16, 2) := by decide +kernel
theorem dX9_feedNumber_19 : decode cX9_feedNumber 19 = .ok (.iushr, 1) := by decide +kernel
theorem dX9_feedNumber_20 : decode cX9_feedNumber 20 = .ok (.sipush 255, 3) := by decide +kernel
theorem dX9_feedNumber_23 : decode cX9_feedNumber 23 = .ok (.iand, 1) := by decide +kernel
theorem dX9_feedNumber_24 : decode cX9_feedNumber 24 = .ok (.invokevirtual 99, 3) := by decide +kernel
theorem dX9_feedNumber_27 : decode cX9_feedNumber 27 = .ok (.pop, 1) := by decide +kernel
theorem dX9_feedNumber_28 : decode cX9_feedNumber 28 = .ok (.aload_n 0, 1) := by decide +kernel
theorem dX9_feedNumber_29 : decode cX9_feedNumber 29 = .ok (.getfield 14, 3) := by decide +kernel
theorem dX9_feedNumber_32 : decode cX9_feedNumber 32 = .ok (.iload_n 1, 1) := by decide +kernel
theorem dX9_feedNumber_33 : decode cX9_feedNumber 33 = .ok (.bipush 8, 2) := by decide +kernel
theorem dX9_feedNumber_35 : decode cX9_feedNumber 35 = .ok (.iushr, 1) := by decide +kernel
theorem dX9_feedNumber_36 : decode cX9_feedNumber 36 = .ok (.sipush 255, 3) := by decide +kernel
theorem dX9_feedNumber_39 : decode cX9_feedNumber 39 = .ok (.iand, 1) := by decide +kernel
theorem dX9_feedNumber_40 : decode cX9_feedNumber 40 = .ok (.invokevirtual 99, 3) := by decide +kernel
theorem dX9_feedNumber_43 : decode cX9_feedNumber 43 = .ok (.pop, 1) := by decide +kernel
theorem dX9_feedNumber_44 : decode cX9_feedNumber 44 = .ok (.aload_n 0, 1) := by decide +kernel
theorem dX9_feedNumber_45 : decode cX9_feedNumber 45 = .ok (.getfield 14, 3) := by decide +kernel
theorem dX9_feedNumber_48 : decode cX9_feedNumber 48 = .ok (.iload_n 1, 1) := by decide +kernel
theorem dX9_feedNumber_49 : decode cX9_feedNumber 49 = .ok (.sipush 255, 3) := by decide +kernel
theorem dX9_feedNumber_52 : decode cX9_feedNumber 52 = .ok (.iand, 1) := by decide +kernel
theorem dX9_feedNumber_53 : decode cX9_feedNumber 53 = .ok (.invokevirtual 99, 3) := by decide +kernel
theorem dX9_feedNumber_56 : decode cX9_feedNumber 56 = .ok (.pop, 1) := by decide +kernel
theorem dX9_feedNumber_57 : decode cX9_feedNumber 57 = .ok (.return_, 1) := by decide +kernel
theorem dX9_takeProgram_0 : decode cX9_takeProgram 0 = .ok (.aload_n 0, 1) := by decide +kernel
theorem dX9_takeProgram_1 : decode cX9_takeProgram 1 = .ok (.getfield 23, 3) := by decide +kernel
theorem dX9_takeProgram_4 : decode cX9_takeProgram 4 = .ok (.aload_n 0, 1) := by decide +kernel
theorem dX9_takeProgram_5 : decode cX9_takeProgram 5 = .ok (.getfield 51, 3) := by decide +kernel
theorem dX9_takeProgram_8 : decode cX9_takeProgram 8 = .ok (.invokevirtual 261, 3) := by decide +kernel
theorem dX9_takeProgram_11 : decode cX9_takeProgram 11 = .ok (.ifCond .eq 21, 3) := by decide +kernel
theorem dX9_takeProgram_14 : decode cX9_takeProgram 14 = .ok (.aload_n 0, 1) := by decide +kernel
theorem dX9_takeProgram_15 : decode cX9_takeProgram 15 = .ok (.getfield 78, 3) := by decide +kernel
theorem dX9_takeProgram_18 : decode cX9_takeProgram 18 = .ok (.aload_n 0, 1) := by decide +kernel
theorem dX9_takeProgram_19 : decode cX9_takeProgram 19 = .ok (.getfield 51, 3) := by decide +kernel
theorem dX9_takeProgram_22 : decode cX9_takeProgram 22 = .ok (.aload_n 0, 1) := by decide +kernel
theorem dX9_takeProgram_23 : decode cX9_takeProgram 23 = .ok (.getfield 70, 3) := by decide +kernel
theorem dX9_takeProgram_26 : decode cX9_takeProgram 26 = .ok (.invokevirtual 103, 3) := by decide +kernel
theorem dX9_takeProgram_29 : decode cX9_takeProgram 29 = .ok (.ifCond .ne 5, 3) := by decide +kernel
theorem dX9_takeProgram_32 : decode cX9_takeProgram 32 = .ok (.iconst 0, 1) := by decide +kernel
theorem dX9_takeProgram_33 : decode cX9_takeProgram 33 = .ok (.ireturn, 1) := by decide +kernel
theorem dX9_takeProgram_34 : decode cX9_takeProgram 34 = .ok (.aload_n 0, 1) := by decide +kernel
theorem dX9_takeProgram_35 : decode cX9_takeProgram 35 = .ok (.getfield 66, 3) := by decide +kernel
theorem dX9_takeProgram_38 : decode cX9_takeProgram 38 = .ok (.astore_n 1, 1) := by decide +kernel
theorem dX9_takeProgram_39 : decode cX9_takeProgram 39 = .ok (.aload_n 0, 1) := by decide +kernel
theorem dX9_takeProgram_40 : decode cX9_takeProgram 40 = .ok (.aload_n 0, 1) := by decide +kernel
theorem dX9_takeProgram_41 : decode cX9_takeProgram 41 = .ok (.getfield 70, 3) := by decide +kernel
theorem dX9_takeProgram_44 : decode cX9_takeProgram 44 = .ok (.putfield 66, 3) := by decide +kernel
theorem dX9_takeProgram_47 : decode cX9_takeProgram 47 = .ok (.aload_n 0, 1) := by decide +kernel
theorem dX9_takeProgram_48 : decode cX9_takeProgram 48 = .ok (.aload_n 1, 1) := by decide +kernel
theorem dX9_takeProgram_49 : decode cX9_takeProgram 49 = .ok (.putfield 70, 3) := by decide +kernel
theorem dX9_takeProgram_52 : decode cX9_takeProgram 52 = .ok (.aload_n 0, 1) := by decide +kernel
theorem dX9_takeProgram_53 : decode cX9_takeProgram 53 = .ok (.getfield 48, 3) := by decide +kernel
theorem dX9_takeProgram_56 : decode cX9_takeProgram 56 = .ok (.aload_n 0, 1) := by decide +kernel
theorem dX9_takeProgram_57 : decode cX9_takeProgram 57 = .ok (.getfield 51, 3) := by decide +kernel
theorem dX9_takeProgram_60 : decode cX9_takeProgram 60 = .ok (.invokevirtual 264, 3) := by decide +kernel
theorem dX9_takeProgram_63 : decode cX9_takeProgram 63 = .ok (.aload_n 0, 1) := by decide +kernel
theorem dX9_takeProgram_64 : decode cX9_takeProgram 64 = .ok (.iconst 0, 1) := by decide +kernel
theorem dX9_takeProgram_65 : decode cX9_takeProgram 65 = .ok (.putfield 92, 3) := by decide +kernel
theorem dX9_takeProgram_68 : decode cX9_takeProgram 68 = .ok (.aload_n 0, 1) := by decide +kernel
theorem dX9_takeProgram_69 : decode cX9_takeProgram 69 = .ok (.invokevirtual 107, 3) := by decide +kernel
theorem dX9_takeProgram_72 : decode cX9_takeProgram 72 = .ok (.iconst 1, 1) := by decide +kernel
theorem dX9_takeProgram_73 : decode cX9_takeProgram 73 = .ok (.ireturn, 1) := by decide +kernel
theorem dX9_beginAnew_0 : decode cX9_beginAnew 0 = .ok (.aload_n 0, 1) := by decide +kernel
theorem dX9_beginAnew_1 : decode cX9_beginAnew 1 = .ok (.getfield 57, 3) := by decide +kernel
theorem dX9_beginAnew_4 : decode cX9_beginAnew 4 = .ok (.bipush 6, 2) := by decide +kernel
theorem dX9_beginAnew_6 : decode cX9_beginAnew 6 = .ok (.iconst 0, 1) := by decide +kernel
theorem dX9_beginAnew_7 : decode cX9_beginAnew 7 = .ok (.invokevirtual 266, 3) := by decide +kernel
theorem dX9_beginAnew_10 : decode cX9_beginAnew 10 = .ok (.aload_n 0, 1) := by decide +kernel
theorem dX9_beginAnew_11 : decode cX9_beginAnew 11 = .ok (.aload_n 0, 1) := by decide +kernel
theorem dX9_beginAnew_12 : decode cX9_beginAnew 12 = .ok (.getfield 66, 3) := by decide +kernel
theorem dX9_beginAnew_15 : decode cX9_beginAnew 15 = .ok (.invokevirtual 138, 3) := by decide +kernel
theorem dX9_beginAnew_18 : decode cX9_beginAnew 18 = .ok (.putfield 86, 3) := by decide +kernel
theorem dX9_beginAnew_21 : decode cX9_beginAnew 21 = .ok (.aload_n 0, 1) := by decide +kernel
theorem dX9_beginAnew_22 : decode cX9_beginAnew 22 = .ok (.invokevirtual 269, 3) := by decide +kernel
theorem dX9_beginAnew_25 : decode cX9_beginAnew 25 = .ok (.return_, 1) := by decide +kernel
theorem dX9_forget_0 : decode cX9_forget 0 = .ok (.aload_n 0, 1) := by decide +kernel
theorem dX9_forget_1 : decode cX9_forget 1 = .ok (.iconst 0, 1) := by decide +kernel
theorem dX9_forget_2 : decode cX9_forget 2 = .ok (.putfield 96, 3) := by decide +kernel
theorem dX9_forget_5 : decode cX9_forget 5 = .ok (.aload_n 0, 1) := by decide +kernel
theorem dX9_forget_6 : decode cX9_forget 6 = .ok (.getfield 60, 3) := by decide +kernel
theorem dX9_forget_9 : decode cX9_forget 9 = .ok (.bipush 15, 2) := by decide +kernel
theorem dX9_forget_11 : decode cX9_forget 11 = .ok (.iconst 0, 1) := by decide +kernel
theorem dX9_forget_12 : decode cX9_forget 12 = .ok (.invokevirtual 266, 3) := by decide +kernel
theorem dX9_forget_15 : decode cX9_forget 15 = .ok (.return_, 1) := by decide +kernel
theorem dX9_noteStep_0 : decode cX9_noteStep 0 = .ok (.iload_n 1, 1) := by decide +kernel
theorem dX9_noteStep_1 : decode cX9_noteStep 1 = .ok (.ifCond .le 61, 3) := by decide +kernel
theorem dX9_noteStep_4 : decode cX9_noteStep 4 = .ok (.aload_n 0, 1) := by decide +kernel
theorem dX9_noteStep_5 : decode cX9_noteStep 5 = .ok (.getfield 57, 3) := by decide +kernel
theorem dX9_noteStep_8 : decode cX9_noteStep 8 = .ok (.iconst 0, 1) := by decide +kernel
theorem dX9_noteStep_9 : decode cX9_noteStep 9 = .ok (.aload_n 0, 1) := by decide +kernel
theorem dX9_noteStep_10 : decode cX9_noteStep 10 = .ok (.getfield 57, 3) := by decide +kernel
theorem dX9_noteStep_13 : decode cX9_noteStep 13 = .ok (.iconst 0, 1) := by decide +kernel
theorem dX9_noteStep_14 : decode cX9_noteStep 14 = .ok (.invokevirtual 155, 3) := by decide +kernel
theorem dX9_noteStep_17 : decode cX9_noteStep 17 = .ok (.iconst 1, 1) := by decide +kernel
theorem dX9_noteStep_18 : decode cX9_noteStep 18 = .ok (.iadd, 1) := by decide +kernel
theorem dX9_noteStep_19 : decode cX9_noteStep 19 = .ok (.invokevirtual 258, 3) := by decide +kernel
theorem dX9_noteStep_22 : decode cX9_noteStep 22 = .ok (.aload_n 0, 1) := by decide +kernel
theorem dX9_noteStep_23 : decode cX9_noteStep 23 = .ok (.getfield 57, 3) := by decide +kernel
theorem dX9_noteStep_26 : decode cX9_noteStep 26 = .ok (.iload_n 1, 1) := by decide +kernel
theorem dX9_noteStep_27 : decode cX9_noteStep 27 = .ok (.aload_n 0, 1) := by decide +kernel
theorem dX9_noteStep_28 : decode cX9_noteStep 28 = .ok (.getfield 57, 3) := by decide +kernel
theorem dX9_noteStep_31 : decode cX9_noteStep 31 = .ok (.iload_n 1, 1) := by decide +kernel
theorem dX9_noteStep_32 : decode cX9_noteStep 32 = .ok (.invokevirtual 155, 3) := by decide +kernel
theorem dX9_noteStep_35 : decode cX9_noteStep 35 = .ok (.iconst 1, 1) := by decide +kernel
theorem dX9_noteStep_36 : decode cX9_noteStep 36 = .ok (.iadd, 1) := by decide +kernel
theorem dX9_noteStep_37 : decode cX9_noteStep 37 = .ok (.invokevirtual 258, 3) := by decide +kernel
theorem dX9_noteStep_40 : decode cX9_noteStep 40 = .ok (.aload_n 0, 1) := by decide +kernel
theorem dX9_noteStep_41 : decode cX9_noteStep 41 = .ok (.aload_n 0, 1) := by decide +kernel
theorem dX9_noteStep_42 : decode cX9_noteStep 42 = .ok (.getfield 86, 3) := by decide +kernel
theorem dX9_noteStep_45 : decode cX9_noteStep 45 = .ok (.aload_n 0, 1) := by decide +kernel
theorem dX9_noteStep_46 : decode cX9_noteStep 46 = .ok (.getfield 66, 3) := by decide +kernel
theorem dX9_noteStep_49 : decode cX9_noteStep 49 = .ok (.invokevirtual 138, 3) := by decide +kernel
theorem dX9_noteStep_52 : decode cX9_noteStep 52 = .ok (.invokestatic 253, 3) := by decide +kernel
theorem dX9_noteStep_55 : decode cX9_noteStep 55 = .ok (.putfield 86, 3) := by decide +kernel
theorem dX9_noteStep_58 : decode cX9_noteStep 58 = .ok (.aload_n 0, 1) := by decide +kernel
theorem dX9_noteStep_59 : decode cX9_noteStep 59 = .ok (.invokevirtual 269, 3) := by decide +kernel
theorem dX9_noteStep_62 : decode cX9_noteStep 62 = .ok (.return_, 1) := by decide +kernel
theorem dX9_workOn_0 : decode cX9_workOn 0 = .ok (.iload_n 2, 1) := by decide +kernel
theorem dX9_workOn_1 : decode cX9_workOn 1 = .ok (.ifCond .ne 43, 3) := by decide +kernel
theorem dX9_workOn_4 : decode cX9_workOn 4 = .ok (.aload_n 1, 1) := by decide +kernel
theorem dX9_workOn_5 : decode cX9_workOn 5 = .ok (.aload_n 0, 1) := by decide +kernel
theorem dX9_workOn_6 : decode cX9_workOn 6 = .ok (.getfield 66, 3) := by decide +kernel
theorem dX9_workOn_9 : decode cX9_workOn 9 = .ok (.if_acmp .ne 10, 3) := by decide +kernel
theorem dX9_workOn_12 : decode cX9_workOn 12 = .ok (.aload_n 0, 1) := by decide +kernel
theorem dX9_workOn_13 : decode cX9_workOn 13 = .ok (.getfield 96, 3) := by decide +kernel
theorem dX9_workOn_16 : decode cX9_workOn 16 = .ok (.ifCond .ne 17, 3) := by decide +kernel
theorem dX9_workOn_19 : decode cX9_workOn 19 = .ok (.aload_n 0, 1) := by decide +kernel
theorem dX9_workOn_20 : decode cX9_workOn 20 = .ok (.getfield 30, 3) := by decide +kernel
theorem dX9_workOn_23 : decode cX9_workOn 23 = .ok (.aload_n 1, 1) := by decide +kernel
theorem dX9_workOn_24 : decode cX9_workOn 24 = .ok (.iconst 0, 1) := by decide +kernel
theorem dX9_workOn_25 : decode cX9_workOn 25 = .ok (.invokevirtual 272, 3) := by decide +kernel
theorem dX9_workOn_28 : decode cX9_workOn 28 = .ok (.aload_n 0, 1) := by decide +kernel
theorem dX9_workOn_29 : decode cX9_workOn 29 = .ok (.iconst 0, 1) := by decide +kernel
theorem dX9_workOn_30 : decode cX9_workOn 30 = .ok (.putfield 96, 3) := by decide +kernel
theorem dX9_workOn_33 : decode cX9_workOn 33 = .ok (.aload_n 0, 1) := by decide +kernel
theorem dX9_workOn_34 : decode cX9_workOn 34 = .ok (.getfield 30, 3) := by decide +kernel
theorem dX9_workOn_37 : decode cX9_workOn 37 = .ok (.invokevirtual 211, 3) := by decide +kernel
theorem dX9_workOn_40 : decode cX9_workOn 40 = .ok (.istore_n 3, 1) := by decide +kernel
theorem dX9_workOn_41 : decode cX9_workOn 41 = .ok (.goto 20, 3) := by decide +kernel
theorem dX9_workOn_44 : decode cX9_workOn 44 = .ok (.iload_n 2, 1) := by decide +kernel
theorem dX9_workOn_45 : decode cX9_workOn 45 = .ok (.iconst 1, 1) := by decide +kernel
theorem dX9_workOn_46 : decode cX9_workOn 46 = .ok (.if_icmp .ne 10, 3) := by decide +kernel
theorem dX9_workOn_49 : decode cX9_workOn 49 = .ok (.aload_n 1, 1) := by decide +kernel
theorem dX9_workOn_50 : decode cX9_workOn 50 = .ok (.invokevirtual 276, 3) := by decide +kernel
theorem dX9_workOn_53 : decode cX9_workOn 53 = .ok (.goto 7, 3) := by decide +kernel
theorem dX9_workOn_56 : decode cX9_workOn 56 = .ok (.aload_n 1, 1) := by decide +kernel
theorem dX9_workOn_57 : decode cX9_workOn 57 = .ok (.invokevirtual 279, 3) := by decide +kernel
theorem dX9_workOn_60 : decode cX9_workOn 60 = .ok (.istore_n 3, 1) := by decide +kernel
theorem dX9_workOn_61 : decode cX9_workOn 61 = .ok (.iload_n 3, 1) := by decide +kernel
theorem dX9_workOn_62 : decode cX9_workOn 62 = .ok (.iconst (-1), 1) := by decide +kernel
theorem dX9_workOn_63 : decode cX9_workOn 63 = .ok (.if_icmp .ne 7, 3) := by decide +kernel
theorem dX9_workOn_66 : decode cX9_workOn 66 = .ok (.iconst 0, 1) := by decide +kernel
theorem dX9_workOn_67 : decode cX9_workOn 67 = .ok (.goto 8, 3) := by decide +kernel
theorem dX9_workOn_70 : decode cX9_workOn 70 = .ok (.aload_n 1, 1) := by decide +kernel
theorem dX9_workOn_71 : decode cX9_workOn 71 = .ok (.iload_n 3, 1) := by decide +kernel
theorem dX9_workOn_72 : decode cX9_workOn 72 = .ok (.invokevirtual 282, 3) := by decide +kernel
theorem dX9_workOn_75 : decode cX9_workOn 75 = .ok (.ireturn, 1) := by decide +kernel
theorem dX9_termOf_0 : decode cX9_termOf 0 = .ok (.iload_n 1, 1) := by decide +kernel
theorem dX9_termOf_1 : decode cX9_termOf 1 = .ok (.iconst 2, 1) := by decide +kernel
theorem dX9_termOf_2 : decode cX9_termOf 2 = .ok (.if_icmp .ne 8, 3) := by decide +kernel
theorem dX9_termOf_5 : decode cX9_termOf 5 = .ok (.aload_n 0, 1) := by decide +kernel
theorem dX9_termOf_6 : decode cX9_termOf 6 = .ok (.getfield 48, 3) := by decide +kernel
theorem dX9_termOf_9 : decode cX9_termOf 9 = .ok (.areturn, 1) := by decide +kernel
theorem dX9_termOf_10 : decode cX9_termOf 10 = .ok (.iload_n 1, 1) := by decide +kernel
theorem dX9_termOf_11 : decode cX9_termOf 11 = .ok (.ifCond .ne 49, 3) := by decide +kernel
theorem dX9_termOf_14 : decode cX9_termOf 14 = .ok (.aload_n 0, 1) := by decide +kernel
theorem dX9_termOf_15 : decode cX9_termOf 15 = .ok (.getfield 96, 3) := by decide +kernel
theorem dX9_termOf_18 : decode cX9_termOf 18 = .ok (.ifCond .ne 20, 3) := by decide +kernel
theorem dX9_termOf_21 : decode cX9_termOf 21 = .ok (.aload_n 0, 1) := by decide +kernel
theorem dX9_termOf_22 : decode cX9_termOf 22 = .ok (.getfield 30, 3) := by decide +kernel
theorem dX9_termOf_25 : decode cX9_termOf 25 = .ok (.aload_n 0, 1) := by decide +kernel
theorem dX9_termOf_26 : decode cX9_termOf 26 = .ok (.getfield 66, 3) := by decide +kernel
theorem dX9_termOf_29 : decode cX9_termOf 29 = .ok (.iconst 1, 1) := by decide +kernel
theorem dX9_termOf_30 : decode cX9_termOf 30 = .ok (.invokevirtual 272, 3) := by decide +kernel
theorem dX9_termOf_33 : decode cX9_termOf 33 = .ok (.aload_n 0, 1) := by decide +kernel
theorem dX9_termOf_34 : decode cX9_termOf 34 = .ok (.iconst 1, 1) := by decide +kernel
theorem dX9_termOf_35 : decode cX9_termOf 35 = .ok (.putfield 96, 3) := by decide +kernel
theorem dX9_termOf_38 : decode cX9_termOf 38 = .ok (.aload_n 0, 1) := by decide +kernel
theorem dX9_termOf_39 : decode cX9_termOf 39 = .ok (.getfield 30, 3) := by decide +kernel
theorem dX9_termOf_42 : decode cX9_termOf 42 = .ok (.invokevirtual 284, 3) := by decide +kernel
theorem dX9_termOf_45 : decode cX9_termOf 45 = .ok (.ifCond .eq 13, 3) := by decide +kernel
theorem dX9_termOf_48 : decode cX9_termOf 48 = .ok (.aload_n 0, 1) := by decide +kernel
theorem dX9_termOf_49 : decode cX9_termOf 49 = .ok (.getfield 30, 3) := by decide +kernel
theorem dX9_termOf_52 : decode cX9_termOf 52 = .ok (.invokevirtual 287, 3) := by decide +kernel
theorem dX9_termOf_55 : decode cX9_termOf 55 = .ok (.goto 4, 3) := by decide +kernel
theorem dX9_termOf_58 : decode cX9_termOf 58 = .ok (.aconst_null, 1) := by decide +kernel
theorem dX9_termOf_59 : decode cX9_termOf 59 = .ok (.areturn, 1) := by decide +kernel
theorem dX9_termOf_60 : decode cX9_termOf 60 = .ok (.iload_n 1, 1) := by decide +kernel
theorem dX9_termOf_61 : decode cX9_termOf 61 = .ok (.iconst 1, 1) := by decide +kernel
theorem dX9_termOf_62 : decode cX9_termOf 62 = .ok (.if_icmp .eq 5, 3) := by decide +kernel
theorem dX9_termOf_65 : decode cX9_termOf 65 = .ok (.aconst_null, 1) := by decide +kernel
theorem dX9_termOf_66 : decode cX9_termOf 66 = .ok (.areturn, 1) := by decide +kernel
theorem dX9_termOf_67 : decode cX9_termOf 67 = .ok (.aload_n 0, 1) := by decide +kernel
theorem dX9_termOf_68 : decode cX9_termOf 68 = .ok (.getfield 92, 3) := by decide +kernel
theorem dX9_termOf_71 : decode cX9_termOf 71 = .ok (.ifCond .ne 61, 3) := by decide +kernel
theorem dX9_termOf_74 : decode cX9_termOf 74 = .ok (.aload_n 0, 1) := by decide +kernel
theorem dX9_termOf_75 : decode cX9_termOf 75 = .ok (.getfield 37, 3) := by decide +kernel
theorem dX9_termOf_78 : decode cX9_termOf 78 = .ok (.aload_n 0, 1) := by decide +kernel
theorem dX9_termOf_79 : decode cX9_termOf 79 = .ok (.getfield 48, 3) := by decide +kernel
theorem dX9_termOf_82 : decode cX9_termOf 82 = .ok (.sipush 200, 3) := by decide +kernel
theorem dX9_termOf_85 : decode cX9_termOf 85 = .ok (.invokevirtual 233, 3) := by decide +kernel
theorem dX9_termOf_88 : decode cX9_termOf 88 = .ok (.aload_n 0, 1) := by decide +kernel
theorem dX9_termOf_89 : decode cX9_termOf 89 = .ok (.getfield 54, 3) := by decide +kernel
theorem dX9_termOf_92 : decode cX9_termOf 92 = .ok (.aload_n 0, 1) := by decide +kernel
theorem dX9_termOf_93 : decode cX9_termOf 93 = .ok (.getfield 37, 3) := by decide +kernel
theorem dX9_termOf_96 : decode cX9_termOf 96 = .ok (.invokevirtual 240, 3) := by decide +kernel
theorem dX9_termOf_99 : decode cX9_termOf 99 = .ok (.invokevirtual 264, 3) := by decide +kernel
theorem dX9_termOf_102 : decode cX9_termOf 102 = .ok (.aload_n 0, 1) := by decide +kernel
theorem dX9_termOf_103 : decode cX9_termOf 103 = .ok (.aload_n 0, 1) := by decide +kernel
theorem dX9_termOf_104 : decode cX9_termOf 104 = .ok (.getfield 37, 3) := by decide +kernel
theorem dX9_termOf_107 : decode cX9_termOf 107 = .ok (.invokevirtual 288, 3) := by decide +kernel
theorem dX9_termOf_110 : decode cX9_termOf 110 = .ok (.ifCond .eq 13, 3) := by decide +kernel
theorem dX9_termOf_113 : decode cX9_termOf 113 = .ok (.aload_n 0, 1) := by decide +kernel
theorem dX9_termOf_114 : decode cX9_termOf 114 = .ok (.getfield 37, 3) := by decide +kernel
theorem dX9_termOf_117 : decode cX9_termOf 117 = .ok (.invokevirtual 291, 3) := by decide +kernel
theorem dX9_termOf_120 : decode cX9_termOf 120 = .ok (.goto 4, 3) := by decide +kernel
theorem dX9_termOf_123 : decode cX9_termOf 123 = .ok (.iconst (-1), 1) := by decide +kernel
theorem dX9_termOf_124 : decode cX9_termOf 124 = .ok (.putfield 89, 3) := by decide +kernel
theorem dX9_termOf_127 : decode cX9_termOf 127 = .ok (.aload_n 0, 1) := by decide +kernel
theorem dX9_termOf_128 : decode cX9_termOf 128 = .ok (.iconst 1, 1) := by decide +kernel
theorem dX9_termOf_129 : decode cX9_termOf 129 = .ok (.putfield 92, 3) := by decide +kernel
theorem dX9_termOf_132 : decode cX9_termOf 132 = .ok (.aload_n 0, 1) := by decide +kernel
theorem dX9_termOf_133 : decode cX9_termOf 133 = .ok (.getfield 89, 3) := by decide +kernel
theorem dX9_termOf_136 : decode cX9_termOf 136 = .ok (.iconst (-1), 1) := by decide +kernel
theorem dX9_termOf_137 : decode cX9_termOf 137 = .ok (.if_icmp .ne 7, 3) := by decide +kernel
theorem dX9_termOf_140 : decode cX9_termOf 140 = .ok (.aconst_null, 1) := by decide +kernel
theorem dX9_termOf_141 : decode cX9_termOf 141 = .ok (.goto 7, 3) := by decide +kernel
theorem dX9_termOf_144 : decode cX9_termOf 144 = .ok (.aload_n 0, 1) := by decide +kernel
theorem dX9_termOf_145 : decode cX9_termOf 145 = .ok (.getfield 54, 3) := by decide +kernel
theorem dX9_termOf_148 : decode cX9_termOf 148 = .ok (.areturn, 1) := by decide +kernel
theorem dX9_sizeOf_0 : decode cX9_sizeOf 0 = .ok (.aload_n 0, 1) := by decide +kernel
theorem dX9_sizeOf_1 : decode cX9_sizeOf 1 = .ok (.ifnonnull 7, 3) := by decide +kernel
theorem dX9_sizeOf_4 : decode cX9_sizeOf 4 = .ok (.iconst (-1), 1) := by decide +kernel
theorem dX9_sizeOf_5 : decode cX9_sizeOf 5 = .ok (.goto 7, 3) := by decide +kernel
theorem dX9_sizeOf_8 : decode cX9_sizeOf 8 = .ok (.aload_n 0, 1) := by decide +kernel
theorem dX9_sizeOf_9 : decode cX9_sizeOf 9 = .ok (.invokevirtual 110, 3) := by decide +kernel
theorem dX9_sizeOf_12 : decode cX9_sizeOf 12 = .ok (.ireturn, 1) := by decide +kernel
theorem dX9_isRedex_0 : decode cX9_isRedex 0 = .ok (.iload_n 1, 1) := by decide +kernel
theorem dX9_isRedex_1 : decode cX9_isRedex 1 = .ok (.iconst 1, 1) := by decide +kernel
theorem dX9_isRedex_2 : decode cX9_isRedex 2 = .ok (.iadd, 1) := by decide +kernel
theorem dX9_isRedex_3 : decode cX9_isRedex 3 = .ok (.aload_n 0, 1) := by decide +kernel
theorem dX9_isRedex_4 : decode cX9_isRedex 4 = .ok (.invokevirtual 110, 3) := by decide +kernel
theorem dX9_isRedex_7 : decode cX9_isRedex 7 = .ok (.if_icmp .ge 26, 3) := by decide +kernel
theorem dX9_isRedex_10 : decode cX9_isRedex 10 = .ok (.aload_n 0, 1) := by decide +kernel
theorem dX9_isRedex_11 : decode cX9_isRedex 11 = .ok (.iload_n 1, 1) := by decide +kernel
theorem dX9_isRedex_12 : decode cX9_isRedex 12 = .ok (.invokevirtual 155, 3) := by decide +kernel
theorem dX9_isRedex_15 : decode cX9_isRedex 15 = .ok (.ifCond .ne 18, 3) := by decide +kernel
theorem dX9_isRedex_18 : decode cX9_isRedex 18 = .ok (.aload_n 0, 1) := by decide +kernel
theorem dX9_isRedex_19 : decode cX9_isRedex 19 = .ok (.iload_n 1, 1) := by decide +kernel
theorem dX9_isRedex_20 : decode cX9_isRedex 20 = .ok (.iconst 1, 1) := by decide +kernel
theorem dX9_isRedex_21 : decode cX9_isRedex 21 = .ok (.iadd, 1) := by decide +kernel
theorem dX9_isRedex_22 : decode cX9_isRedex 22 = .ok (.invokevirtual 155, 3) := by decide +kernel
theorem dX9_isRedex_25 : decode cX9_isRedex 25 = .ok (.iconst 1, 1) := by decide +kernel
theorem dX9_isRedex_26 : decode cX9_isRedex 26 = .ok (.if_icmp .ne 7, 3) := by decide +kernel
theorem dX9_isRedex_29 : decode cX9_isRedex 29 = .ok (.iconst 1, 1) := by decide +kernel
theorem dX9_isRedex_30 : decode cX9_isRedex 30 = .ok (.goto 4, 3) := by decide +kernel
theorem dX9_isRedex_33 : decode cX9_isRedex 33 = .ok (.iconst 0, 1) := by decide +kernel
theorem dX9_isRedex_34 : decode cX9_isRedex 34 = .ok (.ireturn, 1) := by decide +kernel
theorem dX9_refuseOtherWays_0 : decode cX9_refuseOtherWays 0 = .ok (.iload_n 0, 1) := by decide +kernel
theorem dX9_refuseOtherWays_1 : decode cX9_refuseOtherWays 1 = .ok (.ifCond .lt 8, 3) := by decide +kernel
theorem dX9_refuseOtherWays_4 : decode cX9_refuseOtherWays 4 = .ok (.iload_n 0, 1) := by decide +kernel
theorem dX9_refuseOtherWays_5 : decode cX9_refuseOtherWays 5 = .ok (.iconst 2, 1) := by decide +kernel
theorem dX9_refuseOtherWays_6 : decode cX9_refuseOtherWays 6 = .ok (.if_icmp .le 14, 3) := by decide +kernel
theorem dX9_refuseOtherWays_9 : decode cX9_refuseOtherWays 9 = .ok (.new 118, 3) := by decide +kernel
theorem dX9_refuseOtherWays_12 : decode cX9_refuseOtherWays 12 = .ok (.dup, 1) := by decide +kernel
theorem dX9_refuseOtherWays_13 : decode cX9_refuseOtherWays 13 = .ok (.ldc_w 294, 3) := by decide +kernel
theorem dX9_refuseOtherWays_16 : decode cX9_refuseOtherWays 16 = .ok (.invokespecial 122, 3) := by decide +kernel
theorem dX9_refuseOtherWays_19 : decode cX9_refuseOtherWays 19 = .ok (.athrow, 1) := by decide +kernel
theorem dX9_refuseOtherWays_20 : decode cX9_refuseOtherWays 20 = .ok (.return_, 1) := by decide +kernel
theorem dX9_refuseOtherTerms_0 : decode cX9_refuseOtherTerms 0 = .ok (.iload_n 0, 1) := by decide +kernel
theorem dX9_refuseOtherTerms_1 : decode cX9_refuseOtherTerms 1 = .ok (.ifCond .lt 8, 3) := by decide +kernel
theorem dX9_refuseOtherTerms_4 : decode cX9_refuseOtherTerms 4 = .ok (.iload_n 0, 1) := by decide +kernel
theorem dX9_refuseOtherTerms_5 : decode cX9_refuseOtherTerms 5 = .ok (.iconst 2, 1) := by decide +kernel
theorem dX9_refuseOtherTerms_6 : decode cX9_refuseOtherTerms 6 = .ok (.if_icmp .le 14, 3) := by decide +kernel
theorem dX9_refuseOtherTerms_9 : decode cX9_refuseOtherTerms 9 = .ok (.new 118, 3) := by decide +kernel
theorem dX9_refuseOtherTerms_12 : decode cX9_refuseOtherTerms 12 = .ok (.dup, 1) := by decide +kernel
theorem dX9_refuseOtherTerms_13 : decode cX9_refuseOtherTerms 13 = .ok (.ldc_w 296, 3) := by decide +kernel
theorem dX9_refuseOtherTerms_16 : decode cX9_refuseOtherTerms 16 = .ok (.invokespecial 122, 3) := by decide +kernel
theorem dX9_refuseOtherTerms_19 : decode cX9_refuseOtherTerms 19 = .ok (.athrow, 1) := by decide +kernel
theorem dX9_refuseOtherTerms_20 : decode cX9_refuseOtherTerms 20 = .ok (.return_, 1) := by decide +kernel
theorem dX10_init_0 : decode cX10_init 0 = .ok (.aload_n 0, 1) := by decide +kernel
theorem dX10_init_1 : decode cX10_init 1 = .ok (.invokespecial 1, 3) := by decide +kernel
theorem dX10_init_4 : decode cX10_init 4 = .ok (.aload_n 0, 1) := by decide +kernel
theorem dX10_init_5 : decode cX10_init 5 = .ok (.sipush 3900, 3) := by decide +kernel
theorem dX10_init_8 : decode cX10_init 8 = .ok (.newarray .int, 2) := by decide +kernel
theorem dX10_init_10 : decode cX10_init 10 = .ok (.putfield 7, 3) := by decide +kernel
theorem dX10_init_13 : decode cX10_init 13 = .ok (.aload_n 0, 1) := by decide +kernel
theorem dX10_init_14 : decode cX10_init 14 = .ok (.iconst 3, 1) := by decide +kernel
theorem dX10_init_15 : decode cX10_init 15 = .ok (.newarray .int, 2) := by decide +kernel
theorem dX10_init_17 : decode cX10_init 17 = .ok (.putfield 13, 3) := by decide +kernel
theorem dX10_init_20 : decode cX10_init 20 = .ok (.aload_n 0, 1) := by decide +kernel
theorem dX10_init_21 : decode cX10_init 21 = .ok (.sipush 700, 3) := by decide +kernel
theorem dX10_init_24 : decode cX10_init 24 = .ok (.newarray .int, 2) := by decide +kernel
theorem dX10_init_26 : decode cX10_init 26 = .ok (.putfield 16, 3) := by decide +kernel
theorem dX10_init_29 : decode cX10_init 29 = .ok (.aload_n 0, 1) := by decide +kernel
theorem dX10_init_30 : decode cX10_init 30 = .ok (.iconst (-1), 1) := by decide +kernel
theorem dX10_init_31 : decode cX10_init 31 = .ok (.putfield 19, 3) := by decide +kernel
theorem dX10_init_34 : decode cX10_init 34 = .ok (.aload_n 0, 1) := by decide +kernel
theorem dX10_init_35 : decode cX10_init 35 = .ok (.bipush 12, 2) := by decide +kernel
theorem dX10_init_37 : decode cX10_init 37 = .ok (.newarray .long, 2) := by decide +kernel
theorem dX10_init_39 : decode cX10_init 39 = .ok (.putfield 23, 3) := by decide +kernel
theorem dX10_init_42 : decode cX10_init 42 = .ok (.aload_n 0, 1) := by decide +kernel
theorem dX10_init_43 : decode cX10_init 43 = .ok (.sipush 1488, 3) := by decide +kernel
theorem dX10_init_46 : decode cX10_init 46 = .ok (.newarray .int, 2) := by decide +kernel
theorem dX10_init_48 : decode cX10_init 48 = .ok (.putfield 27, 3) := by decide +kernel
theorem dX10_init_51 : decode cX10_init 51 = .ok (.aload_n 0, 1) := by decide +kernel
theorem dX10_init_52 : decode cX10_init 52 = .ok (.bipush 12, 2) := by decide +kernel
theorem dX10_init_54 : decode cX10_init 54 = .ok (.newarray .int, 2) := by decide +kernel
theorem dX10_init_56 : decode cX10_init 56 = .ok (.putfield 30, 3) := by decide +kernel
theorem dX10_init_59 : decode cX10_init 59 = .ok (.aload_n 0, 1) := by decide +kernel
theorem dX10_init_60 : decode cX10_init 60 = .ok (.bipush 31, 2) := by decide +kernel
theorem dX10_init_62 : decode cX10_init 62 = .ok (.newarray .long, 2) := by decide +kernel
theorem dX10_init_64 : decode cX10_init 64 = .ok (.putfield 33, 3) := by decide +kernel
theorem dX10_init_67 : decode cX10_init 67 = .ok (.aload_n 0, 1) := by decide +kernel
theorem dX10_init_68 : decode cX10_init 68 = .ok (.sipush 130, 3) := by decide +kernel
theorem dX10_init_71 : decode cX10_init 71 = .ok (.newarray .int, 2) := by decide +kernel
theorem dX10_init_73 : decode cX10_init 73 = .ok (.putfield 36, 3) := by decide +kernel
theorem dX10_init_76 : decode cX10_init 76 = .ok (.aload_n 0, 1) := by decide +kernel
theorem dX10_init_77 : decode cX10_init 77 = .ok (.sipush 8010, 3) := by decide +kernel
theorem dX10_init_80 : decode cX10_init 80 = .ok (.newarray .int, 2) := by decide +kernel
theorem dX10_init_82 : decode cX10_init 82 = .ok (.putfield 39, 3) := by decide +kernel
theorem dX10_init_85 : decode cX10_init 85 = .ok (.aload_n 0, 1) := by decide +kernel
theorem dX10_init_86 : decode cX10_init 86 = .ok (.sipush 8010, 3) := by decide +kernel
theorem dX10_init_89 : decode cX10_init 89 = .ok (.newarray .int, 2) := by decide +kernel
theorem dX10_init_91 : decode cX10_init 91 = .ok (.putfield 42, 3) := by decide +kernel
theorem dX10_init_94 : decode cX10_init 94 = .ok (.aload_n 0, 1) := by decide +kernel
theorem dX10_init_95 : decode cX10_init 95 = .ok (.sipush 32040, 3) := by decide +kernel
theorem dX10_init_98 : decode cX10_init 98 = .ok (.newarray .int, 2) := by decide +kernel
theorem dX10_init_100 : decode cX10_init 100 = .ok (.putfield 45, 3) := by decide +kernel
theorem dX10_init_103 : decode cX10_init 103 = .ok (.aload_n 0, 1) := by decide +kernel
theorem dX10_init_104 : decode cX10_init 104 = .ok (.sipush 30012, 3) := by decide +kernel
theorem dX10_init_107 : decode cX10_init 107 = .ok (.newarray .int, 2) := by decide +kernel
theorem dX10_init_109 : decode cX10_init 109 = .ok (.putfield 48, 3) := by decide +kernel
theorem dX10_init_112 : decode cX10_init 112 = .ok (.aload_n 0, 1) := by decide +kernel
theorem dX10_init_113 : decode cX10_init 113 = .ok (.bipush 6, 2) := by decide +kernel
theorem dX10_init_115 : decode cX10_init 115 = .ok (.newarray .int, 2) := by decide +kernel
theorem dX10_init_117 : decode cX10_init 117 = .ok (.putfield 51, 3) := by decide +kernel
theorem dX10_init_120 : decode cX10_init 120 = .ok (.aload_n 0, 1) := by decide +kernel
theorem dX10_init_121 : decode cX10_init 121 = .ok (.sipush 400, 3) := by decide +kernel
theorem dX10_init_124 : decode cX10_init 124 = .ok (.newarray .int, 2) := by decide +kernel
theorem dX10_init_126 : decode cX10_init 126 = .ok (.putfield 54, 3) := by decide +kernel
theorem dX10_init_129 : decode cX10_init 129 = .ok (.aload_n 0, 1) := by decide +kernel
theorem dX10_init_130 : decode cX10_init 130 = .ok (.sipush 400, 3) := by decide +kernel
theorem dX10_init_133 : decode cX10_init 133 = .ok (.newarray .int, 2) := by decide +kernel
theorem dX10_init_135 : decode cX10_init 135 = .ok (.putfield 57, 3) := by decide +kernel
theorem dX10_init_138 : decode cX10_init 138 = .ok (.aload_n 0, 1) := by decide +kernel
theorem dX10_init_139 : decode cX10_init 139 = .ok (.sipush 1600, 3) := by decide +kernel
theorem dX10_init_142 : decode cX10_init 142 = .ok (.newarray .int, 2) := by decide +kernel
theorem dX10_init_144 : decode cX10_init 144 = .ok (.putfield 60, 3) := by decide +kernel
theorem dX10_init_147 : decode cX10_init 147 = .ok (.aload_n 0, 1) := by decide +kernel
theorem dX10_init_148 : decode cX10_init 148 = .ok (.sipush 130, 3) := by decide +kernel
theorem dX10_init_151 : decode cX10_init 151 = .ok (.newarray .int, 2) := by decide +kernel
theorem dX10_init_153 : decode cX10_init 153 = .ok (.putfield 63, 3) := by decide +kernel
theorem dX10_init_156 : decode cX10_init 156 = .ok (.aload_n 0, 1) := by decide +kernel
theorem dX10_init_157 : decode cX10_init 157 = .ok (.iconst 2, 1) := by decide +kernel
theorem dX10_init_158 : decode cX10_init 158 = .ok (.newarray .int, 2) := by decide +kernel
theorem dX10_init_160 : decode cX10_init 160 = .ok (.putfield 66, 3) := by decide +kernel
theorem dX10_init_163 : decode cX10_init 163 = .ok (.aload_n 0, 1) := by decide +kernel
theorem dX10_init_164 : decode cX10_init 164 = .ok (.iconst 2, 1) := by decide +kernel
theorem dX10_init_165 : decode cX10_init 165 = .ok (.newarray .int, 2) := by decide +kernel
theorem dX10_init_167 : decode cX10_init 167 = .ok (.putfield 69, 3) := by decide +kernel
theorem dX10_init_170 : decode cX10_init 170 = .ok (.aload_n 0, 1) := by decide +kernel
theorem dX10_init_171 : decode cX10_init 171 = .ok (.iconst 4, 1) := by decide +kernel
theorem dX10_init_172 : decode cX10_init 172 = .ok (.newarray .int, 2) := by decide +kernel
theorem dX10_init_174 : decode cX10_init 174 = .ok (.putfield 72, 3) := by decide +kernel
theorem dX10_init_177 : decode cX10_init 177 = .ok (.aload_n 0, 1) := by decide +kernel
theorem dX10_init_178 : decode cX10_init 178 = .ok (.sipush 5000, 3) := by decide +kernel
theorem dX10_init_181 : decode cX10_init 181 = .ok (.newarray .int, 2) := by decide +kernel
theorem dX10_init_183 : decode cX10_init 183 = .ok (.putfield 75, 3) := by decide +kernel
theorem dX10_init_186 : decode cX10_init 186 = .ok (.aload_n 0, 1) := by decide +kernel
theorem dX10_init_187 : decode cX10_init 187 = .ok (.sipush 5000, 3) := by decide +kernel
theorem dX10_init_190 : decode cX10_init 190 = .ok (.newarray .int, 2) := by decide +kernel
theorem dX10_init_192 : decode cX10_init 192 = .ok (.putfield 78, 3) := by decide +kernel
theorem dX10_init_195 : decode cX10_init 195 = .ok (.aload_n 0, 1) := by decide +kernel
theorem dX10_init_196 : decode cX10_init 196 = .ok (.sipush 5000, 3) := by decide +kernel
theorem dX10_init_199 : decode cX10_init 199 = .ok (.newarray .int, 2) := by decide +kernel
theorem dX10_init_201 : decode cX10_init 201 = .ok (.putfield 81, 3) := by decide +kernel
theorem dX10_init_204 : decode cX10_init 204 = .ok (.aload_n 0, 1) := by decide +kernel
theorem dX10_init_205 : decode cX10_init 205 = .ok (.sipush 5000, 3) := by decide +kernel
theorem dX10_init_208 : decode cX10_init 208 = .ok (.newarray .int, 2) := by decide +kernel
theorem dX10_init_210 : decode cX10_init 210 = .ok (.putfield 84, 3) := by decide +kernel
theorem dX10_init_213 : decode cX10_init 213 = .ok (.aload_n 0, 1) := by decide +kernel
theorem dX10_init_214 : decode cX10_init 214 = .ok (.sipush 16384, 3) := by decide +kernel
theorem dX10_init_217 : decode cX10_init 217 = .ok (.newarray .int, 2) := by decide +kernel
theorem dX10_init_219 : decode cX10_init 219 = .ok (.putfield 87, 3) := by decide +kernel
theorem dX10_init_222 : decode cX10_init 222 = .ok (.aload_n 0, 1) := by decide +kernel
theorem dX10_init_223 : decode cX10_init 223 = .ok (.sipush 4300, 3) := by decide +kernel
theorem dX10_init_226 : decode cX10_init 226 = .ok (.newarray .int, 2) := by decide +kernel
theorem dX10_init_228 : decode cX10_init 228 = .ok (.putfield 90, 3) := by decide +kernel
theorem dX10_init_231 : decode cX10_init 231 = .ok (.aload_n 0, 1) := by decide +kernel
theorem dX10_init_232 : decode cX10_init 232 = .ok (.sipush 402, 3) := by decide +kernel
theorem dX10_init_235 : decode cX10_init 235 = .ok (.newarray .int, 2) := by decide +kernel
theorem dX10_init_237 : decode cX10_init 237 = .ok (.putfield 93, 3) := by decide +kernel
theorem dX10_init_240 : decode cX10_init 240 = .ok (.aload_n 0, 1) := by decide +kernel
theorem dX10_init_241 : decode cX10_init 241 = .ok (.sipush 402, 3) := by decide +kernel
theorem dX10_init_244 : decode cX10_init 244 = .ok (.newarray .int, 2) := by decide +kernel
theorem dX10_init_246 : decode cX10_init 246 = .ok (.putfield 96, 3) := by decide +kernel
theorem dX10_init_249 : decode cX10_init 249 = .ok (.aload_n 0, 1) := by decide +kernel
theorem dX10_init_250 : decode cX10_init 250 = .ok (.sipush 402, 3) := by decide +kernel
theorem dX10_init_253 : decode cX10_init 253 = .ok (.newarray .int, 2) := by decide +kernel
theorem dX10_init_255 : decode cX10_init 255 = .ok (.putfield 99, 3) := by decide +kernel
theorem dX10_init_258 : decode cX10_init 258 = .ok (.aload_n 0, 1) := by decide +kernel
theorem dX10_init_259 : decode cX10_init 259 = .ok (.sipush 402, 3) := by decide +kernel
theorem dX10_init_262 : decode cX10_init 262 = .ok (.newarray .int, 2) := by decide +kernel
theorem dX10_init_264 : decode cX10_init 264 = .ok (.putfield 102, 3) := by decide +kernel
theorem dX10_init_267 : decode cX10_init 267 = .ok (.aload_n 0, 1) := by decide +kernel
theorem dX10_init_268 : decode cX10_init 268 = .ok (.sipush 402, 3) := by decide +kernel
theorem dX10_init_271 : decode cX10_init 271 = .ok (.newarray .int, 2) := by decide +kernel
theorem dX10_init_273 : decode cX10_init 273 = .ok (.putfield 105, 3) := by decide +kernel
theorem dX10_init_276 : decode cX10_init 276 = .ok (.aload_n 0, 1) := by decide +kernel
theorem dX10_init_277 : decode cX10_init 277 = .ok (.sipush 402, 3) := by decide +kernel
theorem dX10_init_280 : decode cX10_init 280 = .ok (.newarray .int, 2) := by decide +kernel
theorem dX10_init_282 : decode cX10_init 282 = .ok (.putfield 108, 3) := by decide +kernel
theorem dX10_init_285 : decode cX10_init 285 = .ok (.aload_n 0, 1) := by decide +kernel
theorem dX10_init_286 : decode cX10_init 286 = .ok (.sipush 402, 3) := by decide +kernel
theorem dX10_init_289 : decode cX10_init 289 = .ok (.newarray .int, 2) := by decide +kernel
theorem dX10_init_291 : decode cX10_init 291 = .ok (.putfield 111, 3) := by decide +kernel
theorem dX10_init_294 : decode cX10_init 294 = .ok (.aload_n 0, 1) := by decide +kernel
theorem dX10_init_295 : decode cX10_init 295 = .ok (.ldc 114, 2) := by decide +kernel
theorem dX10_init_297 : decode cX10_init 297 = .ok (.newarray .int, 2) := by decide +kernel
theorem dX10_init_299 : decode cX10_init 299 = .ok (.putfield 115, 3) := by decide +kernel
theorem dX10_init_302 : decode cX10_init 302 = .ok (.aload_n 0, 1) := by decide +kernel
theorem dX10_init_303 : decode cX10_init 303 = .ok (.ldc 118, 2) := by decide +kernel
theorem dX10_init_305 : decode cX10_init 305 = .ok (.newarray .int, 2) := by decide +kernel
theorem dX10_init_307 : decode cX10_init 307 = .ok (.putfield 119, 3) := by decide +kernel
theorem dX10_init_310 : decode cX10_init 310 = .ok (.aload_n 0, 1) := by decide +kernel
theorem dX10_init_311 : decode cX10_init 311 = .ok (.sipush 2700, 3) := by decide +kernel
theorem dX10_init_314 : decode cX10_init 314 = .ok (.newarray .int, 2) := by decide +kernel
theorem dX10_init_316 : decode cX10_init 316 = .ok (.putfield 122, 3) := by decide +kernel
theorem dX10_init_319 : decode cX10_init 319 = .ok (.aload_n 0, 1) := by decide +kernel
theorem dX10_init_320 : decode cX10_init 320 = .ok (.sipush 1300, 3) := by decide +kernel
theorem dX10_init_323 : decode cX10_init 323 = .ok (.newarray .int, 2) := by decide +kernel
theorem dX10_init_325 : decode cX10_init 325 = .ok (.putfield 125, 3) := by decide +kernel
theorem dX10_init_328 : decode cX10_init 328 = .ok (.aload_n 0, 1) := by decide +kernel
theorem dX10_init_329 : decode cX10_init 329 = .ok (.sipush 1300, 3) := by decide +kernel
theorem dX10_init_332 : decode cX10_init 332 = .ok (.newarray .int, 2) := by decide +kernel
theorem dX10_init_334 : decode cX10_init 334 = .ok (.putfield 128, 3) := by decide +kernel
theorem dX10_init_337 : decode cX10_init 337 = .ok (.aload_n 0, 1) := by decide +kernel
theorem dX10_init_338 : decode cX10_init 338 = .ok (.sipush 12000, 3) := by decide +kernel
theorem dX10_init_341 : decode cX10_init 341 = .ok (.newarray .byte, 2) := by decide +kernel
theorem dX10_init_343 : decode cX10_init 343 = .ok (.putfield 131, 3) := by decide +kernel
theorem dX10_init_346 : decode cX10_init 346 = .ok (.aload_n 0, 1) := by decide +kernel
theorem dX10_init_347 : decode cX10_init 347 = .ok (.sipush 4096, 3) := by decide +kernel
theorem dX10_init_350 : decode cX10_init 350 = .ok (.newarray .int, 2) := by decide +kernel
theorem dX10_init_352 : decode cX10_init 352 = .ok (.putfield 135, 3) := by decide +kernel
theorem dX10_init_355 : decode cX10_init 355 = .ok (.aload_n 0, 1) := by decide +kernel
theorem dX10_init_356 : decode cX10_init 356 = .ok (.getfield 7, 3) := by decide +kernel
theorem dX10_init_359 : decode cX10_init 359 = .ok (.sipush 2600, 3) := by decide +kernel
theorem dX10_init_362 : decode cX10_init 362 = .ok (.iconst 1, 1) := by decide +kernel
theorem dX10_init_363 : decode cX10_init 363 = .ok (.iastore, 1) := by decide +kernel
theorem dX10_init_364 : decode cX10_init 364 = .ok (.aload_n 0, 1) := by decide +kernel
theorem dX10_init_365 : decode cX10_init 365 = .ok (.getfield 7, 3) := by decide +kernel
theorem dX10_init_368 : decode cX10_init 368 = .ok (.sipush 2601, 3) := by decide +kernel
theorem dX10_init_371 : decode cX10_init 371 = .ok (.iconst 2, 1) := by decide +kernel
theorem dX10_init_372 : decode cX10_init 372 = .ok (.iastore, 1) := by decide +kernel
theorem dX10_init_373 : decode cX10_init 373 = .ok (.aload_n 0, 1) := by decide +kernel
theorem dX10_init_374 : decode cX10_init 374 = .ok (.getfield 13, 3) := by decide +kernel
theorem dX10_init_377 : decode cX10_init 377 = .ok (.iconst 2, 1) := by decide +kernel
theorem dX10_init_378 : decode cX10_init 378 = .ok (.iconst 2, 1) := by decide +kernel
theorem dX10_init_379 : decode cX10_init 379 = .ok (.iastore, 1) := by decide +kernel
theorem dX10_init_380 : decode cX10_init 380 = .ok (.aload_n 0, 1) := by decide +kernel
theorem dX10_init_381 : decode cX10_init 381 = .ok (.invokevirtual 138, 3) := by decide +kernel
theorem dX10_init_384 : decode cX10_init 384 = .ok (.return_, 1) := by decide +kernel
theorem dX10_thrown_0 : decode cX10_thrown 0 = .ok (.aload_n 0, 1) := by decide +kernel
theorem dX10_thrown_1 : decode cX10_thrown 1 = .ok (.getfield 141, 3) := by decide +kernel
theorem dX10_thrown_4 : decode cX10_thrown 4 = .ok (.ireturn, 1) := by decide +kernel
theorem dX10_right_0 : decode cX10_right 0 = .ok (.aload_n 0, 1) := by decide +kernel
theorem dX10_right_1 : decode cX10_right 1 = .ok (.getfield 141, 3) := by decide +kernel
theorem dX10_right_4 : decode cX10_right 4 = .ok (.ifCond .ne 12, 3) := by decide +kernel
theorem dX10_right_7 : decode cX10_right 7 = .ok (.iload_n 1, 1) := by decide +kernel
theorem dX10_right_8 : decode cX10_right 8 = .ok (.ifCond .ne 8, 3) := by decide +kernel
theorem dX10_right_11 : decode cX10_right 11 = .ok (.aload_n 0, 1) := by decide +kernel
theorem dX10_right_12 : decode cX10_right 12 = .ok (.iload_n 2, 1) := by decide +kernel
theorem dX10_right_13 : decode cX10_right 13 = .ok (.putfield 141, 3) := by decide +kernel
theorem dX10_right_16 : decode cX10_right 16 = .ok (.aload_n 0, 1) := by decide +kernel
theorem dX10_right_17 : decode cX10_right 17 = .ok (.getfield 141, 3) := by decide +kernel
theorem dX10_right_20 : decode cX10_right 20 = .ok (.ifCond .ne 7, 3) := by decide +kernel
theorem dX10_right_23 : decode cX10_right 23 = .ok (.iconst 1, 1) := by decide +kernel
theorem dX10_right_24 : decode cX10_right 24 = .ok (.goto 4, 3) := by decide +kernel
theorem dX10_right_27 : decode cX10_right 27 = .ok (.iconst 0, 1) := by decide +kernel
theorem dX10_right_28 : decode cX10_right 28 = .ok (.ireturn, 1) := by decide +kernel
theorem dX10_isIn_0 : decode cX10_isIn 0 = .ok (.iload_n 0, 1) := by decide +kernel
theorem dX10_isIn_1 : decode cX10_isIn 1 = .ok (.iload_n 1, 1) := by decide +kernel
theorem dX10_isIn_2 : decode cX10_isIn 2 = .ok (.if_icmp .lt 12, 3) := by decide +kernel
theorem dX10_isIn_5 : decode cX10_isIn 5 = .ok (.iload_n 0, 1) := by decide +kernel
theorem dX10_isIn_6 : decode cX10_isIn 6 = .ok (.iload_n 2, 1) := by decide +kernel
theorem dX10_isIn_7 : decode cX10_isIn 7 = .ok (.if_icmp .gt 7, 3) := by decide +kernel
theorem dX10_isIn_10 : decode cX10_isIn 10 = .ok (.iconst 1, 1) := by decide +kernel
theorem dX10_isIn_11 : decode cX10_isIn 11 = .ok (.goto 4, 3) := by decide +kernel
theorem dX10_isIn_14 : decode cX10_isIn 14 = .ok (.iconst 0, 1) := by decide +kernel
theorem dX10_isIn_15 : decode cX10_isIn 15 = .ok (.ireturn, 1) := by decide +kernel
theorem dX10_behind_0 : decode cX10_behind 0 = .ok (.iconst 1, 1) := by decide +kernel
theorem dX10_behind_1 : decode cX10_behind 1 = .ok (.istore_n 3, 1) := by decide +kernel
theorem dX10_behind_2 : decode cX10_behind 2 = .ok (.iload_n 2, 1) := by decide +kernel
theorem dX10_behind_3 : decode cX10_behind 3 = .ok (.istore 4, 2) := by decide +kernel
theorem dX10_behind_5 : decode cX10_behind 5 = .ok (.iload_n 3, 1) := by decide +kernel
theorem dX10_behind_6 : decode cX10_behind 6 = .ok (.ifCond .le 43, 3) := by decide +kernel
theorem dX10_behind_9 : decode cX10_behind 9 = .ok (.aload_n 0, 1) := by decide +kernel
theorem dX10_behind_10 : decode cX10_behind 10 = .ok (.getfield 7, 3) := by decide +kernel
theorem dX10_behind_13 : decode cX10_behind 13 = .ok (.iload_n 1, 1) := by decide +kernel
theorem dX10_behind_14 : decode cX10_behind 14 = .ok (.iload 4, 2) := by decide +kernel
theorem dX10_behind_16 : decode cX10_behind 16 = .ok (.iadd, 1) := by decide +kernel
theorem dX10_behind_17 : decode cX10_behind 17 = .ok (.iaload, 1) := by decide +kernel
theorem dX10_behind_18 : decode cX10_behind 18 = .ok (.istore 5, 2) := by decide +kernel
theorem dX10_behind_20 : decode cX10_behind 20 = .ok (.iload_n 3, 1) := by decide +kernel
theorem dX10_behind_21 : decode cX10_behind 21 = .ok (.iload 5, 2) := by decide +kernel
theorem dX10_behind_23 : decode cX10_behind 23 = .ok (.ifCond .ne 7, 3) := by decide +kernel
theorem dX10_behind_26 : decode cX10_behind 26 = .ok (.iconst 1, 1) := by decide +kernel
theorem dX10_behind_27 : decode cX10_behind 27 = .ok (.goto 14, 3) := by decide +kernel
theorem dX10_behind_30 : decode cX10_behind 30 = .ok (.iload 5, 2) := by decide +kernel
theorem dX10_behind_32 : decode cX10_behind 32 = .ok (.iconst 1, 1) := by decide +kernel
theorem dX10_behind_33 : decode cX10_behind 33 = .ok (.if_icmp .ne 7, 3) := by decide +kernel
theorem dX10_behind_36 : decode cX10_behind 36 = .ok (.iconst 0, 1) := by decide +kernel
theorem dX10_behind_37 : decode cX10_behind 37 = .ok (.goto 4, 3) := by decide +kernel
theorem dX10_behind_40 : decode cX10_behind 40 = .ok (.iconst (-1), 1) := by decide +kernel
theorem dX10_behind_41 : decode cX10_behind 41 = .ok (.iadd, 1) := by decide +kernel
theorem dX10_behind_42 : decode cX10_behind 42 = .ok (.istore_n 3, 1) := by decide +kernel
theorem dX10_behind_43 : decode cX10_behind 43 = .ok (.iinc 4 1, 3) := by decide +kernel
theorem dX10_behind_46 : decode cX10_behind 46 = .ok (.goto (-41), 3) := by decide +kernel
theorem dX10_behind_49 : decode cX10_behind 49 = .ok (.iload 4, 2) := by decide +kernel
theorem dX10_behind_51 : decode cX10_behind 51 = .ok (.ireturn, 1) := by decide +kernel
theorem dX10_comes_0 : decode cX10_comes 0 = .ok (.bipush 24, 2) := by decide +kernel
theorem dX10_comes_2 : decode cX10_comes 2 = .ok (.istore_n 2, 1) := by decide +kernel
theorem dX10_comes_3 : decode cX10_comes 3 = .ok (.iload_n 2, 1) := by decide +kernel
theorem dX10_comes_4 : decode cX10_comes 4 = .ok (.ifCond .lt 35, 3) := by decide +kernel
theorem dX10_comes_7 : decode cX10_comes 7 = .ok (.aload_n 0, 1) := by decide +kernel
theorem dX10_comes_8 : decode cX10_comes 8 = .ok (.getfield 16, 3) := by decide +kernel
theorem dX10_comes_11 : decode cX10_comes 11 = .ok (.aload_n 0, 1) := by decide +kernel
theorem dX10_comes_12 : decode cX10_comes 12 = .ok (.getfield 144, 3) := by decide +kernel
theorem dX10_comes_15 : decode cX10_comes 15 = .ok (.iload_n 1, 1) := by decide +kernel
theorem dX10_comes_16 : decode cX10_comes 16 = .ok (.iload_n 2, 1) := by decide +kernel
theorem dX10_comes_17 : decode cX10_comes 17 = .ok (.ishr, 1) := by decide +kernel
theorem dX10_comes_18 : decode cX10_comes 18 = .ok (.sipush 255, 3) := by decide +kernel
theorem dX10_comes_21 : decode cX10_comes 21 = .ok (.iand, 1) := by decide +kernel
theorem dX10_comes_22 : decode cX10_comes 22 = .ok (.iastore, 1) := by decide +kernel
theorem dX10_comes_23 : decode cX10_comes 23 = .ok (.aload_n 0, 1) := by decide +kernel
theorem dX10_comes_24 : decode cX10_comes 24 = .ok (.dup, 1) := by decide +kernel
theorem dX10_comes_25 : decode cX10_comes 25 = .ok (.getfield 144, 3) := by decide +kernel
theorem dX10_comes_28 : decode cX10_comes 28 = .ok (.iconst 1, 1) := by decide +kernel
theorem dX10_comes_29 : decode cX10_comes 29 = .ok (.iadd, 1) := by decide +kernel
theorem dX10_comes_30 : decode cX10_comes 30 = .ok (.putfield 144, 3) := by decide +kernel
theorem dX10_comes_33 : decode cX10_comes 33 = .ok (.iinc 2 (-8), 3) := by decide +kernel
theorem dX10_comes_36 : decode cX10_comes 36 = .ok (.goto (-33), 3) := by decide +kernel
theorem dX10_comes_39 : decode cX10_comes 39 = .ok (.return_, 1) := by decide +kernel
theorem dX10_feed_0 : decode cX10_feed 0 = .ok (.aload_n 0, 1) := by decide +kernel
theorem dX10_feed_1 : decode cX10_feed 1 = .ok (.iconst 0, 1) := by decide +kernel
theorem dX10_feed_2 : decode cX10_feed 2 = .ok (.putfield 141, 3) := by decide +kernel
theorem dX10_feed_5 : decode cX10_feed 5 = .ok (.aload_n 0, 1) := by decide +kernel
theorem dX10_feed_6 : decode cX10_feed 6 = .ok (.getfield 144, 3) := by decide +kernel
theorem dX10_feed_9 : decode cX10_feed 9 = .ok (.bipush 20, 2) := by decide +kernel
theorem dX10_feed_11 : decode cX10_feed 11 = .ok (.iadd, 1) := by decide +kernel
theorem dX10_feed_12 : decode cX10_feed 12 = .ok (.sipush 700, 3) := by decide +kernel
theorem dX10_feed_15 : decode cX10_feed 15 = .ok (.if_icmp .le 5, 3) := by decide +kernel
theorem dX10_feed_18 : decode cX10_feed 18 = .ok (.iconst (-1), 1) := by decide +kernel
theorem dX10_feed_19 : decode cX10_feed 19 = .ok (.ireturn, 1) := by decide +kernel
theorem dX10_feed_20 : decode cX10_feed 20 = .ok (.aload_n 0, 1) := by decide +kernel
theorem dX10_feed_21 : decode cX10_feed 21 = .ok (.iload_n 1, 1) := by decide +kernel
theorem dX10_feed_22 : decode cX10_feed 22 = .ok (.invokevirtual 147, 3) := by decide +kernel
theorem dX10_feed_25 : decode cX10_feed 25 = .ok (.aload_n 0, 1) := by decide +kernel
theorem dX10_feed_26 : decode cX10_feed 26 = .ok (.iload_n 2, 1) := by decide +kernel
theorem dX10_feed_27 : decode cX10_feed 27 = .ok (.invokevirtual 147, 3) := by decide +kernel
theorem dX10_feed_30 : decode cX10_feed 30 = .ok (.aload_n 0, 1) := by decide +kernel
theorem dX10_feed_31 : decode cX10_feed 31 = .ok (.iload_n 3, 1) := by decide +kernel
theorem dX10_feed_32 : decode cX10_feed 32 = .ok (.invokevirtual 147, 3) := by decide +kernel
theorem dX10_feed_35 : decode cX10_feed 35 = .ok (.aload_n 0, 1) := by decide +kernel
theorem dX10_feed_36 : decode cX10_feed 36 = .ok (.iload 4, 2) := by decide +kernel
theorem dX10_feed_38 : decode cX10_feed 38 = .ok (.invokevirtual 147, 3) := by decide +kernel
theorem dX10_feed_41 : decode cX10_feed 41 = .ok (.aload_n 0, 1) := by decide +kernel
theorem dX10_feed_42 : decode cX10_feed 42 = .ok (.iload 5, 2) := by decide +kernel
theorem dX10_feed_44 : decode cX10_feed 44 = .ok (.invokevirtual 147, 3) := by decide +kernel
theorem dX10_feed_47 : decode cX10_feed 47 = .ok (.aload_n 0, 1) := by decide +kernel
theorem dX10_feed_48 : decode cX10_feed 48 = .ok (.getfield 144, 3) := by decide +kernel
theorem dX10_feed_51 : decode cX10_feed 51 = .ok (.ireturn, 1) := by decide +kernel
theorem dX10_byteAt_0 : decode cX10_byteAt 0 = .ok (.iload_n 1, 1) := by decide +kernel
theorem dX10_byteAt_1 : decode cX10_byteAt 1 = .ok (.aload_n 0, 1) := by decide +kernel
theorem dX10_byteAt_2 : decode cX10_byteAt 2 = .ok (.getfield 151, 3) := by decide +kernel
theorem dX10_byteAt_5 : decode cX10_byteAt 5 = .ok (.if_icmp .ge 12, 3) := by decide +kernel
theorem dX10_byteAt_8 : decode cX10_byteAt 8 = .ok (.aload_n 0, 1) := by decide +kernel
theorem dX10_byteAt_9 : decode cX10_byteAt 9 = .ok (.getfield 16, 3) := by decide +kernel
theorem dX10_byteAt_12 : decode cX10_byteAt 12 = .ok (.iload_n 1, 1) := by decide +kernel
theorem dX10_byteAt_13 : decode cX10_byteAt 13 = .ok (.iaload, 1) := by decide +kernel
theorem dX10_byteAt_14 : decode cX10_byteAt 14 = .ok (.goto 4, 3) := by decide +kernel
theorem dX10_byteAt_17 : decode cX10_byteAt 17 = .ok (.iconst (-1), 1) := by decide +kernel
theorem dX10_byteAt_18 : decode cX10_byteAt 18 = .ok (.ireturn, 1) := by decide +kernel
theorem dX10_isLetter_0 : decode cX10_isLetter 0 = .ok (.iload_n 0, 1) := by decide +kernel
theorem dX10_isLetter_1 : decode cX10_isLetter 1 = .ok (.bipush 97, 2) := by decide +kernel
theorem dX10_isLetter_3 : decode cX10_isLetter 3 = .ok (.bipush 122, 2) := by decide +kernel
theorem dX10_isLetter_5 : decode cX10_isLetter 5 = .ok (.invokestatic 154, 3) := by decide +kernel
theorem dX10_isLetter_8 : decode cX10_isLetter 8 = .ok (.ireturn, 1) := by decide +kernel
theorem dX10_isFigure_0 : decode cX10_isFigure 0 = .ok (.iload_n 0, 1) := by decide +kernel
theorem dX10_isFigure_1 : decode cX10_isFigure 1 = .ok (.bipush 48, 2) := by decide +kernel
theorem dX10_isFigure_3 : decode cX10_isFigure 3 = .ok (.bipush 57, 2) := by decide +kernel
theorem dX10_isFigure_5 : decode cX10_isFigure 5 = .ok (.invokestatic 154, 3) := by decide +kernel
theorem dX10_isFigure_8 : decode cX10_isFigure 8 = .ok (.ireturn, 1) := by decide +kernel
theorem dX10_blanksFrom_0 : decode cX10_blanksFrom 0 = .ok (.iload_n 1, 1) := by decide +kernel
theorem dX10_blanksFrom_1 : decode cX10_blanksFrom 1 = .ok (.istore_n 2, 1) := by decide +kernel
theorem dX10_blanksFrom_2 : decode cX10_blanksFrom 2 = .ok (.aload_n 0, 1) := by decide +kernel
theorem dX10_blanksFrom_3 : decode cX10_blanksFrom 3 = .ok (.iload_n 2, 1) := by decide +kernel
theorem dX10_blanksFrom_4 : decode cX10_blanksFrom 4 = .ok (.invokevirtual 158, 3) := by decide +kernel
theorem dX10_blanksFrom_7 : decode cX10_blanksFrom 7 = .ok (.bipush 32, 2) := by decide +kernel
theorem dX10_blanksFrom_9 : decode cX10_blanksFrom 9 = .ok (.if_icmp .eq 13, 3) := by decide +kernel
theorem dX10_blanksFrom_12 : decode cX10_blanksFrom 12 = .ok (.aload_n 0, 1) := by decide +kernel
theorem dX10_blanksFrom_13 : decode cX10_blanksFrom 13 = .ok (.iload_n 2, 1) := by decide +kernel
theorem dX10_blanksFrom_14 : decode cX10_blanksFrom 14 = .ok (.invokevirtual 158, 3) := by decide +kernel
theorem dX10_blanksFrom_17 : decode cX10_blanksFrom 17 = .ok (.bipush 10, 2) := by decide +kernel
theorem dX10_blanksFrom_19 : decode cX10_blanksFrom 19 = .ok (.if_icmp .ne 9, 3) := by decide +kernel
theorem dX10_blanksFrom_22 : decode cX10_blanksFrom 22 = .ok (.iinc 2 1, 3) := by decide +kernel
theorem dX10_blanksFrom_25 : decode cX10_blanksFrom 25 = .ok (.goto (-23), 3) := by decide +kernel
theorem dX10_blanksFrom_28 : decode cX10_blanksFrom 28 = .ok (.iload_n 2, 1) := by decide +kernel
theorem dX10_blanksFrom_29 : decode cX10_blanksFrom 29 = .ok (.ireturn, 1) := by decide +kernel
theorem dX10_goes_0 : decode cX10_goes 0 = .ok (.aload_n 0, 1) := by decide +kernel
theorem dX10_goes_1 : decode cX10_goes 1 = .ok (.aload_n 0, 1) := by decide +kernel
theorem dX10_goes_2 : decode cX10_goes 2 = .ok (.aload_n 0, 1) := by decide +kernel
theorem dX10_goes_3 : decode cX10_goes 3 = .ok (.getfield 162, 3) := by decide +kernel
theorem dX10_goes_6 : decode cX10_goes 6 = .ok (.invokevirtual 165, 3) := by decide +kernel
theorem dX10_goes_9 : decode cX10_goes 9 = .ok (.putfield 162, 3) := by decide +kernel
theorem dX10_goes_12 : decode cX10_goes 12 = .ok (.aload_n 0, 1) := by decide +kernel
theorem dX10_goes_13 : decode cX10_goes 13 = .ok (.aload_n 0, 1) := by decide +kernel
theorem dX10_goes_14 : decode cX10_goes 14 = .ok (.getfield 162, 3) := by decide +kernel
theorem dX10_goes_17 : decode cX10_goes 17 = .ok (.putfield 168, 3) := by decide +kernel
theorem dX10_goes_20 : decode cX10_goes 20 = .ok (.aload_n 0, 1) := by decide +kernel
theorem dX10_goes_21 : decode cX10_goes 21 = .ok (.aload_n 0, 1) := by decide +kernel
theorem dX10_goes_22 : decode cX10_goes 22 = .ok (.getfield 162, 3) := by decide +kernel
theorem dX10_goes_25 : decode cX10_goes 25 = .ok (.invokevirtual 158, 3) := by decide +kernel
theorem dX10_goes_28 : decode cX10_goes 28 = .ok (.istore_n 1, 1) := by decide +kernel
theorem dX10_goes_29 : decode cX10_goes 29 = .ok (.iload_n 1, 1) := by decide +kernel
theorem dX10_goes_30 : decode cX10_goes 30 = .ok (.iconst (-1), 1) := by decide +kernel
theorem dX10_goes_31 : decode cX10_goes 31 = .ok (.if_icmp .ne 11, 3) := by decide +kernel
theorem dX10_goes_34 : decode cX10_goes 34 = .ok (.aload_n 0, 1) := by decide +kernel
theorem dX10_goes_35 : decode cX10_goes 35 = .ok (.iconst 0, 1) := by decide +kernel
theorem dX10_goes_36 : decode cX10_goes 36 = .ok (.putfield 171, 3) := by decide +kernel
theorem dX10_goes_39 : decode cX10_goes 39 = .ok (.goto 228, 3) := by decide +kernel
theorem dX10_goes_42 : decode cX10_goes 42 = .ok (.iload_n 1, 1) := by decide +kernel
theorem dX10_goes_43 : decode cX10_goes 43 = .ok (.invokestatic 174, 3) := by decide +kernel
theorem dX10_goes_46 : decode cX10_goes 46 = .ok (.ifCond .eq 99, 3) := by decide +kernel
theorem dX10_goes_49 : decode cX10_goes 49 = .ok (.aload_n 0, 1) := by decide +kernel
theorem dX10_goes_50 : decode cX10_goes 50 = .ok (.iconst 1, 1) := by decide +kernel
theorem dX10_goes_51 : decode cX10_goes 51 = .ok (.putfield 171, 3) := by decide +kernel
theorem dX10_goes_54 : decode cX10_goes 54 = .ok (.aload_n 0, 1) := by decide +kernel
theorem dX10_goes_55 : decode cX10_goes 55 = .ok (.lconst 0, 1) := by decide +kernel
theorem dX10_goes_56 : decode cX10_goes 56 = .ok (.putfield 178, 3) := by decide +kernel
theorem dX10_goes_59 : decode cX10_goes 59 = .ok (.aload_n 0, 1) := by decide +kernel
theorem dX10_goes_60 : decode cX10_goes 60 = .ok (.iconst 0, 1) := by decide +kernel
theorem dX10_goes_61 : decode cX10_goes 61 = .ok (.putfield 182, 3) := by decide +kernel
theorem dX10_goes_64 : decode cX10_goes 64 = .ok (.aload_n 0, 1) := by decide +kernel
theorem dX10_goes_65 : decode cX10_goes 65 = .ok (.aload_n 0, 1) := by decide +kernel
theorem dX10_goes_66 : decode cX10_goes 66 = .ok (.getfield 162, 3) := by decide +kernel
theorem dX10_goes_69 : decode cX10_goes 69 = .ok (.invokevirtual 158, 3) := by decide +kernel
theorem dX10_goes_72 : decode cX10_goes 72 = .ok (.invokestatic 174, 3) := by decide +kernel
theorem dX10_goes_75 : decode cX10_goes 75 = .ok (.ifCond .eq 192, 3) := by decide +kernel
theorem dX10_goes_78 : decode cX10_goes 78 = .ok (.aload_n 0, 1) := by decide +kernel
theorem dX10_goes_79 : decode cX10_goes 79 = .ok (.dup, 1) := by decide +kernel
theorem dX10_goes_80 : decode cX10_goes 80 = .ok (.getfield 182, 3) := by decide +kernel
theorem dX10_goes_83 : decode cX10_goes 83 = .ok (.iconst 1, 1) := by decide +kernel
theorem dX10_goes_84 : decode cX10_goes 84 = .ok (.iadd, 1) := by decide +kernel
theorem dX10_goes_85 : decode cX10_goes 85 = .ok (.putfield 182, 3) := by decide +kernel
theorem dX10_goes_88 : decode cX10_goes 88 = .ok (.aload_n 0, 1) := by decide +kernel
theorem dX10_goes_89 : decode cX10_goes 89 = .ok (.aload_n 0, 1) := by decide +kernel
theorem dX10_goes_90 : decode cX10_goes 90 = .ok (.getfield 182, 3) := by decide +kernel
theorem dX10_goes_93 : decode cX10_goes 93 = .ok (.bipush 8, 2) := by decide +kernel
theorem dX10_goes_95 : decode cX10_goes 95 = .ok (.if_icmp .gt 30, 3) := by decide +kernel
theorem dX10_goes_98 : decode cX10_goes 98 = .ok (.ldc2_w 185, 3) := by decide +kernel
theorem dX10_goes_101 : decode cX10_goes 101 = .ok (.aload_n 0, 1) := by decide +kernel
theorem dX10_goes_102 : decode cX10_goes 102 = .ok (.getfield 178, 3) := by decide +kernel
theorem dX10_goes_105 : decode cX10_goes 105 = .ok (.lmul, 1) := by decide +kernel
theorem dX10_goes_106 : decode cX10_goes 106 = .ok (.aload_n 0, 1) := by decide +kernel
theorem dX10_goes_107 : decode cX10_goes 107 = .ok (.aload_n 0, 1) := by decide +kernel
theorem dX10_goes_108 : decode cX10_goes 108 = .ok (.getfield 162, 3) := by decide +kernel
theorem dX10_goes_111 : decode cX10_goes 111 = .ok (.invokevirtual 158, 3) := by decide +kernel
theorem dX10_goes_114 : decode cX10_goes 114 = .ok (.i2l, 1) := by decide +kernel
theorem dX10_goes_115 : decode cX10_goes 115 = .ok (.ladd, 1) := by decide +kernel
theorem dX10_goes_116 : decode cX10_goes 116 = .ok (.ldc2_w 187, 3) := by decide +kernel
theorem dX10_goes_119 : decode cX10_goes 119 = .ok (.lsub, 1) := by decide +kernel
theorem dX10_goes_120 : decode cX10_goes 120 = .ok (.lconst 1, 1) := by decide +kernel
theorem dX10_goes_121 : decode cX10_goes 121 = .ok (.ladd, 1) := by decide +kernel
theorem dX10_goes_122 : decode cX10_goes 122 = .ok (.goto 7, 3) := by decide +kernel
theorem dX10_goes_125 : decode cX10_goes 125 = .ok (.aload_n 0, 1) := by decide +kernel
theorem dX10_goes_126 : decode cX10_goes 126 = .ok (.getfield 178, 3) := by decide +kernel
theorem dX10_goes_129 : decode cX10_goes 129 = .ok (.putfield 178, 3) := by decide +kernel
theorem dX10_goes_132 : decode cX10_goes 132 = .ok (.aload_n 0, 1) := by decide +kernel
theorem dX10_goes_133 : decode cX10_goes 133 = .ok (.dup, 1) := by decide +kernel
theorem dX10_goes_134 : decode cX10_goes 134 = .ok (.getfield 162, 3) := by decide +kernel
theorem dX10_goes_137 : decode cX10_goes 137 = .ok (.iconst 1, 1) := by decide +kernel
theorem dX10_goes_138 : decode cX10_goes 138 = .ok (.iadd, 1) := by decide +kernel
theorem dX10_goes_139 : decode cX10_goes 139 = .ok (.putfield 162, 3) := by decide +kernel
theorem dX10_goes_142 : decode cX10_goes 142 = .ok (.goto (-78), 3) := by decide +kernel
theorem dX10_goes_145 : decode cX10_goes 145 = .ok (.iload_n 1, 1) := by decide +kernel
theorem dX10_goes_146 : decode cX10_goes 146 = .ok (.invokestatic 189, 3) := by decide +kernel
theorem dX10_goes_149 : decode cX10_goes 149 = .ok (.ifCond .eq 58, 3) := by decide +kernel
theorem dX10_goes_152 : decode cX10_goes 152 = .ok (.aload_n 0, 1) := by decide +kernel
theorem dX10_goes_153 : decode cX10_goes 153 = .ok (.iconst 2, 1) := by decide +kernel
theorem dX10_goes_154 : decode cX10_goes 154 = .ok (.putfield 171, 3) := by decide +kernel
theorem dX10_goes_157 : decode cX10_goes 157 = .ok (.aload_n 0, 1) := by decide +kernel
theorem dX10_goes_158 : decode cX10_goes 158 = .ok (.iload_n 1, 1) := by decide +kernel
theorem dX10_goes_159 : decode cX10_goes 159 = .ok (.bipush 48, 2) := by decide +kernel
theorem dX10_goes_161 : decode cX10_goes 161 = .ok (.isub, 1) := by decide +kernel
theorem dX10_goes_162 : decode cX10_goes 162 = .ok (.putfield 192, 3) := by decide +kernel
theorem dX10_goes_165 : decode cX10_goes 165 = .ok (.aload_n 0, 1) := by decide +kernel
theorem dX10_goes_166 : decode cX10_goes 166 = .ok (.iconst 0, 1) := by decide +kernel
theorem dX10_goes_167 : decode cX10_goes 167 = .ok (.putfield 195, 3) := by decide +kernel
theorem dX10_goes_170 : decode cX10_goes 170 = .ok (.aload_n 0, 1) := by decide +kernel
theorem dX10_goes_171 : decode cX10_goes 171 = .ok (.aload_n 0, 1) := by decide +kernel
theorem dX10_goes_172 : decode cX10_goes 172 = .ok (.getfield 162, 3) := by decide +kernel
theorem dX10_goes_175 : decode cX10_goes 175 = .ok (.invokevirtual 158, 3) := by decide +kernel
theorem dX10_goes_178 : decode cX10_goes 178 = .ok (.invokestatic 189, 3) := by decide +kernel
theorem dX10_goes_181 : decode cX10_goes 181 = .ok (.ifCond .eq 86, 3) := by decide +kernel
theorem dX10_goes_184 : decode cX10_goes 184 = .ok (.aload_n 0, 1) := by decide +kernel
theorem dX10_goes_185 : decode cX10_goes 185 = .ok (.dup, 1) := by decide +kernel
theorem dX10_goes_186 : decode cX10_goes 186 = .ok (.getfield 195, 3) := by decide +kernel
theorem dX10_goes_189 : decode cX10_goes 189 = .ok (.iconst 1, 1) := by decide +kernel
theorem dX10_goes_190 : decode cX10_goes 190 = .ok (.iadd, 1) := by decide +kernel
theorem dX10_goes_191 : decode cX10_goes 191 = .ok (.putfield 195, 3) := by decide +kernel
theorem dX10_goes_194 : decode cX10_goes 194 = .ok (.aload_n 0, 1) := by decide +kernel
theorem dX10_goes_195 : decode cX10_goes 195 = .ok (.dup, 1) := by decide +kernel
theorem dX10_goes_196 : decode cX10_goes 196 = .ok (.getfield 162, 3) := by decide +kernel
theorem dX10_goes_199 : decode cX10_goes 199 = .ok (.iconst 1, 1) := by decide +kernel
theorem dX10_goes_200 : decode cX10_goes 200 = .ok (.iadd, 1) := by decide +kernel
theorem dX10_goes_201 : decode cX10_goes 201 = .ok (.putfield 162, 3) := by decide +kernel
theorem dX10_goes_204 : decode cX10_goes 204 = .ok (.goto (-34), 3) := by decide +kernel
theorem dX10_goes_207 : decode cX10_goes 207 = .ok (.aload_n 0, 1) := by decide +kernel
theorem dX10_goes_208 : decode cX10_goes 208 = .ok (.iload_n 1, 1) := by decide +kernel
theorem dX10_goes_209 : decode cX10_goes 209 = .ok (.putfield 192, 3) := by decide +kernel
theorem dX10_goes_212 : decode cX10_goes 212 = .ok (.aload_n 0, 1) := by decide +kernel
theorem dX10_goes_213 : decode cX10_goes 213 = .ok (.iload_n 1, 1) := by decide +kernel
theorem dX10_goes_214 : decode cX10_goes 214 = .ok (.bipush 92, 2) := by decide +kernel
theorem dX10_goes_216 : decode cX10_goes 216 = .ok (.if_icmp .eq 33, 3) := by decide +kernel
theorem dX10_goes_219 : decode cX10_goes 219 = .ok (.iload_n 1, 1) := by decide +kernel
theorem dX10_goes_220 : decode cX10_goes 220 = .ok (.bipush 46, 2) := by decide +kernel
theorem dX10_goes_222 : decode cX10_goes 222 = .ok (.if_icmp .eq 27, 3) := by decide +kernel
theorem dX10_goes_225 : decode cX10_goes 225 = .ok (.iload_n 1, 1) := by decide +kernel
theorem dX10_goes_226 : decode cX10_goes 226 = .ok (.bipush 61, 2) := by decide +kernel
theorem dX10_goes_228 : decode cX10_goes 228 = .ok (.if_icmp .eq 21, 3) := by decide +kernel
theorem dX10_goes_231 : decode cX10_goes 231 = .ok (.iload_n 1, 1) := by decide +kernel
theorem dX10_goes_232 : decode cX10_goes 232 = .ok (.bipush 59, 2) := by decide +kernel
theorem dX10_goes_234 : decode cX10_goes 234 = .ok (.if_icmp .eq 15, 3) := by decide +kernel
theorem dX10_goes_237 : decode cX10_goes 237 = .ok (.iload_n 1, 1) := by decide +kernel
theorem dX10_goes_238 : decode cX10_goes 238 = .ok (.bipush 40, 2) := by decide +kernel
theorem dX10_goes_240 : decode cX10_goes 240 = .ok (.if_icmp .eq 9, 3) := by decide +kernel
theorem dX10_goes_243 : decode cX10_goes 243 = .ok (.iload_n 1, 1) := by decide +kernel
theorem dX10_goes_244 : decode cX10_goes 244 = .ok (.bipush 41, 2) := by decide +kernel
theorem dX10_goes_246 : decode cX10_goes 246 = .ok (.if_icmp .ne 7, 3) := by decide +kernel
theorem dX10_goes_249 : decode cX10_goes 249 = .ok (.iconst 3, 1) := by decide +kernel
theorem dX10_goes_250 : decode cX10_goes 250 = .ok (.goto 4, 3) := by decide +kernel
theorem dX10_goes_253 : decode cX10_goes 253 = .ok (.iconst 4, 1) := by decide +kernel
theorem dX10_goes_254 : decode cX10_goes 254 = .ok (.putfield 171, 3) := by decide +kernel
theorem dX10_goes_257 : decode cX10_goes 257 = .ok (.aload_n 0, 1) := by decide +kernel
theorem dX10_goes_258 : decode cX10_goes 258 = .ok (.dup, 1) := by decide +kernel
theorem dX10_goes_259 : decode cX10_goes 259 = .ok (.getfield 162, 3) := by decide +kernel
theorem dX10_goes_262 : decode cX10_goes 262 = .ok (.iconst 1, 1) := by decide +kernel
theorem dX10_goes_263 : decode cX10_goes 263 = .ok (.iadd, 1) := by decide +kernel
theorem dX10_goes_264 : decode cX10_goes 264 = .ok (.putfield 162, 3) := by decide +kernel
theorem dX10_goes_267 : decode cX10_goes 267 = .ok (.return_, 1) := by decide +kernel
theorem dX10_fine_0 : decode cX10_fine 0 = .ok (.aload_n 0, 1) := by decide +kernel
theorem dX10_fine_1 : decode cX10_fine 1 = .ok (.getfield 198, 3) := by decide +kernel
theorem dX10_fine_4 : decode cX10_fine 4 = .ok (.ifCond .ne 7, 3) := by decide +kernel
theorem dX10_fine_7 : decode cX10_fine 7 = .ok (.iconst 1, 1) := by decide +kernel
theorem dX10_fine_8 : decode cX10_fine 8 = .ok (.goto 4, 3) := by decide +kernel
theorem dX10_fine_11 : decode cX10_fine 11 = .ok (.iconst 0, 1) := by decide +kernel
theorem dX10_fine_12 : decode cX10_fine 12 = .ok (.ireturn, 1) := by decide +kernel
theorem dX10_check_0 : decode cX10_check 0 = .ok (.aload_n 0, 1) := by decide +kernel
theorem dX10_check_1 : decode cX10_check 1 = .ok (.invokevirtual 201, 3) := by decide +kernel
theorem dX10_check_4 : decode cX10_check 4 = .ok (.ifCond .eq 20, 3) := by decide +kernel
theorem dX10_check_7 : decode cX10_check 7 = .ok (.iload_n 1, 1) := by decide +kernel
theorem dX10_check_8 : decode cX10_check 8 = .ok (.ifCond .ne 16, 3) := by decide +kernel
theorem dX10_check_11 : decode cX10_check 11 = .ok (.aload_n 0, 1) := by decide +kernel
theorem dX10_check_12 : decode cX10_check 12 = .ok (.iload_n 2, 1) := by decide +kernel
theorem dX10_check_13 : decode cX10_check 13 = .ok (.putfield 198, 3) := by decide +kernel
theorem dX10_check_16 : decode cX10_check 16 = .ok (.aload_n 0, 1) := by decide +kernel
theorem dX10_check_17 : decode cX10_check 17 = .ok (.aload_n 0, 1) := by decide +kernel
theorem dX10_check_18 : decode cX10_check 18 = .ok (.getfield 168, 3) := by decide +kernel
theorem dX10_check_21 : decode cX10_check 21 = .ok (.putfield 19, 3) := by decide +kernel
theorem dX10_check_24 : decode cX10_check 24 = .ok (.aload_n 0, 1) := by decide +kernel
theorem dX10_check_25 : decode cX10_check 25 = .ok (.invokevirtual 201, 3) := by decide +kernel
theorem dX10_check_28 : decode cX10_check 28 = .ok (.ireturn, 1) := by decide +kernel
theorem dX10_isSign_0 : decode cX10_isSign 0 = .ok (.aload_n 0, 1) := by decide +kernel
theorem dX10_isSign_1 : decode cX10_isSign 1 = .ok (.invokevirtual 201, 3) := by decide +kernel
theorem dX10_isSign_4 : decode cX10_isSign 4 = .ok (.ifCond .eq 23, 3) := by decide +kernel
theorem dX10_isSign_7 : decode cX10_isSign 7 = .ok (.aload_n 0, 1) := by decide +kernel
theorem dX10_isSign_8 : decode cX10_isSign 8 = .ok (.getfield 171, 3) := by decide +kernel
theorem dX10_isSign_11 : decode cX10_isSign 11 = .ok (.iconst 3, 1) := by decide +kernel
theorem dX10_isSign_12 : decode cX10_isSign 12 = .ok (.if_icmp .ne 15, 3) := by decide +kernel
theorem dX10_isSign_15 : decode cX10_isSign 15 = .ok (.aload_n 0, 1) := by decide +kernel
theorem dX10_isSign_16 : decode cX10_isSign 16 = .ok (.getfield 192, 3) := by decide +kernel
theorem dX10_isSign_19 : decode cX10_isSign 19 = .ok (.iload_n 1, 1) := by decide +kernel
theorem dX10_isSign_20 : decode cX10_isSign 20 = .ok (.if_icmp .ne 7, 3) := by decide +kernel
theorem dX10_isSign_23 : decode cX10_isSign 23 = .ok (.iconst 1, 1) := by decide +kernel
theorem dX10_isSign_24 : decode cX10_isSign 24 = .ok (.goto 4, 3) := by decide +kernel
theorem dX10_isSign_27 : decode cX10_isSign 27 = .ok (.iconst 0, 1) := by decide +kernel
theorem dX10_isSign_28 : decode cX10_isSign 28 = .ok (.ireturn, 1) := by decide +kernel
theorem dX10_must_0 : decode cX10_must 0 = .ok (.aload_n 0, 1) := by decide +kernel
theorem dX10_must_1 : decode cX10_must 1 = .ok (.aload_n 0, 1) := by decide +kernel
theorem dX10_must_2 : decode cX10_must 2 = .ok (.iload_n 1, 1) := by decide +kernel
theorem dX10_must_3 : decode cX10_must 3 = .ok (.invokevirtual 205, 3) := by decide +kernel
theorem dX10_must_6 : decode cX10_must 6 = .ok (.iconst 1, 1) := by decide +kernel
theorem dX10_must_7 : decode cX10_must 7 = .ok (.invokevirtual 208, 3) := by decide +kernel
theorem dX10_must_10 : decode cX10_must 10 = .ok (.ifCond .eq 7, 3) := by decide +kernel
theorem dX10_must_13 : decode cX10_must 13 = .ok (.aload_n 0, 1) := by decide +kernel
theorem dX10_must_14 : decode cX10_must 14 = .ok (.invokevirtual 212, 3) := by decide +kernel
theorem dX10_must_17 : decode cX10_must 17 = .ok (.return_, 1) := by decide +kernel
theorem dX10_emits_0 : decode cX10_emits 0 = .ok (.aload_n 0, 1) := by decide +kernel
theorem dX10_emits_1 : decode cX10_emits 1 = .ok (.getfield 215, 3) := by decide +kernel
theorem dX10_emits_4 : decode cX10_emits 4 = .ok (.bipush 124, 2) := by decide +kernel
theorem dX10_emits_6 : decode cX10_emits 6 = .ok (.if_icmp .ge 13, 3) := by decide +kernel
theorem dX10_emits_9 : decode cX10_emits 9 = .ok (.aload_n 0, 1) := by decide +kernel
theorem dX10_emits_10 : decode cX10_emits 10 = .ok (.getfield 36, 3) := by decide +kernel
theorem dX10_emits_13 : decode cX10_emits 13 = .ok (.aload_n 0, 1) := by decide +kernel
theorem dX10_emits_14 : decode cX10_emits 14 = .ok (.getfield 215, 3) := by decide +kernel
theorem dX10_emits_17 : decode cX10_emits 17 = .ok (.iload_n 1, 1) := by decide +kernel
theorem dX10_emits_18 : decode cX10_emits 18 = .ok (.iastore, 1) := by decide +kernel
theorem dX10_emits_19 : decode cX10_emits 19 = .ok (.aload_n 0, 1) := by decide +kernel
theorem dX10_emits_20 : decode cX10_emits 20 = .ok (.aload_n 0, 1) := by decide +kernel
theorem dX10_emits_21 : decode cX10_emits 21 = .ok (.getfield 215, 3) := by decide +kernel
theorem dX10_emits_24 : decode cX10_emits 24 = .ok (.ldc 218, 2) := by decide +kernel
theorem dX10_emits_26 : decode cX10_emits 26 = .ok (.if_icmp .ge 12, 3) := by decide +kernel
theorem dX10_emits_29 : decode cX10_emits 29 = .ok (.aload_n 0, 1) := by decide +kernel
theorem dX10_emits_30 : decode cX10_emits 30 = .ok (.getfield 215, 3) := by decide +kernel
theorem dX10_emits_33 : decode cX10_emits 33 = .ok (.iconst 1, 1) := by decide +kernel
theorem dX10_emits_34 : decode cX10_emits 34 = .ok (.iadd, 1) := by decide +kernel
theorem dX10_emits_35 : decode cX10_emits 35 = .ok (.goto 7, 3) := by decide +kernel
theorem dX10_emits_38 : decode cX10_emits 38 = .ok (.aload_n 0, 1) := by decide +kernel
theorem dX10_emits_39 : decode cX10_emits 39 = .ok (.getfield 215, 3) := by decide +kernel
theorem dX10_emits_42 : decode cX10_emits 42 = .ok (.putfield 215, 3) := by decide +kernel
theorem dX10_emits_45 : decode cX10_emits 45 = .ok (.return_, 1) := by decide +kernel
theorem dX10_emitsAhead_0 : decode cX10_emitsAhead 0 = .ok (.aload_n 0, 1) := by decide +kernel
theorem dX10_emitsAhead_1 : decode cX10_emitsAhead 1 = .ok (.getfield 215, 3) := by decide +kernel
theorem dX10_emitsAhead_4 : decode cX10_emitsAhead 4 = .ok (.bipush 124, 2) := by decide +kernel
theorem dX10_emitsAhead_6 : decode cX10_emitsAhead 6 = .ok (.if_icmp .ge 10, 3) := by decide +kernel
theorem dX10_emitsAhead_9 : decode cX10_emitsAhead 9 = .ok (.aload_n 0, 1) := by decide +kernel
theorem dX10_emitsAhead_10 : decode cX10_emitsAhead 10 = .ok (.getfield 215, 3) := by decide +kernel
theorem dX10_emitsAhead_13 : decode cX10_emitsAhead 13 = .ok (.goto 5, 3) := by decide +kernel
theorem dX10_emitsAhead_16 : decode cX10_emitsAhead 16 = .ok (.bipush 123, 2) := by decide +kernel
theorem dX10_emitsAhead_18 : decode cX10_emitsAhead 18 = .ok (.istore_n 3, 1) := by decide +kernel
theorem dX10_emitsAhead_19 : decode cX10_emitsAhead 19 = .ok (.iload_n 3, 1) := by decide +kernel
theorem dX10_emitsAhead_20 : decode cX10_emitsAhead 20 = .ok (.iload_n 1, 1) := by decide +kernel
theorem dX10_emitsAhead_21 : decode cX10_emitsAhead 21 = .ok (.if_icmp .le 23, 3) := by decide +kernel
theorem dX10_emitsAhead_24 : decode cX10_emitsAhead 24 = .ok (.aload_n 0, 1) := by decide +kernel
theorem dX10_emitsAhead_25 : decode cX10_emitsAhead 25 = .ok (.getfield 36, 3) := by decide +kernel
theorem dX10_emitsAhead_28 : decode cX10_emitsAhead 28 = .ok (.iload_n 3, 1) := by decide +kernel
theorem dX10_emitsAhead_29 : decode cX10_emitsAhead 29 = .ok (.aload_n 0, 1) := by decide +kernel
theorem dX10_emitsAhead_30 : decode cX10_emitsAhead 30 = .ok (.getfield 36, 3) := by decide +kernel
theorem dX10_emitsAhead_33 : decode cX10_emitsAhead 33 = .ok (.iload_n 3, 1) := by decide +kernel
theorem dX10_emitsAhead_34 : decode cX10_emitsAhead 34 = .ok (.iconst 1, 1) := by decide +kernel
theorem dX10_emitsAhead_35 : decode cX10_emitsAhead 35 = .ok (.isub, 1) := by decide +kernel
theorem dX10_emitsAhead_36 : decode cX10_emitsAhead 36 = .ok (.iaload, 1) := by decide +kernel
theorem dX10_emitsAhead_37 : decode cX10_emitsAhead 37 = .ok (.iastore, 1) := by decide +kernel
theorem dX10_emitsAhead_38 : decode cX10_emitsAhead 38 = .ok (.iinc 3 (-1), 3) := by decide +kernel
theorem dX10_emitsAhead_41 : decode cX10_emitsAhead 41 = .ok (.goto (-22), 3) := by decide +kernel
theorem dX10_emitsAhead_44 : decode cX10_emitsAhead 44 = .ok (.iload_n 1, 1) := by decide +kernel
theorem dX10_emitsAhead_45 : decode cX10_emitsAhead 45 = .ok (.bipush 124, 2) := by decide +kernel
theorem dX10_emitsAhead_47 : decode cX10_emitsAhead 47 = .ok (.if_icmp .ge 10, 3) := by decide +kernel
theorem dX10_emitsAhead_50 : decode cX10_emitsAhead 50 = .ok (.aload_n 0, 1) := by decide +kernel
theorem dX10_emitsAhead_51 : decode cX10_emitsAhead 51 = .ok (.getfield 36, 3) := by decide +kernel
theorem dX10_emitsAhead_54 : decode cX10_emitsAhead 54 = .ok (.iload_n 1, 1) := by decide +kernel
theorem dX10_emitsAhead_55 : decode cX10_emitsAhead 55 = .ok (.iload_n 2, 1) := by decide +kernel
theorem dX10_emitsAhead_56 : decode cX10_emitsAhead 56 = .ok (.iastore, 1) := by decide +kernel
theorem dX10_emitsAhead_57 : decode cX10_emitsAhead 57 = .ok (.aload_n 0, 1) := by decide +kernel
theorem dX10_emitsAhead_58 : decode cX10_emitsAhead 58 = .ok (.aload_n 0, 1) := by decide +kernel
theorem dX10_emitsAhead_59 : decode cX10_emitsAhead 59 = .ok (.getfield 215, 3) := by decide +kernel
theorem dX10_emitsAhead_62 : decode cX10_emitsAhead 62 = .ok (.ldc 218, 2) := by decide +kernel
theorem dX10_emitsAhead_64 : decode cX10_emitsAhead 64 = .ok (.if_icmp .ge 12, 3) := by decide +kernel
theorem dX10_emitsAhead_67 : decode cX10_emitsAhead 67 = .ok (.aload_n 0, 1) := by decide +kernel
theorem dX10_emitsAhead_68 : decode cX10_emitsAhead 68 = .ok (.getfield 215, 3) := by decide +kernel
theorem dX10_emitsAhead_71 : decode cX10_emitsAhead 71 = .ok (.iconst 1, 1) := by decide +kernel
theorem dX10_emitsAhead_72 : decode cX10_emitsAhead 72 = .ok (.iadd, 1) := by decide +kernel
theorem dX10_emitsAhead_73 : decode cX10_emitsAhead 73 = .ok (.goto 7, 3) := by decide +kernel
theorem dX10_emitsAhead_76 : decode cX10_emitsAhead 76 = .ok (.aload_n 0, 1) := by decide +kernel
theorem dX10_emitsAhead_77 : decode cX10_emitsAhead 77 = .ok (.getfield 215, 3) := by decide +kernel
theorem dX10_emitsAhead_80 : decode cX10_emitsAhead 80 = .ok (.putfield 215, 3) := by decide +kernel
theorem dX10_emitsAhead_83 : decode cX10_emitsAhead 83 = .ok (.return_, 1) := by decide +kernel
theorem dX10_nameOf_0 : decode cX10_nameOf 0 = .ok (.iconst 0, 1) := by decide +kernel
theorem dX10_nameOf_1 : decode cX10_nameOf 1 = .ok (.istore_n 3, 1) := by decide +kernel
theorem dX10_nameOf_2 : decode cX10_nameOf 2 = .ok (.iload_n 3, 1) := by decide +kernel
theorem dX10_nameOf_3 : decode cX10_nameOf 3 = .ok (.aload_n 0, 1) := by decide +kernel
theorem dX10_nameOf_4 : decode cX10_nameOf 4 = .ok (.getfield 219, 3) := by decide +kernel
theorem dX10_nameOf_7 : decode cX10_nameOf 7 = .ok (.if_icmp .ge 22, 3) := by decide +kernel
theorem dX10_nameOf_10 : decode cX10_nameOf 10 = .ok (.aload_n 0, 1) := by decide +kernel
theorem dX10_nameOf_11 : decode cX10_nameOf 11 = .ok (.getfield 23, 3) := by decide +kernel
theorem dX10_nameOf_14 : decode cX10_nameOf 14 = .ok (.iload_n 3, 1) := by decide +kernel
theorem dX10_nameOf_15 : decode cX10_nameOf 15 = .ok (.laload, 1) := by decide +kernel
theorem dX10_nameOf_16 : decode cX10_nameOf 16 = .ok (.lload_n 1, 1) := by decide +kernel
theorem dX10_nameOf_17 : decode cX10_nameOf 17 = .ok (.lcmp, 1) := by decide +kernel
theorem dX10_nameOf_18 : decode cX10_nameOf 18 = .ok (.ifCond .ne 5, 3) := by decide +kernel
theorem dX10_nameOf_21 : decode cX10_nameOf 21 = .ok (.iload_n 3, 1) := by decide +kernel
theorem dX10_nameOf_22 : decode cX10_nameOf 22 = .ok (.ireturn, 1) := by decide +kernel
theorem dX10_nameOf_23 : decode cX10_nameOf 23 = .ok (.iinc 3 1, 3) := by decide +kernel
theorem dX10_nameOf_26 : decode cX10_nameOf 26 = .ok (.goto (-24), 3) := by decide +kernel
theorem dX10_nameOf_29 : decode cX10_nameOf 29 = .ok (.iconst (-1), 1) := by decide +kernel
theorem dX10_nameOf_30 : decode cX10_nameOf 30 = .ok (.ireturn, 1) := by decide +kernel
theorem dX10_putsIn_0 : decode cX10_putsIn 0 = .ok (.aload_n 0, 1) := by decide +kernel
theorem dX10_putsIn_1 : decode cX10_putsIn 1 = .ok (.getfield 30, 3) := by decide +kernel
theorem dX10_putsIn_4 : decode cX10_putsIn 4 = .ok (.iload_n 1, 1) := by decide +kernel
theorem dX10_putsIn_5 : decode cX10_putsIn 5 = .ok (.iaload, 1) := by decide +kernel
theorem dX10_putsIn_6 : decode cX10_putsIn 6 = .ok (.istore_n 2, 1) := by decide +kernel
theorem dX10_putsIn_7 : decode cX10_putsIn 7 = .ok (.iconst 0, 1) := by decide +kernel
theorem dX10_putsIn_8 : decode cX10_putsIn 8 = .ok (.istore_n 3, 1) := by decide +kernel
theorem dX10_putsIn_9 : decode cX10_putsIn 9 = .ok (.iload_n 3, 1) := by decide +kernel
theorem dX10_putsIn_10 : decode cX10_putsIn 10 = .ok (.iload_n 2, 1) := by decide +kernel
theorem dX10_putsIn_11 : decode cX10_putsIn 11 = .ok (.if_icmp .ge 30, 3) := by decide +kernel
theorem dX10_putsIn_14 : decode cX10_putsIn 14 = .ok (.iload_n 3, 1) := by decide +kernel
theorem dX10_putsIn_15 : decode cX10_putsIn 15 = .ok (.bipush 124, 2) := by decide +kernel
theorem dX10_putsIn_17 : decode cX10_putsIn 17 = .ok (.if_icmp .ge 24, 3) := by decide +kernel
theorem dX10_putsIn_20 : decode cX10_putsIn 20 = .ok (.aload_n 0, 1) := by decide +kernel
theorem dX10_putsIn_21 : decode cX10_putsIn 21 = .ok (.aload_n 0, 1) := by decide +kernel
theorem dX10_putsIn_22 : decode cX10_putsIn 22 = .ok (.getfield 27, 3) := by decide +kernel
theorem dX10_putsIn_25 : decode cX10_putsIn 25 = .ok (.bipush 124, 2) := by decide +kernel
theorem dX10_putsIn_27 : decode cX10_putsIn 27 = .ok (.iload_n 1, 1) := by decide +kernel
theorem dX10_putsIn_28 : decode cX10_putsIn 28 = .ok (.imul, 1) := by decide +kernel
theorem dX10_putsIn_29 : decode cX10_putsIn 29 = .ok (.iload_n 3, 1) := by decide +kernel
theorem dX10_putsIn_30 : decode cX10_putsIn 30 = .ok (.iadd, 1) := by decide +kernel
theorem dX10_putsIn_31 : decode cX10_putsIn 31 = .ok (.iaload, 1) := by decide +kernel
theorem dX10_putsIn_32 : decode cX10_putsIn 32 = .ok (.invokevirtual 222, 3) := by decide +kernel
theorem dX10_putsIn_35 : decode cX10_putsIn 35 = .ok (.iinc 3 1, 3) := by decide +kernel
theorem dX10_putsIn_38 : decode cX10_putsIn 38 = .ok (.goto (-29), 3) := by decide +kernel
theorem dX10_putsIn_41 : decode cX10_putsIn 41 = .ok (.bipush 124, 2) := by decide +kernel
theorem dX10_putsIn_43 : decode cX10_putsIn 43 = .ok (.istore_n 3, 1) := by decide +kernel
theorem dX10_putsIn_44 : decode cX10_putsIn 44 = .ok (.iload_n 3, 1) := by decide +kernel
theorem dX10_putsIn_45 : decode cX10_putsIn 45 = .ok (.iload_n 2, 1) := by decide +kernel
theorem dX10_putsIn_46 : decode cX10_putsIn 46 = .ok (.if_icmp .ge 35, 3) := by decide +kernel
theorem dX10_putsIn_49 : decode cX10_putsIn 49 = .ok (.aload_n 0, 1) := by decide +kernel
theorem dX10_putsIn_50 : decode cX10_putsIn 50 = .ok (.aload_n 0, 1) := by decide +kernel
theorem dX10_putsIn_51 : decode cX10_putsIn 51 = .ok (.getfield 215, 3) := by decide +kernel
theorem dX10_putsIn_54 : decode cX10_putsIn 54 = .ok (.ldc 218, 2) := by decide +kernel
theorem dX10_putsIn_56 : decode cX10_putsIn 56 = .ok (.if_icmp .ge 12, 3) := by decide +kernel
theorem dX10_putsIn_59 : decode cX10_putsIn 59 = .ok (.aload_n 0, 1) := by decide +kernel
theorem dX10_putsIn_60 : decode cX10_putsIn 60 = .ok (.getfield 215, 3) := by decide +kernel
theorem dX10_putsIn_63 : decode cX10_putsIn 63 = .ok (.iconst 1, 1) := by decide +kernel
theorem dX10_putsIn_64 : decode cX10_putsIn 64 = .ok (.iadd, 1) := by decide +kernel
theorem dX10_putsIn_65 : decode cX10_putsIn 65 = .ok (.goto 7, 3) := by decide +kernel
theorem dX10_putsIn_68 : decode cX10_putsIn 68 = .ok (.aload_n 0, 1) := by decide +kernel
theorem dX10_putsIn_69 : decode cX10_putsIn 69 = .ok (.getfield 215, 3) := by decide +kernel
theorem dX10_putsIn_72 : decode cX10_putsIn 72 = .ok (.putfield 215, 3) := by decide +kernel
theorem dX10_putsIn_75 : decode cX10_putsIn 75 = .ok (.iinc 3 1, 3) := by decide +kernel
theorem dX10_putsIn_78 : decode cX10_putsIn 78 = .ok (.goto (-34), 3) := by decide +kernel
theorem dX10_putsIn_81 : decode cX10_putsIn 81 = .ok (.return_, 1) := by decide +kernel
theorem dX10_readsName_0 : decode cX10_readsName 0 = .ok (.aload_n 0, 1) := by decide +kernel
theorem dX10_readsName_1 : decode cX10_readsName 1 = .ok (.aload_n 0, 1) := by decide +kernel
theorem dX10_readsName_2 : decode cX10_readsName 2 = .ok (.getfield 182, 3) := by decide +kernel
theorem dX10_readsName_5 : decode cX10_readsName 5 = .ok (.bipush 8, 2) := by decide +kernel
theorem dX10_readsName_7 : decode cX10_readsName 7 = .ok (.if_icmp .gt 7, 3) := by decide +kernel
theorem dX10_readsName_10 : decode cX10_readsName 10 = .ok (.iconst 1, 1) := by decide +kernel
theorem dX10_readsName_11 : decode cX10_readsName 11 = .ok (.goto 4, 3) := by decide +kernel
theorem dX10_readsName_14 : decode cX10_readsName 14 = .ok (.iconst 0, 1) := by decide +kernel
theorem dX10_readsName_15 : decode cX10_readsName 15 = .ok (.iconst 2, 1) := by decide +kernel
theorem dX10_readsName_16 : decode cX10_readsName 16 = .ok (.invokevirtual 208, 3) := by decide +kernel
theorem dX10_readsName_19 : decode cX10_readsName 19 = .ok (.ifCond .ne 4, 3) := by decide +kernel
theorem dX10_readsName_22 : decode cX10_readsName 22 = .ok (.return_, 1) := by decide +kernel
theorem dX10_readsName_23 : decode cX10_readsName 23 = .ok (.iconst 0, 1) := by decide +kernel
theorem dX10_readsName_24 : decode cX10_readsName 24 = .ok (.istore_n 1, 1) := by decide +kernel
theorem dX10_readsName_25 : decode cX10_readsName 25 = .ok (.iload_n 1, 1) := by decide +kernel
theorem dX10_readsName_26 : decode cX10_readsName 26 = .ok (.aload_n 0, 1) := by decide +kernel
theorem dX10_readsName_27 : decode cX10_readsName 27 = .ok (.getfield 225, 3) := by decide +kernel
theorem dX10_readsName_30 : decode cX10_readsName 30 = .ok (.if_icmp .ge 30, 3) := by decide +kernel
theorem dX10_readsName_33 : decode cX10_readsName 33 = .ok (.aload_n 0, 1) := by decide +kernel
theorem dX10_readsName_34 : decode cX10_readsName 34 = .ok (.getfield 33, 3) := by decide +kernel
theorem dX10_readsName_37 : decode cX10_readsName 37 = .ok (.aload_n 0, 1) := by decide +kernel
theorem dX10_readsName_38 : decode cX10_readsName 38 = .ok (.getfield 225, 3) := by decide +kernel
theorem dX10_readsName_41 : decode cX10_readsName 41 = .ok (.iconst 1, 1) := by decide +kernel
theorem dX10_readsName_42 : decode cX10_readsName 42 = .ok (.isub, 1) := by decide +kernel
theorem dX10_readsName_43 : decode cX10_readsName 43 = .ok (.iload_n 1, 1) := by decide +kernel
theorem dX10_readsName_44 : decode cX10_readsName 44 = .ok (.isub, 1) := by decide +kernel
theorem dX10_readsName_45 : decode cX10_readsName 45 = .ok (.laload, 1) := by decide +kernel
theorem dX10_readsName_46 : decode cX10_readsName 46 = .ok (.aload_n 0, 1) := by decide +kernel
theorem dX10_readsName_47 : decode cX10_readsName 47 = .ok (.getfield 178, 3) := by decide +kernel
theorem dX10_readsName_50 : decode cX10_readsName 50 = .ok (.lcmp, 1) := by decide +kernel
theorem dX10_readsName_51 : decode cX10_readsName 51 = .ok (.ifCond .eq 9, 3) := by decide +kernel
theorem dX10_readsName_54 : decode cX10_readsName 54 = .ok (.iinc 1 1, 3) := by decide +kernel
theorem dX10_readsName_57 : decode cX10_readsName 57 = .ok (.goto (-32), 3) := by decide +kernel
theorem dX10_readsName_60 : decode cX10_readsName 60 = .ok (.iload_n 1, 1) := by decide +kernel
theorem dX10_readsName_61 : decode cX10_readsName 61 = .ok (.aload_n 0, 1) := by decide +kernel
theorem dX10_readsName_62 : decode cX10_readsName 62 = .ok (.getfield 225, 3) := by decide +kernel
theorem dX10_readsName_65 : decode cX10_readsName 65 = .ok (.if_icmp .ge 15, 3) := by decide +kernel
theorem dX10_readsName_68 : decode cX10_readsName 68 = .ok (.aload_n 0, 1) := by decide +kernel
theorem dX10_readsName_69 : decode cX10_readsName 69 = .ok (.iconst 2, 1) := by decide +kernel
theorem dX10_readsName_70 : decode cX10_readsName 70 = .ok (.iload_n 1, 1) := by decide +kernel
theorem dX10_readsName_71 : decode cX10_readsName 71 = .ok (.iadd, 1) := by decide +kernel
theorem dX10_readsName_72 : decode cX10_readsName 72 = .ok (.invokevirtual 222, 3) := by decide +kernel
theorem dX10_readsName_75 : decode cX10_readsName 75 = .ok (.aload_n 0, 1) := by decide +kernel
theorem dX10_readsName_76 : decode cX10_readsName 76 = .ok (.invokevirtual 212, 3) := by decide +kernel
theorem dX10_readsName_79 : decode cX10_readsName 79 = .ok (.return_, 1) := by decide +kernel
theorem dX10_readsName_80 : decode cX10_readsName 80 = .ok (.aload_n 0, 1) := by decide +kernel
theorem dX10_readsName_81 : decode cX10_readsName 81 = .ok (.aload_n 0, 1) := by decide +kernel
theorem dX10_readsName_82 : decode cX10_readsName 82 = .ok (.getfield 178, 3) := by decide +kernel
theorem dX10_readsName_85 : decode cX10_readsName 85 = .ok (.invokevirtual 228, 3) := by decide +kernel
theorem dX10_readsName_88 : decode cX10_readsName 88 = .ok (.istore_n 2, 1) := by decide +kernel
theorem dX10_readsName_89 : decode cX10_readsName 89 = .ok (.aload_n 0, 1) := by decide +kernel
theorem dX10_readsName_90 : decode cX10_readsName 90 = .ok (.iload_n 2, 1) := by decide +kernel
theorem dX10_readsName_91 : decode cX10_readsName 91 = .ok (.iconst (-1), 1) := by decide +kernel
theorem dX10_readsName_92 : decode cX10_readsName 92 = .ok (.if_icmp .eq 7, 3) := by decide +kernel
theorem dX10_readsName_95 : decode cX10_readsName 95 = .ok (.iconst 1, 1) := by decide +kernel
theorem dX10_readsName_96 : decode cX10_readsName 96 = .ok (.goto 4, 3) := by decide +kernel
theorem dX10_readsName_99 : decode cX10_readsName 99 = .ok (.iconst 0, 1) := by decide +kernel
theorem dX10_readsName_100 : decode cX10_readsName 100 = .ok (.iconst 3, 1) := by decide +kernel
theorem dX10_readsName_101 : decode cX10_readsName 101 = .ok (.invokevirtual 208, 3) := by decide +kernel
theorem dX10_readsName_104 : decode cX10_readsName 104 = .ok (.ifCond .eq 12, 3) := by decide +kernel
theorem dX10_readsName_107 : decode cX10_readsName 107 = .ok (.aload_n 0, 1) := by decide +kernel
theorem dX10_readsName_108 : decode cX10_readsName 108 = .ok (.iload_n 2, 1) := by decide +kernel
theorem dX10_readsName_109 : decode cX10_readsName 109 = .ok (.invokevirtual 232, 3) := by decide +kernel
theorem dX10_readsName_112 : decode cX10_readsName 112 = .ok (.aload_n 0, 1) := by decide +kernel
theorem dX10_readsName_113 : decode cX10_readsName 113 = .ok (.invokevirtual 212, 3) := by decide +kernel
theorem dX10_readsName_116 : decode cX10_readsName 116 = .ok (.return_, 1) := by decide +kernel
theorem dX10_readsNumber_0 : decode cX10_readsNumber 0 = .ok (.aload_n 0, 1) := by decide +kernel
theorem dX10_readsNumber_1 : decode cX10_readsNumber 1 = .ok (.aload_n 0, 1) := by decide +kernel
theorem dX10_readsNumber_2 : decode cX10_readsNumber 2 = .ok (.getfield 195, 3) := by decide +kernel
theorem dX10_readsNumber_5 : decode cX10_readsNumber 5 = .ok (.iconst 1, 1) := by decide +kernel
theorem dX10_readsNumber_6 : decode cX10_readsNumber 6 = .ok (.if_icmp .ne 7, 3) := by decide +kernel
theorem dX10_readsNumber_9 : decode cX10_readsNumber 9 = .ok (.iconst 1, 1) := by decide +kernel
theorem dX10_readsNumber_10 : decode cX10_readsNumber 10 = .ok (.goto 4, 3) := by decide +kernel
theorem dX10_readsNumber_13 : decode cX10_readsNumber 13 = .ok (.iconst 0, 1) := by decide +kernel
theorem dX10_readsNumber_14 : decode cX10_readsNumber 14 = .ok (.iconst 2, 1) := by decide +kernel
theorem dX10_readsNumber_15 : decode cX10_readsNumber 15 = .ok (.invokevirtual 208, 3) := by decide +kernel
theorem dX10_readsNumber_18 : decode cX10_readsNumber 18 = .ok (.ifCond .ne 4, 3) := by decide +kernel
theorem dX10_readsNumber_21 : decode cX10_readsNumber 21 = .ok (.return_, 1) := by decide +kernel
theorem dX10_readsNumber_22 : decode cX10_readsNumber 22 = .ok (.aload_n 0, 1) := by decide +kernel
theorem dX10_readsNumber_23 : decode cX10_readsNumber 23 = .ok (.getfield 192, 3) := by decide +kernel
theorem dX10_readsNumber_26 : decode cX10_readsNumber 26 = .ok (.istore_n 1, 1) := by decide +kernel
theorem dX10_readsNumber_27 : decode cX10_readsNumber 27 = .ok (.aload_n 0, 1) := by decide +kernel
theorem dX10_readsNumber_28 : decode cX10_readsNumber 28 = .ok (.iconst 1, 1) := by decide +kernel
theorem dX10_readsNumber_29 : decode cX10_readsNumber 29 = .ok (.invokevirtual 222, 3) := by decide +kernel
theorem dX10_readsNumber_32 : decode cX10_readsNumber 32 = .ok (.aload_n 0, 1) := by decide +kernel
theorem dX10_readsNumber_33 : decode cX10_readsNumber 33 = .ok (.iconst 1, 1) := by decide +kernel
theorem dX10_readsNumber_34 : decode cX10_readsNumber 34 = .ok (.invokevirtual 222, 3) := by decide +kernel
theorem dX10_readsNumber_37 : decode cX10_readsNumber 37 = .ok (.iconst 0, 1) := by decide +kernel
theorem dX10_readsNumber_38 : decode cX10_readsNumber 38 = .ok (.istore_n 2, 1) := by decide +kernel
theorem dX10_readsNumber_39 : decode cX10_readsNumber 39 = .ok (.iload_n 2, 1) := by decide +kernel
theorem dX10_readsNumber_40 : decode cX10_readsNumber 40 = .ok (.iload_n 1, 1) := by decide +kernel
theorem dX10_readsNumber_41 : decode cX10_readsNumber 41 = .ok (.if_icmp .ge 19, 3) := by decide +kernel
theorem dX10_readsNumber_44 : decode cX10_readsNumber 44 = .ok (.aload_n 0, 1) := by decide +kernel
theorem dX10_readsNumber_45 : decode cX10_readsNumber 45 = .ok (.iconst 0, 1) := by decide +kernel
theorem dX10_readsNumber_46 : decode cX10_readsNumber 46 = .ok (.invokevirtual 222, 3) := by decide +kernel
theorem dX10_readsNumber_49 : decode cX10_readsNumber 49 = .ok (.aload_n 0, 1) := by decide +kernel
theorem dX10_readsNumber_50 : decode cX10_readsNumber 50 = .ok (.iconst 3, 1) := by decide +kernel
theorem dX10_readsNumber_51 : decode cX10_readsNumber 51 = .ok (.invokevirtual 222, 3) := by decide +kernel
theorem dX10_readsNumber_54 : decode cX10_readsNumber 54 = .ok (.iinc 2 1, 3) := by decide +kernel
theorem dX10_readsNumber_57 : decode cX10_readsNumber 57 = .ok (.goto (-18), 3) := by decide +kernel
theorem dX10_readsNumber_60 : decode cX10_readsNumber 60 = .ok (.aload_n 0, 1) := by decide +kernel
theorem dX10_readsNumber_61 : decode cX10_readsNumber 61 = .ok (.iconst 2, 1) := by decide +kernel
theorem dX10_readsNumber_62 : decode cX10_readsNumber 62 = .ok (.invokevirtual 222, 3) := by decide +kernel
theorem dX10_readsNumber_65 : decode cX10_readsNumber 65 = .ok (.aload_n 0, 1) := by decide +kernel
theorem dX10_readsNumber_66 : decode cX10_readsNumber 66 = .ok (.invokevirtual 212, 3) := by decide +kernel
theorem dX10_readsNumber_69 : decode cX10_readsNumber 69 = .ok (.return_, 1) := by decide +kernel
theorem dX10_isAtom_0 : decode cX10_isAtom 0 = .ok (.aload_n 0, 1) := by decide +kernel
theorem dX10_isAtom_1 : decode cX10_isAtom 1 = .ok (.invokevirtual 201, 3) := by decide +kernel
theorem dX10_isAtom_4 : decode cX10_isAtom 4 = .ok (.ifCond .eq 32, 3) := by decide +kernel
theorem dX10_isAtom_7 : decode cX10_isAtom 7 = .ok (.aload_n 0, 1) := by decide +kernel
theorem dX10_isAtom_8 : decode cX10_isAtom 8 = .ok (.getfield 171, 3) := by decide +kernel
theorem dX10_isAtom_11 : decode cX10_isAtom 11 = .ok (.iconst 1, 1) := by decide +kernel
theorem dX10_isAtom_12 : decode cX10_isAtom 12 = .ok (.if_icmp .eq 20, 3) := by decide +kernel
theorem dX10_isAtom_15 : decode cX10_isAtom 15 = .ok (.aload_n 0, 1) := by decide +kernel
theorem dX10_isAtom_16 : decode cX10_isAtom 16 = .ok (.getfield 171, 3) := by decide +kernel
theorem dX10_isAtom_19 : decode cX10_isAtom 19 = .ok (.iconst 2, 1) := by decide +kernel
theorem dX10_isAtom_20 : decode cX10_isAtom 20 = .ok (.if_icmp .eq 12, 3) := by decide +kernel
theorem dX10_isAtom_23 : decode cX10_isAtom 23 = .ok (.aload_n 0, 1) := by decide +kernel
theorem dX10_isAtom_24 : decode cX10_isAtom 24 = .ok (.bipush 40, 2) := by decide +kernel
theorem dX10_isAtom_26 : decode cX10_isAtom 26 = .ok (.invokevirtual 205, 3) := by decide +kernel
theorem dX10_isAtom_29 : decode cX10_isAtom 29 = .ok (.ifCond .eq 7, 3) := by decide +kernel
theorem dX10_isAtom_32 : decode cX10_isAtom 32 = .ok (.iconst 1, 1) := by decide +kernel
theorem dX10_isAtom_33 : decode cX10_isAtom 33 = .ok (.goto 4, 3) := by decide +kernel
theorem dX10_isAtom_36 : decode cX10_isAtom 36 = .ok (.iconst 0, 1) := by decide +kernel
theorem dX10_isAtom_37 : decode cX10_isAtom 37 = .ok (.ireturn, 1) := by decide +kernel
theorem dX10_readsAtom_0 : decode cX10_readsAtom 0 = .ok (.aload_n 0, 1) := by decide +kernel
theorem dX10_readsAtom_1 : decode cX10_readsAtom 1 = .ok (.aload_n 0, 1) := by decide +kernel
theorem dX10_readsAtom_2 : decode cX10_readsAtom 2 = .ok (.invokevirtual 235, 3) := by decide +kernel
theorem dX10_readsAtom_5 : decode cX10_readsAtom 5 = .ok (.iconst 1, 1) := by decide +kernel
theorem dX10_readsAtom_6 : decode cX10_readsAtom 6 = .ok (.invokevirtual 208, 3) := by decide +kernel
theorem dX10_readsAtom_9 : decode cX10_readsAtom 9 = .ok (.ifCond .ne 4, 3) := by decide +kernel
theorem dX10_readsAtom_12 : decode cX10_readsAtom 12 = .ok (.return_, 1) := by decide +kernel
theorem dX10_readsAtom_13 : decode cX10_readsAtom 13 = .ok (.aload_n 0, 1) := by decide +kernel
theorem dX10_readsAtom_14 : decode cX10_readsAtom 14 = .ok (.getfield 171, 3) := by decide +kernel
theorem dX10_readsAtom_17 : decode cX10_readsAtom 17 = .ok (.iconst 1, 1) := by decide +kernel
theorem dX10_readsAtom_18 : decode cX10_readsAtom 18 = .ok (.if_icmp .ne 10, 3) := by decide +kernel
theorem dX10_readsAtom_21 : decode cX10_readsAtom 21 = .ok (.aload_n 0, 1) := by decide +kernel
theorem dX10_readsAtom_22 : decode cX10_readsAtom 22 = .ok (.invokevirtual 238, 3) := by decide +kernel
theorem dX10_readsAtom_25 : decode cX10_readsAtom 25 = .ok (.goto 75, 3) := by decide +kernel
theorem dX10_readsAtom_28 : decode cX10_readsAtom 28 = .ok (.aload_n 0, 1) := by decide +kernel
theorem dX10_readsAtom_29 : decode cX10_readsAtom 29 = .ok (.getfield 171, 3) := by decide +kernel
theorem dX10_readsAtom_32 : decode cX10_readsAtom 32 = .ok (.iconst 2, 1) := by decide +kernel
theorem dX10_readsAtom_33 : decode cX10_readsAtom 33 = .ok (.if_icmp .ne 10, 3) := by decide +kernel
theorem dX10_readsAtom_36 : decode cX10_readsAtom 36 = .ok (.aload_n 0, 1) := by decide +kernel
theorem dX10_readsAtom_37 : decode cX10_readsAtom 37 = .ok (.invokevirtual 241, 3) := by decide +kernel
theorem dX10_readsAtom_40 : decode cX10_readsAtom 40 = .ok (.goto 60, 3) := by decide +kernel
theorem dX10_readsAtom_43 : decode cX10_readsAtom 43 = .ok (.aload_n 0, 1) := by decide +kernel
theorem dX10_readsAtom_44 : decode cX10_readsAtom 44 = .ok (.aload_n 0, 1) := by decide +kernel
theorem dX10_readsAtom_45 : decode cX10_readsAtom 45 = .ok (.getfield 244, 3) := by decide +kernel
theorem dX10_readsAtom_48 : decode cX10_readsAtom 48 = .ok (.bipush 12, 2) := by decide +kernel
theorem dX10_readsAtom_50 : decode cX10_readsAtom 50 = .ok (.if_icmp .ge 7, 3) := by decide +kernel
theorem dX10_readsAtom_53 : decode cX10_readsAtom 53 = .ok (.iconst 1, 1) := by decide +kernel
theorem dX10_readsAtom_54 : decode cX10_readsAtom 54 = .ok (.goto 4, 3) := by decide +kernel
theorem dX10_readsAtom_57 : decode cX10_readsAtom 57 = .ok (.iconst 0, 1) := by decide +kernel
theorem dX10_readsAtom_58 : decode cX10_readsAtom 58 = .ok (.iconst 2, 1) := by decide +kernel
theorem dX10_readsAtom_59 : decode cX10_readsAtom 59 = .ok (.invokevirtual 208, 3) := by decide +kernel
theorem dX10_readsAtom_62 : decode cX10_readsAtom 62 = .ok (.ifCond .ne 4, 3) := by decide +kernel
theorem dX10_readsAtom_65 : decode cX10_readsAtom 65 = .ok (.return_, 1) := by decide +kernel
theorem dX10_readsAtom_66 : decode cX10_readsAtom 66 = .ok (.aload_n 0, 1) := by decide +kernel
theorem dX10_readsAtom_67 : decode cX10_readsAtom 67 = .ok (.dup, 1) := by decide +kernel
theorem dX10_readsAtom_68 : decode cX10_readsAtom 68 = .ok (.getfield 244, 3) := by decide +kernel
theorem dX10_readsAtom_71 : decode cX10_readsAtom 71 = .ok (.iconst 1, 1) := by decide +kernel
theorem dX10_readsAtom_72 : decode cX10_readsAtom 72 = .ok (.iadd, 1) := by decide +kernel
theorem dX10_readsAtom_73 : decode cX10_readsAtom 73 = .ok (.putfield 244, 3) := by decide +kernel
theorem dX10_readsAtom_76 : decode cX10_readsAtom 76 = .ok (.aload_n 0, 1) := by decide +kernel
theorem dX10_readsAtom_77 : decode cX10_readsAtom 77 = .ok (.invokevirtual 212, 3) := by decide +kernel
theorem dX10_readsAtom_80 : decode cX10_readsAtom 80 = .ok (.aload_n 0, 1) := by decide +kernel
theorem dX10_readsAtom_81 : decode cX10_readsAtom 81 = .ok (.invokevirtual 247, 3) := by decide +kernel
theorem dX10_readsAtom_84 : decode cX10_readsAtom 84 = .ok (.aload_n 0, 1) := by decide +kernel
theorem dX10_readsAtom_85 : decode cX10_readsAtom 85 = .ok (.bipush 41, 2) := by decide +kernel
theorem dX10_readsAtom_87 : decode cX10_readsAtom 87 = .ok (.invokevirtual 250, 3) := by decide +kernel
theorem dX10_readsAtom_90 : decode cX10_readsAtom 90 = .ok (.aload_n 0, 1) := by decide +kernel
theorem dX10_readsAtom_91 : decode cX10_readsAtom 91 = .ok (.dup, 1) := by decide +kernel
theorem dX10_readsAtom_92 : decode cX10_readsAtom 92 = .ok (.getfield 244, 3) := by decide +kernel
theorem dX10_readsAtom_95 : decode cX10_readsAtom 95 = .ok (.iconst 1, 1) := by decide +kernel
theorem dX10_readsAtom_96 : decode cX10_readsAtom 96 = .ok (.isub, 1) := by decide +kernel
theorem dX10_readsAtom_97 : decode cX10_readsAtom 97 = .ok (.putfield 244, 3) := by decide +kernel
theorem dX10_readsAtom_100 : decode cX10_readsAtom 100 = .ok (.return_, 1) := by decide +kernel
theorem dX10_readsFunction_0 : decode cX10_readsFunction 0 = .ok (.aload_n 0, 1) := by decide +kernel
theorem dX10_readsFunction_1 : decode cX10_readsFunction 1 = .ok (.invokevirtual 212, 3) := by decide +kernel
theorem dX10_readsFunction_4 : decode cX10_readsFunction 4 = .ok (.iconst 0, 1) := by decide +kernel
theorem dX10_readsFunction_5 : decode cX10_readsFunction 5 = .ok (.istore_n 1, 1) := by decide +kernel
theorem dX10_readsFunction_6 : decode cX10_readsFunction 6 = .ok (.aload_n 0, 1) := by decide +kernel
theorem dX10_readsFunction_7 : decode cX10_readsFunction 7 = .ok (.aload_n 0, 1) := by decide +kernel
theorem dX10_readsFunction_8 : decode cX10_readsFunction 8 = .ok (.getfield 171, 3) := by decide +kernel
theorem dX10_readsFunction_11 : decode cX10_readsFunction 11 = .ok (.iconst 1, 1) := by decide +kernel
theorem dX10_readsFunction_12 : decode cX10_readsFunction 12 = .ok (.if_icmp .ne 7, 3) := by decide +kernel
theorem dX10_readsFunction_15 : decode cX10_readsFunction 15 = .ok (.iconst 1, 1) := by decide +kernel
theorem dX10_readsFunction_16 : decode cX10_readsFunction 16 = .ok (.goto 4, 3) := by decide +kernel
theorem dX10_readsFunction_19 : decode cX10_readsFunction 19 = .ok (.iconst 0, 1) := by decide +kernel
theorem dX10_readsFunction_20 : decode cX10_readsFunction 20 = .ok (.iconst 1, 1) := by decide +kernel
theorem dX10_readsFunction_21 : decode cX10_readsFunction 21 = .ok (.invokevirtual 208, 3) := by decide +kernel
theorem dX10_readsFunction_24 : decode cX10_readsFunction 24 = .ok (.ifCond .eq 34, 3) := by decide +kernel
theorem dX10_readsFunction_27 : decode cX10_readsFunction 27 = .ok (.aload_n 0, 1) := by decide +kernel
theorem dX10_readsFunction_28 : decode cX10_readsFunction 28 = .ok (.aload_n 0, 1) := by decide +kernel
theorem dX10_readsFunction_29 : decode cX10_readsFunction 29 = .ok (.getfield 182, 3) := by decide +kernel
theorem dX10_readsFunction_32 : decode cX10_readsFunction 32 = .ok (.bipush 8, 2) := by decide +kernel
theorem dX10_readsFunction_34 : decode cX10_readsFunction 34 = .ok (.if_icmp .gt 16, 3) := by decide +kernel
theorem dX10_readsFunction_37 : decode cX10_readsFunction 37 = .ok (.aload_n 0, 1) := by decide +kernel
theorem dX10_readsFunction_38 : decode cX10_readsFunction 38 = .ok (.getfield 225, 3) := by decide +kernel
theorem dX10_readsFunction_41 : decode cX10_readsFunction 41 = .ok (.bipush 30, 2) := by decide +kernel
theorem dX10_readsFunction_43 : decode cX10_readsFunction 43 = .ok (.if_icmp .ge 7, 3) := by decide +kernel
theorem dX10_readsFunction_46 : decode cX10_readsFunction 46 = .ok (.iconst 1, 1) := by decide +kernel
theorem dX10_readsFunction_47 : decode cX10_readsFunction 47 = .ok (.goto 4, 3) := by decide +kernel
theorem dX10_readsFunction_50 : decode cX10_readsFunction 50 = .ok (.iconst 0, 1) := by decide +kernel
theorem dX10_readsFunction_51 : decode cX10_readsFunction 51 = .ok (.iconst 2, 1) := by decide +kernel
theorem dX10_readsFunction_52 : decode cX10_readsFunction 52 = .ok (.invokevirtual 208, 3) := by decide +kernel
theorem dX10_readsFunction_55 : decode cX10_readsFunction 55 = .ok (.ifCond .ne 4, 3) := by decide +kernel
theorem dX10_readsFunction_58 : decode cX10_readsFunction 58 = .ok (.return_, 1) := by decide +kernel
theorem dX10_readsFunction_59 : decode cX10_readsFunction 59 = .ok (.aload_n 0, 1) := by decide +kernel
theorem dX10_readsFunction_60 : decode cX10_readsFunction 60 = .ok (.getfield 33, 3) := by decide +kernel
theorem dX10_readsFunction_63 : decode cX10_readsFunction 63 = .ok (.aload_n 0, 1) := by decide +kernel
theorem dX10_readsFunction_64 : decode cX10_readsFunction 64 = .ok (.getfield 225, 3) := by decide +kernel
theorem dX10_readsFunction_67 : decode cX10_readsFunction 67 = .ok (.aload_n 0, 1) := by decide +kernel
theorem dX10_readsFunction_68 : decode cX10_readsFunction 68 = .ok (.getfield 178, 3) := by decide +kernel
theorem dX10_readsFunction_71 : decode cX10_readsFunction 71 = .ok (.lastore, 1) := by decide +kernel
theorem dX10_readsFunction_72 : decode cX10_readsFunction 72 = .ok (.aload_n 0, 1) := by decide +kernel
theorem dX10_readsFunction_73 : decode cX10_readsFunction 73 = .ok (.dup, 1) := by decide +kernel
theorem dX10_readsFunction_74 : decode cX10_readsFunction 74 = .ok (.getfield 225, 3) := by decide +kernel
theorem dX10_readsFunction_77 : decode cX10_readsFunction 77 = .ok (.iconst 1, 1) := by decide +kernel
theorem dX10_readsFunction_78 : decode cX10_readsFunction 78 = .ok (.iadd, 1) := by decide +kernel
theorem dX10_readsFunction_79 : decode cX10_readsFunction 79 = .ok (.putfield 225, 3) := by decide +kernel
theorem dX10_readsFunction_82 : decode cX10_readsFunction 82 = .ok (.iinc 1 1, 3) := by decide +kernel
theorem dX10_readsFunction_85 : decode cX10_readsFunction 85 = .ok (.aload_n 0, 1) := by decide +kernel
theorem dX10_readsFunction_86 : decode cX10_readsFunction 86 = .ok (.iconst 1, 1) := by decide +kernel
theorem dX10_readsFunction_87 : decode cX10_readsFunction 87 = .ok (.invokevirtual 222, 3) := by decide +kernel
theorem dX10_readsFunction_90 : decode cX10_readsFunction 90 = .ok (.aload_n 0, 1) := by decide +kernel
theorem dX10_readsFunction_91 : decode cX10_readsFunction 91 = .ok (.invokevirtual 212, 3) := by decide +kernel
theorem dX10_readsFunction_94 : decode cX10_readsFunction 94 = .ok (.aload_n 0, 1) := by decide +kernel
theorem dX10_readsFunction_95 : decode cX10_readsFunction 95 = .ok (.invokevirtual 201, 3) := by decide +kernel
theorem dX10_readsFunction_98 : decode cX10_readsFunction 98 = .ok (.ifCond .eq 11, 3) := by decide +kernel
theorem dX10_readsFunction_101 : decode cX10_readsFunction 101 = .ok (.aload_n 0, 1) := by decide +kernel
theorem dX10_readsFunction_102 : decode cX10_readsFunction 102 = .ok (.getfield 171, 3) := by decide +kernel
theorem dX10_readsFunction_105 : decode cX10_readsFunction 105 = .ok (.iconst 1, 1) := by decide +kernel
theorem dX10_readsFunction_106 : decode cX10_readsFunction 106 = .ok (.if_icmp .eq (-100), 3) := by decide +kernel
theorem dX10_readsFunction_109 : decode cX10_readsFunction 109 = .ok (.aload_n 0, 1) := by decide +kernel
theorem dX10_readsFunction_110 : decode cX10_readsFunction 110 = .ok (.bipush 46, 2) := by decide +kernel
theorem dX10_readsFunction_112 : decode cX10_readsFunction 112 = .ok (.invokevirtual 250, 3) := by decide +kernel
theorem dX10_readsFunction_115 : decode cX10_readsFunction 115 = .ok (.aload_n 0, 1) := by decide +kernel
theorem dX10_readsFunction_116 : decode cX10_readsFunction 116 = .ok (.invokevirtual 247, 3) := by decide +kernel
theorem dX10_readsFunction_119 : decode cX10_readsFunction 119 = .ok (.aload_n 0, 1) := by decide +kernel
theorem dX10_readsFunction_120 : decode cX10_readsFunction 120 = .ok (.dup, 1) := by decide +kernel
theorem dX10_readsFunction_121 : decode cX10_readsFunction 121 = .ok (.getfield 225, 3) := by decide +kernel
theorem dX10_readsFunction_124 : decode cX10_readsFunction 124 = .ok (.iload_n 1, 1) := by decide +kernel
theorem dX10_readsFunction_125 : decode cX10_readsFunction 125 = .ok (.isub, 1) := by decide +kernel
theorem dX10_readsFunction_126 : decode cX10_readsFunction 126 = .ok (.putfield 225, 3) := by decide +kernel
theorem dX10_readsFunction_129 : decode cX10_readsFunction 129 = .ok (.return_, 1) := by decide +kernel
theorem dX10_readsTerm_0 : decode cX10_readsTerm 0 = .ok (.aload_n 0, 1) := by decide +kernel
theorem dX10_readsTerm_1 : decode cX10_readsTerm 1 = .ok (.invokevirtual 201, 3) := by decide +kernel
theorem dX10_readsTerm_4 : decode cX10_readsTerm 4 = .ok (.ifCond .ne 4, 3) := by decide +kernel
theorem dX10_readsTerm_7 : decode cX10_readsTerm 7 = .ok (.return_, 1) := by decide +kernel
theorem dX10_readsTerm_8 : decode cX10_readsTerm 8 = .ok (.aload_n 0, 1) := by decide +kernel
theorem dX10_readsTerm_9 : decode cX10_readsTerm 9 = .ok (.bipush 92, 2) := by decide +kernel
theorem dX10_readsTerm_11 : decode cX10_readsTerm 11 = .ok (.invokevirtual 205, 3) := by decide +kernel
theorem dX10_readsTerm_14 : decode cX10_readsTerm 14 = .ok (.ifCond .eq 8, 3) := by decide +kernel
theorem dX10_readsTerm_17 : decode cX10_readsTerm 17 = .ok (.aload_n 0, 1) := by decide +kernel
theorem dX10_readsTerm_18 : decode cX10_readsTerm 18 = .ok (.invokevirtual 253, 3) := by decide +kernel
theorem dX10_readsTerm_21 : decode cX10_readsTerm 21 = .ok (.return_, 1) := by decide +kernel
theorem dX10_readsTerm_22 : decode cX10_readsTerm 22 = .ok (.aload_n 0, 1) := by decide +kernel
theorem dX10_readsTerm_23 : decode cX10_readsTerm 23 = .ok (.getfield 215, 3) := by decide +kernel
theorem dX10_readsTerm_26 : decode cX10_readsTerm 26 = .ok (.istore_n 1, 1) := by decide +kernel
theorem dX10_readsTerm_27 : decode cX10_readsTerm 27 = .ok (.aload_n 0, 1) := by decide +kernel
theorem dX10_readsTerm_28 : decode cX10_readsTerm 28 = .ok (.invokevirtual 256, 3) := by decide +kernel
theorem dX10_readsTerm_31 : decode cX10_readsTerm 31 = .ok (.aload_n 0, 1) := by decide +kernel
theorem dX10_readsTerm_32 : decode cX10_readsTerm 32 = .ok (.invokevirtual 235, 3) := by decide +kernel
theorem dX10_readsTerm_35 : decode cX10_readsTerm 35 = .ok (.ifCond .eq 16, 3) := by decide +kernel
theorem dX10_readsTerm_38 : decode cX10_readsTerm 38 = .ok (.aload_n 0, 1) := by decide +kernel
theorem dX10_readsTerm_39 : decode cX10_readsTerm 39 = .ok (.iload_n 1, 1) := by decide +kernel
theorem dX10_readsTerm_40 : decode cX10_readsTerm 40 = .ok (.iconst 0, 1) := by decide +kernel
theorem dX10_readsTerm_41 : decode cX10_readsTerm 41 = .ok (.invokevirtual 259, 3) := by decide +kernel
theorem dX10_readsTerm_44 : decode cX10_readsTerm 44 = .ok (.aload_n 0, 1) := by decide +kernel
theorem dX10_readsTerm_45 : decode cX10_readsTerm 45 = .ok (.invokevirtual 256, 3) := by decide +kernel
theorem dX10_readsTerm_48 : decode cX10_readsTerm 48 = .ok (.goto (-17), 3) := by decide +kernel
theorem dX10_readsTerm_51 : decode cX10_readsTerm 51 = .ok (.return_, 1) := by decide +kernel
theorem dX10_isTelling_0 : decode cX10_isTelling 0 = .ok (.aload_n 0, 1) := by decide +kernel
theorem dX10_isTelling_1 : decode cX10_isTelling 1 = .ok (.invokevirtual 201, 3) := by decide +kernel
theorem dX10_isTelling_4 : decode cX10_isTelling 4 = .ok (.ifCond .eq 32, 3) := by decide +kernel
theorem dX10_isTelling_7 : decode cX10_isTelling 7 = .ok (.aload_n 0, 1) := by decide +kernel
theorem dX10_isTelling_8 : decode cX10_isTelling 8 = .ok (.getfield 171, 3) := by decide +kernel
theorem dX10_isTelling_11 : decode cX10_isTelling 11 = .ok (.iconst 1, 1) := by decide +kernel
theorem dX10_isTelling_12 : decode cX10_isTelling 12 = .ok (.if_icmp .ne 24, 3) := by decide +kernel
theorem dX10_isTelling_15 : decode cX10_isTelling 15 = .ok (.aload_n 0, 1) := by decide +kernel
theorem dX10_isTelling_16 : decode cX10_isTelling 16 = .ok (.aload_n 0, 1) := by decide +kernel
theorem dX10_isTelling_17 : decode cX10_isTelling 17 = .ok (.aload_n 0, 1) := by decide +kernel
theorem dX10_isTelling_18 : decode cX10_isTelling 18 = .ok (.getfield 162, 3) := by decide +kernel
theorem dX10_isTelling_21 : decode cX10_isTelling 21 = .ok (.invokevirtual 165, 3) := by decide +kernel
theorem dX10_isTelling_24 : decode cX10_isTelling 24 = .ok (.invokevirtual 158, 3) := by decide +kernel
theorem dX10_isTelling_27 : decode cX10_isTelling 27 = .ok (.bipush 61, 2) := by decide +kernel
theorem dX10_isTelling_29 : decode cX10_isTelling 29 = .ok (.if_icmp .ne 7, 3) := by decide +kernel
theorem dX10_isTelling_32 : decode cX10_isTelling 32 = .ok (.iconst 1, 1) := by decide +kernel
theorem dX10_isTelling_33 : decode cX10_isTelling 33 = .ok (.goto 4, 3) := by decide +kernel
theorem dX10_isTelling_36 : decode cX10_isTelling 36 = .ok (.iconst 0, 1) := by decide +kernel
theorem dX10_isTelling_37 : decode cX10_isTelling 37 = .ok (.ireturn, 1) := by decide +kernel
theorem dX10_readsTelling_0 : decode cX10_readsTelling 0 = .ok (.aload_n 0, 1) := by decide +kernel
theorem dX10_readsTelling_1 : decode cX10_readsTelling 1 = .ok (.aload_n 0, 1) := by decide +kernel
theorem dX10_readsTelling_2 : decode cX10_readsTelling 2 = .ok (.getfield 182, 3) := by decide +kernel
theorem dX10_readsTelling_5 : decode cX10_readsTelling 5 = .ok (.bipush 8, 2) := by decide +kernel
theorem dX10_readsTelling_7 : decode cX10_readsTelling 7 = .ok (.if_icmp .gt 16, 3) := by decide +kernel
theorem dX10_readsTelling_10 : decode cX10_readsTelling 10 = .ok (.aload_n 0, 1) := by decide +kernel
theorem dX10_readsTelling_11 : decode cX10_readsTelling 11 = .ok (.getfield 219, 3) := by decide +kernel
theorem dX10_readsTelling_14 : decode cX10_readsTelling 14 = .ok (.bipush 12, 2) := by decide +kernel
theorem dX10_readsTelling_16 : decode cX10_readsTelling 16 = .ok (.if_icmp .ge 7, 3) := by decide +kernel
theorem dX10_readsTelling_19 : decode cX10_readsTelling 19 = .ok (.iconst 1, 1) := by decide +kernel
theorem dX10_readsTelling_20 : decode cX10_readsTelling 20 = .ok (.goto 4, 3) := by decide +kernel
theorem dX10_readsTelling_23 : decode cX10_readsTelling 23 = .ok (.iconst 0, 1) := by decide +kernel
theorem dX10_readsTelling_24 : decode cX10_readsTelling 24 = .ok (.iconst 2, 1) := by decide +kernel
theorem dX10_readsTelling_25 : decode cX10_readsTelling 25 = .ok (.invokevirtual 208, 3) := by decide +kernel
theorem dX10_readsTelling_28 : decode cX10_readsTelling 28 = .ok (.ifCond .eq 28, 3) := by decide +kernel
theorem dX10_readsTelling_31 : decode cX10_readsTelling 31 = .ok (.aload_n 0, 1) := by decide +kernel
theorem dX10_readsTelling_32 : decode cX10_readsTelling 32 = .ok (.aload_n 0, 1) := by decide +kernel
theorem dX10_readsTelling_33 : decode cX10_readsTelling 33 = .ok (.aload_n 0, 1) := by decide +kernel
theorem dX10_readsTelling_34 : decode cX10_readsTelling 34 = .ok (.getfield 178, 3) := by decide +kernel
theorem dX10_readsTelling_37 : decode cX10_readsTelling 37 = .ok (.invokevirtual 228, 3) := by decide +kernel
theorem dX10_readsTelling_40 : decode cX10_readsTelling 40 = .ok (.iconst (-1), 1) := by decide +kernel
theorem dX10_readsTelling_41 : decode cX10_readsTelling 41 = .ok (.if_icmp .ne 7, 3) := by decide +kernel
theorem dX10_readsTelling_44 : decode cX10_readsTelling 44 = .ok (.iconst 1, 1) := by decide +kernel
theorem dX10_readsTelling_45 : decode cX10_readsTelling 45 = .ok (.goto 4, 3) := by decide +kernel
theorem dX10_readsTelling_48 : decode cX10_readsTelling 48 = .ok (.iconst 0, 1) := by decide +kernel
theorem dX10_readsTelling_49 : decode cX10_readsTelling 49 = .ok (.iconst 4, 1) := by decide +kernel
theorem dX10_readsTelling_50 : decode cX10_readsTelling 50 = .ok (.invokevirtual 208, 3) := by decide +kernel
theorem dX10_readsTelling_53 : decode cX10_readsTelling 53 = .ok (.ifCond .ne 4, 3) := by decide +kernel
theorem dX10_readsTelling_56 : decode cX10_readsTelling 56 = .ok (.return_, 1) := by decide +kernel
theorem dX10_readsTelling_57 : decode cX10_readsTelling 57 = .ok (.aload_n 0, 1) := by decide +kernel
theorem dX10_readsTelling_58 : decode cX10_readsTelling 58 = .ok (.getfield 178, 3) := by decide +kernel
theorem dX10_readsTelling_61 : decode cX10_readsTelling 61 = .ok (.lstore_n 1, 1) := by decide +kernel
theorem dX10_readsTelling_62 : decode cX10_readsTelling 62 = .ok (.aload_n 0, 1) := by decide +kernel
theorem dX10_readsTelling_63 : decode cX10_readsTelling 63 = .ok (.invokevirtual 212, 3) := by decide +kernel
theorem dX10_readsTelling_66 : decode cX10_readsTelling 66 = .ok (.aload_n 0, 1) := by decide +kernel
theorem dX10_readsTelling_67 : decode cX10_readsTelling 67 = .ok (.bipush 61, 2) := by decide +kernel
theorem dX10_readsTelling_69 : decode cX10_readsTelling 69 = .ok (.invokevirtual 250, 3) := by decide +kernel
theorem dX10_readsTelling_72 : decode cX10_readsTelling 72 = .ok (.aload_n 0, 1) := by decide +kernel
theorem dX10_readsTelling_73 : decode cX10_readsTelling 73 = .ok (.iconst 0, 1) := by decide +kernel
theorem dX10_readsTelling_74 : decode cX10_readsTelling 74 = .ok (.putfield 215, 3) := by decide +kernel
theorem dX10_readsTelling_77 : decode cX10_readsTelling 77 = .ok (.aload_n 0, 1) := by decide +kernel
theorem dX10_readsTelling_78 : decode cX10_readsTelling 78 = .ok (.invokevirtual 247, 3) := by decide +kernel
theorem dX10_readsTelling_81 : decode cX10_readsTelling 81 = .ok (.aload_n 0, 1) := by decide +kernel
theorem dX10_readsTelling_82 : decode cX10_readsTelling 82 = .ok (.bipush 59, 2) := by decide +kernel
theorem dX10_readsTelling_84 : decode cX10_readsTelling 84 = .ok (.invokevirtual 250, 3) := by decide +kernel
theorem dX10_readsTelling_87 : decode cX10_readsTelling 87 = .ok (.aload_n 0, 1) := by decide +kernel
theorem dX10_readsTelling_88 : decode cX10_readsTelling 88 = .ok (.invokevirtual 201, 3) := by decide +kernel
theorem dX10_readsTelling_91 : decode cX10_readsTelling 91 = .ok (.ifCond .ne 4, 3) := by decide +kernel
theorem dX10_readsTelling_94 : decode cX10_readsTelling 94 = .ok (.return_, 1) := by decide +kernel
theorem dX10_readsTelling_95 : decode cX10_readsTelling 95 = .ok (.aload_n 0, 1) := by decide +kernel
theorem dX10_readsTelling_96 : decode cX10_readsTelling 96 = .ok (.getfield 23, 3) := by decide +kernel
theorem dX10_readsTelling_99 : decode cX10_readsTelling 99 = .ok (.aload_n 0, 1) := by decide +kernel
theorem dX10_readsTelling_100 : decode cX10_readsTelling 100 = .ok (.getfield 219, 3) := by decide +kernel
theorem dX10_readsTelling_103 : decode cX10_readsTelling 103 = .ok (.lload_n 1, 1) := by decide +kernel
theorem dX10_readsTelling_104 : decode cX10_readsTelling 104 = .ok (.lastore, 1) := by decide +kernel
theorem dX10_readsTelling_105 : decode cX10_readsTelling 105 = .ok (.aload_n 0, 1) := by decide +kernel
theorem dX10_readsTelling_106 : decode cX10_readsTelling 106 = .ok (.getfield 30, 3) := by decide +kernel
theorem dX10_readsTelling_109 : decode cX10_readsTelling 109 = .ok (.aload_n 0, 1) := by decide +kernel
theorem dX10_readsTelling_110 : decode cX10_readsTelling 110 = .ok (.getfield 219, 3) := by decide +kernel
theorem dX10_readsTelling_113 : decode cX10_readsTelling 113 = .ok (.aload_n 0, 1) := by decide +kernel
theorem dX10_readsTelling_114 : decode cX10_readsTelling 114 = .ok (.getfield 215, 3) := by decide +kernel
theorem dX10_readsTelling_117 : decode cX10_readsTelling 117 = .ok (.iastore, 1) := by decide +kernel
theorem dX10_readsTelling_118 : decode cX10_readsTelling 118 = .ok (.iconst 0, 1) := by decide +kernel
theorem dX10_readsTelling_119 : decode cX10_readsTelling 119 = .ok (.istore_n 3, 1) := by decide +kernel
theorem dX10_readsTelling_120 : decode cX10_readsTelling 120 = .ok (.iload_n 3, 1) := by decide +kernel
theorem dX10_readsTelling_121 : decode cX10_readsTelling 121 = .ok (.aload_n 0, 1) := by decide +kernel
theorem dX10_readsTelling_122 : decode cX10_readsTelling 122 = .ok (.getfield 215, 3) := by decide +kernel
theorem dX10_readsTelling_125 : decode cX10_readsTelling 125 = .ok (.if_icmp .ge 35, 3) := by decide +kernel
theorem dX10_readsTelling_128 : decode cX10_readsTelling 128 = .ok (.iload_n 3, 1) := by decide +kernel
theorem dX10_readsTelling_129 : decode cX10_readsTelling 129 = .ok (.bipush 124, 2) := by decide +kernel
theorem dX10_readsTelling_131 : decode cX10_readsTelling 131 = .ok (.if_icmp .ge 29, 3) := by decide +kernel
theorem dX10_readsTelling_134 : decode cX10_readsTelling 134 = .ok (.aload_n 0, 1) := by decide +kernel
theorem dX10_readsTelling_135 : decode cX10_readsTelling 135 = .ok (.getfield 27, 3) := by decide +kernel
theorem dX10_readsTelling_138 : decode cX10_readsTelling 138 = .ok (.bipush 124, 2) := by decide +kernel
theorem dX10_readsTelling_140 : decode cX10_readsTelling 140 = .ok (.aload_n 0, 1) := by decide +kernel
theorem dX10_readsTelling_141 : decode cX10_readsTelling 141 = .ok (.getfield 219, 3) := by decide +kernel
theorem dX10_readsTelling_144 : decode cX10_readsTelling 144 = .ok (.imul, 1) := by decide +kernel
theorem dX10_readsTelling_145 : decode cX10_readsTelling 145 = .ok (.iload_n 3, 1) := by decide +kernel
theorem dX10_readsTelling_146 : decode cX10_readsTelling 146 = .ok (.iadd, 1) := by decide +kernel
theorem dX10_readsTelling_147 : decode cX10_readsTelling 147 = .ok (.aload_n 0, 1) := by decide +kernel
theorem dX10_readsTelling_148 : decode cX10_readsTelling 148 = .ok (.getfield 36, 3) := by decide +kernel
theorem dX10_readsTelling_151 : decode cX10_readsTelling 151 = .ok (.iload_n 3, 1) := by decide +kernel
theorem dX10_readsTelling_152 : decode cX10_readsTelling 152 = .ok (.iaload, 1) := by decide +kernel
theorem dX10_readsTelling_153 : decode cX10_readsTelling 153 = .ok (.iastore, 1) := by decide +kernel
theorem dX10_readsTelling_154 : decode cX10_readsTelling 154 = .ok (.iinc 3 1, 3) := by decide +kernel
theorem dX10_readsTelling_157 : decode cX10_readsTelling 157 = .ok (.goto (-37), 3) := by decide +kernel
theorem dX10_readsTelling_160 : decode cX10_readsTelling 160 = .ok (.aload_n 0, 1) := by decide +kernel
theorem dX10_readsTelling_161 : decode cX10_readsTelling 161 = .ok (.dup, 1) := by decide +kernel
theorem dX10_readsTelling_162 : decode cX10_readsTelling 162 = .ok (.getfield 219, 3) := by decide +kernel
theorem dX10_readsTelling_165 : decode cX10_readsTelling 165 = .ok (.iconst 1, 1) := by decide +kernel
theorem dX10_readsTelling_166 : decode cX10_readsTelling 166 = .ok (.iadd, 1) := by decide +kernel
theorem dX10_readsTelling_167 : decode cX10_readsTelling 167 = .ok (.putfield 219, 3) := by decide +kernel
theorem dX10_readsTelling_170 : decode cX10_readsTelling 170 = .ok (.return_, 1) := by decide +kernel
theorem dX10_readsAll_0 : decode cX10_readsAll 0 = .ok (.aload_n 0, 1) := by decide +kernel
theorem dX10_readsAll_1 : decode cX10_readsAll 1 = .ok (.iconst 0, 1) := by decide +kernel
theorem dX10_readsAll_2 : decode cX10_readsAll 2 = .ok (.putfield 162, 3) := by decide +kernel
theorem dX10_readsAll_5 : decode cX10_readsAll 5 = .ok (.aload_n 0, 1) := by decide +kernel
theorem dX10_readsAll_6 : decode cX10_readsAll 6 = .ok (.iconst 0, 1) := by decide +kernel
theorem dX10_readsAll_7 : decode cX10_readsAll 7 = .ok (.putfield 198, 3) := by decide +kernel
theorem dX10_readsAll_10 : decode cX10_readsAll 10 = .ok (.aload_n 0, 1) := by decide +kernel
theorem dX10_readsAll_11 : decode cX10_readsAll 11 = .ok (.iconst (-1), 1) := by decide +kernel
theorem dX10_readsAll_12 : decode cX10_readsAll 12 = .ok (.putfield 19, 3) := by decide +kernel
theorem dX10_readsAll_15 : decode cX10_readsAll 15 = .ok (.aload_n 0, 1) := by decide +kernel
theorem dX10_readsAll_16 : decode cX10_readsAll 16 = .ok (.iconst 0, 1) := by decide +kernel
theorem dX10_readsAll_17 : decode cX10_readsAll 17 = .ok (.putfield 219, 3) := by decide +kernel
theorem dX10_readsAll_20 : decode cX10_readsAll 20 = .ok (.aload_n 0, 1) := by decide +kernel
theorem dX10_readsAll_21 : decode cX10_readsAll 21 = .ok (.iconst 0, 1) := by decide +kernel
theorem dX10_readsAll_22 : decode cX10_readsAll 22 = .ok (.putfield 225, 3) := by decide +kernel
theorem dX10_readsAll_25 : decode cX10_readsAll 25 = .ok (.aload_n 0, 1) := by decide +kernel
theorem dX10_readsAll_26 : decode cX10_readsAll 26 = .ok (.iconst 0, 1) := by decide +kernel
theorem dX10_readsAll_27 : decode cX10_readsAll 27 = .ok (.putfield 244, 3) := by decide +kernel
theorem dX10_readsAll_30 : decode cX10_readsAll 30 = .ok (.aload_n 0, 1) := by decide +kernel
theorem dX10_readsAll_31 : decode cX10_readsAll 31 = .ok (.invokevirtual 212, 3) := by decide +kernel
theorem dX10_readsAll_34 : decode cX10_readsAll 34 = .ok (.aload_n 0, 1) := by decide +kernel
theorem dX10_readsAll_35 : decode cX10_readsAll 35 = .ok (.invokevirtual 263, 3) := by decide +kernel
theorem dX10_readsAll_38 : decode cX10_readsAll 38 = .ok (.ifCond .eq 10, 3) := by decide +kernel
theorem dX10_readsAll_41 : decode cX10_readsAll 41 = .ok (.aload_n 0, 1) := by decide +kernel
theorem dX10_readsAll_42 : decode cX10_readsAll 42 = .ok (.invokevirtual 266, 3) := by decide +kernel
theorem dX10_readsAll_45 : decode cX10_readsAll 45 = .ok (.goto (-11), 3) := by decide +kernel
theorem dX10_readsAll_48 : decode cX10_readsAll 48 = .ok (.aload_n 0, 1) := by decide +kernel
theorem dX10_readsAll_49 : decode cX10_readsAll 49 = .ok (.iconst 0, 1) := by decide +kernel
theorem dX10_readsAll_50 : decode cX10_readsAll 50 = .ok (.putfield 215, 3) := by decide +kernel
theorem dX10_readsAll_53 : decode cX10_readsAll 53 = .ok (.aload_n 0, 1) := by decide +kernel
theorem dX10_readsAll_54 : decode cX10_readsAll 54 = .ok (.invokevirtual 247, 3) := by decide +kernel
theorem dX10_readsAll_57 : decode cX10_readsAll 57 = .ok (.aload_n 0, 1) := by decide +kernel
theorem dX10_readsAll_58 : decode cX10_readsAll 58 = .ok (.aload_n 0, 1) := by decide +kernel
theorem dX10_readsAll_59 : decode cX10_readsAll 59 = .ok (.getfield 171, 3) := by decide +kernel
theorem dX10_readsAll_62 : decode cX10_readsAll 62 = .ok (.ifCond .ne 7, 3) := by decide +kernel
theorem dX10_readsAll_65 : decode cX10_readsAll 65 = .ok (.iconst 1, 1) := by decide +kernel
theorem dX10_readsAll_66 : decode cX10_readsAll 66 = .ok (.goto 4, 3) := by decide +kernel
theorem dX10_readsAll_69 : decode cX10_readsAll 69 = .ok (.iconst 0, 1) := by decide +kernel
theorem dX10_readsAll_70 : decode cX10_readsAll 70 = .ok (.iconst 1, 1) := by decide +kernel
theorem dX10_readsAll_71 : decode cX10_readsAll 71 = .ok (.invokevirtual 208, 3) := by decide +kernel
theorem dX10_readsAll_74 : decode cX10_readsAll 74 = .ok (.pop, 1) := by decide +kernel
theorem dX10_readsAll_75 : decode cX10_readsAll 75 = .ok (.aload_n 0, 1) := by decide +kernel
theorem dX10_readsAll_76 : decode cX10_readsAll 76 = .ok (.aload_n 0, 1) := by decide +kernel
theorem dX10_readsAll_77 : decode cX10_readsAll 77 = .ok (.getfield 215, 3) := by decide +kernel
theorem dX10_readsAll_80 : decode cX10_readsAll 80 = .ok (.bipush 120, 2) := by decide +kernel
theorem dX10_readsAll_82 : decode cX10_readsAll 82 = .ok (.if_icmp .gt 7, 3) := by decide +kernel
theorem dX10_readsAll_85 : decode cX10_readsAll 85 = .ok (.iconst 1, 1) := by decide +kernel
theorem dX10_readsAll_86 : decode cX10_readsAll 86 = .ok (.goto 4, 3) := by decide +kernel
theorem dX10_readsAll_89 : decode cX10_readsAll 89 = .ok (.iconst 0, 1) := by decide +kernel
theorem dX10_readsAll_90 : decode cX10_readsAll 90 = .ok (.iconst 5, 1) := by decide +kernel
theorem dX10_readsAll_91 : decode cX10_readsAll 91 = .ok (.invokevirtual 208, 3) := by decide +kernel
theorem dX10_readsAll_94 : decode cX10_readsAll 94 = .ok (.pop, 1) := by decide +kernel
theorem dX10_readsAll_95 : decode cX10_readsAll 95 = .ok (.return_, 1) := by decide +kernel
theorem dX10_tell_0 : decode cX10_tell 0 = .ok (.aload_n 0, 1) := by decide +kernel
theorem dX10_tell_1 : decode cX10_tell 1 = .ok (.iconst 0, 1) := by decide +kernel
theorem dX10_tell_2 : decode cX10_tell 2 = .ok (.putfield 141, 3) := by decide +kernel
theorem dX10_tell_5 : decode cX10_tell 5 = .ok (.aload_n 0, 1) := by decide +kernel
theorem dX10_tell_6 : decode cX10_tell 6 = .ok (.iload_n 1, 1) := by decide +kernel
theorem dX10_tell_7 : decode cX10_tell 7 = .ok (.iconst 0, 1) := by decide +kernel
theorem dX10_tell_8 : decode cX10_tell 8 = .ok (.aload_n 0, 1) := by decide +kernel
theorem dX10_tell_9 : decode cX10_tell 9 = .ok (.getfield 144, 3) := by decide +kernel
theorem dX10_tell_12 : decode cX10_tell 12 = .ok (.invokestatic 154, 3) := by decide +kernel
theorem dX10_tell_15 : decode cX10_tell 15 = .ok (.iconst 1, 1) := by decide +kernel
theorem dX10_tell_16 : decode cX10_tell 16 = .ok (.invokevirtual 269, 3) := by decide +kernel
theorem dX10_tell_19 : decode cX10_tell 19 = .ok (.ifCond .ne 5, 3) := by decide +kernel
theorem dX10_tell_22 : decode cX10_tell 22 = .ok (.iconst 0, 1) := by decide +kernel
theorem dX10_tell_23 : decode cX10_tell 23 = .ok (.ireturn, 1) := by decide +kernel
theorem dX10_tell_24 : decode cX10_tell 24 = .ok (.aload_n 0, 1) := by decide +kernel
theorem dX10_tell_25 : decode cX10_tell 25 = .ok (.iconst 0, 1) := by decide +kernel
theorem dX10_tell_26 : decode cX10_tell 26 = .ok (.putfield 144, 3) := by decide +kernel
theorem dX10_tell_29 : decode cX10_tell 29 = .ok (.aload_n 0, 1) := by decide +kernel
theorem dX10_tell_30 : decode cX10_tell 30 = .ok (.iload_n 1, 1) := by decide +kernel
theorem dX10_tell_31 : decode cX10_tell 31 = .ok (.putfield 151, 3) := by decide +kernel
theorem dX10_tell_34 : decode cX10_tell 34 = .ok (.aload_n 0, 1) := by decide +kernel
theorem dX10_tell_35 : decode cX10_tell 35 = .ok (.invokevirtual 272, 3) := by decide +kernel
theorem dX10_tell_38 : decode cX10_tell 38 = .ok (.aload_n 0, 1) := by decide +kernel
theorem dX10_tell_39 : decode cX10_tell 39 = .ok (.invokevirtual 201, 3) := by decide +kernel
theorem dX10_tell_42 : decode cX10_tell 42 = .ok (.ifCond .ne 8, 3) := by decide +kernel
theorem dX10_tell_45 : decode cX10_tell 45 = .ok (.aload_n 0, 1) := by decide +kernel
theorem dX10_tell_46 : decode cX10_tell 46 = .ok (.getfield 198, 3) := by decide +kernel
theorem dX10_tell_49 : decode cX10_tell 49 = .ok (.ireturn, 1) := by decide +kernel
theorem dX10_tell_50 : decode cX10_tell 50 = .ok (.aload_n 0, 1) := by decide +kernel
theorem dX10_tell_51 : decode cX10_tell 51 = .ok (.invokevirtual 275, 3) := by decide +kernel
theorem dX10_tell_54 : decode cX10_tell 54 = .ok (.iconst 0, 1) := by decide +kernel
theorem dX10_tell_55 : decode cX10_tell 55 = .ok (.istore_n 2, 1) := by decide +kernel
theorem dX10_tell_56 : decode cX10_tell 56 = .ok (.iload_n 2, 1) := by decide +kernel
theorem dX10_tell_57 : decode cX10_tell 57 = .ok (.aload_n 0, 1) := by decide +kernel
theorem dX10_tell_58 : decode cX10_tell 58 = .ok (.getfield 215, 3) := by decide +kernel
theorem dX10_tell_61 : decode cX10_tell 61 = .ok (.if_icmp .ge 25, 3) := by decide +kernel
theorem dX10_tell_64 : decode cX10_tell 64 = .ok (.aload_n 0, 1) := by decide +kernel
theorem dX10_tell_65 : decode cX10_tell 65 = .ok (.getfield 7, 3) := by decide +kernel
theorem dX10_tell_68 : decode cX10_tell 68 = .ok (.sipush 2600, 3) := by decide +kernel
theorem dX10_tell_71 : decode cX10_tell 71 = .ok (.iload_n 2, 1) := by decide +kernel
theorem dX10_tell_72 : decode cX10_tell 72 = .ok (.iadd, 1) := by decide +kernel
theorem dX10_tell_73 : decode cX10_tell 73 = .ok (.aload_n 0, 1) := by decide +kernel
theorem dX10_tell_74 : decode cX10_tell 74 = .ok (.getfield 36, 3) := by decide +kernel
theorem dX10_tell_77 : decode cX10_tell 77 = .ok (.iload_n 2, 1) := by decide +kernel
theorem dX10_tell_78 : decode cX10_tell 78 = .ok (.iaload, 1) := by decide +kernel
theorem dX10_tell_79 : decode cX10_tell 79 = .ok (.iastore, 1) := by decide +kernel
theorem dX10_tell_80 : decode cX10_tell 80 = .ok (.iinc 2 1, 3) := by decide +kernel
theorem dX10_tell_83 : decode cX10_tell 83 = .ok (.goto (-27), 3) := by decide +kernel
theorem dX10_tell_86 : decode cX10_tell 86 = .ok (.aload_n 0, 1) := by decide +kernel
theorem dX10_tell_87 : decode cX10_tell 87 = .ok (.getfield 13, 3) := by decide +kernel
theorem dX10_tell_90 : decode cX10_tell 90 = .ok (.iconst 2, 1) := by decide +kernel
theorem dX10_tell_91 : decode cX10_tell 91 = .ok (.aload_n 0, 1) := by decide +kernel
theorem dX10_tell_92 : decode cX10_tell 92 = .ok (.getfield 215, 3) := by decide +kernel
theorem dX10_tell_95 : decode cX10_tell 95 = .ok (.iastore, 1) := by decide +kernel
theorem dX10_tell_96 : decode cX10_tell 96 = .ok (.aload_n 0, 1) := by decide +kernel
theorem dX10_tell_97 : decode cX10_tell 97 = .ok (.invokevirtual 278, 3) := by decide +kernel
theorem dX10_tell_100 : decode cX10_tell 100 = .ok (.aload_n 0, 1) := by decide +kernel
theorem dX10_tell_101 : decode cX10_tell 101 = .ok (.getfield 281, 3) := by decide +kernel
theorem dX10_tell_104 : decode cX10_tell 104 = .ok (.sipush 400, 3) := by decide +kernel
theorem dX10_tell_107 : decode cX10_tell 107 = .ok (.if_icmp .le 19, 3) := by decide +kernel
theorem dX10_tell_110 : decode cX10_tell 110 = .ok (.aload_n 0, 1) := by decide +kernel
theorem dX10_tell_111 : decode cX10_tell 111 = .ok (.invokevirtual 284, 3) := by decide +kernel
theorem dX10_tell_114 : decode cX10_tell 114 = .ok (.aload_n 0, 1) := by decide +kernel
theorem dX10_tell_115 : decode cX10_tell 115 = .ok (.iconst 5, 1) := by decide +kernel
theorem dX10_tell_116 : decode cX10_tell 116 = .ok (.putfield 198, 3) := by decide +kernel
theorem dX10_tell_119 : decode cX10_tell 119 = .ok (.aload_n 0, 1) := by decide +kernel
theorem dX10_tell_120 : decode cX10_tell 120 = .ok (.iload_n 1, 1) := by decide +kernel
theorem dX10_tell_121 : decode cX10_tell 121 = .ok (.putfield 19, 3) := by decide +kernel
theorem dX10_tell_124 : decode cX10_tell 124 = .ok (.iconst 5, 1) := by decide +kernel
theorem dX10_tell_125 : decode cX10_tell 125 = .ok (.ireturn, 1) := by decide +kernel
theorem dX10_tell_126 : decode cX10_tell 126 = .ok (.aload_n 0, 1) := by decide +kernel
theorem dX10_tell_127 : decode cX10_tell 127 = .ok (.invokevirtual 287, 3) := by decide +kernel
theorem dX10_tell_130 : decode cX10_tell 130 = .ok (.iconst 0, 1) := by decide +kernel
theorem dX10_tell_131 : decode cX10_tell 131 = .ok (.ireturn, 1) := by decide +kernel
theorem dX10_fault_0 : decode cX10_fault 0 = .ok (.aload_n 0, 1) := by decide +kernel
theorem dX10_fault_1 : decode cX10_fault 1 = .ok (.iconst 0, 1) := by decide +kernel
theorem dX10_fault_2 : decode cX10_fault 2 = .ok (.putfield 141, 3) := by decide +kernel
theorem dX10_fault_5 : decode cX10_fault 5 = .ok (.aload_n 0, 1) := by decide +kernel
theorem dX10_fault_6 : decode cX10_fault 6 = .ok (.getfield 19, 3) := by decide +kernel
theorem dX10_fault_9 : decode cX10_fault 9 = .ok (.ireturn, 1) := by decide +kernel
theorem dX10_portsOf_0 : decode cX10_portsOf 0 = .ok (.iload_n 0, 1) := by decide +kernel
theorem dX10_portsOf_1 : decode cX10_portsOf 1 = .ok (.tableswitch 47 0 6 #[43, 47, 47, 47, 45, 45, 43], 43) := by decide +kernel
theorem dX10_portsOf_44 : decode cX10_portsOf 44 = .ok (.iconst 1, 1) := by decide +kernel
theorem dX10_portsOf_45 : decode cX10_portsOf 45 = .ok (.ireturn, 1) := by decide +kernel
theorem dX10_portsOf_46 : decode cX10_portsOf 46 = .ok (.iconst 2, 1) := by decide +kernel
theorem dX10_portsOf_47 : decode cX10_portsOf 47 = .ok (.ireturn, 1) := by decide +kernel
theorem dX10_portsOf_48 : decode cX10_portsOf 48 = .ok (.iconst 3, 1) := by decide +kernel
theorem dX10_portsOf_49 : decode cX10_portsOf 49 = .ok (.ireturn, 1) := by decide +kernel
theorem dX10_isNode_0 : decode cX10_isNode 0 = .ok (.iload_n 1, 1) := by decide +kernel
theorem dX10_isNode_1 : decode cX10_isNode 1 = .ok (.iconst 0, 1) := by decide +kernel
theorem dX10_isNode_2 : decode cX10_isNode 2 = .ok (.aload_n 0, 1) := by decide +kernel
theorem dX10_isNode_3 : decode cX10_isNode 3 = .ok (.getfield 290, 3) := by decide +kernel
theorem dX10_isNode_6 : decode cX10_isNode 6 = .ok (.iconst 1, 1) := by decide +kernel
theorem dX10_isNode_7 : decode cX10_isNode 7 = .ok (.isub, 1) := by decide +kernel
theorem dX10_isNode_8 : decode cX10_isNode 8 = .ok (.invokestatic 154, 3) := by decide +kernel
theorem dX10_isNode_11 : decode cX10_isNode 11 = .ok (.ifCond .eq 17, 3) := by decide +kernel
theorem dX10_isNode_14 : decode cX10_isNode 14 = .ok (.aload_n 0, 1) := by decide +kernel
theorem dX10_isNode_15 : decode cX10_isNode 15 = .ok (.getfield 39, 3) := by decide +kernel
theorem dX10_isNode_18 : decode cX10_isNode 18 = .ok (.iload_n 1, 1) := by decide +kernel
theorem dX10_isNode_19 : decode cX10_isNode 19 = .ok (.iaload, 1) := by decide +kernel
theorem dX10_isNode_20 : decode cX10_isNode 20 = .ok (.iconst (-1), 1) := by decide +kernel
theorem dX10_isNode_21 : decode cX10_isNode 21 = .ok (.if_icmp .eq 7, 3) := by decide +kernel
theorem dX10_isNode_24 : decode cX10_isNode 24 = .ok (.iconst 1, 1) := by decide +kernel
theorem dX10_isNode_25 : decode cX10_isNode 25 = .ok (.goto 4, 3) := by decide +kernel
theorem dX10_isNode_28 : decode cX10_isNode 28 = .ok (.iconst 0, 1) := by decide +kernel
theorem dX10_isNode_29 : decode cX10_isNode 29 = .ok (.ireturn, 1) := by decide +kernel
theorem dX10_newNode_0 : decode cX10_newNode 0 = .ok (.iconst 0, 1) := by decide +kernel
theorem dX10_newNode_1 : decode cX10_newNode 1 = .ok (.istore_n 3, 1) := by decide +kernel
theorem dX10_newNode_2 : decode cX10_newNode 2 = .ok (.iload_n 3, 1) := by decide +kernel
theorem dX10_newNode_3 : decode cX10_newNode 3 = .ok (.aload_n 0, 1) := by decide +kernel
theorem dX10_newNode_4 : decode cX10_newNode 4 = .ok (.getfield 290, 3) := by decide +kernel
theorem dX10_newNode_7 : decode cX10_newNode 7 = .ok (.if_icmp .ge 19, 3) := by decide +kernel
theorem dX10_newNode_10 : decode cX10_newNode 10 = .ok (.aload_n 0, 1) := by decide +kernel
theorem dX10_newNode_11 : decode cX10_newNode 11 = .ok (.getfield 39, 3) := by decide +kernel
theorem dX10_newNode_14 : decode cX10_newNode 14 = .ok (.iload_n 3, 1) := by decide +kernel
theorem dX10_newNode_15 : decode cX10_newNode 15 = .ok (.iaload, 1) := by decide +kernel
theorem dX10_newNode_16 : decode cX10_newNode 16 = .ok (.iconst (-1), 1) := by decide +kernel
theorem dX10_newNode_17 : decode cX10_newNode 17 = .ok (.if_icmp .eq 9, 3) := by decide +kernel
theorem dX10_newNode_20 : decode cX10_newNode 20 = .ok (.iinc 3 1, 3) := by decide +kernel
theorem dX10_newNode_23 : decode cX10_newNode 23 = .ok (.goto (-21), 3) := by decide +kernel
theorem dX10_newNode_26 : decode cX10_newNode 26 = .ok (.aload_n 0, 1) := by decide +kernel
theorem dX10_newNode_27 : decode cX10_newNode 27 = .ok (.iload_n 3, 1) := by decide +kernel
theorem dX10_newNode_28 : decode cX10_newNode 28 = .ok (.aload_n 0, 1) := by decide +kernel
theorem dX10_newNode_29 : decode cX10_newNode 29 = .ok (.getfield 290, 3) := by decide +kernel
theorem dX10_newNode_32 : decode cX10_newNode 32 = .ok (.if_icmp .ne 9, 3) := by decide +kernel
theorem dX10_newNode_35 : decode cX10_newNode 35 = .ok (.iload_n 3, 1) := by decide +kernel
theorem dX10_newNode_36 : decode cX10_newNode 36 = .ok (.iconst 1, 1) := by decide +kernel
theorem dX10_newNode_37 : decode cX10_newNode 37 = .ok (.iadd, 1) := by decide +kernel
theorem dX10_newNode_38 : decode cX10_newNode 38 = .ok (.goto 7, 3) := by decide +kernel
theorem dX10_newNode_41 : decode cX10_newNode 41 = .ok (.aload_n 0, 1) := by decide +kernel
theorem dX10_newNode_42 : decode cX10_newNode 42 = .ok (.getfield 290, 3) := by decide +kernel
theorem dX10_newNode_45 : decode cX10_newNode 45 = .ok (.putfield 290, 3) := by decide +kernel
theorem dX10_newNode_48 : decode cX10_newNode 48 = .ok (.aload_n 0, 1) := by decide +kernel
theorem dX10_newNode_49 : decode cX10_newNode 49 = .ok (.getfield 39, 3) := by decide +kernel
theorem dX10_newNode_52 : decode cX10_newNode 52 = .ok (.iload_n 3, 1) := by decide +kernel
theorem dX10_newNode_53 : decode cX10_newNode 53 = .ok (.iload_n 1, 1) := by decide +kernel
theorem dX10_newNode_54 : decode cX10_newNode 54 = .ok (.iastore, 1) := by decide +kernel
theorem dX10_newNode_55 : decode cX10_newNode 55 = .ok (.aload_n 0, 1) := by decide +kernel
theorem dX10_newNode_56 : decode cX10_newNode 56 = .ok (.getfield 42, 3) := by decide +kernel
theorem dX10_newNode_59 : decode cX10_newNode 59 = .ok (.iload_n 3, 1) := by decide +kernel
theorem dX10_newNode_60 : decode cX10_newNode 60 = .ok (.iload_n 2, 1) := by decide +kernel
theorem dX10_newNode_61 : decode cX10_newNode 61 = .ok (.iastore, 1) := by decide +kernel
theorem dX10_newNode_62 : decode cX10_newNode 62 = .ok (.aload_n 0, 1) := by decide +kernel
theorem dX10_newNode_63 : decode cX10_newNode 63 = .ok (.dup, 1) := by decide +kernel
theorem dX10_newNode_64 : decode cX10_newNode 64 = .ok (.getfield 281, 3) := by decide +kernel
theorem dX10_newNode_67 : decode cX10_newNode 67 = .ok (.iconst 1, 1) := by decide +kernel
theorem dX10_newNode_68 : decode cX10_newNode 68 = .ok (.iadd, 1) := by decide +kernel
theorem dX10_newNode_69 : decode cX10_newNode 69 = .ok (.putfield 281, 3) := by decide +kernel
theorem dX10_newNode_72 : decode cX10_newNode 72 = .ok (.iload_n 3, 1) := by decide +kernel
theorem dX10_newNode_73 : decode cX10_newNode 73 = .ok (.ireturn, 1) := by decide +kernel
theorem dX10_wires_0 : decode cX10_wires 0 = .ok (.aload_n 0, 1) := by decide +kernel
theorem dX10_wires_1 : decode cX10_wires 1 = .ok (.getfield 45, 3) := by decide +kernel
theorem dX10_wires_4 : decode cX10_wires 4 = .ok (.iload_n 1, 1) := by decide +kernel
theorem dX10_wires_5 : decode cX10_wires 5 = .ok (.iload_n 2, 1) := by decide +kernel
theorem dX10_wires_6 : decode cX10_wires 6 = .ok (.iastore, 1) := by decide +kernel
theorem dX10_wires_7 : decode cX10_wires 7 = .ok (.aload_n 0, 1) := by decide +kernel
theorem dX10_wires_8 : decode cX10_wires 8 = .ok (.getfield 45, 3) := by decide +kernel
theorem dX10_wires_11 : decode cX10_wires 11 = .ok (.iload_n 2, 1) := by decide +kernel
theorem dX10_wires_12 : decode cX10_wires 12 = .ok (.iload_n 1, 1) := by decide +kernel
theorem dX10_wires_13 : decode cX10_wires 13 = .ok (.iastore, 1) := by decide +kernel
theorem dX10_wires_14 : decode cX10_wires 14 = .ok (.return_, 1) := by decide +kernel
theorem dX10_endAt_0 : decode cX10_endAt 0 = .ok (.bipush 122, 2) := by decide +kernel
theorem dX10_endAt_2 : decode cX10_endAt 2 = .ok (.iload_n 1, 1) := by decide +kernel
theorem dX10_endAt_3 : decode cX10_endAt 3 = .ok (.imul, 1) := by decide +kernel
theorem dX10_endAt_4 : decode cX10_endAt 4 = .ok (.iload_n 2, 1) := by decide +kernel
theorem dX10_endAt_5 : decode cX10_endAt 5 = .ok (.iadd, 1) := by decide +kernel
theorem dX10_endAt_6 : decode cX10_endAt 6 = .ok (.ireturn, 1) := by decide +kernel
theorem dX10_laysPart_0 : decode cX10_laysPart 0 = .ok (.iconst 0, 1) := by decide +kernel
theorem dX10_laysPart_1 : decode cX10_laysPart 1 = .ok (.istore 4, 2) := by decide +kernel
theorem dX10_laysPart_3 : decode cX10_laysPart 3 = .ok (.iload 4, 2) := by decide +kernel
theorem dX10_laysPart_5 : decode cX10_laysPart 5 = .ok (.iload_n 2, 1) := by decide +kernel
theorem dX10_laysPart_6 : decode cX10_laysPart 6 = .ok (.if_icmp .ge 22, 3) := by decide +kernel
theorem dX10_laysPart_9 : decode cX10_laysPart 9 = .ok (.aload_n 0, 1) := by decide +kernel
theorem dX10_laysPart_10 : decode cX10_laysPart 10 = .ok (.getfield 48, 3) := by decide +kernel
theorem dX10_laysPart_13 : decode cX10_laysPart 13 = .ok (.aload_n 0, 1) := by decide +kernel
theorem dX10_laysPart_14 : decode cX10_laysPart 14 = .ok (.iload_n 3, 1) := by decide +kernel
theorem dX10_laysPart_15 : decode cX10_laysPart 15 = .ok (.iload 4, 2) := by decide +kernel
theorem dX10_laysPart_17 : decode cX10_laysPart 17 = .ok (.invokevirtual 293, 3) := by decide +kernel
theorem dX10_laysPart_20 : decode cX10_laysPart 20 = .ok (.iconst (-1), 1) := by decide +kernel
theorem dX10_laysPart_21 : decode cX10_laysPart 21 = .ok (.iastore, 1) := by decide +kernel
theorem dX10_laysPart_22 : decode cX10_laysPart 22 = .ok (.iinc 4 1, 3) := by decide +kernel
theorem dX10_laysPart_25 : decode cX10_laysPart 25 = .ok (.goto (-22), 3) := by decide +kernel
theorem dX10_laysPart_28 : decode cX10_laysPart 28 = .ok (.aload_n 0, 1) := by decide +kernel
theorem dX10_laysPart_29 : decode cX10_laysPart 29 = .ok (.getfield 7, 3) := by decide +kernel
theorem dX10_laysPart_32 : decode cX10_laysPart 32 = .ok (.sipush 2600, 3) := by decide +kernel
theorem dX10_laysPart_35 : decode cX10_laysPart 35 = .ok (.aload_n 0, 1) := by decide +kernel
theorem dX10_laysPart_36 : decode cX10_laysPart 36 = .ok (.getfield 297, 3) := by decide +kernel
theorem dX10_laysPart_39 : decode cX10_laysPart 39 = .ok (.iadd, 1) := by decide +kernel
theorem dX10_laysPart_40 : decode cX10_laysPart 40 = .ok (.iaload, 1) := by decide +kernel
theorem dX10_laysPart_41 : decode cX10_laysPart 41 = .ok (.istore 4, 2) := by decide +kernel
theorem dX10_laysPart_43 : decode cX10_laysPart 43 = .ok (.aload_n 0, 1) := by decide +kernel
theorem dX10_laysPart_44 : decode cX10_laysPart 44 = .ok (.dup, 1) := by decide +kernel
theorem dX10_laysPart_45 : decode cX10_laysPart 45 = .ok (.getfield 297, 3) := by decide +kernel
theorem dX10_laysPart_48 : decode cX10_laysPart 48 = .ok (.iconst 1, 1) := by decide +kernel
theorem dX10_laysPart_49 : decode cX10_laysPart 49 = .ok (.iadd, 1) := by decide +kernel
theorem dX10_laysPart_50 : decode cX10_laysPart 50 = .ok (.putfield 297, 3) := by decide +kernel
theorem dX10_laysPart_53 : decode cX10_laysPart 53 = .ok (.iload 4, 2) := by decide +kernel
theorem dX10_laysPart_55 : decode cX10_laysPart 55 = .ok (.ifCond .ne 11, 3) := by decide +kernel
theorem dX10_laysPart_58 : decode cX10_laysPart 58 = .ok (.aload_n 0, 1) := by decide +kernel
theorem dX10_laysPart_59 : decode cX10_laysPart 59 = .ok (.iload_n 1, 1) := by decide +kernel
theorem dX10_laysPart_60 : decode cX10_laysPart 60 = .ok (.iload_n 2, 1) := by decide +kernel
theorem dX10_laysPart_61 : decode cX10_laysPart 61 = .ok (.iload_n 3, 1) := by decide +kernel
theorem dX10_laysPart_62 : decode cX10_laysPart 62 = .ok (.invokevirtual 300, 3) := by decide +kernel
theorem dX10_laysPart_65 : decode cX10_laysPart 65 = .ok (.ireturn, 1) := by decide +kernel
theorem dX10_laysPart_66 : decode cX10_laysPart 66 = .ok (.iload 4, 2) := by decide +kernel
theorem dX10_laysPart_68 : decode cX10_laysPart 68 = .ok (.iconst 1, 1) := by decide +kernel
theorem dX10_laysPart_69 : decode cX10_laysPart 69 = .ok (.if_icmp .ne 11, 3) := by decide +kernel
theorem dX10_laysPart_72 : decode cX10_laysPart 72 = .ok (.aload_n 0, 1) := by decide +kernel
theorem dX10_laysPart_73 : decode cX10_laysPart 73 = .ok (.iload_n 1, 1) := by decide +kernel
theorem dX10_laysPart_74 : decode cX10_laysPart 74 = .ok (.iload_n 2, 1) := by decide +kernel
theorem dX10_laysPart_75 : decode cX10_laysPart 75 = .ok (.iload_n 3, 1) := by decide +kernel
theorem dX10_laysPart_76 : decode cX10_laysPart 76 = .ok (.invokevirtual 304, 3) := by decide +kernel
theorem dX10_laysPart_79 : decode cX10_laysPart 79 = .ok (.ireturn, 1) := by decide +kernel
theorem dX10_laysPart_80 : decode cX10_laysPart 80 = .ok (.aload_n 0, 1) := by decide +kernel
theorem dX10_laysPart_81 : decode cX10_laysPart 81 = .ok (.iconst 5, 1) := by decide +kernel
theorem dX10_laysPart_82 : decode cX10_laysPart 82 = .ok (.iload_n 1, 1) := by decide +kernel
theorem dX10_laysPart_83 : decode cX10_laysPart 83 = .ok (.invokevirtual 307, 3) := by decide +kernel
theorem dX10_laysPart_86 : decode cX10_laysPart 86 = .ok (.istore 5, 2) := by decide +kernel
theorem dX10_laysPart_88 : decode cX10_laysPart 88 = .ok (.aload_n 0, 1) := by decide +kernel
theorem dX10_laysPart_89 : decode cX10_laysPart 89 = .ok (.getfield 48, 3) := by decide +kernel
theorem dX10_laysPart_92 : decode cX10_laysPart 92 = .ok (.aload_n 0, 1) := by decide +kernel
theorem dX10_laysPart_93 : decode cX10_laysPart 93 = .ok (.iload_n 3, 1) := by decide +kernel
theorem dX10_laysPart_94 : decode cX10_laysPart 94 = .ok (.iload_n 2, 1) := by decide +kernel
theorem dX10_laysPart_95 : decode cX10_laysPart 95 = .ok (.iconst 1, 1) := by decide +kernel
theorem dX10_laysPart_96 : decode cX10_laysPart 96 = .ok (.isub, 1) := by decide +kernel
theorem dX10_laysPart_97 : decode cX10_laysPart 97 = .ok (.iload 4, 2) := by decide +kernel
theorem dX10_laysPart_99 : decode cX10_laysPart 99 = .ok (.iconst 2, 1) := by decide +kernel
theorem dX10_laysPart_100 : decode cX10_laysPart 100 = .ok (.isub, 1) := by decide +kernel
theorem dX10_laysPart_101 : decode cX10_laysPart 101 = .ok (.isub, 1) := by decide +kernel
theorem dX10_laysPart_102 : decode cX10_laysPart 102 = .ok (.invokevirtual 293, 3) := by decide +kernel
theorem dX10_laysPart_105 : decode cX10_laysPart 105 = .ok (.iconst 4, 1) := by decide +kernel
theorem dX10_laysPart_106 : decode cX10_laysPart 106 = .ok (.iload 5, 2) := by decide +kernel
theorem dX10_laysPart_108 : decode cX10_laysPart 108 = .ok (.imul, 1) := by decide +kernel
theorem dX10_laysPart_109 : decode cX10_laysPart 109 = .ok (.iastore, 1) := by decide +kernel
theorem dX10_laysPart_110 : decode cX10_laysPart 110 = .ok (.iconst 4, 1) := by decide +kernel
theorem dX10_laysPart_111 : decode cX10_laysPart 111 = .ok (.iload 5, 2) := by decide +kernel
theorem dX10_laysPart_113 : decode cX10_laysPart 113 = .ok (.imul, 1) := by decide +kernel
theorem dX10_laysPart_114 : decode cX10_laysPart 114 = .ok (.iconst 1, 1) := by decide +kernel
theorem dX10_laysPart_115 : decode cX10_laysPart 115 = .ok (.iadd, 1) := by decide +kernel
theorem dX10_laysPart_116 : decode cX10_laysPart 116 = .ok (.ireturn, 1) := by decide +kernel
theorem dX10_laysFunction_0 : decode cX10_laysFunction 0 = .ok (.aload_n 0, 1) := by decide +kernel
theorem dX10_laysFunction_1 : decode cX10_laysFunction 1 = .ok (.iconst 1, 1) := by decide +kernel
theorem dX10_laysFunction_2 : decode cX10_laysFunction 2 = .ok (.iload_n 1, 1) := by decide +kernel
theorem dX10_laysFunction_3 : decode cX10_laysFunction 3 = .ok (.invokevirtual 307, 3) := by decide +kernel
theorem dX10_laysFunction_6 : decode cX10_laysFunction 6 = .ok (.istore 4, 2) := by decide +kernel
theorem dX10_laysFunction_8 : decode cX10_laysFunction 8 = .ok (.aload_n 0, 1) := by decide +kernel
theorem dX10_laysFunction_9 : decode cX10_laysFunction 9 = .ok (.iload_n 1, 1) := by decide +kernel
theorem dX10_laysFunction_10 : decode cX10_laysFunction 10 = .ok (.iload_n 2, 1) := by decide +kernel
theorem dX10_laysFunction_11 : decode cX10_laysFunction 11 = .ok (.iconst 1, 1) := by decide +kernel
theorem dX10_laysFunction_12 : decode cX10_laysFunction 12 = .ok (.iadd, 1) := by decide +kernel
theorem dX10_laysFunction_13 : decode cX10_laysFunction 13 = .ok (.iload_n 3, 1) := by decide +kernel
theorem dX10_laysFunction_14 : decode cX10_laysFunction 14 = .ok (.invokevirtual 310, 3) := by decide +kernel
theorem dX10_laysFunction_17 : decode cX10_laysFunction 17 = .ok (.istore 5, 2) := by decide +kernel
theorem dX10_laysFunction_19 : decode cX10_laysFunction 19 = .ok (.aload_n 0, 1) := by decide +kernel
theorem dX10_laysFunction_20 : decode cX10_laysFunction 20 = .ok (.iconst 4, 1) := by decide +kernel
theorem dX10_laysFunction_21 : decode cX10_laysFunction 21 = .ok (.iload 4, 2) := by decide +kernel
theorem dX10_laysFunction_23 : decode cX10_laysFunction 23 = .ok (.imul, 1) := by decide +kernel
theorem dX10_laysFunction_24 : decode cX10_laysFunction 24 = .ok (.iconst 1, 1) := by decide +kernel
theorem dX10_laysFunction_25 : decode cX10_laysFunction 25 = .ok (.iadd, 1) := by decide +kernel
theorem dX10_laysFunction_26 : decode cX10_laysFunction 26 = .ok (.iload 5, 2) := by decide +kernel
theorem dX10_laysFunction_28 : decode cX10_laysFunction 28 = .ok (.invokevirtual 313, 3) := by decide +kernel
theorem dX10_laysFunction_31 : decode cX10_laysFunction 31 = .ok (.aload_n 0, 1) := by decide +kernel
theorem dX10_laysFunction_32 : decode cX10_laysFunction 32 = .ok (.getfield 48, 3) := by decide +kernel
theorem dX10_laysFunction_35 : decode cX10_laysFunction 35 = .ok (.aload_n 0, 1) := by decide +kernel
theorem dX10_laysFunction_36 : decode cX10_laysFunction 36 = .ok (.iload_n 3, 1) := by decide +kernel
theorem dX10_laysFunction_37 : decode cX10_laysFunction 37 = .ok (.iload_n 2, 1) := by decide +kernel
theorem dX10_laysFunction_38 : decode cX10_laysFunction 38 = .ok (.invokevirtual 293, 3) := by decide +kernel
theorem dX10_laysFunction_41 : decode cX10_laysFunction 41 = .ok (.iaload, 1) := by decide +kernel
theorem dX10_laysFunction_42 : decode cX10_laysFunction 42 = .ok (.istore 6, 2) := by decide +kernel
theorem dX10_laysFunction_44 : decode cX10_laysFunction 44 = .ok (.aload_n 0, 1) := by decide +kernel
theorem dX10_laysFunction_45 : decode cX10_laysFunction 45 = .ok (.iconst 4, 1) := by decide +kernel
theorem dX10_laysFunction_46 : decode cX10_laysFunction 46 = .ok (.iload 4, 2) := by decide +kernel
theorem dX10_laysFunction_48 : decode cX10_laysFunction 48 = .ok (.imul, 1) := by decide +kernel
theorem dX10_laysFunction_49 : decode cX10_laysFunction 49 = .ok (.iconst 2, 1) := by decide +kernel
theorem dX10_laysFunction_50 : decode cX10_laysFunction 50 = .ok (.iadd, 1) := by decide +kernel
theorem dX10_laysFunction_51 : decode cX10_laysFunction 51 = .ok (.iload 6, 2) := by decide +kernel
theorem dX10_laysFunction_53 : decode cX10_laysFunction 53 = .ok (.iconst (-1), 1) := by decide +kernel
theorem dX10_laysFunction_54 : decode cX10_laysFunction 54 = .ok (.if_icmp .ne 15, 3) := by decide +kernel
theorem dX10_laysFunction_57 : decode cX10_laysFunction 57 = .ok (.iconst 4, 1) := by decide +kernel
theorem dX10_laysFunction_58 : decode cX10_laysFunction 58 = .ok (.aload_n 0, 1) := by decide +kernel
theorem dX10_laysFunction_59 : decode cX10_laysFunction 59 = .ok (.bipush 6, 2) := by decide +kernel
theorem dX10_laysFunction_61 : decode cX10_laysFunction 61 = .ok (.iconst 0, 1) := by decide +kernel
theorem dX10_laysFunction_62 : decode cX10_laysFunction 62 = .ok (.invokevirtual 307, 3) := by decide +kernel
theorem dX10_laysFunction_65 : decode cX10_laysFunction 65 = .ok (.imul, 1) := by decide +kernel
theorem dX10_laysFunction_66 : decode cX10_laysFunction 66 = .ok (.goto 5, 3) := by decide +kernel
theorem dX10_laysFunction_69 : decode cX10_laysFunction 69 = .ok (.iload 6, 2) := by decide +kernel
theorem dX10_laysFunction_71 : decode cX10_laysFunction 71 = .ok (.invokevirtual 313, 3) := by decide +kernel
theorem dX10_laysFunction_74 : decode cX10_laysFunction 74 = .ok (.iconst 4, 1) := by decide +kernel
theorem dX10_laysFunction_75 : decode cX10_laysFunction 75 = .ok (.iload 4, 2) := by decide +kernel
theorem dX10_laysFunction_77 : decode cX10_laysFunction 77 = .ok (.imul, 1) := by decide +kernel
theorem dX10_laysFunction_78 : decode cX10_laysFunction 78 = .ok (.ireturn, 1) := by decide +kernel
theorem dX10_laysApplication_0 : decode cX10_laysApplication 0 = .ok (.aload_n 0, 1) := by decide +kernel
theorem dX10_laysApplication_1 : decode cX10_laysApplication 1 = .ok (.iconst 2, 1) := by decide +kernel
theorem dX10_laysApplication_2 : decode cX10_laysApplication 2 = .ok (.iload_n 1, 1) := by decide +kernel
theorem dX10_laysApplication_3 : decode cX10_laysApplication 3 = .ok (.invokevirtual 307, 3) := by decide +kernel
theorem dX10_laysApplication_6 : decode cX10_laysApplication 6 = .ok (.istore 4, 2) := by decide +kernel
theorem dX10_laysApplication_8 : decode cX10_laysApplication 8 = .ok (.aload_n 0, 1) := by decide +kernel
theorem dX10_laysApplication_9 : decode cX10_laysApplication 9 = .ok (.iconst 4, 1) := by decide +kernel
theorem dX10_laysApplication_10 : decode cX10_laysApplication 10 = .ok (.iload 4, 2) := by decide +kernel
theorem dX10_laysApplication_12 : decode cX10_laysApplication 12 = .ok (.imul, 1) := by decide +kernel
theorem dX10_laysApplication_13 : decode cX10_laysApplication 13 = .ok (.aload_n 0, 1) := by decide +kernel
theorem dX10_laysApplication_14 : decode cX10_laysApplication 14 = .ok (.iload_n 1, 1) := by decide +kernel
theorem dX10_laysApplication_15 : decode cX10_laysApplication 15 = .ok (.iload_n 2, 1) := by decide +kernel
theorem dX10_laysApplication_16 : decode cX10_laysApplication 16 = .ok (.iload_n 3, 1) := by decide +kernel
theorem dX10_laysApplication_17 : decode cX10_laysApplication 17 = .ok (.invokevirtual 310, 3) := by decide +kernel
theorem dX10_laysApplication_20 : decode cX10_laysApplication 20 = .ok (.invokevirtual 313, 3) := by decide +kernel
theorem dX10_laysApplication_23 : decode cX10_laysApplication 23 = .ok (.aload_n 0, 1) := by decide +kernel
theorem dX10_laysApplication_24 : decode cX10_laysApplication 24 = .ok (.iconst 4, 1) := by decide +kernel
theorem dX10_laysApplication_25 : decode cX10_laysApplication 25 = .ok (.iload 4, 2) := by decide +kernel
theorem dX10_laysApplication_27 : decode cX10_laysApplication 27 = .ok (.imul, 1) := by decide +kernel
theorem dX10_laysApplication_28 : decode cX10_laysApplication 28 = .ok (.iconst 2, 1) := by decide +kernel
theorem dX10_laysApplication_29 : decode cX10_laysApplication 29 = .ok (.iadd, 1) := by decide +kernel
theorem dX10_laysApplication_30 : decode cX10_laysApplication 30 = .ok (.aload_n 0, 1) := by decide +kernel
theorem dX10_laysApplication_31 : decode cX10_laysApplication 31 = .ok (.iload_n 1, 1) := by decide +kernel
theorem dX10_laysApplication_32 : decode cX10_laysApplication 32 = .ok (.iconst 1, 1) := by decide +kernel
theorem dX10_laysApplication_33 : decode cX10_laysApplication 33 = .ok (.iadd, 1) := by decide +kernel
theorem dX10_laysApplication_34 : decode cX10_laysApplication 34 = .ok (.iload_n 2, 1) := by decide +kernel
theorem dX10_laysApplication_35 : decode cX10_laysApplication 35 = .ok (.iload_n 3, 1) := by decide +kernel
theorem dX10_laysApplication_36 : decode cX10_laysApplication 36 = .ok (.iconst 1, 1) := by decide +kernel
theorem dX10_laysApplication_37 : decode cX10_laysApplication 37 = .ok (.iadd, 1) := by decide +kernel
theorem dX10_laysApplication_38 : decode cX10_laysApplication 38 = .ok (.invokevirtual 310, 3) := by decide +kernel
theorem dX10_laysApplication_41 : decode cX10_laysApplication 41 = .ok (.invokevirtual 313, 3) := by decide +kernel
theorem dX10_laysApplication_44 : decode cX10_laysApplication 44 = .ok (.iconst 0, 1) := by decide +kernel
theorem dX10_laysApplication_45 : decode cX10_laysApplication 45 = .ok (.istore 5, 2) := by decide +kernel
theorem dX10_laysApplication_47 : decode cX10_laysApplication 47 = .ok (.iload 5, 2) := by decide +kernel
theorem dX10_laysApplication_49 : decode cX10_laysApplication 49 = .ok (.iload_n 2, 1) := by decide +kernel
theorem dX10_laysApplication_50 : decode cX10_laysApplication 50 = .ok (.if_icmp .ge 72, 3) := by decide +kernel
theorem dX10_laysApplication_53 : decode cX10_laysApplication 53 = .ok (.aload_n 0, 1) := by decide +kernel
theorem dX10_laysApplication_54 : decode cX10_laysApplication 54 = .ok (.getfield 48, 3) := by decide +kernel
theorem dX10_laysApplication_57 : decode cX10_laysApplication 57 = .ok (.aload_n 0, 1) := by decide +kernel
theorem dX10_laysApplication_58 : decode cX10_laysApplication 58 = .ok (.iload_n 3, 1) := by decide +kernel
theorem dX10_laysApplication_59 : decode cX10_laysApplication 59 = .ok (.iconst 1, 1) := by decide +kernel
theorem dX10_laysApplication_60 : decode cX10_laysApplication 60 = .ok (.iadd, 1) := by decide +kernel
theorem dX10_laysApplication_61 : decode cX10_laysApplication 61 = .ok (.iload 5, 2) := by decide +kernel
theorem dX10_laysApplication_63 : decode cX10_laysApplication 63 = .ok (.invokevirtual 293, 3) := by decide +kernel
theorem dX10_laysApplication_66 : decode cX10_laysApplication 66 = .ok (.iaload, 1) := by decide +kernel
theorem dX10_laysApplication_67 : decode cX10_laysApplication 67 = .ok (.istore 6, 2) := by decide +kernel
theorem dX10_laysApplication_69 : decode cX10_laysApplication 69 = .ok (.iload 6, 2) := by decide +kernel
theorem dX10_laysApplication_71 : decode cX10_laysApplication 71 = .ok (.iconst (-1), 1) := by decide +kernel
theorem dX10_laysApplication_72 : decode cX10_laysApplication 72 = .ok (.if_icmp .ne 6, 3) := by decide +kernel
theorem dX10_laysApplication_75 : decode cX10_laysApplication 75 = .ok (.goto 41, 3) := by decide +kernel
theorem dX10_laysApplication_78 : decode cX10_laysApplication 78 = .ok (.aload_n 0, 1) := by decide +kernel
theorem dX10_laysApplication_79 : decode cX10_laysApplication 79 = .ok (.iconst 4, 1) := by decide +kernel
theorem dX10_laysApplication_80 : decode cX10_laysApplication 80 = .ok (.iload_n 1, 1) := by decide +kernel
theorem dX10_laysApplication_81 : decode cX10_laysApplication 81 = .ok (.invokevirtual 307, 3) := by decide +kernel
theorem dX10_laysApplication_84 : decode cX10_laysApplication 84 = .ok (.istore 7, 2) := by decide +kernel
theorem dX10_laysApplication_86 : decode cX10_laysApplication 86 = .ok (.aload_n 0, 1) := by decide +kernel
theorem dX10_laysApplication_87 : decode cX10_laysApplication 87 = .ok (.iconst 4, 1) := by decide +kernel
theorem dX10_laysApplication_88 : decode cX10_laysApplication 88 = .ok (.iload 7, 2) := by decide +kernel
theorem dX10_laysApplication_90 : decode cX10_laysApplication 90 = .ok (.imul, 1) := by decide +kernel
theorem dX10_laysApplication_91 : decode cX10_laysApplication 91 = .ok (.iconst 1, 1) := by decide +kernel
theorem dX10_laysApplication_92 : decode cX10_laysApplication 92 = .ok (.iadd, 1) := by decide +kernel
theorem dX10_laysApplication_93 : decode cX10_laysApplication 93 = .ok (.iload 6, 2) := by decide +kernel
theorem dX10_laysApplication_95 : decode cX10_laysApplication 95 = .ok (.invokevirtual 313, 3) := by decide +kernel
theorem dX10_laysApplication_98 : decode cX10_laysApplication 98 = .ok (.aload_n 0, 1) := by decide +kernel
theorem dX10_laysApplication_99 : decode cX10_laysApplication 99 = .ok (.getfield 48, 3) := by decide +kernel
theorem dX10_laysApplication_102 : decode cX10_laysApplication 102 = .ok (.aload_n 0, 1) := by decide +kernel
theorem dX10_laysApplication_103 : decode cX10_laysApplication 103 = .ok (.iload_n 3, 1) := by decide +kernel
theorem dX10_laysApplication_104 : decode cX10_laysApplication 104 = .ok (.iconst 1, 1) := by decide +kernel
theorem dX10_laysApplication_105 : decode cX10_laysApplication 105 = .ok (.iadd, 1) := by decide +kernel
theorem dX10_laysApplication_106 : decode cX10_laysApplication 106 = .ok (.iload 5, 2) := by decide +kernel
theorem dX10_laysApplication_108 : decode cX10_laysApplication 108 = .ok (.invokevirtual 293, 3) := by decide +kernel
theorem dX10_laysApplication_111 : decode cX10_laysApplication 111 = .ok (.iconst 4, 1) := by decide +kernel
theorem dX10_laysApplication_112 : decode cX10_laysApplication 112 = .ok (.iload 7, 2) := by decide +kernel
theorem dX10_laysApplication_114 : decode cX10_laysApplication 114 = .ok (.imul, 1) := by decide +kernel
theorem dX10_laysApplication_115 : decode cX10_laysApplication 115 = .ok (.iastore, 1) := by decide +kernel
theorem dX10_laysApplication_116 : decode cX10_laysApplication 116 = .ok (.iinc 5 1, 3) := by decide +kernel
theorem dX10_laysApplication_119 : decode cX10_laysApplication 119 = .ok (.goto (-72), 3) := by decide +kernel
theorem dX10_laysApplication_122 : decode cX10_laysApplication 122 = .ok (.iconst 0, 1) := by decide +kernel
theorem dX10_laysApplication_123 : decode cX10_laysApplication 123 = .ok (.istore 5, 2) := by decide +kernel
theorem dX10_laysApplication_125 : decode cX10_laysApplication 125 = .ok (.iload 5, 2) := by decide +kernel
theorem dX10_laysApplication_127 : decode cX10_laysApplication 127 = .ok (.iload_n 2, 1) := by decide +kernel
theorem dX10_laysApplication_128 : decode cX10_laysApplication 128 = .ok (.if_icmp .ge 127, 3) := by decide +kernel
theorem dX10_laysApplication_131 : decode cX10_laysApplication 131 = .ok (.aload_n 0, 1) := by decide +kernel
theorem dX10_laysApplication_132 : decode cX10_laysApplication 132 = .ok (.getfield 48, 3) := by decide +kernel
theorem dX10_laysApplication_135 : decode cX10_laysApplication 135 = .ok (.aload_n 0, 1) := by decide +kernel
theorem dX10_laysApplication_136 : decode cX10_laysApplication 136 = .ok (.iload_n 3, 1) := by decide +kernel
theorem dX10_laysApplication_137 : decode cX10_laysApplication 137 = .ok (.iload 5, 2) := by decide +kernel
theorem dX10_laysApplication_139 : decode cX10_laysApplication 139 = .ok (.invokevirtual 293, 3) := by decide +kernel
theorem dX10_laysApplication_142 : decode cX10_laysApplication 142 = .ok (.iaload, 1) := by decide +kernel
theorem dX10_laysApplication_143 : decode cX10_laysApplication 143 = .ok (.istore 6, 2) := by decide +kernel
theorem dX10_laysApplication_145 : decode cX10_laysApplication 145 = .ok (.aload_n 0, 1) := by decide +kernel
theorem dX10_laysApplication_146 : decode cX10_laysApplication 146 = .ok (.getfield 48, 3) := by decide +kernel
theorem dX10_laysApplication_149 : decode cX10_laysApplication 149 = .ok (.aload_n 0, 1) := by decide +kernel
theorem dX10_laysApplication_150 : decode cX10_laysApplication 150 = .ok (.iload_n 3, 1) := by decide +kernel
theorem dX10_laysApplication_151 : decode cX10_laysApplication 151 = .ok (.iconst 1, 1) := by decide +kernel
theorem dX10_laysApplication_152 : decode cX10_laysApplication 152 = .ok (.iadd, 1) := by decide +kernel
theorem dX10_laysApplication_153 : decode cX10_laysApplication 153 = .ok (.iload 5, 2) := by decide +kernel
theorem dX10_laysApplication_155 : decode cX10_laysApplication 155 = .ok (.invokevirtual 293, 3) := by decide +kernel
theorem dX10_laysApplication_158 : decode cX10_laysApplication 158 = .ok (.iaload, 1) := by decide +kernel
theorem dX10_laysApplication_159 : decode cX10_laysApplication 159 = .ok (.istore 7, 2) := by decide +kernel
theorem dX10_laysApplication_161 : decode cX10_laysApplication 161 = .ok (.iload 6, 2) := by decide +kernel
theorem dX10_laysApplication_163 : decode cX10_laysApplication 163 = .ok (.iconst (-1), 1) := by decide +kernel
theorem dX10_laysApplication_164 : decode cX10_laysApplication 164 = .ok (.if_icmp .eq 9, 3) := by decide +kernel
theorem dX10_laysApplication_167 : decode cX10_laysApplication 167 = .ok (.iload 7, 2) := by decide +kernel
theorem dX10_laysApplication_169 : decode cX10_laysApplication 169 = .ok (.iconst (-1), 1) := by decide +kernel
theorem dX10_laysApplication_170 : decode cX10_laysApplication 170 = .ok (.if_icmp .ne 31, 3) := by decide +kernel
theorem dX10_laysApplication_173 : decode cX10_laysApplication 173 = .ok (.aload_n 0, 1) := by decide +kernel
theorem dX10_laysApplication_174 : decode cX10_laysApplication 174 = .ok (.getfield 48, 3) := by decide +kernel
theorem dX10_laysApplication_177 : decode cX10_laysApplication 177 = .ok (.aload_n 0, 1) := by decide +kernel
theorem dX10_laysApplication_178 : decode cX10_laysApplication 178 = .ok (.iload_n 3, 1) := by decide +kernel
theorem dX10_laysApplication_179 : decode cX10_laysApplication 179 = .ok (.iload 5, 2) := by decide +kernel
theorem dX10_laysApplication_181 : decode cX10_laysApplication 181 = .ok (.invokevirtual 293, 3) := by decide +kernel
theorem dX10_laysApplication_184 : decode cX10_laysApplication 184 = .ok (.iload 6, 2) := by decide +kernel
theorem dX10_laysApplication_186 : decode cX10_laysApplication 186 = .ok (.iconst (-1), 1) := by decide +kernel
theorem dX10_laysApplication_187 : decode cX10_laysApplication 187 = .ok (.if_icmp .ne 8, 3) := by decide +kernel
theorem dX10_laysApplication_190 : decode cX10_laysApplication 190 = .ok (.iload 7, 2) := by decide +kernel
theorem dX10_laysApplication_192 : decode cX10_laysApplication 192 = .ok (.goto 5, 3) := by decide +kernel
theorem dX10_laysApplication_195 : decode cX10_laysApplication 195 = .ok (.iload 6, 2) := by decide +kernel
theorem dX10_laysApplication_197 : decode cX10_laysApplication 197 = .ok (.iastore, 1) := by decide +kernel
theorem dX10_laysApplication_198 : decode cX10_laysApplication 198 = .ok (.goto 51, 3) := by decide +kernel
theorem dX10_laysApplication_201 : decode cX10_laysApplication 201 = .ok (.aload_n 0, 1) := by decide +kernel
theorem dX10_laysApplication_202 : decode cX10_laysApplication 202 = .ok (.iconst 3, 1) := by decide +kernel
theorem dX10_laysApplication_203 : decode cX10_laysApplication 203 = .ok (.iload_n 1, 1) := by decide +kernel
theorem dX10_laysApplication_204 : decode cX10_laysApplication 204 = .ok (.invokevirtual 307, 3) := by decide +kernel
theorem dX10_laysApplication_207 : decode cX10_laysApplication 207 = .ok (.istore 8, 2) := by decide +kernel
theorem dX10_laysApplication_209 : decode cX10_laysApplication 209 = .ok (.aload_n 0, 1) := by decide +kernel
theorem dX10_laysApplication_210 : decode cX10_laysApplication 210 = .ok (.iconst 4, 1) := by decide +kernel
theorem dX10_laysApplication_211 : decode cX10_laysApplication 211 = .ok (.iload 8, 2) := by decide +kernel
theorem dX10_laysApplication_213 : decode cX10_laysApplication 213 = .ok (.imul, 1) := by decide +kernel
theorem dX10_laysApplication_214 : decode cX10_laysApplication 214 = .ok (.iconst 1, 1) := by decide +kernel
theorem dX10_laysApplication_215 : decode cX10_laysApplication 215 = .ok (.iadd, 1) := by decide +kernel
theorem dX10_laysApplication_216 : decode cX10_laysApplication 216 = .ok (.iload 6, 2) := by decide +kernel
theorem dX10_laysApplication_218 : decode cX10_laysApplication 218 = .ok (.invokevirtual 313, 3) := by decide +kernel
theorem dX10_laysApplication_221 : decode cX10_laysApplication 221 = .ok (.aload_n 0, 1) := by decide +kernel
theorem dX10_laysApplication_222 : decode cX10_laysApplication 222 = .ok (.iconst 4, 1) := by decide +kernel
theorem dX10_laysApplication_223 : decode cX10_laysApplication 223 = .ok (.iload 8, 2) := by decide +kernel
theorem dX10_laysApplication_225 : decode cX10_laysApplication 225 = .ok (.imul, 1) := by decide +kernel
theorem dX10_laysApplication_226 : decode cX10_laysApplication 226 = .ok (.iconst 2, 1) := by decide +kernel
theorem dX10_laysApplication_227 : decode cX10_laysApplication 227 = .ok (.iadd, 1) := by decide +kernel
theorem dX10_laysApplication_228 : decode cX10_laysApplication 228 = .ok (.iload 7, 2) := by decide +kernel
theorem dX10_laysApplication_230 : decode cX10_laysApplication 230 = .ok (.invokevirtual 313, 3) := by decide +kernel
theorem dX10_laysApplication_233 : decode cX10_laysApplication 233 = .ok (.aload_n 0, 1) := by decide +kernel
theorem dX10_laysApplication_234 : decode cX10_laysApplication 234 = .ok (.getfield 48, 3) := by decide +kernel
theorem dX10_laysApplication_237 : decode cX10_laysApplication 237 = .ok (.aload_n 0, 1) := by decide +kernel
theorem dX10_laysApplication_238 : decode cX10_laysApplication 238 = .ok (.iload_n 3, 1) := by decide +kernel
theorem dX10_laysApplication_239 : decode cX10_laysApplication 239 = .ok (.iload 5, 2) := by decide +kernel
theorem dX10_laysApplication_241 : decode cX10_laysApplication 241 = .ok (.invokevirtual 293, 3) := by decide +kernel
theorem dX10_laysApplication_244 : decode cX10_laysApplication 244 = .ok (.iconst 4, 1) := by decide +kernel
theorem dX10_laysApplication_245 : decode cX10_laysApplication 245 = .ok (.iload 8, 2) := by decide +kernel
theorem dX10_laysApplication_247 : decode cX10_laysApplication 247 = .ok (.imul, 1) := by decide +kernel
theorem dX10_laysApplication_248 : decode cX10_laysApplication 248 = .ok (.iastore, 1) := by decide +kernel
theorem dX10_laysApplication_249 : decode cX10_laysApplication 249 = .ok (.iinc 5 1, 3) := by decide +kernel
theorem dX10_laysApplication_252 : decode cX10_laysApplication 252 = .ok (.goto (-127), 3) := by decide +kernel
theorem dX10_laysApplication_255 : decode cX10_laysApplication 255 = .ok (.iconst 4, 1) := by decide +kernel
theorem dX10_laysApplication_256 : decode cX10_laysApplication 256 = .ok (.iload 4, 2) := by decide +kernel
theorem dX10_laysApplication_258 : decode cX10_laysApplication 258 = .ok (.imul, 1) := by decide +kernel
theorem dX10_laysApplication_259 : decode cX10_laysApplication 259 = .ok (.iconst 1, 1) := by decide +kernel
theorem dX10_laysApplication_260 : decode cX10_laysApplication 260 = .ok (.iadd, 1) := by decide +kernel
theorem dX10_laysApplication_261 : decode cX10_laysApplication 261 = .ok (.ireturn, 1) := by decide +kernel
theorem dX10_laysNet_0 : decode cX10_laysNet 0 = .ok (.iconst 0, 1) := by decide +kernel
theorem dX10_laysNet_1 : decode cX10_laysNet 1 = .ok (.istore_n 1, 1) := by decide +kernel
theorem dX10_laysNet_2 : decode cX10_laysNet 2 = .ok (.iload_n 1, 1) := by decide +kernel
theorem dX10_laysNet_3 : decode cX10_laysNet 3 = .ok (.sipush 8000, 3) := by decide +kernel
theorem dX10_laysNet_6 : decode cX10_laysNet 6 = .ok (.if_icmp .ge 16, 3) := by decide +kernel
theorem dX10_laysNet_9 : decode cX10_laysNet 9 = .ok (.aload_n 0, 1) := by decide +kernel
theorem dX10_laysNet_10 : decode cX10_laysNet 10 = .ok (.getfield 39, 3) := by decide +kernel
theorem dX10_laysNet_13 : decode cX10_laysNet 13 = .ok (.iload_n 1, 1) := by decide +kernel
theorem dX10_laysNet_14 : decode cX10_laysNet 14 = .ok (.iconst (-1), 1) := by decide +kernel
theorem dX10_laysNet_15 : decode cX10_laysNet 15 = .ok (.iastore, 1) := by decide +kernel
theorem dX10_laysNet_16 : decode cX10_laysNet 16 = .ok (.iinc 1 1, 3) := by decide +kernel
theorem dX10_laysNet_19 : decode cX10_laysNet 19 = .ok (.goto (-17), 3) := by decide +kernel
