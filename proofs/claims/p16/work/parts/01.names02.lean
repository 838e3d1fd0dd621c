theorem dX2_putIn_70 : decode cX2_putIn 70 = .ok (.goto 30, 3) := by decide +kernel
theorem dX2_putIn_73 : decode cX2_putIn 73 = .ok (.aload_n 0, 1) := by decide +kernel
theorem dX2_putIn_74 : decode cX2_putIn 74 = .ok (.getfield 26, 3) := by decide +kernel
theorem dX2_putIn_77 : decode cX2_putIn 77 = .ok (.iload 6, 2) := by decide +kernel
theorem dX2_putIn_79 : decode cX2_putIn 79 = .ok (.iconst 2, 1) := by decide +kernel
theorem dX2_putIn_80 : decode cX2_putIn 80 = .ok (.iload 4, 2) := by decide +kernel
theorem dX2_putIn_82 : decode cX2_putIn 82 = .ok (.iadd, 1) := by decide +kernel
theorem dX2_putIn_83 : decode cX2_putIn 83 = .ok (.if_icmp .ge 8, 3) := by decide +kernel
theorem dX2_putIn_86 : decode cX2_putIn 86 = .ok (.iload 6, 2) := by decide +kernel
theorem dX2_putIn_88 : decode cX2_putIn 88 = .ok (.goto 7, 3) := by decide +kernel
theorem dX2_putIn_91 : decode cX2_putIn 91 = .ok (.iload 6, 2) := by decide +kernel
theorem dX2_putIn_93 : decode cX2_putIn 93 = .ok (.iconst 1, 1) := by decide +kernel
theorem dX2_putIn_94 : decode cX2_putIn 94 = .ok (.isub, 1) := by decide +kernel
theorem dX2_putIn_95 : decode cX2_putIn 95 = .ok (.invokevirtual 71, 3) := by decide +kernel
theorem dX2_putIn_98 : decode cX2_putIn 98 = .ok (.istore 7, 2) := by decide +kernel
theorem dX2_putIn_100 : decode cX2_putIn 100 = .ok (.iload 7, 2) := by decide +kernel
theorem dX2_putIn_102 : decode cX2_putIn 102 = .ok (.ifCond .ne 5, 3) := by decide +kernel
theorem dX2_putIn_105 : decode cX2_putIn 105 = .ok (.iconst 0, 1) := by decide +kernel
theorem dX2_putIn_106 : decode cX2_putIn 106 = .ok (.ireturn, 1) := by decide +kernel
theorem dX2_putIn_107 : decode cX2_putIn 107 = .ok (.iload 6, 2) := by decide +kernel
theorem dX2_putIn_109 : decode cX2_putIn 109 = .ok (.iload 4, 2) := by decide +kernel
theorem dX2_putIn_111 : decode cX2_putIn 111 = .ok (.aload_n 0, 1) := by decide +kernel
theorem dX2_putIn_112 : decode cX2_putIn 112 = .ok (.getfield 14, 3) := by decide +kernel
theorem dX2_putIn_115 : decode cX2_putIn 115 = .ok (.invokestatic 78, 3) := by decide +kernel
theorem dX2_putIn_118 : decode cX2_putIn 118 = .ok (.istore 4, 2) := by decide +kernel
theorem dX2_putIn_120 : decode cX2_putIn 120 = .ok (.iinc 5 1, 3) := by decide +kernel
theorem dX2_putIn_123 : decode cX2_putIn 123 = .ok (.goto (-109), 3) := by decide +kernel
theorem dX2_putIn_126 : decode cX2_putIn 126 = .ok (.iconst 1, 1) := by decide +kernel
theorem dX2_putIn_127 : decode cX2_putIn 127 = .ok (.ireturn, 1) := by decide +kernel
theorem dX2_putArgument_0 : decode cX2_putArgument 0 = .ok (.aload_n 0, 1) := by decide +kernel
theorem dX2_putArgument_1 : decode cX2_putArgument 1 = .ok (.getfield 20, 3) := by decide +kernel
theorem dX2_putArgument_4 : decode cX2_putArgument 4 = .ok (.iconst 0, 1) := by decide +kernel
theorem dX2_putArgument_5 : decode cX2_putArgument 5 = .ok (.invokevirtual 49, 3) := by decide +kernel
theorem dX2_putArgument_8 : decode cX2_putArgument 8 = .ok (.iconst 0, 1) := by decide +kernel
theorem dX2_putArgument_9 : decode cX2_putArgument 9 = .ok (.istore 4, 2) := by decide +kernel
theorem dX2_putArgument_11 : decode cX2_putArgument 11 = .ok (.iload_n 1, 1) := by decide +kernel
theorem dX2_putArgument_12 : decode cX2_putArgument 12 = .ok (.istore 5, 2) := by decide +kernel
theorem dX2_putArgument_14 : decode cX2_putArgument 14 = .ok (.iload 5, 2) := by decide +kernel
theorem dX2_putArgument_16 : decode cX2_putArgument 16 = .ok (.iload_n 2, 1) := by decide +kernel
theorem dX2_putArgument_17 : decode cX2_putArgument 17 = .ok (.if_icmp .ge 63, 3) := by decide +kernel
theorem dX2_putArgument_20 : decode cX2_putArgument 20 = .ok (.aload_n 0, 1) := by decide +kernel
theorem dX2_putArgument_21 : decode cX2_putArgument 21 = .ok (.getfield 23, 3) := by decide +kernel
theorem dX2_putArgument_24 : decode cX2_putArgument 24 = .ok (.iload 5, 2) := by decide +kernel
theorem dX2_putArgument_26 : decode cX2_putArgument 26 = .ok (.invokevirtual 68, 3) := by decide +kernel
theorem dX2_putArgument_29 : decode cX2_putArgument 29 = .ok (.istore 6, 2) := by decide +kernel
theorem dX2_putArgument_31 : decode cX2_putArgument 31 = .ok (.aload_n 0, 1) := by decide +kernel
theorem dX2_putArgument_32 : decode cX2_putArgument 32 = .ok (.getfield 26, 3) := by decide +kernel
theorem dX2_putArgument_35 : decode cX2_putArgument 35 = .ok (.iload 6, 2) := by decide +kernel
theorem dX2_putArgument_37 : decode cX2_putArgument 37 = .ok (.iconst 2, 1) := by decide +kernel
theorem dX2_putArgument_38 : decode cX2_putArgument 38 = .ok (.iload 4, 2) := by decide +kernel
theorem dX2_putArgument_40 : decode cX2_putArgument 40 = .ok (.iadd, 1) := by decide +kernel
theorem dX2_putArgument_41 : decode cX2_putArgument 41 = .ok (.if_icmp .ge 8, 3) := by decide +kernel
theorem dX2_putArgument_44 : decode cX2_putArgument 44 = .ok (.iload 6, 2) := by decide +kernel
theorem dX2_putArgument_46 : decode cX2_putArgument 46 = .ok (.goto 7, 3) := by decide +kernel
theorem dX2_putArgument_49 : decode cX2_putArgument 49 = .ok (.iload 6, 2) := by decide +kernel
theorem dX2_putArgument_51 : decode cX2_putArgument 51 = .ok (.iload_n 3, 1) := by decide +kernel
theorem dX2_putArgument_52 : decode cX2_putArgument 52 = .ok (.iadd, 1) := by decide +kernel
theorem dX2_putArgument_53 : decode cX2_putArgument 53 = .ok (.invokevirtual 71, 3) := by decide +kernel
theorem dX2_putArgument_56 : decode cX2_putArgument 56 = .ok (.ifCond .ne 5, 3) := by decide +kernel
theorem dX2_putArgument_59 : decode cX2_putArgument 59 = .ok (.iconst 0, 1) := by decide +kernel
theorem dX2_putArgument_60 : decode cX2_putArgument 60 = .ok (.ireturn, 1) := by decide +kernel
theorem dX2_putArgument_61 : decode cX2_putArgument 61 = .ok (.iload 6, 2) := by decide +kernel
theorem dX2_putArgument_63 : decode cX2_putArgument 63 = .ok (.iload 4, 2) := by decide +kernel
theorem dX2_putArgument_65 : decode cX2_putArgument 65 = .ok (.aload_n 0, 1) := by decide +kernel
theorem dX2_putArgument_66 : decode cX2_putArgument 66 = .ok (.getfield 20, 3) := by decide +kernel
theorem dX2_putArgument_69 : decode cX2_putArgument 69 = .ok (.invokestatic 78, 3) := by decide +kernel
theorem dX2_putArgument_72 : decode cX2_putArgument 72 = .ok (.istore 4, 2) := by decide +kernel
theorem dX2_putArgument_74 : decode cX2_putArgument 74 = .ok (.iinc 5 1, 3) := by decide +kernel
theorem dX2_putArgument_77 : decode cX2_putArgument 77 = .ok (.goto (-63), 3) := by decide +kernel
theorem dX2_putArgument_80 : decode cX2_putArgument 80 = .ok (.iconst 1, 1) := by decide +kernel
theorem dX2_putArgument_81 : decode cX2_putArgument 81 = .ok (.ireturn, 1) := by decide +kernel
theorem dX2_depthBehind_0 : decode cX2_depthBehind 0 = .ok (.iload_n 0, 1) := by decide +kernel
theorem dX2_depthBehind_1 : decode cX2_depthBehind 1 = .ok (.ifCond .ne 11, 3) := by decide +kernel
theorem dX2_depthBehind_4 : decode cX2_depthBehind 4 = .ok (.aload_n 2, 1) := by decide +kernel
theorem dX2_depthBehind_5 : decode cX2_depthBehind 5 = .ok (.iload_n 1, 1) := by decide +kernel
theorem dX2_depthBehind_6 : decode cX2_depthBehind 6 = .ok (.invokevirtual 71, 3) := by decide +kernel
theorem dX2_depthBehind_9 : decode cX2_depthBehind 9 = .ok (.pop, 1) := by decide +kernel
theorem dX2_depthBehind_10 : decode cX2_depthBehind 10 = .ok (.iload_n 1, 1) := by decide +kernel
theorem dX2_depthBehind_11 : decode cX2_depthBehind 11 = .ok (.ireturn, 1) := by decide +kernel
theorem dX2_depthBehind_12 : decode cX2_depthBehind 12 = .ok (.iload_n 0, 1) := by decide +kernel
theorem dX2_depthBehind_13 : decode cX2_depthBehind 13 = .ok (.iconst 1, 1) := by decide +kernel
theorem dX2_depthBehind_14 : decode cX2_depthBehind 14 = .ok (.if_icmp .ne 9, 3) := by decide +kernel
theorem dX2_depthBehind_17 : decode cX2_depthBehind 17 = .ok (.iload_n 1, 1) := by decide +kernel
theorem dX2_depthBehind_18 : decode cX2_depthBehind 18 = .ok (.iconst 1, 1) := by decide +kernel
theorem dX2_depthBehind_19 : decode cX2_depthBehind 19 = .ok (.iadd, 1) := by decide +kernel
theorem dX2_depthBehind_20 : decode cX2_depthBehind 20 = .ok (.goto 7, 3) := by decide +kernel
theorem dX2_depthBehind_23 : decode cX2_depthBehind 23 = .ok (.aload_n 2, 1) := by decide +kernel
theorem dX2_depthBehind_24 : decode cX2_depthBehind 24 = .ok (.invokevirtual 82, 3) := by decide +kernel
theorem dX2_depthBehind_27 : decode cX2_depthBehind 27 = .ok (.ireturn, 1) := by decide +kernel
theorem dX3_init_0 : decode cX3_init 0 = .ok (.aload_n 0, 1) := by decide +kernel
theorem dX3_init_1 : decode cX3_init 1 = .ok (.invokespecial 1, 3) := by decide +kernel
theorem dX3_init_4 : decode cX3_init 4 = .ok (.aload_n 0, 1) := by decide +kernel
theorem dX3_init_5 : decode cX3_init 5 = .ok (.iload_n 2, 1) := by decide +kernel
theorem dX3_init_6 : decode cX3_init 6 = .ok (.putfield 7, 3) := by decide +kernel
theorem dX3_init_9 : decode cX3_init 9 = .ok (.aload_n 0, 1) := by decide +kernel
theorem dX3_init_10 : decode cX3_init 10 = .ok (.iconst 1, 1) := by decide +kernel
theorem dX3_init_11 : decode cX3_init 11 = .ok (.iload_n 1, 1) := by decide +kernel
theorem dX3_init_12 : decode cX3_init 12 = .ok (.iload_n 2, 1) := by decide +kernel
theorem dX3_init_13 : decode cX3_init 13 = .ok (.invokestatic 13, 3) := by decide +kernel
theorem dX3_init_16 : decode cX3_init 16 = .ok (.invokestatic 19, 3) := by decide +kernel
theorem dX3_init_19 : decode cX3_init 19 = .ok (.newarray .int, 2) := by decide +kernel
theorem dX3_init_21 : decode cX3_init 21 = .ok (.putfield 22, 3) := by decide +kernel
theorem dX3_init_24 : decode cX3_init 24 = .ok (.aload_n 0, 1) := by decide +kernel
theorem dX3_init_25 : decode cX3_init 25 = .ok (.iconst 0, 1) := by decide +kernel
theorem dX3_init_26 : decode cX3_init 26 = .ok (.putfield 26, 3) := by decide +kernel
theorem dX3_init_29 : decode cX3_init 29 = .ok (.return_, 1) := by decide +kernel
theorem dX3_size_0 : decode cX3_size 0 = .ok (.aload_n 0, 1) := by decide +kernel
theorem dX3_size_1 : decode cX3_size 1 = .ok (.getfield 26, 3) := by decide +kernel
theorem dX3_size_4 : decode cX3_size 4 = .ok (.ireturn, 1) := by decide +kernel
theorem dX3_get_0 : decode cX3_get 0 = .ok (.iload_n 1, 1) := by decide +kernel
theorem dX3_get_1 : decode cX3_get 1 = .ok (.ifCond .lt 20, 3) := by decide +kernel
theorem dX3_get_4 : decode cX3_get 4 = .ok (.iload_n 1, 1) := by decide +kernel
theorem dX3_get_5 : decode cX3_get 5 = .ok (.aload_n 0, 1) := by decide +kernel
theorem dX3_get_6 : decode cX3_get 6 = .ok (.getfield 26, 3) := by decide +kernel
theorem dX3_get_9 : decode cX3_get 9 = .ok (.if_icmp .ge 12, 3) := by decide +kernel
theorem dX3_get_12 : decode cX3_get 12 = .ok (.aload_n 0, 1) := by decide +kernel
theorem dX3_get_13 : decode cX3_get 13 = .ok (.getfield 22, 3) := by decide +kernel
theorem dX3_get_16 : decode cX3_get 16 = .ok (.iload_n 1, 1) := by decide +kernel
theorem dX3_get_17 : decode cX3_get 17 = .ok (.iaload, 1) := by decide +kernel
theorem dX3_get_18 : decode cX3_get 18 = .ok (.goto 4, 3) := by decide +kernel
theorem dX3_get_21 : decode cX3_get 21 = .ok (.iconst 0, 1) := by decide +kernel
theorem dX3_get_22 : decode cX3_get 22 = .ok (.ireturn, 1) := by decide +kernel
theorem dX3_set_0 : decode cX3_set 0 = .ok (.iload_n 1, 1) := by decide +kernel
theorem dX3_set_1 : decode cX3_set 1 = .ok (.ifCond .lt 18, 3) := by decide +kernel
theorem dX3_set_4 : decode cX3_set 4 = .ok (.iload_n 1, 1) := by decide +kernel
theorem dX3_set_5 : decode cX3_set 5 = .ok (.aload_n 0, 1) := by decide +kernel
theorem dX3_set_6 : decode cX3_set 6 = .ok (.getfield 26, 3) := by decide +kernel
theorem dX3_set_9 : decode cX3_set 9 = .ok (.if_icmp .ge 10, 3) := by decide +kernel
theorem dX3_set_12 : decode cX3_set 12 = .ok (.aload_n 0, 1) := by decide +kernel
theorem dX3_set_13 : decode cX3_set 13 = .ok (.getfield 22, 3) := by decide +kernel
theorem dX3_set_16 : decode cX3_set 16 = .ok (.iload_n 1, 1) := by decide +kernel
theorem dX3_set_17 : decode cX3_set 17 = .ok (.iload_n 2, 1) := by decide +kernel
theorem dX3_set_18 : decode cX3_set 18 = .ok (.iastore, 1) := by decide +kernel
theorem dX3_set_19 : decode cX3_set 19 = .ok (.return_, 1) := by decide +kernel
theorem dX3_add_0 : decode cX3_add 0 = .ok (.aload_n 0, 1) := by decide +kernel
theorem dX3_add_1 : decode cX3_add 1 = .ok (.getfield 26, 3) := by decide +kernel
theorem dX3_add_4 : decode cX3_add 4 = .ok (.aload_n 0, 1) := by decide +kernel
theorem dX3_add_5 : decode cX3_add 5 = .ok (.getfield 7, 3) := by decide +kernel
theorem dX3_add_8 : decode cX3_add 8 = .ok (.if_icmp .lt 5, 3) := by decide +kernel
theorem dX3_add_11 : decode cX3_add 11 = .ok (.iconst 0, 1) := by decide +kernel
theorem dX3_add_12 : decode cX3_add 12 = .ok (.ireturn, 1) := by decide +kernel
theorem dX3_add_13 : decode cX3_add 13 = .ok (.aload_n 0, 1) := by decide +kernel
theorem dX3_add_14 : decode cX3_add 14 = .ok (.getfield 26, 3) := by decide +kernel
theorem dX3_add_17 : decode cX3_add 17 = .ok (.aload_n 0, 1) := by decide +kernel
theorem dX3_add_18 : decode cX3_add 18 = .ok (.getfield 22, 3) := by decide +kernel
theorem dX3_add_21 : decode cX3_add 21 = .ok (.arraylength, 1) := by decide +kernel
theorem dX3_add_22 : decode cX3_add 22 = .ok (.if_icmp .lt 28, 3) := by decide +kernel
theorem dX3_add_25 : decode cX3_add 25 = .ok (.aload_n 0, 1) := by decide +kernel
theorem dX3_add_26 : decode cX3_add 26 = .ok (.aload_n 0, 1) := by decide +kernel
theorem dX3_add_27 : decode cX3_add 27 = .ok (.getfield 22, 3) := by decide +kernel
theorem dX3_add_30 : decode cX3_add 30 = .ok (.aload_n 0, 1) := by decide +kernel
theorem dX3_add_31 : decode cX3_add 31 = .ok (.getfield 7, 3) := by decide +kernel
theorem dX3_add_34 : decode cX3_add 34 = .ok (.iconst 2, 1) := by decide +kernel
theorem dX3_add_35 : decode cX3_add 35 = .ok (.aload_n 0, 1) := by decide +kernel
theorem dX3_add_36 : decode cX3_add 36 = .ok (.getfield 22, 3) := by decide +kernel
theorem dX3_add_39 : decode cX3_add 39 = .ok (.arraylength, 1) := by decide +kernel
theorem dX3_add_40 : decode cX3_add 40 = .ok (.imul, 1) := by decide +kernel
theorem dX3_add_41 : decode cX3_add 41 = .ok (.invokestatic 13, 3) := by decide +kernel
theorem dX3_add_44 : decode cX3_add 44 = .ok (.invokestatic 29, 3) := by decide +kernel
theorem dX3_add_47 : decode cX3_add 47 = .ok (.putfield 22, 3) := by decide +kernel
theorem dX3_add_50 : decode cX3_add 50 = .ok (.aload_n 0, 1) := by decide +kernel
theorem dX3_add_51 : decode cX3_add 51 = .ok (.getfield 22, 3) := by decide +kernel
theorem dX3_add_54 : decode cX3_add 54 = .ok (.aload_n 0, 1) := by decide +kernel
theorem dX3_add_55 : decode cX3_add 55 = .ok (.getfield 26, 3) := by decide +kernel
theorem dX3_add_58 : decode cX3_add 58 = .ok (.iload_n 1, 1) := by decide +kernel
theorem dX3_add_59 : decode cX3_add 59 = .ok (.iastore, 1) := by decide +kernel
theorem dX3_add_60 : decode cX3_add 60 = .ok (.aload_n 0, 1) := by decide +kernel
theorem dX3_add_61 : decode cX3_add 61 = .ok (.dup, 1) := by decide +kernel
theorem dX3_add_62 : decode cX3_add 62 = .ok (.getfield 26, 3) := by decide +kernel
theorem dX3_add_65 : decode cX3_add 65 = .ok (.iconst 1, 1) := by decide +kernel
theorem dX3_add_66 : decode cX3_add 66 = .ok (.iadd, 1) := by decide +kernel
theorem dX3_add_67 : decode cX3_add 67 = .ok (.putfield 26, 3) := by decide +kernel
theorem dX3_add_70 : decode cX3_add 70 = .ok (.iconst 1, 1) := by decide +kernel
theorem dX3_add_71 : decode cX3_add 71 = .ok (.ireturn, 1) := by decide +kernel
theorem dX3_insert_0 : decode cX3_insert 0 = .ok (.iload_n 1, 1) := by decide +kernel
theorem dX3_insert_1 : decode cX3_insert 1 = .ok (.ifCond .lt 22, 3) := by decide +kernel
theorem dX3_insert_4 : decode cX3_insert 4 = .ok (.iload_n 1, 1) := by decide +kernel
theorem dX3_insert_5 : decode cX3_insert 5 = .ok (.aload_n 0, 1) := by decide +kernel
theorem dX3_insert_6 : decode cX3_insert 6 = .ok (.getfield 26, 3) := by decide +kernel
theorem dX3_insert_9 : decode cX3_insert 9 = .ok (.if_icmp .gt 14, 3) := by decide +kernel
theorem dX3_insert_12 : decode cX3_insert 12 = .ok (.aload_n 0, 1) := by decide +kernel
theorem dX3_insert_13 : decode cX3_insert 13 = .ok (.getfield 26, 3) := by decide +kernel
theorem dX3_insert_16 : decode cX3_insert 16 = .ok (.aload_n 0, 1) := by decide +kernel
theorem dX3_insert_17 : decode cX3_insert 17 = .ok (.getfield 7, 3) := by decide +kernel
theorem dX3_insert_20 : decode cX3_insert 20 = .ok (.if_icmp .lt 4, 3) := by decide +kernel
theorem dX3_insert_23 : decode cX3_insert 23 = .ok (.return_, 1) := by decide +kernel
theorem dX3_insert_24 : decode cX3_insert 24 = .ok (.aload_n 0, 1) := by decide +kernel
theorem dX3_insert_25 : decode cX3_insert 25 = .ok (.getfield 26, 3) := by decide +kernel
theorem dX3_insert_28 : decode cX3_insert 28 = .ok (.aload_n 0, 1) := by decide +kernel
theorem dX3_insert_29 : decode cX3_insert 29 = .ok (.getfield 22, 3) := by decide +kernel
theorem dX3_insert_32 : decode cX3_insert 32 = .ok (.arraylength, 1) := by decide +kernel
theorem dX3_insert_33 : decode cX3_insert 33 = .ok (.if_icmp .lt 28, 3) := by decide +kernel
theorem dX3_insert_36 : decode cX3_insert 36 = .ok (.aload_n 0, 1) := by decide +kernel
theorem dX3_insert_37 : decode cX3_insert 37 = .ok (.aload_n 0, 1) := by decide +kernel
theorem dX3_insert_38 : decode cX3_insert 38 = .ok (.getfield 22, 3) := by decide +kernel
theorem dX3_insert_41 : decode cX3_insert 41 = .ok (.aload_n 0, 1) := by decide +kernel
theorem dX3_insert_42 : decode cX3_insert 42 = .ok (.getfield 7, 3) := by decide +kernel
theorem dX3_insert_45 : decode cX3_insert 45 = .ok (.iconst 2, 1) := by decide +kernel
theorem dX3_insert_46 : decode cX3_insert 46 = .ok (.aload_n 0, 1) := by decide +kernel
theorem dX3_insert_47 : decode cX3_insert 47 = .ok (.getfield 22, 3) := by decide +kernel
theorem dX3_insert_50 : decode cX3_insert 50 = .ok (.arraylength, 1) := by decide +kernel
theorem dX3_insert_51 : decode cX3_insert 51 = .ok (.imul, 1) := by decide +kernel
theorem dX3_insert_52 : decode cX3_insert 52 = .ok (.invokestatic 13, 3) := by decide +kernel
theorem dX3_insert_55 : decode cX3_insert 55 = .ok (.invokestatic 29, 3) := by decide +kernel
theorem dX3_insert_58 : decode cX3_insert 58 = .ok (.putfield 22, 3) := by decide +kernel
theorem dX3_insert_61 : decode cX3_insert 61 = .ok (.aload_n 0, 1) := by decide +kernel
theorem dX3_insert_62 : decode cX3_insert 62 = .ok (.getfield 22, 3) := by decide +kernel
theorem dX3_insert_65 : decode cX3_insert 65 = .ok (.iload_n 1, 1) := by decide +kernel
theorem dX3_insert_66 : decode cX3_insert 66 = .ok (.aload_n 0, 1) := by decide +kernel
theorem dX3_insert_67 : decode cX3_insert 67 = .ok (.getfield 22, 3) := by decide +kernel
theorem dX3_insert_70 : decode cX3_insert 70 = .ok (.iload_n 1, 1) := by decide +kernel
theorem dX3_insert_71 : decode cX3_insert 71 = .ok (.iconst 1, 1) := by decide +kernel
theorem dX3_insert_72 : decode cX3_insert 72 = .ok (.iadd, 1) := by decide +kernel
theorem dX3_insert_73 : decode cX3_insert 73 = .ok (.aload_n 0, 1) := by decide +kernel
theorem dX3_insert_74 : decode cX3_insert 74 = .ok (.getfield 26, 3) := by decide +kernel
theorem dX3_insert_77 : decode cX3_insert 77 = .ok (.iload_n 1, 1) := by decide +kernel
theorem dX3_insert_78 : decode cX3_insert 78 = .ok (.isub, 1) := by decide +kernel
theorem dX3_insert_79 : decode cX3_insert 79 = .ok (.invokestatic 35, 3) := by decide +kernel
theorem dX3_insert_82 : decode cX3_insert 82 = .ok (.aload_n 0, 1) := by decide +kernel
theorem dX3_insert_83 : decode cX3_insert 83 = .ok (.getfield 22, 3) := by decide +kernel
theorem dX3_insert_86 : decode cX3_insert 86 = .ok (.iload_n 1, 1) := by decide +kernel
theorem dX3_insert_87 : decode cX3_insert 87 = .ok (.iload_n 2, 1) := by decide +kernel
theorem dX3_insert_88 : decode cX3_insert 88 = .ok (.iastore, 1) := by decide +kernel
theorem dX3_insert_89 : decode cX3_insert 89 = .ok (.aload_n 0, 1) := by decide +kernel
theorem dX3_insert_90 : decode cX3_insert 90 = .ok (.dup, 1) := by decide +kernel
theorem dX3_insert_91 : decode cX3_insert 91 = .ok (.getfield 26, 3) := by decide +kernel
theorem dX3_insert_94 : decode cX3_insert 94 = .ok (.iconst 1, 1) := by decide +kernel
theorem dX3_insert_95 : decode cX3_insert 95 = .ok (.iadd, 1) := by decide +kernel
theorem dX3_insert_96 : decode cX3_insert 96 = .ok (.putfield 26, 3) := by decide +kernel
theorem dX3_insert_99 : decode cX3_insert 99 = .ok (.return_, 1) := by decide +kernel
theorem dX3_drop_0 : decode cX3_drop 0 = .ok (.iload_n 1, 1) := by decide +kernel
theorem dX3_drop_1 : decode cX3_drop 1 = .ok (.ifCond .lt 44, 3) := by decide +kernel
theorem dX3_drop_4 : decode cX3_drop 4 = .ok (.iload_n 1, 1) := by decide +kernel
theorem dX3_drop_5 : decode cX3_drop 5 = .ok (.aload_n 0, 1) := by decide +kernel
theorem dX3_drop_6 : decode cX3_drop 6 = .ok (.getfield 26, 3) := by decide +kernel
theorem dX3_drop_9 : decode cX3_drop 9 = .ok (.if_icmp .ge 36, 3) := by decide +kernel
theorem dX3_drop_12 : decode cX3_drop 12 = .ok (.aload_n 0, 1) := by decide +kernel
theorem dX3_drop_13 : decode cX3_drop 13 = .ok (.getfield 22, 3) := by decide +kernel
theorem dX3_drop_16 : decode cX3_drop 16 = .ok (.iload_n 1, 1) := by decide +kernel
theorem dX3_drop_17 : decode cX3_drop 17 = .ok (.iconst 1, 1) := by decide +kernel
theorem dX3_drop_18 : decode cX3_drop 18 = .ok (.iadd, 1) := by decide +kernel
theorem dX3_drop_19 : decode cX3_drop 19 = .ok (.aload_n 0, 1) := by decide +kernel
theorem dX3_drop_20 : decode cX3_drop 20 = .ok (.getfield 22, 3) := by decide +kernel
theorem dX3_drop_23 : decode cX3_drop 23 = .ok (.iload_n 1, 1) := by decide +kernel
theorem dX3_drop_24 : decode cX3_drop 24 = .ok (.aload_n 0, 1) := by decide +kernel
theorem dX3_drop_25 : decode cX3_drop 25 = .ok (.getfield 26, 3) := by decide +kernel
theorem dX3_drop_28 : decode cX3_drop 28 = .ok (.iload_n 1, 1) := by decide +kernel
theorem dX3_drop_29 : decode cX3_drop 29 = .ok (.isub, 1) := by decide +kernel
theorem dX3_drop_30 : decode cX3_drop 30 = .ok (.iconst 1, 1) := by decide +kernel
theorem dX3_drop_31 : decode cX3_drop 31 = .ok (.isub, 1) := by decide +kernel
theorem dX3_drop_32 : decode cX3_drop 32 = .ok (.invokestatic 35, 3) := by decide +kernel
theorem dX3_drop_35 : decode cX3_drop 35 = .ok (.aload_n 0, 1) := by decide +kernel
theorem dX3_drop_36 : decode cX3_drop 36 = .ok (.dup, 1) := by decide +kernel
theorem dX3_drop_37 : decode cX3_drop 37 = .ok (.getfield 26, 3) := by decide +kernel
theorem dX3_drop_40 : decode cX3_drop 40 = .ok (.iconst 1, 1) := by decide +kernel
theorem dX3_drop_41 : decode cX3_drop 41 = .ok (.isub, 1) := by decide +kernel
theorem dX3_drop_42 : decode cX3_drop 42 = .ok (.putfield 26, 3) := by decide +kernel
theorem dX3_drop_45 : decode cX3_drop 45 = .ok (.return_, 1) := by decide +kernel
theorem dX3_takeLast_0 : decode cX3_takeLast 0 = .ok (.aload_n 0, 1) := by decide +kernel
theorem dX3_takeLast_1 : decode cX3_takeLast 1 = .ok (.getfield 26, 3) := by decide +kernel
theorem dX3_takeLast_4 : decode cX3_takeLast 4 = .ok (.ifCond .ne 5, 3) := by decide +kernel
theorem dX3_takeLast_7 : decode cX3_takeLast 7 = .ok (.iconst 0, 1) := by decide +kernel
theorem dX3_takeLast_8 : decode cX3_takeLast 8 = .ok (.ireturn, 1) := by decide +kernel
theorem dX3_takeLast_9 : decode cX3_takeLast 9 = .ok (.aload_n 0, 1) := by decide +kernel
theorem dX3_takeLast_10 : decode cX3_takeLast 10 = .ok (.dup, 1) := by decide +kernel
theorem dX3_takeLast_11 : decode cX3_takeLast 11 = .ok (.getfield 26, 3) := by decide +kernel
theorem dX3_takeLast_14 : decode cX3_takeLast 14 = .ok (.iconst 1, 1) := by decide +kernel
theorem dX3_takeLast_15 : decode cX3_takeLast 15 = .ok (.isub, 1) := by decide +kernel
theorem dX3_takeLast_16 : decode cX3_takeLast 16 = .ok (.putfield 26, 3) := by decide +kernel
theorem dX3_takeLast_19 : decode cX3_takeLast 19 = .ok (.aload_n 0, 1) := by decide +kernel
theorem dX3_takeLast_20 : decode cX3_takeLast 20 = .ok (.getfield 22, 3) := by decide +kernel
theorem dX3_takeLast_23 : decode cX3_takeLast 23 = .ok (.aload_n 0, 1) := by decide +kernel
theorem dX3_takeLast_24 : decode cX3_takeLast 24 = .ok (.getfield 26, 3) := by decide +kernel
theorem dX3_takeLast_27 : decode cX3_takeLast 27 = .ok (.iaload, 1) := by decide +kernel
theorem dX3_takeLast_28 : decode cX3_takeLast 28 = .ok (.ireturn, 1) := by decide +kernel
theorem dX3_cut_0 : decode cX3_cut 0 = .ok (.iload_n 1, 1) := by decide +kernel
theorem dX3_cut_1 : decode cX3_cut 1 = .ok (.ifCond .lt 16, 3) := by decide +kernel
theorem dX3_cut_4 : decode cX3_cut 4 = .ok (.iload_n 1, 1) := by decide +kernel
theorem dX3_cut_5 : decode cX3_cut 5 = .ok (.aload_n 0, 1) := by decide +kernel
theorem dX3_cut_6 : decode cX3_cut 6 = .ok (.getfield 26, 3) := by decide +kernel
theorem dX3_cut_9 : decode cX3_cut 9 = .ok (.if_icmp .ge 8, 3) := by decide +kernel
theorem dX3_cut_12 : decode cX3_cut 12 = .ok (.aload_n 0, 1) := by decide +kernel
theorem dX3_cut_13 : decode cX3_cut 13 = .ok (.iload_n 1, 1) := by decide +kernel
theorem dX3_cut_14 : decode cX3_cut 14 = .ok (.putfield 26, 3) := by decide +kernel
theorem dX3_cut_17 : decode cX3_cut 17 = .ok (.return_, 1) := by decide +kernel
theorem dX3_fill_0 : decode cX3_fill 0 = .ok (.aload_n 0, 1) := by decide +kernel
theorem dX3_fill_1 : decode cX3_fill 1 = .ok (.iconst 0, 1) := by decide +kernel
theorem dX3_fill_2 : decode cX3_fill 2 = .ok (.putfield 26, 3) := by decide +kernel
theorem dX3_fill_5 : decode cX3_fill 5 = .ok (.iconst 0, 1) := by decide +kernel
theorem dX3_fill_6 : decode cX3_fill 6 = .ok (.istore_n 3, 1) := by decide +kernel
theorem dX3_fill_7 : decode cX3_fill 7 = .ok (.iload_n 3, 1) := by decide +kernel
theorem dX3_fill_8 : decode cX3_fill 8 = .ok (.iload_n 1, 1) := by decide +kernel
theorem dX3_fill_9 : decode cX3_fill 9 = .ok (.if_icmp .ge 32, 3) := by decide +kernel
theorem dX3_fill_12 : decode cX3_fill 12 = .ok (.iload_n 3, 1) := by decide +kernel
theorem dX3_fill_13 : decode cX3_fill 13 = .ok (.aload_n 0, 1) := by decide +kernel
theorem dX3_fill_14 : decode cX3_fill 14 = .ok (.getfield 22, 3) := by decide +kernel
theorem dX3_fill_17 : decode cX3_fill 17 = .ok (.arraylength, 1) := by decide +kernel
theorem dX3_fill_18 : decode cX3_fill 18 = .ok (.if_icmp .ge 23, 3) := by decide +kernel
theorem dX3_fill_21 : decode cX3_fill 21 = .ok (.aload_n 0, 1) := by decide +kernel
theorem dX3_fill_22 : decode cX3_fill 22 = .ok (.getfield 22, 3) := by decide +kernel
theorem dX3_fill_25 : decode cX3_fill 25 = .ok (.iload_n 3, 1) := by decide +kernel
theorem dX3_fill_26 : decode cX3_fill 26 = .ok (.iload_n 2, 1) := by decide +kernel
theorem dX3_fill_27 : decode cX3_fill 27 = .ok (.iastore, 1) := by decide +kernel
theorem dX3_fill_28 : decode cX3_fill 28 = .ok (.aload_n 0, 1) := by decide +kernel
theorem dX3_fill_29 : decode cX3_fill 29 = .ok (.iload_n 3, 1) := by decide +kernel
theorem dX3_fill_30 : decode cX3_fill 30 = .ok (.iconst 1, 1) := by decide +kernel
theorem dX3_fill_31 : decode cX3_fill 31 = .ok (.iadd, 1) := by decide +kernel
theorem dX3_fill_32 : decode cX3_fill 32 = .ok (.putfield 26, 3) := by decide +kernel
theorem dX3_fill_35 : decode cX3_fill 35 = .ok (.iinc 3 1, 3) := by decide +kernel
theorem dX3_fill_38 : decode cX3_fill 38 = .ok (.goto (-31), 3) := by decide +kernel
theorem dX3_fill_41 : decode cX3_fill 41 = .ok (.return_, 1) := by decide +kernel
theorem dX3_copy_0 : decode cX3_copy 0 = .ok (.aload_n 1, 1) := by decide +kernel
theorem dX3_copy_1 : decode cX3_copy 1 = .ok (.getfield 26, 3) := by decide +kernel
theorem dX3_copy_4 : decode cX3_copy 4 = .ok (.aload_n 0, 1) := by decide +kernel
theorem dX3_copy_5 : decode cX3_copy 5 = .ok (.getfield 7, 3) := by decide +kernel
theorem dX3_copy_8 : decode cX3_copy 8 = .ok (.if_icmp .le 4, 3) := by decide +kernel
theorem dX3_copy_11 : decode cX3_copy 11 = .ok (.return_, 1) := by decide +kernel
theorem dX3_copy_12 : decode cX3_copy 12 = .ok (.aload_n 1, 1) := by decide +kernel
theorem dX3_copy_13 : decode cX3_copy 13 = .ok (.getfield 26, 3) := by decide +kernel
theorem dX3_copy_16 : decode cX3_copy 16 = .ok (.aload_n 0, 1) := by decide +kernel
theorem dX3_copy_17 : decode cX3_copy 17 = .ok (.getfield 22, 3) := by decide +kernel
theorem dX3_copy_20 : decode cX3_copy 20 = .ok (.arraylength, 1) := by decide +kernel
theorem dX3_copy_21 : decode cX3_copy 21 = .ok (.if_icmp .le 35, 3) := by decide +kernel
theorem dX3_copy_24 : decode cX3_copy 24 = .ok (.aload_n 0, 1) := by decide +kernel
theorem dX3_copy_25 : decode cX3_copy 25 = .ok (.aload_n 0, 1) := by decide +kernel
theorem dX3_copy_26 : decode cX3_copy 26 = .ok (.getfield 22, 3) := by decide +kernel
theorem dX3_copy_29 : decode cX3_copy 29 = .ok (.aload_n 0, 1) := by decide +kernel
theorem dX3_copy_30 : decode cX3_copy 30 = .ok (.getfield 7, 3) := by decide +kernel
theorem dX3_copy_33 : decode cX3_copy 33 = .ok (.aload_n 1, 1) := by decide +kernel
theorem dX3_copy_34 : decode cX3_copy 34 = .ok (.getfield 26, 3) := by decide +kernel
theorem dX3_copy_37 : decode cX3_copy 37 = .ok (.iconst 2, 1) := by decide +kernel
theorem dX3_copy_38 : decode cX3_copy 38 = .ok (.aload_n 0, 1) := by decide +kernel
theorem dX3_copy_39 : decode cX3_copy 39 = .ok (.getfield 22, 3) := by decide +kernel
theorem dX3_copy_42 : decode cX3_copy 42 = .ok (.arraylength, 1) := by decide +kernel
theorem dX3_copy_43 : decode cX3_copy 43 = .ok (.imul, 1) := by decide +kernel
theorem dX3_copy_44 : decode cX3_copy 44 = .ok (.invokestatic 19, 3) := by decide +kernel
theorem dX3_copy_47 : decode cX3_copy 47 = .ok (.invokestatic 13, 3) := by decide +kernel
theorem dX3_copy_50 : decode cX3_copy 50 = .ok (.invokestatic 29, 3) := by decide +kernel
theorem dX3_copy_53 : decode cX3_copy 53 = .ok (.putfield 22, 3) := by decide +kernel
theorem dX3_copy_56 : decode cX3_copy 56 = .ok (.aload_n 1, 1) := by decide +kernel
theorem dX3_copy_57 : decode cX3_copy 57 = .ok (.getfield 22, 3) := by decide +kernel
theorem dX3_copy_60 : decode cX3_copy 60 = .ok (.iconst 0, 1) := by decide +kernel
theorem dX3_copy_61 : decode cX3_copy 61 = .ok (.aload_n 0, 1) := by decide +kernel
theorem dX3_copy_62 : decode cX3_copy 62 = .ok (.getfield 22, 3) := by decide +kernel
theorem dX3_copy_65 : decode cX3_copy 65 = .ok (.iconst 0, 1) := by decide +kernel
theorem dX3_copy_66 : decode cX3_copy 66 = .ok (.aload_n 1, 1) := by decide +kernel
theorem dX3_copy_67 : decode cX3_copy 67 = .ok (.getfield 26, 3) := by decide +kernel
theorem dX3_copy_70 : decode cX3_copy 70 = .ok (.invokestatic 35, 3) := by decide +kernel
theorem dX3_copy_73 : decode cX3_copy 73 = .ok (.aload_n 0, 1) := by decide +kernel
theorem dX3_copy_74 : decode cX3_copy 74 = .ok (.aload_n 1, 1) := by decide +kernel
theorem dX3_copy_75 : decode cX3_copy 75 = .ok (.getfield 26, 3) := by decide +kernel
theorem dX3_copy_78 : decode cX3_copy 78 = .ok (.putfield 26, 3) := by decide +kernel
theorem dX3_copy_81 : decode cX3_copy 81 = .ok (.return_, 1) := by decide +kernel
theorem dX3_alike_0 : decode cX3_alike 0 = .ok (.aload_n 0, 1) := by decide +kernel
theorem dX3_alike_1 : decode cX3_alike 1 = .ok (.getfield 26, 3) := by decide +kernel
theorem dX3_alike_4 : decode cX3_alike 4 = .ok (.aload_n 1, 1) := by decide +kernel
theorem dX3_alike_5 : decode cX3_alike 5 = .ok (.getfield 26, 3) := by decide +kernel
theorem dX3_alike_8 : decode cX3_alike 8 = .ok (.if_icmp .eq 5, 3) := by decide +kernel
theorem dX3_alike_11 : decode cX3_alike 11 = .ok (.iconst 0, 1) := by decide +kernel
theorem dX3_alike_12 : decode cX3_alike 12 = .ok (.ireturn, 1) := by decide +kernel
theorem dX3_alike_13 : decode cX3_alike 13 = .ok (.iconst 0, 1) := by decide +kernel
theorem dX3_alike_14 : decode cX3_alike 14 = .ok (.istore_n 2, 1) := by decide +kernel
theorem dX3_alike_15 : decode cX3_alike 15 = .ok (.iload_n 2, 1) := by decide +kernel
theorem dX3_alike_16 : decode cX3_alike 16 = .ok (.aload_n 0, 1) := by decide +kernel
theorem dX3_alike_17 : decode cX3_alike 17 = .ok (.getfield 26, 3) := by decide +kernel
theorem dX3_alike_20 : decode cX3_alike 20 = .ok (.if_icmp .ge 26, 3) := by decide +kernel
theorem dX3_alike_23 : decode cX3_alike 23 = .ok (.aload_n 0, 1) := by decide +kernel
theorem dX3_alike_24 : decode cX3_alike 24 = .ok (.getfield 22, 3) := by decide +kernel
theorem dX3_alike_27 : decode cX3_alike 27 = .ok (.iload_n 2, 1) := by decide +kernel
theorem dX3_alike_28 : decode cX3_alike 28 = .ok (.iaload, 1) := by decide +kernel
theorem dX3_alike_29 : decode cX3_alike 29 = .ok (.aload_n 1, 1) := by decide +kernel
theorem dX3_alike_30 : decode cX3_alike 30 = .ok (.getfield 22, 3) := by decide +kernel
theorem dX3_alike_33 : decode cX3_alike 33 = .ok (.iload_n 2, 1) := by decide +kernel
theorem dX3_alike_34 : decode cX3_alike 34 = .ok (.iaload, 1) := by decide +kernel
theorem dX3_alike_35 : decode cX3_alike 35 = .ok (.if_icmp .eq 5, 3) := by decide +kernel
theorem dX3_alike_38 : decode cX3_alike 38 = .ok (.iconst 0, 1) := by decide +kernel
theorem dX3_alike_39 : decode cX3_alike 39 = .ok (.ireturn, 1) := by decide +kernel
theorem dX3_alike_40 : decode cX3_alike 40 = .ok (.iinc 2 1, 3) := by decide +kernel
theorem dX3_alike_43 : decode cX3_alike 43 = .ok (.goto (-28), 3) := by decide +kernel
theorem dX3_alike_46 : decode cX3_alike 46 = .ok (.iconst 1, 1) := by decide +kernel
theorem dX3_alike_47 : decode cX3_alike 47 = .ok (.ireturn, 1) := by decide +kernel
theorem dX4_init_0 : decode cX4_init 0 = .ok (.aload_n 0, 1) := by decide +kernel
theorem dX4_init_1 : decode cX4_init 1 = .ok (.invokespecial 3, 3) := by decide +kernel
theorem dX4_init_4 : decode cX4_init 4 = .ok (.aload_n 0, 1) := by decide +kernel
theorem dX4_init_5 : decode cX4_init 5 = .ok (.new 9, 3) := by decide +kernel
theorem dX4_init_8 : decode cX4_init 8 = .ok (.dup, 1) := by decide +kernel
theorem dX4_init_9 : decode cX4_init 9 = .ok (.bipush 32, 2) := by decide +kernel
theorem dX4_init_11 : decode cX4_init 11 = .ok (.sipush 8204, 3) := by decide +kernel
theorem dX4_init_14 : decode cX4_init 14 = .ok (.invokespecial 13, 3) := by decide +kernel
theorem dX4_init_17 : decode cX4_init 17 = .ok (.putfield 16, 3) := by decide +kernel
theorem dX4_init_20 : decode cX4_init 20 = .ok (.aload_n 0, 1) := by decide +kernel
theorem dX4_init_21 : decode cX4_init 21 = .ok (.new 9, 3) := by decide +kernel
theorem dX4_init_24 : decode cX4_init 24 = .ok (.dup, 1) := by decide +kernel
theorem dX4_init_25 : decode cX4_init 25 = .ok (.bipush 100, 2) := by decide +kernel
theorem dX4_init_27 : decode cX4_init 27 = .ok (.sipush 20010, 3) := by decide +kernel
theorem dX4_init_30 : decode cX4_init 30 = .ok (.invokespecial 13, 3) := by decide +kernel
theorem dX4_init_33 : decode cX4_init 33 = .ok (.putfield 20, 3) := by decide +kernel
theorem dX4_init_36 : decode cX4_init 36 = .ok (.aload_n 0, 1) := by decide +kernel
theorem dX4_init_37 : decode cX4_init 37 = .ok (.new 9, 3) := by decide +kernel
theorem dX4_init_40 : decode cX4_init 40 = .ok (.dup, 1) := by decide +kernel
theorem dX4_init_41 : decode cX4_init 41 = .ok (.bipush 64, 2) := by decide +kernel
theorem dX4_init_43 : decode cX4_init 43 = .ok (.sipush 8004, 3) := by decide +kernel
theorem dX4_init_46 : decode cX4_init 46 = .ok (.invokespecial 13, 3) := by decide +kernel
theorem dX4_init_49 : decode cX4_init 49 = .ok (.putfield 23, 3) := by decide +kernel
theorem dX4_init_52 : decode cX4_init 52 = .ok (.return_, 1) := by decide +kernel
theorem dX4_clear_0 : decode cX4_clear 0 = .ok (.aload_n 0, 1) := by decide +kernel
theorem dX4_clear_1 : decode cX4_clear 1 = .ok (.getfield 16, 3) := by decide +kernel
theorem dX4_clear_4 : decode cX4_clear 4 = .ok (.iconst 0, 1) := by decide +kernel
theorem dX4_clear_5 : decode cX4_clear 5 = .ok (.invokevirtual 26, 3) := by decide +kernel
theorem dX4_clear_8 : decode cX4_clear 8 = .ok (.aload_n 0, 1) := by decide +kernel
theorem dX4_clear_9 : decode cX4_clear 9 = .ok (.getfield 23, 3) := by decide +kernel
theorem dX4_clear_12 : decode cX4_clear 12 = .ok (.iconst 0, 1) := by decide +kernel
theorem dX4_clear_13 : decode cX4_clear 13 = .ok (.invokevirtual 26, 3) := by decide +kernel
theorem dX4_clear_16 : decode cX4_clear 16 = .ok (.aload_n 0, 1) := by decide +kernel
theorem dX4_clear_17 : decode cX4_clear 17 = .ok (.getfield 20, 3) := by decide +kernel
theorem dX4_clear_20 : decode cX4_clear 20 = .ok (.iconst 5, 1) := by decide +kernel
theorem dX4_clear_21 : decode cX4_clear 21 = .ok (.iconst 0, 1) := by decide +kernel
theorem dX4_clear_22 : decode cX4_clear 22 = .ok (.invokevirtual 30, 3) := by decide +kernel
theorem dX4_clear_25 : decode cX4_clear 25 = .ok (.return_, 1) := by decide +kernel
theorem dX4_at_0 : decode cX4_at 0 = .ok (.aload_n 0, 1) := by decide +kernel
theorem dX4_at_1 : decode cX4_at 1 = .ok (.getfield 16, 3) := by decide +kernel
theorem dX4_at_4 : decode cX4_at 4 = .ok (.iload_n 1, 1) := by decide +kernel
theorem dX4_at_5 : decode cX4_at 5 = .ok (.invokevirtual 33, 3) := by decide +kernel
theorem dX4_at_8 : decode cX4_at 8 = .ok (.ireturn, 1) := by decide +kernel
theorem dX4_put_0 : decode cX4_put 0 = .ok (.aload_n 0, 1) := by decide +kernel
theorem dX4_put_1 : decode cX4_put 1 = .ok (.iload_n 1, 1) := by decide +kernel
theorem dX4_put_2 : decode cX4_put 2 = .ok (.aload_n 0, 1) := by decide +kernel
theorem dX4_put_3 : decode cX4_put 3 = .ok (.iload_n 2, 1) := by decide +kernel
theorem dX4_put_4 : decode cX4_put 4 = .ok (.aload_n 0, 1) := by decide +kernel
theorem dX4_put_5 : decode cX4_put 5 = .ok (.getfield 16, 3) := by decide +kernel
theorem dX4_put_8 : decode cX4_put 8 = .ok (.iload_n 1, 1) := by decide +kernel
theorem dX4_put_9 : decode cX4_put 9 = .ok (.invokevirtual 33, 3) := by decide +kernel
theorem dX4_put_12 : decode cX4_put 12 = .ok (.iconst 0, 1) := by decide +kernel
theorem dX4_put_13 : decode cX4_put 13 = .ok (.invokevirtual 37, 3) := by decide +kernel
theorem dX4_put_16 : decode cX4_put 16 = .ok (.invokevirtual 41, 3) := by decide +kernel
theorem dX4_put_19 : decode cX4_put 19 = .ok (.return_, 1) := by decide +kernel
theorem dX4_take_0 : decode cX4_take 0 = .ok (.iconst 5, 1) := by decide +kernel
theorem dX4_take_1 : decode cX4_take 1 = .ok (.aload_n 0, 1) := by decide +kernel
theorem dX4_take_2 : decode cX4_take 2 = .ok (.getfield 16, 3) := by decide +kernel
theorem dX4_take_5 : decode cX4_take 5 = .ok (.iload_n 1, 1) := by decide +kernel
theorem dX4_take_6 : decode cX4_take 6 = .ok (.invokevirtual 33, 3) := by decide +kernel
theorem dX4_take_9 : decode cX4_take 9 = .ok (.imul, 1) := by decide +kernel
theorem dX4_take_10 : decode cX4_take 10 = .ok (.istore_n 2, 1) := by decide +kernel
theorem dX4_take_11 : decode cX4_take 11 = .ok (.aload_n 0, 1) := by decide +kernel
theorem dX4_take_12 : decode cX4_take 12 = .ok (.getfield 20, 3) := by decide +kernel
theorem dX4_take_15 : decode cX4_take 15 = .ok (.iload_n 2, 1) := by decide +kernel
theorem dX4_take_16 : decode cX4_take 16 = .ok (.invokevirtual 33, 3) := by decide +kernel
theorem dX4_take_19 : decode cX4_take 19 = .ok (.istore_n 3, 1) := by decide +kernel
theorem dX4_take_20 : decode cX4_take 20 = .ok (.iload_n 3, 1) := by decide +kernel
theorem dX4_take_21 : decode cX4_take 21 = .ok (.ifCond .eq 8, 3) := by decide +kernel
theorem dX4_take_24 : decode cX4_take 24 = .ok (.iload_n 3, 1) := by decide +kernel
theorem dX4_take_25 : decode cX4_take 25 = .ok (.iconst 3, 1) := by decide +kernel
theorem dX4_take_26 : decode cX4_take 26 = .ok (.if_icmp .ne 5, 3) := by decide +kernel
theorem dX4_take_29 : decode cX4_take 29 = .ok (.iconst 0, 1) := by decide +kernel
theorem dX4_take_30 : decode cX4_take 30 = .ok (.ireturn, 1) := by decide +kernel
theorem dX4_take_31 : decode cX4_take 31 = .ok (.aload_n 0, 1) := by decide +kernel
theorem dX4_take_32 : decode cX4_take 32 = .ok (.iload_n 1, 1) := by decide +kernel
theorem dX4_take_33 : decode cX4_take 33 = .ok (.aload_n 0, 1) := by decide +kernel
theorem dX4_take_34 : decode cX4_take 34 = .ok (.getfield 20, 3) := by decide +kernel
theorem dX4_take_37 : decode cX4_take 37 = .ok (.iload_n 2, 1) := by decide +kernel
theorem dX4_take_38 : decode cX4_take 38 = .ok (.iconst 1, 1) := by decide +kernel
theorem dX4_take_39 : decode cX4_take 39 = .ok (.iadd, 1) := by decide +kernel
theorem dX4_take_40 : decode cX4_take 40 = .ok (.invokevirtual 33, 3) := by decide +kernel
theorem dX4_take_43 : decode cX4_take 43 = .ok (.invokevirtual 41, 3) := by decide +kernel
theorem dX4_take_46 : decode cX4_take 46 = .ok (.iload_n 3, 1) := by decide +kernel
theorem dX4_take_47 : decode cX4_take 47 = .ok (.ireturn, 1) := by decide +kernel
theorem dX4_open_0 : decode cX4_open 0 = .ok (.aload_n 0, 1) := by decide +kernel
theorem dX4_open_1 : decode cX4_open 1 = .ok (.iload_n 1, 1) := by decide +kernel
theorem dX4_open_2 : decode cX4_open 2 = .ok (.iconst 0, 1) := by decide +kernel
theorem dX4_open_3 : decode cX4_open 3 = .ok (.invokevirtual 44, 3) := by decide +kernel
theorem dX4_open_6 : decode cX4_open 6 = .ok (.return_, 1) := by decide +kernel
theorem dX4_close_0 : decode cX4_close 0 = .ok (.aload_n 0, 1) := by decide +kernel
theorem dX4_close_1 : decode cX4_close 1 = .ok (.getfield 16, 3) := by decide +kernel
theorem dX4_close_4 : decode cX4_close 4 = .ok (.iload_n 1, 1) := by decide +kernel
theorem dX4_close_5 : decode cX4_close 5 = .ok (.invokevirtual 33, 3) := by decide +kernel
theorem dX4_close_8 : decode cX4_close 8 = .ok (.ifCond .eq 5, 3) := by decide +kernel
theorem dX4_close_11 : decode cX4_close 11 = .ok (.iconst 0, 1) := by decide +kernel
theorem dX4_close_12 : decode cX4_close 12 = .ok (.ireturn, 1) := by decide +kernel
theorem dX4_close_13 : decode cX4_close 13 = .ok (.aload_n 0, 1) := by decide +kernel
theorem dX4_close_14 : decode cX4_close 14 = .ok (.iload_n 1, 1) := by decide +kernel
theorem dX4_close_15 : decode cX4_close 15 = .ok (.invokevirtual 47, 3) := by decide +kernel
theorem dX4_close_18 : decode cX4_close 18 = .ok (.iconst 1, 1) := by decide +kernel
theorem dX4_close_19 : decode cX4_close 19 = .ok (.ireturn, 1) := by decide +kernel
theorem dX4_couple_0 : decode cX4_couple 0 = .ok (.aload_n 0, 1) := by decide +kernel
theorem dX4_couple_1 : decode cX4_couple 1 = .ok (.iconst 3, 1) := by decide +kernel
theorem dX4_couple_2 : decode cX4_couple 2 = .ok (.aload_n 0, 1) := by decide +kernel
theorem dX4_couple_3 : decode cX4_couple 3 = .ok (.getfield 16, 3) := by decide +kernel
theorem dX4_couple_6 : decode cX4_couple 6 = .ok (.iload_n 1, 1) := by decide +kernel
theorem dX4_couple_7 : decode cX4_couple 7 = .ok (.invokevirtual 33, 3) := by decide +kernel
theorem dX4_couple_10 : decode cX4_couple 10 = .ok (.aload_n 0, 1) := by decide +kernel
theorem dX4_couple_11 : decode cX4_couple 11 = .ok (.getfield 16, 3) := by decide +kernel
theorem dX4_couple_14 : decode cX4_couple 14 = .ok (.iload_n 1, 1) := by decide +kernel
theorem dX4_couple_15 : decode cX4_couple 15 = .ok (.iconst 1, 1) := by decide +kernel
theorem dX4_couple_16 : decode cX4_couple 16 = .ok (.iadd, 1) := by decide +kernel
theorem dX4_couple_17 : decode cX4_couple 17 = .ok (.invokevirtual 33, 3) := by decide +kernel
theorem dX4_couple_20 : decode cX4_couple 20 = .ok (.invokevirtual 37, 3) := by decide +kernel
theorem dX4_couple_23 : decode cX4_couple 23 = .ok (.istore_n 2, 1) := by decide +kernel
theorem dX4_couple_24 : decode cX4_couple 24 = .ok (.aload_n 0, 1) := by decide +kernel
theorem dX4_couple_25 : decode cX4_couple 25 = .ok (.iload_n 1, 1) := by decide +kernel
theorem dX4_couple_26 : decode cX4_couple 26 = .ok (.iconst 1, 1) := by decide +kernel
theorem dX4_couple_27 : decode cX4_couple 27 = .ok (.iadd, 1) := by decide +kernel
theorem dX4_couple_28 : decode cX4_couple 28 = .ok (.invokevirtual 47, 3) := by decide +kernel
theorem dX4_couple_31 : decode cX4_couple 31 = .ok (.aload_n 0, 1) := by decide +kernel
theorem dX4_couple_32 : decode cX4_couple 32 = .ok (.iload_n 1, 1) := by decide +kernel
theorem dX4_couple_33 : decode cX4_couple 33 = .ok (.iload_n 2, 1) := by decide +kernel
theorem dX4_couple_34 : decode cX4_couple 34 = .ok (.invokevirtual 41, 3) := by decide +kernel
theorem dX4_couple_37 : decode cX4_couple 37 = .ok (.return_, 1) := by decide +kernel
theorem dX4_uncouple_0 : decode cX4_uncouple 0 = .ok (.iconst 5, 1) := by decide +kernel
theorem dX4_uncouple_1 : decode cX4_uncouple 1 = .ok (.aload_n 0, 1) := by decide +kernel
theorem dX4_uncouple_2 : decode cX4_uncouple 2 = .ok (.getfield 16, 3) := by decide +kernel
theorem dX4_uncouple_5 : decode cX4_uncouple 5 = .ok (.iload_n 1, 1) := by decide +kernel
theorem dX4_uncouple_6 : decode cX4_uncouple 6 = .ok (.invokevirtual 33, 3) := by decide +kernel
theorem dX4_uncouple_9 : decode cX4_uncouple 9 = .ok (.imul, 1) := by decide +kernel
theorem dX4_uncouple_10 : decode cX4_uncouple 10 = .ok (.istore_n 2, 1) := by decide +kernel
theorem dX4_uncouple_11 : decode cX4_uncouple 11 = .ok (.aload_n 0, 1) := by decide +kernel
theorem dX4_uncouple_12 : decode cX4_uncouple 12 = .ok (.getfield 20, 3) := by decide +kernel
theorem dX4_uncouple_15 : decode cX4_uncouple 15 = .ok (.iload_n 2, 1) := by decide +kernel
theorem dX4_uncouple_16 : decode cX4_uncouple 16 = .ok (.invokevirtual 33, 3) := by decide +kernel
theorem dX4_uncouple_19 : decode cX4_uncouple 19 = .ok (.iconst 3, 1) := by decide +kernel
theorem dX4_uncouple_20 : decode cX4_uncouple 20 = .ok (.if_icmp .eq 5, 3) := by decide +kernel
theorem dX4_uncouple_23 : decode cX4_uncouple 23 = .ok (.iconst 0, 1) := by decide +kernel
theorem dX4_uncouple_24 : decode cX4_uncouple 24 = .ok (.ireturn, 1) := by decide +kernel
theorem dX4_uncouple_25 : decode cX4_uncouple 25 = .ok (.aload_n 0, 1) := by decide +kernel
theorem dX4_uncouple_26 : decode cX4_uncouple 26 = .ok (.iload_n 1, 1) := by decide +kernel
theorem dX4_uncouple_27 : decode cX4_uncouple 27 = .ok (.aload_n 0, 1) := by decide +kernel
theorem dX4_uncouple_28 : decode cX4_uncouple 28 = .ok (.getfield 20, 3) := by decide +kernel
theorem dX4_uncouple_31 : decode cX4_uncouple 31 = .ok (.iload_n 2, 1) := by decide +kernel
theorem dX4_uncouple_32 : decode cX4_uncouple 32 = .ok (.iconst 1, 1) := by decide +kernel
theorem dX4_uncouple_33 : decode cX4_uncouple 33 = .ok (.iadd, 1) := by decide +kernel
theorem dX4_uncouple_34 : decode cX4_uncouple 34 = .ok (.invokevirtual 33, 3) := by decide +kernel
theorem dX4_uncouple_37 : decode cX4_uncouple 37 = .ok (.invokevirtual 41, 3) := by decide +kernel
theorem dX4_uncouple_40 : decode cX4_uncouple 40 = .ok (.aload_n 0, 1) := by decide +kernel
theorem dX4_uncouple_41 : decode cX4_uncouple 41 = .ok (.iload_n 1, 1) := by decide +kernel
theorem dX4_uncouple_42 : decode cX4_uncouple 42 = .ok (.iconst 1, 1) := by decide +kernel
theorem dX4_uncouple_43 : decode cX4_uncouple 43 = .ok (.iadd, 1) := by decide +kernel
theorem dX4_uncouple_44 : decode cX4_uncouple 44 = .ok (.aload_n 0, 1) := by decide +kernel
theorem dX4_uncouple_45 : decode cX4_uncouple 45 = .ok (.getfield 20, 3) := by decide +kernel
theorem dX4_uncouple_48 : decode cX4_uncouple 48 = .ok (.iload_n 2, 1) := by decide +kernel
theorem dX4_uncouple_49 : decode cX4_uncouple 49 = .ok (.iconst 2, 1) := by decide +kernel
theorem dX4_uncouple_50 : decode cX4_uncouple 50 = .ok (.iadd, 1) := by decide +kernel
theorem dX4_uncouple_51 : decode cX4_uncouple 51 = .ok (.invokevirtual 33, 3) := by decide +kernel
theorem dX4_uncouple_54 : decode cX4_uncouple 54 = .ok (.invokevirtual 44, 3) := by decide +kernel
theorem dX4_uncouple_57 : decode cX4_uncouple 57 = .ok (.iconst 1, 1) := by decide +kernel
theorem dX4_uncouple_58 : decode cX4_uncouple 58 = .ok (.ireturn, 1) := by decide +kernel
theorem dX4_mark_0 : decode cX4_mark 0 = .ok (.aload_n 0, 1) := by decide +kernel
theorem dX4_mark_1 : decode cX4_mark 1 = .ok (.getfield 23, 3) := by decide +kernel
theorem dX4_mark_4 : decode cX4_mark 4 = .ok (.invokevirtual 50, 3) := by decide +kernel
theorem dX4_mark_7 : decode cX4_mark 7 = .ok (.ireturn, 1) := by decide +kernel
theorem dX4_back_0 : decode cX4_back 0 = .ok (.aload_n 0, 1) := by decide +kernel
theorem dX4_back_1 : decode cX4_back 1 = .ok (.getfield 23, 3) := by decide +kernel
theorem dX4_back_4 : decode cX4_back 4 = .ok (.invokevirtual 50, 3) := by decide +kernel
theorem dX4_back_7 : decode cX4_back 7 = .ok (.istore_n 2, 1) := by decide +kernel
theorem dX4_back_8 : decode cX4_back 8 = .ok (.iload_n 2, 1) := by decide +kernel
theorem dX4_back_9 : decode cX4_back 9 = .ok (.iload_n 1, 1) := by decide +kernel
theorem dX4_back_10 : decode cX4_back 10 = .ok (.if_icmp .le 97, 3) := by decide +kernel
theorem dX4_back_13 : decode cX4_back 13 = .ok (.aload_n 0, 1) := by decide +kernel
theorem dX4_back_14 : decode cX4_back 14 = .ok (.getfield 23, 3) := by decide +kernel
theorem dX4_back_17 : decode cX4_back 17 = .ok (.invokevirtual 54, 3) := by decide +kernel
theorem dX4_back_20 : decode cX4_back 20 = .ok (.istore_n 3, 1) := by decide +kernel
theorem dX4_back_21 : decode cX4_back 21 = .ok (.iload_n 3, 1) := by decide +kernel
theorem dX4_back_22 : decode cX4_back 22 = .ok (.iconst 2, 1) := by decide +kernel
theorem dX4_back_23 : decode cX4_back 23 = .ok (.ishr, 1) := by decide +kernel
theorem dX4_back_24 : decode cX4_back 24 = .ok (.sipush 255, 3) := by decide +kernel
theorem dX4_back_27 : decode cX4_back 27 = .ok (.iand, 1) := by decide +kernel
theorem dX4_back_28 : decode cX4_back 28 = .ok (.istore 4, 2) := by decide +kernel
theorem dX4_back_30 : decode cX4_back 30 = .ok (.iload_n 3, 1) := by decide +kernel
theorem dX4_back_31 : decode cX4_back 31 = .ok (.iconst 3, 1) := by decide +kernel
theorem dX4_back_32 : decode cX4_back 32 = .ok (.iand, 1) := by decide +kernel
theorem dX4_back_33 : decode cX4_back 33 = .ok (.lookupswitch 59 #[(0, 27), (1, 43)], 27) := by decide +kernel
theorem dX4_back_60 : decode cX4_back 60 = .ok (.aload_n 0, 1) := by decide +kernel
theorem dX4_back_61 : decode cX4_back 61 = .ok (.getfield 16, 3) := by decide +kernel
theorem dX4_back_64 : decode cX4_back 64 = .ok (.iload 4, 2) := by decide +kernel
theorem dX4_back_66 : decode cX4_back 66 = .ok (.iload_n 3, 1) := by decide +kernel
theorem dX4_back_67 : decode cX4_back 67 = .ok (.bipush 10, 2) := by decide +kernel
theorem dX4_back_69 : decode cX4_back 69 = .ok (.ishr, 1) := by decide +kernel
theorem dX4_back_70 : decode cX4_back 70 = .ok (.invokevirtual 57, 3) := by decide +kernel
theorem dX4_back_73 : decode cX4_back 73 = .ok (.goto 28, 3) := by decide +kernel
theorem dX4_back_76 : decode cX4_back 76 = .ok (.aload_n 0, 1) := by decide +kernel
theorem dX4_back_77 : decode cX4_back 77 = .ok (.getfield 16, 3) := by decide +kernel
theorem dX4_back_80 : decode cX4_back 80 = .ok (.iload 4, 2) := by decide +kernel
theorem dX4_back_82 : decode cX4_back 82 = .ok (.iload_n 3, 1) := by decide +kernel
theorem dX4_back_83 : decode cX4_back 83 = .ok (.bipush 10, 2) := by decide +kernel
theorem dX4_back_85 : decode cX4_back 85 = .ok (.ishr, 1) := by decide +kernel
theorem dX4_back_86 : decode cX4_back 86 = .ok (.invokevirtual 58, 3) := by decide +kernel
theorem dX4_back_89 : decode cX4_back 89 = .ok (.goto 12, 3) := by decide +kernel
theorem dX4_back_92 : decode cX4_back 92 = .ok (.aload_n 0, 1) := by decide +kernel
theorem dX4_back_93 : decode cX4_back 93 = .ok (.getfield 16, 3) := by decide +kernel
theorem dX4_back_96 : decode cX4_back 96 = .ok (.iload 4, 2) := by decide +kernel
theorem dX4_back_98 : decode cX4_back 98 = .ok (.invokevirtual 59, 3) := by decide +kernel
theorem dX4_back_101 : decode cX4_back 101 = .ok (.iinc 2 (-1), 3) := by decide +kernel
theorem dX4_back_104 : decode cX4_back 104 = .ok (.goto (-96), 3) := by decide +kernel
theorem dX4_back_107 : decode cX4_back 107 = .ok (.return_, 1) := by decide +kernel
theorem dX4_cell_0 : decode cX4_cell 0 = .ok (.aload_n 0, 1) := by decide +kernel
theorem dX4_cell_1 : decode cX4_cell 1 = .ok (.getfield 20, 3) := by decide +kernel
theorem dX4_cell_4 : decode cX4_cell 4 = .ok (.iconst 5, 1) := by decide +kernel
theorem dX4_cell_5 : decode cX4_cell 5 = .ok (.iload_n 2, 1) := by decide +kernel
theorem dX4_cell_6 : decode cX4_cell 6 = .ok (.imul, 1) := by decide +kernel
theorem dX4_cell_7 : decode cX4_cell 7 = .ok (.iconst 3, 1) := by decide +kernel
theorem dX4_cell_8 : decode cX4_cell 8 = .ok (.iadd, 1) := by decide +kernel
theorem dX4_cell_9 : decode cX4_cell 9 = .ok (.invokevirtual 33, 3) := by decide +kernel
theorem dX4_cell_12 : decode cX4_cell 12 = .ok (.istore 4, 2) := by decide +kernel
theorem dX4_cell_14 : decode cX4_cell 14 = .ok (.iconst 0, 1) := by decide +kernel
theorem dX4_cell_15 : decode cX4_cell 15 = .ok (.istore 5, 2) := by decide +kernel
theorem dX4_cell_17 : decode cX4_cell 17 = .ok (.iload 4, 2) := by decide +kernel
theorem dX4_cell_19 : decode cX4_cell 19 = .ok (.ifCond .eq 67, 3) := by decide +kernel
theorem dX4_cell_22 : decode cX4_cell 22 = .ok (.iload 5, 2) := by decide +kernel
theorem dX4_cell_24 : decode cX4_cell 24 = .ok (.sipush 4002, 3) := by decide +kernel
theorem dX4_cell_27 : decode cX4_cell 27 = .ok (.if_icmp .ge 59, 3) := by decide +kernel
theorem dX4_cell_30 : decode cX4_cell 30 = .ok (.iconst 5, 1) := by decide +kernel
theorem dX4_cell_31 : decode cX4_cell 31 = .ok (.iload 4, 2) := by decide +kernel
theorem dX4_cell_33 : decode cX4_cell 33 = .ok (.imul, 1) := by decide +kernel
theorem dX4_cell_34 : decode cX4_cell 34 = .ok (.istore 6, 2) := by decide +kernel
theorem dX4_cell_36 : decode cX4_cell 36 = .ok (.aload_n 0, 1) := by decide +kernel
theorem dX4_cell_37 : decode cX4_cell 37 = .ok (.getfield 20, 3) := by decide +kernel
theorem dX4_cell_40 : decode cX4_cell 40 = .ok (.iload 6, 2) := by decide +kernel
theorem dX4_cell_42 : decode cX4_cell 42 = .ok (.invokevirtual 33, 3) := by decide +kernel
theorem dX4_cell_45 : decode cX4_cell 45 = .ok (.iload_n 1, 1) := by decide +kernel
theorem dX4_cell_46 : decode cX4_cell 46 = .ok (.if_icmp .ne 21, 3) := by decide +kernel
theorem dX4_cell_49 : decode cX4_cell 49 = .ok (.aload_n 0, 1) := by decide +kernel
theorem dX4_cell_50 : decode cX4_cell 50 = .ok (.getfield 20, 3) := by decide +kernel
theorem dX4_cell_53 : decode cX4_cell 53 = .ok (.iload 6, 2) := by decide +kernel
theorem dX4_cell_55 : decode cX4_cell 55 = .ok (.iconst 2, 1) := by decide +kernel
theorem dX4_cell_56 : decode cX4_cell 56 = .ok (.iadd, 1) := by decide +kernel
theorem dX4_cell_57 : decode cX4_cell 57 = .ok (.invokevirtual 33, 3) := by decide +kernel
theorem dX4_cell_60 : decode cX4_cell 60 = .ok (.iload_n 3, 1) := by decide +kernel
theorem dX4_cell_61 : decode cX4_cell 61 = .ok (.if_icmp .ne 6, 3) := by decide +kernel
theorem dX4_cell_64 : decode cX4_cell 64 = .ok (.iload 4, 2) := by decide +kernel
theorem dX4_cell_66 : decode cX4_cell 66 = .ok (.ireturn, 1) := by decide +kernel
theorem dX4_cell_67 : decode cX4_cell 67 = .ok (.aload_n 0, 1) := by decide +kernel
theorem dX4_cell_68 : decode cX4_cell 68 = .ok (.getfield 20, 3) := by decide +kernel
theorem dX4_cell_71 : decode cX4_cell 71 = .ok (.iload 6, 2) := by decide +kernel
theorem dX4_cell_73 : decode cX4_cell 73 = .ok (.iconst 4, 1) := by decide +kernel
theorem dX4_cell_74 : decode cX4_cell 74 = .ok (.iadd, 1) := by decide +kernel
theorem dX4_cell_75 : decode cX4_cell 75 = .ok (.invokevirtual 33, 3) := by decide +kernel
theorem dX4_cell_78 : decode cX4_cell 78 = .ok (.istore 4, 2) := by decide +kernel
theorem dX4_cell_80 : decode cX4_cell 80 = .ok (.iinc 5 1, 3) := by decide +kernel
theorem dX4_cell_83 : decode cX4_cell 83 = .ok (.goto (-66), 3) := by decide +kernel
theorem dX4_cell_86 : decode cX4_cell 86 = .ok (.aload_n 0, 1) := by decide +kernel
theorem dX4_cell_87 : decode cX4_cell 87 = .ok (.getfield 20, 3) := by decide +kernel
theorem dX4_cell_90 : decode cX4_cell 90 = .ok (.invokevirtual 50, 3) := by decide +kernel
theorem dX4_cell_93 : decode cX4_cell 93 = .ok (.iconst 5, 1) := by decide +kernel
theorem dX4_cell_94 : decode cX4_cell 94 = .ok (.idiv, 1) := by decide +kernel
theorem dX4_cell_95 : decode cX4_cell 95 = .ok (.istore 5, 2) := by decide +kernel
theorem dX4_cell_97 : decode cX4_cell 97 = .ok (.aload_n 0, 1) := by decide +kernel
theorem dX4_cell_98 : decode cX4_cell 98 = .ok (.getfield 20, 3) := by decide +kernel
theorem dX4_cell_101 : decode cX4_cell 101 = .ok (.iload_n 1, 1) := by decide +kernel
theorem dX4_cell_102 : decode cX4_cell 102 = .ok (.invokevirtual 60, 3) := by decide +kernel
theorem dX4_cell_105 : decode cX4_cell 105 = .ok (.pop, 1) := by decide +kernel
theorem dX4_cell_106 : decode cX4_cell 106 = .ok (.aload_n 0, 1) := by decide +kernel
theorem dX4_cell_107 : decode cX4_cell 107 = .ok (.getfield 20, 3) := by decide +kernel
theorem dX4_cell_110 : decode cX4_cell 110 = .ok (.iload_n 2, 1) := by decide +kernel
theorem dX4_cell_111 : decode cX4_cell 111 = .ok (.invokevirtual 60, 3) := by decide +kernel
theorem dX4_cell_114 : decode cX4_cell 114 = .ok (.pop, 1) := by decide +kernel
theorem dX4_cell_115 : decode cX4_cell 115 = .ok (.aload_n 0, 1) := by decide +kernel
theorem dX4_cell_116 : decode cX4_cell 116 = .ok (.getfield 20, 3) := by decide +kernel
theorem dX4_cell_119 : decode cX4_cell 119 = .ok (.iload_n 3, 1) := by decide +kernel
theorem dX4_cell_120 : decode cX4_cell 120 = .ok (.invokevirtual 60, 3) := by decide +kernel
theorem dX4_cell_123 : decode cX4_cell 123 = .ok (.pop, 1) := by decide +kernel
theorem dX4_cell_124 : decode cX4_cell 124 = .ok (.aload_n 0, 1) := by decide +kernel
theorem dX4_cell_125 : decode cX4_cell 125 = .ok (.getfield 20, 3) := by decide +kernel
theorem dX4_cell_128 : decode cX4_cell 128 = .ok (.iconst 0, 1) := by decide +kernel
theorem dX4_cell_129 : decode cX4_cell 129 = .ok (.invokevirtual 60, 3) := by decide +kernel
theorem dX4_cell_132 : decode cX4_cell 132 = .ok (.pop, 1) := by decide +kernel
theorem dX4_cell_133 : decode cX4_cell 133 = .ok (.aload_n 0, 1) := by decide +kernel
theorem dX4_cell_134 : decode cX4_cell 134 = .ok (.getfield 20, 3) := by decide +kernel
theorem dX4_cell_137 : decode cX4_cell 137 = .ok (.aload_n 0, 1) := by decide +kernel
theorem dX4_cell_138 : decode cX4_cell 138 = .ok (.getfield 20, 3) := by decide +kernel
theorem dX4_cell_141 : decode cX4_cell 141 = .ok (.iconst 5, 1) := by decide +kernel
theorem dX4_cell_142 : decode cX4_cell 142 = .ok (.iload_n 2, 1) := by decide +kernel
theorem dX4_cell_143 : decode cX4_cell 143 = .ok (.imul, 1) := by decide +kernel
theorem dX4_cell_144 : decode cX4_cell 144 = .ok (.iconst 3, 1) := by decide +kernel
theorem dX4_cell_145 : decode cX4_cell 145 = .ok (.iadd, 1) := by decide +kernel
theorem dX4_cell_146 : decode cX4_cell 146 = .ok (.invokevirtual 33, 3) := by decide +kernel
theorem dX4_cell_149 : decode cX4_cell 149 = .ok (.invokevirtual 60, 3) := by decide +kernel
theorem dX4_cell_152 : decode cX4_cell 152 = .ok (.pop, 1) := by decide +kernel
theorem dX4_cell_153 : decode cX4_cell 153 = .ok (.aload_n 0, 1) := by decide +kernel
theorem dX4_cell_154 : decode cX4_cell 154 = .ok (.getfield 20, 3) := by decide +kernel
theorem dX4_cell_157 : decode cX4_cell 157 = .ok (.iconst 5, 1) := by decide +kernel
theorem dX4_cell_158 : decode cX4_cell 158 = .ok (.iload_n 2, 1) := by decide +kernel
theorem dX4_cell_159 : decode cX4_cell 159 = .ok (.imul, 1) := by decide +kernel
theorem dX4_cell_160 : decode cX4_cell 160 = .ok (.iconst 3, 1) := by decide +kernel
theorem dX4_cell_161 : decode cX4_cell 161 = .ok (.iadd, 1) := by decide +kernel
theorem dX4_cell_162 : decode cX4_cell 162 = .ok (.iload 5, 2) := by decide +kernel
theorem dX4_cell_164 : decode cX4_cell 164 = .ok (.invokevirtual 57, 3) := by decide +kernel
theorem dX4_cell_167 : decode cX4_cell 167 = .ok (.iload 5, 2) := by decide +kernel
theorem dX4_cell_169 : decode cX4_cell 169 = .ok (.ireturn, 1) := by decide +kernel
theorem dX4_set_0 : decode cX4_set 0 = .ok (.aload_n 0, 1) := by decide +kernel
theorem dX4_set_1 : decode cX4_set 1 = .ok (.getfield 23, 3) := by decide +kernel
theorem dX4_set_4 : decode cX4_set 4 = .ok (.iconst 0, 1) := by decide +kernel
theorem dX4_set_5 : decode cX4_set 5 = .ok (.iload_n 1, 1) := by decide +kernel
theorem dX4_set_6 : decode cX4_set 6 = .ok (.aload_n 0, 1) := by decide +kernel
theorem dX4_set_7 : decode cX4_set 7 = .ok (.getfield 16, 3) := by decide +kernel
theorem dX4_set_10 : decode cX4_set 10 = .ok (.iload_n 1, 1) := by decide +kernel
theorem dX4_set_11 : decode cX4_set 11 = .ok (.invokevirtual 33, 3) := by decide +kernel
theorem dX4_set_14 : decode cX4_set 14 = .ok (.invokestatic 64, 3) := by decide +kernel
theorem dX4_set_17 : decode cX4_set 17 = .ok (.invokevirtual 60, 3) := by decide +kernel
theorem dX4_set_20 : decode cX4_set 20 = .ok (.pop, 1) := by decide +kernel
theorem dX4_set_21 : decode cX4_set 21 = .ok (.aload_n 0, 1) := by decide +kernel
theorem dX4_set_22 : decode cX4_set 22 = .ok (.getfield 16, 3) := by decide +kernel
theorem dX4_set_25 : decode cX4_set 25 = .ok (.invokevirtual 50, 3) := by decide +kernel
theorem dX4_set_28 : decode cX4_set 28 = .ok (.istore_n 3, 1) := by decide +kernel
theorem dX4_set_29 : decode cX4_set 29 = .ok (.iload_n 3, 1) := by decide +kernel
theorem dX4_set_30 : decode cX4_set 30 = .ok (.iload_n 1, 1) := by decide +kernel
theorem dX4_set_31 : decode cX4_set 31 = .ok (.if_icmp .gt 18, 3) := by decide +kernel
theorem dX4_set_34 : decode cX4_set 34 = .ok (.aload_n 0, 1) := by decide +kernel
theorem dX4_set_35 : decode cX4_set 35 = .ok (.getfield 16, 3) := by decide +kernel
theorem dX4_set_38 : decode cX4_set 38 = .ok (.iconst 0, 1) := by decide +kernel
theorem dX4_set_39 : decode cX4_set 39 = .ok (.invokevirtual 60, 3) := by decide +kernel
theorem dX4_set_42 : decode cX4_set 42 = .ok (.pop, 1) := by decide +kernel
theorem dX4_set_43 : decode cX4_set 43 = .ok (.iinc 3 1, 3) := by decide +kernel
theorem dX4_set_46 : decode cX4_set 46 = .ok (.goto (-17), 3) := by decide +kernel
theorem dX4_set_49 : decode cX4_set 49 = .ok (.aload_n 0, 1) := by decide +kernel
theorem dX4_set_50 : decode cX4_set 50 = .ok (.getfield 16, 3) := by decide +kernel
theorem dX4_set_53 : decode cX4_set 53 = .ok (.iload_n 1, 1) := by decide +kernel
theorem dX4_set_54 : decode cX4_set 54 = .ok (.iload_n 2, 1) := by decide +kernel
theorem dX4_set_55 : decode cX4_set 55 = .ok (.invokevirtual 57, 3) := by decide +kernel
theorem dX4_set_58 : decode cX4_set 58 = .ok (.return_, 1) := by decide +kernel
theorem dX4_insert_0 : decode cX4_insert 0 = .ok (.iload_n 2, 1) := by decide +kernel
theorem dX4_insert_1 : decode cX4_insert 1 = .ok (.ifCond .ne 15, 3) := by decide +kernel
theorem dX4_insert_4 : decode cX4_insert 4 = .ok (.iload_n 1, 1) := by decide +kernel
theorem dX4_insert_5 : decode cX4_insert 5 = .ok (.aload_n 0, 1) := by decide +kernel
theorem dX4_insert_6 : decode cX4_insert 6 = .ok (.getfield 16, 3) := by decide +kernel
theorem dX4_insert_9 : decode cX4_insert 9 = .ok (.invokevirtual 50, 3) := by decide +kernel
theorem dX4_insert_12 : decode cX4_insert 12 = .ok (.if_icmp .lt 4, 3) := by decide +kernel
theorem dX4_insert_15 : decode cX4_insert 15 = .ok (.return_, 1) := by decide +kernel
theorem dX4_insert_16 : decode cX4_insert 16 = .ok (.aload_n 0, 1) := by decide +kernel
theorem dX4_insert_17 : decode cX4_insert 17 = .ok (.getfield 16, 3) := by decide +kernel
theorem dX4_insert_20 : decode cX4_insert 20 = .ok (.invokevirtual 50, 3) := by decide +kernel
theorem dX4_insert_23 : decode cX4_insert 23 = .ok (.istore_n 3, 1) := by decide +kernel
theorem dX4_insert_24 : decode cX4_insert 24 = .ok (.iload_n 3, 1) := by decide +kernel
theorem dX4_insert_25 : decode cX4_insert 25 = .ok (.iload_n 1, 1) := by decide +kernel
theorem dX4_insert_26 : decode cX4_insert 26 = .ok (.if_icmp .ge 18, 3) := by decide +kernel
theorem dX4_insert_29 : decode cX4_insert 29 = .ok (.aload_n 0, 1) := by decide +kernel
theorem dX4_insert_30 : decode cX4_insert 30 = .ok (.getfield 16, 3) := by decide +kernel
theorem dX4_insert_33 : decode cX4_insert 33 = .ok (.iconst 0, 1) := by decide +kernel
theorem dX4_insert_34 : decode cX4_insert 34 = .ok (.invokevirtual 60, 3) := by decide +kernel
theorem dX4_insert_37 : decode cX4_insert 37 = .ok (.pop, 1) := by decide +kernel
theorem dX4_insert_38 : decode cX4_insert 38 = .ok (.iinc 3 1, 3) := by decide +kernel
theorem dX4_insert_41 : decode cX4_insert 41 = .ok (.goto (-17), 3) := by decide +kernel
theorem dX4_insert_44 : decode cX4_insert 44 = .ok (.aload_n 0, 1) := by decide +kernel
theorem dX4_insert_45 : decode cX4_insert 45 = .ok (.getfield 16, 3) := by decide +kernel
theorem dX4_insert_48 : decode cX4_insert 48 = .ok (.iload_n 1, 1) := by decide +kernel
theorem dX4_insert_49 : decode cX4_insert 49 = .ok (.iload_n 2, 1) := by decide +kernel
theorem dX4_insert_50 : decode cX4_insert 50 = .ok (.invokevirtual 58, 3) := by decide +kernel
theorem dX4_insert_53 : decode cX4_insert 53 = .ok (.aload_n 0, 1) := by decide +kernel
theorem dX4_insert_54 : decode cX4_insert 54 = .ok (.getfield 23, 3) := by decide +kernel
theorem dX4_insert_57 : decode cX4_insert 57 = .ok (.iconst 2, 1) := by decide +kernel
theorem dX4_insert_58 : decode cX4_insert 58 = .ok (.iload_n 1, 1) := by decide +kernel
theorem dX4_insert_59 : decode cX4_insert 59 = .ok (.iconst 0, 1) := by decide +kernel
theorem dX4_insert_60 : decode cX4_insert 60 = .ok (.invokestatic 64, 3) := by decide +kernel
theorem dX4_insert_63 : decode cX4_insert 63 = .ok (.invokevirtual 60, 3) := by decide +kernel
theorem dX4_insert_66 : decode cX4_insert 66 = .ok (.pop, 1) := by decide +kernel
theorem dX4_insert_67 : decode cX4_insert 67 = .ok (.return_, 1) := by decide +kernel
theorem dX4_drop_0 : decode cX4_drop 0 = .ok (.iload_n 1, 1) := by decide +kernel
theorem dX4_drop_1 : decode cX4_drop 1 = .ok (.aload_n 0, 1) := by decide +kernel
theorem dX4_drop_2 : decode cX4_drop 2 = .ok (.getfield 16, 3) := by decide +kernel
theorem dX4_drop_5 : decode cX4_drop 5 = .ok (.invokevirtual 50, 3) := by decide +kernel
theorem dX4_drop_8 : decode cX4_drop 8 = .ok (.if_icmp .ge 32, 3) := by decide +kernel
theorem dX4_drop_11 : decode cX4_drop 11 = .ok (.aload_n 0, 1) := by decide +kernel
theorem dX4_drop_12 : decode cX4_drop 12 = .ok (.getfield 23, 3) := by decide +kernel
theorem dX4_drop_15 : decode cX4_drop 15 = .ok (.iconst 1, 1) := by decide +kernel
theorem dX4_drop_16 : decode cX4_drop 16 = .ok (.iload_n 1, 1) := by decide +kernel
theorem dX4_drop_17 : decode cX4_drop 17 = .ok (.aload_n 0, 1) := by decide +kernel
theorem dX4_drop_18 : decode cX4_drop 18 = .ok (.getfield 16, 3) := by decide +kernel
theorem dX4_drop_21 : decode cX4_drop 21 = .ok (.iload_n 1, 1) := by decide +kernel
theorem dX4_drop_22 : decode cX4_drop 22 = .ok (.invokevirtual 33, 3) := by decide +kernel
theorem dX4_drop_25 : decode cX4_drop 25 = .ok (.invokestatic 64, 3) := by decide +kernel
theorem dX4_drop_28 : decode cX4_drop 28 = .ok (.invokevirtual 60, 3) := by decide +kernel
theorem dX4_drop_31 : decode cX4_drop 31 = .ok (.pop, 1) := by decide +kernel
theorem dX4_drop_32 : decode cX4_drop 32 = .ok (.aload_n 0, 1) := by decide +kernel
theorem dX4_drop_33 : decode cX4_drop 33 = .ok (.getfield 16, 3) := by decide +kernel
theorem dX4_drop_36 : decode cX4_drop 36 = .ok (.iload_n 1, 1) := by decide +kernel
theorem dX4_drop_37 : decode cX4_drop 37 = .ok (.invokevirtual 59, 3) := by decide +kernel
theorem dX4_drop_40 : decode cX4_drop 40 = .ok (.return_, 1) := by decide +kernel
theorem dX4_undoing_0 : decode cX4_undoing 0 = .ok (.iload_n 2, 1) := by decide +kernel
theorem dX4_undoing_1 : decode cX4_undoing 1 = .ok (.bipush 10, 2) := by decide +kernel
theorem dX4_undoing_3 : decode cX4_undoing 3 = .ok (.ishl, 1) := by decide +kernel
theorem dX4_undoing_4 : decode cX4_undoing 4 = .ok (.iload_n 1, 1) := by decide +kernel
theorem dX4_undoing_5 : decode cX4_undoing 5 = .ok (.iconst 2, 1) := by decide +kernel
theorem dX4_undoing_6 : decode cX4_undoing 6 = .ok (.ishl, 1) := by decide +kernel
theorem dX4_undoing_7 : decode cX4_undoing 7 = .ok (.ior, 1) := by decide +kernel
theorem dX4_undoing_8 : decode cX4_undoing 8 = .ok (.iload_n 0, 1) := by decide +kernel
theorem dX4_undoing_9 : decode cX4_undoing 9 = .ok (.ior, 1) := by decide +kernel
theorem dX4_undoing_10 : decode cX4_undoing 10 = .ok (.ireturn, 1) := by decide +kernel
theorem dX5_init_0 : decode cX5_init 0 = .ok (.aload_n 0, 1) := by decide +kernel
theorem dX5_init_1 : decode cX5_init 1 = .ok (.invokespecial 3, 3) := by decide +kernel
theorem dX5_init_4 : decode cX5_init 4 = .ok (.aload_n 0, 1) := by decide +kernel
theorem dX5_init_5 : decode cX5_init 5 = .ok (.new 9, 3) := by decide +kernel
theorem dX5_init_8 : decode cX5_init 8 = .ok (.dup, 1) := by decide +kernel
theorem dX5_init_9 : decode cX5_init 9 = .ok (.bipush 64, 2) := by decide +kernel
theorem dX5_init_11 : decode cX5_init 11 = .ok (.sipush 3000, 3) := by decide +kernel
theorem dX5_init_14 : decode cX5_init 14 = .ok (.invokespecial 11, 3) := by decide +kernel
theorem dX5_init_17 : decode cX5_init 17 = .ok (.putfield 14, 3) := by decide +kernel
theorem dX5_init_20 : decode cX5_init 20 = .ok (.aload_n 0, 1) := by decide +kernel
theorem dX5_init_21 : decode cX5_init 21 = .ok (.new 9, 3) := by decide +kernel
theorem dX5_init_24 : decode cX5_init 24 = .ok (.dup, 1) := by decide +kernel
theorem dX5_init_25 : decode cX5_init 25 = .ok (.bipush 32, 2) := by decide +kernel
theorem dX5_init_27 : decode cX5_init 27 = .ok (.sipush 2000, 3) := by decide +kernel
theorem dX5_init_30 : decode cX5_init 30 = .ok (.invokespecial 11, 3) := by decide +kernel
theorem dX5_init_33 : decode cX5_init 33 = .ok (.putfield 20, 3) := by decide +kernel
theorem dX5_init_36 : decode cX5_init 36 = .ok (.return_, 1) := by decide +kernel
theorem dX5_sign_0 : decode cX5_sign 0 = .ok (.iload_n 1, 1) := by decide +kernel
theorem dX5_sign_1 : decode cX5_sign 1 = .ok (.ifCond .lt 25, 3) := by decide +kernel
theorem dX5_sign_4 : decode cX5_sign 4 = .ok (.iload_n 1, 1) := by decide +kernel
theorem dX5_sign_5 : decode cX5_sign 5 = .ok (.aload_n 0, 1) := by decide +kernel
theorem dX5_sign_6 : decode cX5_sign 6 = .ok (.getfield 14, 3) := by decide +kernel
theorem dX5_sign_9 : decode cX5_sign 9 = .ok (.invokevirtual 23, 3) := by decide +kernel
theorem dX5_sign_12 : decode cX5_sign 12 = .ok (.if_icmp .ge 14, 3) := by decide +kernel
theorem dX5_sign_15 : decode cX5_sign 15 = .ok (.aload_n 0, 1) := by decide +kernel
theorem dX5_sign_16 : decode cX5_sign 16 = .ok (.getfield 14, 3) := by decide +kernel
theorem dX5_sign_19 : decode cX5_sign 19 = .ok (.iload_n 1, 1) := by decide +kernel
theorem dX5_sign_20 : decode cX5_sign 20 = .ok (.invokevirtual 27, 3) := by decide +kernel
theorem dX5_sign_23 : decode cX5_sign 23 = .ok (.goto 4, 3) := by decide +kernel
theorem dX5_sign_26 : decode cX5_sign 26 = .ok (.iconst (-1), 1) := by decide +kernel
theorem dX5_sign_27 : decode cX5_sign 27 = .ok (.ireturn, 1) := by decide +kernel
theorem dX5_saying_0 : decode cX5_saying 0 = .ok (.aload_n 0, 1) := by decide +kernel
theorem dX5_saying_1 : decode cX5_saying 1 = .ok (.getfield 14, 3) := by decide +kernel
theorem dX5_saying_4 : decode cX5_saying 4 = .ok (.iconst 0, 1) := by decide +kernel
theorem dX5_saying_5 : decode cX5_saying 5 = .ok (.invokevirtual 31, 3) := by decide +kernel
theorem dX5_saying_8 : decode cX5_saying 8 = .ok (.aload_n 0, 1) := by decide +kernel
theorem dX5_saying_9 : decode cX5_saying 9 = .ok (.getfield 20, 3) := by decide +kernel
theorem dX5_saying_12 : decode cX5_saying 12 = .ok (.iconst 0, 1) := by decide +kernel
theorem dX5_saying_13 : decode cX5_saying 13 = .ok (.invokevirtual 31, 3) := by decide +kernel
theorem dX5_saying_16 : decode cX5_saying 16 = .ok (.iconst 0, 1) := by decide +kernel
theorem dX5_saying_17 : decode cX5_saying 17 = .ok (.istore_n 2, 1) := by decide +kernel
theorem dX5_saying_18 : decode cX5_saying 18 = .ok (.iconst 0, 1) := by decide +kernel
theorem dX5_saying_19 : decode cX5_saying 19 = .ok (.istore_n 3, 1) := by decide +kernel
theorem dX5_saying_20 : decode cX5_saying 20 = .ok (.iload_n 3, 1) := by decide +kernel
theorem dX5_saying_21 : decode cX5_saying 21 = .ok (.aload_n 1, 1) := by decide +kernel
theorem dX5_saying_22 : decode cX5_saying 22 = .ok (.invokevirtual 23, 3) := by decide +kernel
theorem dX5_saying_25 : decode cX5_saying 25 = .ok (.if_icmp .ge 123, 3) := by decide +kernel
theorem dX5_saying_28 : decode cX5_saying 28 = .ok (.aload_n 1, 1) := by decide +kernel
theorem dX5_saying_29 : decode cX5_saying 29 = .ok (.iload_n 3, 1) := by decide +kernel
theorem dX5_saying_30 : decode cX5_saying 30 = .ok (.invokevirtual 27, 3) := by decide +kernel
theorem dX5_saying_33 : decode cX5_saying 33 = .ok (.istore 4, 2) := by decide +kernel
theorem dX5_saying_35 : decode cX5_saying 35 = .ok (.iload 4, 2) := by decide +kernel
theorem dX5_saying_37 : decode cX5_saying 37 = .ok (.ifCond .ne 30, 3) := by decide +kernel
theorem dX5_saying_40 : decode cX5_saying 40 = .ok (.aload_n 0, 1) := by decide +kernel
theorem dX5_saying_41 : decode cX5_saying 41 = .ok (.getfield 20, 3) := by decide +kernel
theorem dX5_saying_44 : decode cX5_saying 44 = .ok (.iload_n 2, 1) := by decide +kernel
theorem dX5_saying_45 : decode cX5_saying 45 = .ok (.invokevirtual 35, 3) := by decide +kernel
theorem dX5_saying_48 : decode cX5_saying 48 = .ok (.pop, 1) := by decide +kernel
theorem dX5_saying_49 : decode cX5_saying 49 = .ok (.aload_n 1, 1) := by decide +kernel
theorem dX5_saying_50 : decode cX5_saying 50 = .ok (.iload_n 3, 1) := by decide +kernel
theorem dX5_saying_51 : decode cX5_saying 51 = .ok (.iconst 1, 1) := by decide +kernel
theorem dX5_saying_52 : decode cX5_saying 52 = .ok (.iadd, 1) := by decide +kernel
theorem dX5_saying_53 : decode cX5_saying 53 = .ok (.invokevirtual 27, 3) := by decide +kernel
theorem dX5_saying_56 : decode cX5_saying 56 = .ok (.iconst 1, 1) := by decide +kernel
theorem dX5_saying_57 : decode cX5_saying 57 = .ok (.if_icmp .ne 85, 3) := by decide +kernel
theorem dX5_saying_60 : decode cX5_saying 60 = .ok (.aload_n 0, 1) := by decide +kernel
theorem dX5_saying_61 : decode cX5_saying 61 = .ok (.invokevirtual 39, 3) := by decide +kernel
theorem dX5_saying_64 : decode cX5_saying 64 = .ok (.goto 78, 3) := by decide +kernel
theorem dX5_saying_67 : decode cX5_saying 67 = .ok (.iload 4, 2) := by decide +kernel
theorem dX5_saying_69 : decode cX5_saying 69 = .ok (.iconst 1, 1) := by decide +kernel
theorem dX5_saying_70 : decode cX5_saying 70 = .ok (.if_icmp .ne 41, 3) := by decide +kernel
theorem dX5_saying_73 : decode cX5_saying 73 = .ok (.aload_n 0, 1) := by decide +kernel
theorem dX5_saying_74 : decode cX5_saying 74 = .ok (.getfield 14, 3) := by decide +kernel
theorem dX5_saying_77 : decode cX5_saying 77 = .ok (.bipush 92, 2) := by decide +kernel
theorem dX5_saying_79 : decode cX5_saying 79 = .ok (.invokevirtual 35, 3) := by decide +kernel
theorem dX5_saying_82 : decode cX5_saying 82 = .ok (.pop, 1) := by decide +kernel
theorem dX5_saying_83 : decode cX5_saying 83 = .ok (.aload_n 0, 1) := by decide +kernel
theorem dX5_saying_84 : decode cX5_saying 84 = .ok (.getfield 14, 3) := by decide +kernel
theorem dX5_saying_87 : decode cX5_saying 87 = .ok (.iload_n 2, 1) := by decide +kernel
theorem dX5_saying_88 : decode cX5_saying 88 = .ok (.invokestatic 42, 3) := by decide +kernel
theorem dX5_saying_91 : decode cX5_saying 91 = .ok (.invokevirtual 35, 3) := by decide +kernel
theorem dX5_saying_94 : decode cX5_saying 94 = .ok (.pop, 1) := by decide +kernel
theorem dX5_saying_95 : decode cX5_saying 95 = .ok (.aload_n 0, 1) := by decide +kernel
theorem dX5_saying_96 : decode cX5_saying 96 = .ok (.getfield 14, 3) := by decide +kernel
theorem dX5_saying_99 : decode cX5_saying 99 = .ok (.bipush 46, 2) := by decide +kernel
theorem dX5_saying_101 : decode cX5_saying 101 = .ok (.invokevirtual 35, 3) := by decide +kernel
theorem dX5_saying_104 : decode cX5_saying 104 = .ok (.pop, 1) := by decide +kernel
theorem dX5_saying_105 : decode cX5_saying 105 = .ok (.iinc 2 1, 3) := by decide +kernel
theorem dX5_saying_108 : decode cX5_saying 108 = .ok (.goto 34, 3) := by decide +kernel
theorem dX5_saying_111 : decode cX5_saying 111 = .ok (.aload_n 0, 1) := by decide +kernel
theorem dX5_saying_112 : decode cX5_saying 112 = .ok (.getfield 14, 3) := by decide +kernel
theorem dX5_saying_115 : decode cX5_saying 115 = .ok (.iload_n 2, 1) := by decide +kernel
theorem dX5_saying_116 : decode cX5_saying 116 = .ok (.iconst 1, 1) := by decide +kernel
theorem dX5_saying_117 : decode cX5_saying 117 = .ok (.isub, 1) := by decide +kernel
theorem dX5_saying_118 : decode cX5_saying 118 = .ok (.iload 4, 2) := by decide +kernel
theorem dX5_saying_120 : decode cX5_saying 120 = .ok (.iconst 2, 1) := by decide +kernel
theorem dX5_saying_121 : decode cX5_saying 121 = .ok (.isub, 1) := by decide +kernel
theorem dX5_saying_122 : decode cX5_saying 122 = .ok (.isub, 1) := by decide +kernel
theorem dX5_saying_123 : decode cX5_saying 123 = .ok (.invokestatic 42, 3) := by decide +kernel
theorem dX5_saying_126 : decode cX5_saying 126 = .ok (.invokevirtual 35, 3) := by decide +kernel
theorem dX5_saying_129 : decode cX5_saying 129 = .ok (.pop, 1) := by decide +kernel
theorem dX5_saying_130 : decode cX5_saying 130 = .ok (.aload_n 0, 1) := by decide +kernel
theorem dX5_saying_131 : decode cX5_saying 131 = .ok (.aload_n 1, 1) := by decide +kernel
theorem dX5_saying_132 : decode cX5_saying 132 = .ok (.iload_n 3, 1) := by decide +kernel
theorem dX5_saying_133 : decode cX5_saying 133 = .ok (.iconst 1, 1) := by decide +kernel
theorem dX5_saying_134 : decode cX5_saying 134 = .ok (.iadd, 1) := by decide +kernel
theorem dX5_saying_135 : decode cX5_saying 135 = .ok (.invokevirtual 27, 3) := by decide +kernel
theorem dX5_saying_138 : decode cX5_saying 138 = .ok (.invokevirtual 45, 3) := by decide +kernel
theorem dX5_saying_141 : decode cX5_saying 141 = .ok (.istore_n 2, 1) := by decide +kernel
theorem dX5_saying_142 : decode cX5_saying 142 = .ok (.iinc 3 1, 3) := by decide +kernel
theorem dX5_saying_145 : decode cX5_saying 145 = .ok (.goto (-125), 3) := by decide +kernel
theorem dX5_saying_148 : decode cX5_saying 148 = .ok (.aload_n 0, 1) := by decide +kernel
theorem dX5_saying_149 : decode cX5_saying 149 = .ok (.getfield 14, 3) := by decide +kernel
theorem dX5_saying_152 : decode cX5_saying 152 = .ok (.invokevirtual 23, 3) := by decide +kernel
theorem dX5_saying_155 : decode cX5_saying 155 = .ok (.ireturn, 1) := by decide +kernel
theorem dX5_open_0 : decode cX5_open 0 = .ok (.aload_n 0, 1) := by decide +kernel
theorem dX5_open_1 : decode cX5_open 1 = .ok (.getfield 14, 3) := by decide +kernel
theorem dX5_open_4 : decode cX5_open 4 = .ok (.bipush 40, 2) := by decide +kernel
theorem dX5_open_6 : decode cX5_open 6 = .ok (.invokevirtual 35, 3) := by decide +kernel
theorem dX5_open_9 : decode cX5_open 9 = .ok (.pop, 1) := by decide +kernel
theorem dX5_open_10 : decode cX5_open 10 = .ok (.aload_n 0, 1) := by decide +kernel
theorem dX5_open_11 : decode cX5_open 11 = .ok (.getfield 20, 3) := by decide +kernel
theorem dX5_open_14 : decode cX5_open 14 = .ok (.iconst (-1), 1) := by decide +kernel
theorem dX5_open_15 : decode cX5_open 15 = .ok (.invokevirtual 35, 3) := by decide +kernel
theorem dX5_open_18 : decode cX5_open 18 = .ok (.pop, 1) := by decide +kernel
theorem dX5_open_19 : decode cX5_open 19 = .ok (.return_, 1) := by decide +kernel
theorem dX5_goOn_0 : decode cX5_goOn 0 = .ok (.aload_n 0, 1) := by decide +kernel
theorem dX5_goOn_1 : decode cX5_goOn 1 = .ok (.getfield 20, 3) := by decide +kernel
theorem dX5_goOn_4 : decode cX5_goOn 4 = .ok (.invokevirtual 23, 3) := by decide +kernel
theorem dX5_goOn_7 : decode cX5_goOn 7 = .ok (.istore_n 2, 1) := by decide +kernel
theorem dX5_goOn_8 : decode cX5_goOn 8 = .ok (.iload_n 2, 1) := by decide +kernel
theorem dX5_goOn_9 : decode cX5_goOn 9 = .ok (.ifCond .le 53, 3) := by decide +kernel
theorem dX5_goOn_12 : decode cX5_goOn 12 = .ok (.aload_n 0, 1) := by decide +kernel
theorem dX5_goOn_13 : decode cX5_goOn 13 = .ok (.getfield 20, 3) := by decide +kernel
theorem dX5_goOn_16 : decode cX5_goOn 16 = .ok (.invokevirtual 48, 3) := by decide +kernel
theorem dX5_goOn_19 : decode cX5_goOn 19 = .ok (.istore_n 3, 1) := by decide +kernel
theorem dX5_goOn_20 : decode cX5_goOn 20 = .ok (.iload_n 3, 1) := by decide +kernel
theorem dX5_goOn_21 : decode cX5_goOn 21 = .ok (.iconst (-1), 1) := by decide +kernel
theorem dX5_goOn_22 : decode cX5_goOn 22 = .ok (.if_icmp .eq 24, 3) := by decide +kernel
theorem dX5_goOn_25 : decode cX5_goOn 25 = .ok (.aload_n 0, 1) := by decide +kernel
theorem dX5_goOn_26 : decode cX5_goOn 26 = .ok (.getfield 14, 3) := by decide +kernel
theorem dX5_goOn_29 : decode cX5_goOn 29 = .ok (.bipush 32, 2) := by decide +kernel
theorem dX5_goOn_31 : decode cX5_goOn 31 = .ok (.invokevirtual 35, 3) := by decide +kernel
theorem dX5_goOn_34 : decode cX5_goOn 34 = .ok (.pop, 1) := by decide +kernel
theorem dX5_goOn_35 : decode cX5_goOn 35 = .ok (.iload_n 1, 1) := by decide +kernel
theorem dX5_goOn_36 : decode cX5_goOn 36 = .ok (.iconst 2, 1) := by decide +kernel
theorem dX5_goOn_37 : decode cX5_goOn 37 = .ok (.if_icmp .ge 7, 3) := by decide +kernel
theorem dX5_goOn_40 : decode cX5_goOn 40 = .ok (.aload_n 0, 1) := by decide +kernel
theorem dX5_goOn_41 : decode cX5_goOn 41 = .ok (.invokevirtual 39, 3) := by decide +kernel
theorem dX5_goOn_44 : decode cX5_goOn 44 = .ok (.iload_n 3, 1) := by decide +kernel
theorem dX5_goOn_45 : decode cX5_goOn 45 = .ok (.ireturn, 1) := by decide +kernel
theorem dX5_goOn_46 : decode cX5_goOn 46 = .ok (.aload_n 0, 1) := by decide +kernel
theorem dX5_goOn_47 : decode cX5_goOn 47 = .ok (.getfield 14, 3) := by decide +kernel
theorem dX5_goOn_50 : decode cX5_goOn 50 = .ok (.bipush 41, 2) := by decide +kernel
theorem dX5_goOn_52 : decode cX5_goOn 52 = .ok (.invokevirtual 35, 3) := by decide +kernel
theorem dX5_goOn_55 : decode cX5_goOn 55 = .ok (.pop, 1) := by decide +kernel
theorem dX5_goOn_56 : decode cX5_goOn 56 = .ok (.iinc 2 (-1), 3) := by decide +kernel
theorem dX5_goOn_59 : decode cX5_goOn 59 = .ok (.goto (-51), 3) := by decide +kernel
theorem dX5_goOn_62 : decode cX5_goOn 62 = .ok (.iconst 0, 1) := by decide +kernel
theorem dX5_goOn_63 : decode cX5_goOn 63 = .ok (.ireturn, 1) := by decide +kernel
theorem dX5_letter_0 : decode cX5_letter 0 = .ok (.bipush 97, 2) := by decide +kernel
theorem dX5_letter_2 : decode cX5_letter 2 = .ok (.iload_n 0, 1) := by decide +kernel
theorem dX5_letter_3 : decode cX5_letter 3 = .ok (.bipush 26, 2) := by decide +kernel
theorem dX5_letter_5 : decode cX5_letter 5 = .ok (.invokestatic 51, 3) := by decide +kernel
theorem dX5_letter_8 : decode cX5_letter 8 = .ok (.iadd, 1) := by decide +kernel
theorem dX5_letter_9 : decode cX5_letter 9 = .ok (.ireturn, 1) := by decide +kernel
theorem dX6_init_0 : decode cX6_init 0 = .ok (.aload_n 0, 1) := by decide +kernel
theorem dX6_init_1 : decode cX6_init 1 = .ok (.invokespecial 3, 3) := by decide +kernel
theorem dX6_init_4 : decode cX6_init 4 = .ok (.aload_n 0, 1) := by decide +kernel
theorem dX6_init_5 : decode cX6_init 5 = .ok (.new 9, 3) := by decide +kernel
theorem dX6_init_8 : decode cX6_init 8 = .ok (.dup, 1) := by decide +kernel
theorem dX6_init_9 : decode cX6_init 9 = .ok (.sipush 128, 3) := by decide +kernel
theorem dX6_init_12 : decode cX6_init 12 = .ok (.sipush 1402, 3) := by decide +kernel
theorem dX6_init_15 : decode cX6_init 15 = .ok (.invokespecial 11, 3) := by decide +kernel
theorem dX6_init_18 : decode cX6_init 18 = .ok (.putfield 14, 3) := by decide +kernel
theorem dX6_init_21 : decode cX6_init 21 = .ok (.aload_n 0, 1) := by decide +kernel
theorem dX6_init_22 : decode cX6_init 22 = .ok (.new 9, 3) := by decide +kernel
theorem dX6_init_25 : decode cX6_init 25 = .ok (.dup, 1) := by decide +kernel
theorem dX6_init_26 : decode cX6_init 26 = .ok (.iconst 5, 1) := by decide +kernel
theorem dX6_init_27 : decode cX6_init 27 = .ok (.bipush 65, 2) := by decide +kernel
theorem dX6_init_29 : decode cX6_init 29 = .ok (.invokespecial 11, 3) := by decide +kernel
theorem dX6_init_32 : decode cX6_init 32 = .ok (.putfield 20, 3) := by decide +kernel
theorem dX6_init_35 : decode cX6_init 35 = .ok (.aload_n 0, 1) := by decide +kernel
theorem dX6_init_36 : decode cX6_init 36 = .ok (.new 9, 3) := by decide +kernel
theorem dX6_init_39 : decode cX6_init 39 = .ok (.dup, 1) := by decide +kernel
theorem dX6_init_40 : decode cX6_init 40 = .ok (.bipush 16, 2) := by decide +kernel
theorem dX6_init_42 : decode cX6_init 42 = .ok (.bipush 62, 2) := by decide +kernel
theorem dX6_init_44 : decode cX6_init 44 = .ok (.invokespecial 11, 3) := by decide +kernel
theorem dX6_init_47 : decode cX6_init 47 = .ok (.putfield 23, 3) := by decide +kernel
theorem dX6_init_50 : decode cX6_init 50 = .ok (.aload_n 0, 1) := by decide +kernel
theorem dX6_init_51 : decode cX6_init 51 = .ok (.new 9, 3) := by decide +kernel
theorem dX6_init_54 : decode cX6_init 54 = .ok (.dup, 1) := by decide +kernel
theorem dX6_init_55 : decode cX6_init 55 = .ok (.bipush 9, 2) := by decide +kernel
theorem dX6_init_57 : decode cX6_init 57 = .ok (.bipush 36, 2) := by decide +kernel
theorem dX6_init_59 : decode cX6_init 59 = .ok (.invokespecial 11, 3) := by decide +kernel
theorem dX6_init_62 : decode cX6_init 62 = .ok (.putfield 26, 3) := by decide +kernel
theorem dX6_init_65 : decode cX6_init 65 = .ok (.aload_n 0, 1) := by decide +kernel
theorem dX6_init_66 : decode cX6_init 66 = .ok (.new 9, 3) := by decide +kernel
theorem dX6_init_69 : decode cX6_init 69 = .ok (.dup, 1) := by decide +kernel
theorem dX6_init_70 : decode cX6_init 70 = .ok (.bipush 8, 2) := by decide +kernel
theorem dX6_init_72 : decode cX6_init 72 = .ok (.bipush 26, 2) := by decide +kernel
theorem dX6_init_74 : decode cX6_init 74 = .ok (.invokespecial 11, 3) := by decide +kernel
theorem dX6_init_77 : decode cX6_init 77 = .ok (.putfield 29, 3) := by decide +kernel
theorem dX6_init_80 : decode cX6_init 80 = .ok (.aload_n 0, 1) := by decide +kernel
theorem dX6_init_81 : decode cX6_init 81 = .ok (.iconst 0, 1) := by decide +kernel
theorem dX6_init_82 : decode cX6_init 82 = .ok (.putfield 32, 3) := by decide +kernel
theorem dX6_init_85 : decode cX6_init 85 = .ok (.aload_n 0, 1) := by decide +kernel
theorem dX6_init_86 : decode cX6_init 86 = .ok (.iconst 0, 1) := by decide +kernel
theorem dX6_init_87 : decode cX6_init 87 = .ok (.putfield 36, 3) := by decide +kernel
theorem dX6_init_90 : decode cX6_init 90 = .ok (.aload_n 0, 1) := by decide +kernel
theorem dX6_init_91 : decode cX6_init 91 = .ok (.iconst 0, 1) := by decide +kernel
theorem dX6_init_92 : decode cX6_init 92 = .ok (.putfield 39, 3) := by decide +kernel
theorem dX6_init_95 : decode cX6_init 95 = .ok (.aload_n 0, 1) := by decide +kernel
theorem dX6_init_96 : decode cX6_init 96 = .ok (.iconst 0, 1) := by decide +kernel
theorem dX6_init_97 : decode cX6_init 97 = .ok (.putfield 42, 3) := by decide +kernel
theorem dX6_init_100 : decode cX6_init 100 = .ok (.aload_n 0, 1) := by decide +kernel
theorem dX6_init_101 : decode cX6_init 101 = .ok (.iconst 0, 1) := by decide +kernel
theorem dX6_init_102 : decode cX6_init 102 = .ok (.putfield 45, 3) := by decide +kernel
theorem dX6_init_105 : decode cX6_init 105 = .ok (.aload_n 0, 1) := by decide +kernel
theorem dX6_init_106 : decode cX6_init 106 = .ok (.iconst 0, 1) := by decide +kernel
theorem dX6_init_107 : decode cX6_init 107 = .ok (.putfield 48, 3) := by decide +kernel
theorem dX6_init_110 : decode cX6_init 110 = .ok (.aload_n 0, 1) := by decide +kernel
theorem dX6_init_111 : decode cX6_init 111 = .ok (.new 52, 3) := by decide +kernel
theorem dX6_init_114 : decode cX6_init 114 = .ok (.dup, 1) := by decide +kernel
theorem dX6_init_115 : decode cX6_init 115 = .ok (.aload_n 1, 1) := by decide +kernel
theorem dX6_init_116 : decode cX6_init 116 = .ok (.invokespecial 54, 3) := by decide +kernel
theorem dX6_init_119 : decode cX6_init 119 = .ok (.putfield 57, 3) := by decide +kernel
theorem dX6_init_122 : decode cX6_init 122 = .ok (.return_, 1) := by decide +kernel
theorem dX6_place_0 : decode cX6_place 0 = .ok (.aload_n 0, 1) := by decide +kernel
theorem dX6_place_1 : decode cX6_place 1 = .ok (.getfield 57, 3) := by decide +kernel
theorem dX6_place_4 : decode cX6_place 4 = .ok (.invokevirtual 61, 3) := by decide +kernel
theorem dX6_place_7 : decode cX6_place 7 = .ok (.ireturn, 1) := by decide +kernel
theorem dX6_findFault_0 : decode cX6_findFault 0 = .ok (.aload_n 0, 1) := by decide +kernel
theorem dX6_findFault_1 : decode cX6_findFault 1 = .ok (.getfield 57, 3) := by decide +kernel
theorem dX6_findFault_4 : decode cX6_findFault 4 = .ok (.invokevirtual 65, 3) := by decide +kernel
theorem dX6_findFault_7 : decode cX6_findFault 7 = .ok (.aload_n 0, 1) := by decide +kernel
theorem dX6_findFault_8 : decode cX6_findFault 8 = .ok (.getfield 14, 3) := by decide +kernel
theorem dX6_findFault_11 : decode cX6_findFault 11 = .ok (.iconst 0, 1) := by decide +kernel
theorem dX6_findFault_12 : decode cX6_findFault 12 = .ok (.invokevirtual 68, 3) := by decide +kernel
theorem dX6_findFault_15 : decode cX6_findFault 15 = .ok (.aload_n 0, 1) := by decide +kernel
theorem dX6_findFault_16 : decode cX6_findFault 16 = .ok (.getfield 20, 3) := by decide +kernel
theorem dX6_findFault_19 : decode cX6_findFault 19 = .ok (.iconst 0, 1) := by decide +kernel
theorem dX6_findFault_20 : decode cX6_findFault 20 = .ok (.invokevirtual 68, 3) := by decide +kernel
theorem dX6_findFault_23 : decode cX6_findFault 23 = .ok (.aload_n 0, 1) := by decide +kernel
theorem dX6_findFault_24 : decode cX6_findFault 24 = .ok (.getfield 26, 3) := by decide +kernel
theorem dX6_findFault_27 : decode cX6_findFault 27 = .ok (.iconst 0, 1) := by decide +kernel
theorem dX6_findFault_28 : decode cX6_findFault 28 = .ok (.invokevirtual 68, 3) := by decide +kernel
theorem dX6_findFault_31 : decode cX6_findFault 31 = .ok (.aload_n 0, 1) := by decide +kernel
theorem dX6_findFault_32 : decode cX6_findFault 32 = .ok (.iconst 0, 1) := by decide +kernel
theorem dX6_findFault_33 : decode cX6_findFault 33 = .ok (.putfield 45, 3) := by decide +kernel
theorem dX6_findFault_36 : decode cX6_findFault 36 = .ok (.aload_n 0, 1) := by decide +kernel
theorem dX6_findFault_37 : decode cX6_findFault 37 = .ok (.iconst 0, 1) := by decide +kernel
theorem dX6_findFault_38 : decode cX6_findFault 38 = .ok (.putfield 48, 3) := by decide +kernel
theorem dX6_findFault_41 : decode cX6_findFault 41 = .ok (.aload_n 0, 1) := by decide +kernel
theorem dX6_findFault_42 : decode cX6_findFault 42 = .ok (.invokevirtual 72, 3) := by decide +kernel
theorem dX6_findFault_45 : decode cX6_findFault 45 = .ok (.iconst 0, 1) := by decide +kernel
theorem dX6_findFault_46 : decode cX6_findFault 46 = .ok (.istore_n 1, 1) := by decide +kernel
theorem dX6_findFault_47 : decode cX6_findFault 47 = .ok (.iload_n 1, 1) := by decide +kernel
theorem dX6_findFault_48 : decode cX6_findFault 48 = .ok (.sipush 700, 3) := by decide +kernel
theorem dX6_findFault_51 : decode cX6_findFault 51 = .ok (.if_icmp .gt 37, 3) := by decide +kernel
theorem dX6_findFault_54 : decode cX6_findFault 54 = .ok (.aload_n 0, 1) := by decide +kernel
theorem dX6_findFault_55 : decode cX6_findFault 55 = .ok (.getfield 57, 3) := by decide +kernel
theorem dX6_findFault_58 : decode cX6_findFault 58 = .ok (.invokevirtual 75, 3) := by decide +kernel
theorem dX6_findFault_61 : decode cX6_findFault 61 = .ok (.aload_n 0, 1) := by decide +kernel
theorem dX6_findFault_62 : decode cX6_findFault 62 = .ok (.invokevirtual 78, 3) := by decide +kernel
theorem dX6_findFault_65 : decode cX6_findFault 65 = .ok (.istore_n 2, 1) := by decide +kernel
theorem dX6_findFault_66 : decode cX6_findFault 66 = .ok (.iload_n 2, 1) := by decide +kernel
theorem dX6_findFault_67 : decode cX6_findFault 67 = .ok (.ifCond .ne 13, 3) := by decide +kernel
theorem dX6_findFault_70 : decode cX6_findFault 70 = .ok (.aload_n 0, 1) := by decide +kernel
theorem dX6_findFault_71 : decode cX6_findFault 71 = .ok (.getfield 57, 3) := by decide +kernel
theorem dX6_findFault_74 : decode cX6_findFault 74 = .ok (.invokevirtual 81, 3) := by decide +kernel
theorem dX6_findFault_77 : decode cX6_findFault 77 = .ok (.ifCond .ne 5, 3) := by decide +kernel
theorem dX6_findFault_80 : decode cX6_findFault 80 = .ok (.iload_n 2, 1) := by decide +kernel
theorem dX6_findFault_81 : decode cX6_findFault 81 = .ok (.ireturn, 1) := by decide +kernel
theorem dX6_findFault_82 : decode cX6_findFault 82 = .ok (.iinc 1 1, 3) := by decide +kernel
theorem dX6_findFault_85 : decode cX6_findFault 85 = .ok (.goto (-38), 3) := by decide +kernel
theorem dX6_findFault_88 : decode cX6_findFault 88 = .ok (.iconst 1, 1) := by decide +kernel
theorem dX6_findFault_89 : decode cX6_findFault 89 = .ok (.ireturn, 1) := by decide +kernel
theorem dX6_putTerm_0 : decode cX6_putTerm 0 = .ok (.aload_n 1, 1) := by decide +kernel
theorem dX6_putTerm_1 : decode cX6_putTerm 1 = .ok (.iconst 0, 1) := by decide +kernel
theorem dX6_putTerm_2 : decode cX6_putTerm 2 = .ok (.invokevirtual 68, 3) := by decide +kernel
theorem dX6_putTerm_5 : decode cX6_putTerm 5 = .ok (.aload_n 0, 1) := by decide +kernel
theorem dX6_putTerm_6 : decode cX6_putTerm 6 = .ok (.aload_n 0, 1) := by decide +kernel
theorem dX6_putTerm_7 : decode cX6_putTerm 7 = .ok (.getfield 42, 3) := by decide +kernel
theorem dX6_putTerm_10 : decode cX6_putTerm 10 = .ok (.aload_n 0, 1) := by decide +kernel
theorem dX6_putTerm_11 : decode cX6_putTerm 11 = .ok (.getfield 14, 3) := by decide +kernel
theorem dX6_putTerm_14 : decode cX6_putTerm 14 = .ok (.invokevirtual 84, 3) := by decide +kernel
theorem dX6_putTerm_17 : decode cX6_putTerm 17 = .ok (.invokevirtual 87, 3) := by decide +kernel
theorem dX6_putTerm_20 : decode cX6_putTerm 20 = .ok (.bipush 120, 2) := by decide +kernel
theorem dX6_putTerm_22 : decode cX6_putTerm 22 = .ok (.if_icmp .le 5, 3) := by decide +kernel
theorem dX6_putTerm_25 : decode cX6_putTerm 25 = .ok (.iconst 0, 1) := by decide +kernel
theorem dX6_putTerm_26 : decode cX6_putTerm 26 = .ok (.ireturn, 1) := by decide +kernel
theorem dX6_putTerm_27 : decode cX6_putTerm 27 = .ok (.aload_n 0, 1) := by decide +kernel
theorem dX6_putTerm_28 : decode cX6_putTerm 28 = .ok (.getfield 29, 3) := by decide +kernel
theorem dX6_putTerm_31 : decode cX6_putTerm 31 = .ok (.iconst 0, 1) := by decide +kernel
theorem dX6_putTerm_32 : decode cX6_putTerm 32 = .ok (.invokevirtual 68, 3) := by decide +kernel
theorem dX6_putTerm_35 : decode cX6_putTerm 35 = .ok (.aload_n 0, 1) := by decide +kernel
theorem dX6_putTerm_36 : decode cX6_putTerm 36 = .ok (.getfield 42, 3) := by decide +kernel
theorem dX6_putTerm_39 : decode cX6_putTerm 39 = .ok (.istore_n 2, 1) := by decide +kernel
theorem dX6_putTerm_40 : decode cX6_putTerm 40 = .ok (.aload_n 0, 1) := by decide +kernel
theorem dX6_putTerm_41 : decode cX6_putTerm 41 = .ok (.getfield 14, 3) := by decide +kernel
theorem dX6_putTerm_44 : decode cX6_putTerm 44 = .ok (.invokevirtual 84, 3) := by decide +kernel
theorem dX6_putTerm_47 : decode cX6_putTerm 47 = .ok (.istore_n 3, 1) := by decide +kernel
theorem dX6_putTerm_48 : decode cX6_putTerm 48 = .ok (.iconst 0, 1) := by decide +kernel
theorem dX6_putTerm_49 : decode cX6_putTerm 49 = .ok (.istore 4, 2) := by decide +kernel
theorem dX6_putTerm_51 : decode cX6_putTerm 51 = .ok (.iload 4, 2) := by decide +kernel
theorem dX6_putTerm_53 : decode cX6_putTerm 53 = .ok (.sipush 12000, 3) := by decide +kernel
theorem dX6_putTerm_56 : decode cX6_putTerm 56 = .ok (.if_icmp .ge 143, 3) := by decide +kernel
theorem dX6_putTerm_59 : decode cX6_putTerm 59 = .ok (.iload_n 2, 1) := by decide +kernel
theorem dX6_putTerm_60 : decode cX6_putTerm 60 = .ok (.iload_n 3, 1) := by decide +kernel
theorem dX6_putTerm_61 : decode cX6_putTerm 61 = .ok (.if_icmp .lt 34, 3) := by decide +kernel
theorem dX6_putTerm_64 : decode cX6_putTerm 64 = .ok (.aload_n 0, 1) := by decide +kernel
theorem dX6_putTerm_65 : decode cX6_putTerm 65 = .ok (.getfield 29, 3) := by decide +kernel
theorem dX6_putTerm_68 : decode cX6_putTerm 68 = .ok (.invokevirtual 84, 3) := by decide +kernel
theorem dX6_putTerm_71 : decode cX6_putTerm 71 = .ok (.ifCond .ne 5, 3) := by decide +kernel
theorem dX6_putTerm_74 : decode cX6_putTerm 74 = .ok (.iconst 1, 1) := by decide +kernel
theorem dX6_putTerm_75 : decode cX6_putTerm 75 = .ok (.ireturn, 1) := by decide +kernel
theorem dX6_putTerm_76 : decode cX6_putTerm 76 = .ok (.aload_n 0, 1) := by decide +kernel
theorem dX6_putTerm_77 : decode cX6_putTerm 77 = .ok (.getfield 29, 3) := by decide +kernel
theorem dX6_putTerm_80 : decode cX6_putTerm 80 = .ok (.invokevirtual 91, 3) := by decide +kernel
theorem dX6_putTerm_83 : decode cX6_putTerm 83 = .ok (.istore_n 3, 1) := by decide +kernel
theorem dX6_putTerm_84 : decode cX6_putTerm 84 = .ok (.aload_n 0, 1) := by decide +kernel
theorem dX6_putTerm_85 : decode cX6_putTerm 85 = .ok (.getfield 29, 3) := by decide +kernel
theorem dX6_putTerm_88 : decode cX6_putTerm 88 = .ok (.invokevirtual 91, 3) := by decide +kernel
theorem dX6_putTerm_91 : decode cX6_putTerm 91 = .ok (.istore_n 2, 1) := by decide +kernel
theorem dX6_putTerm_92 : decode cX6_putTerm 92 = .ok (.goto 101, 3) := by decide +kernel
theorem dX6_putTerm_95 : decode cX6_putTerm 95 = .ok (.aload_n 0, 1) := by decide +kernel
theorem dX6_putTerm_96 : decode cX6_putTerm 96 = .ok (.getfield 14, 3) := by decide +kernel
theorem dX6_putTerm_99 : decode cX6_putTerm 99 = .ok (.iload_n 2, 1) := by decide +kernel
theorem dX6_putTerm_100 : decode cX6_putTerm 100 = .ok (.invokevirtual 94, 3) := by decide +kernel
theorem dX6_putTerm_103 : decode cX6_putTerm 103 = .ok (.istore 5, 2) := by decide +kernel
theorem dX6_putTerm_105 : decode cX6_putTerm 105 = .ok (.iinc 2 1, 3) := by decide +kernel
theorem dX6_putTerm_108 : decode cX6_putTerm 108 = .ok (.iload 5, 2) := by decide +kernel
theorem dX6_putTerm_110 : decode cX6_putTerm 110 = .ok (.iconst (-1), 1) := by decide +kernel
theorem dX6_putTerm_111 : decode cX6_putTerm 111 = .ok (.if_icmp .le 13, 3) := by decide +kernel
theorem dX6_putTerm_114 : decode cX6_putTerm 114 = .ok (.aload_n 1, 1) := by decide +kernel
theorem dX6_putTerm_115 : decode cX6_putTerm 115 = .ok (.iload 5, 2) := by decide +kernel
theorem dX6_putTerm_117 : decode cX6_putTerm 117 = .ok (.invokevirtual 98, 3) := by decide +kernel
theorem dX6_putTerm_120 : decode cX6_putTerm 120 = .ok (.pop, 1) := by decide +kernel
theorem dX6_putTerm_121 : decode cX6_putTerm 121 = .ok (.goto 72, 3) := by decide +kernel
theorem dX6_putTerm_124 : decode cX6_putTerm 124 = .ok (.iload 5, 2) := by decide +kernel
theorem dX6_putTerm_126 : decode cX6_putTerm 126 = .ok (.bipush (-11), 2) := by decide +kernel
theorem dX6_putTerm_128 : decode cX6_putTerm 128 = .ok (.if_icmp .le 14, 3) := by decide +kernel
theorem dX6_putTerm_131 : decode cX6_putTerm 131 = .ok (.iconst (-1), 1) := by decide +kernel
theorem dX6_putTerm_132 : decode cX6_putTerm 132 = .ok (.iload 5, 2) := by decide +kernel
theorem dX6_putTerm_134 : decode cX6_putTerm 134 = .ok (.isub, 1) := by decide +kernel
theorem dX6_putTerm_135 : decode cX6_putTerm 135 = .ok (.aload_n 1, 1) := by decide +kernel
theorem dX6_putTerm_136 : decode cX6_putTerm 136 = .ok (.invokestatic 102, 3) := by decide +kernel
theorem dX6_putTerm_139 : decode cX6_putTerm 139 = .ok (.goto 54, 3) := by decide +kernel
theorem dX6_putTerm_142 : decode cX6_putTerm 142 = .ok (.aload_n 0, 1) := by decide +kernel
theorem dX6_putTerm_143 : decode cX6_putTerm 143 = .ok (.getfield 29, 3) := by decide +kernel
theorem dX6_putTerm_146 : decode cX6_putTerm 146 = .ok (.iload_n 2, 1) := by decide +kernel
theorem dX6_putTerm_147 : decode cX6_putTerm 147 = .ok (.invokevirtual 98, 3) := by decide +kernel
theorem dX6_putTerm_150 : decode cX6_putTerm 150 = .ok (.pop, 1) := by decide +kernel
theorem dX6_putTerm_151 : decode cX6_putTerm 151 = .ok (.aload_n 0, 1) := by decide +kernel
theorem dX6_putTerm_152 : decode cX6_putTerm 152 = .ok (.getfield 29, 3) := by decide +kernel
theorem dX6_putTerm_155 : decode cX6_putTerm 155 = .ok (.iload_n 3, 1) := by decide +kernel
theorem dX6_putTerm_156 : decode cX6_putTerm 156 = .ok (.invokevirtual 98, 3) := by decide +kernel
theorem dX6_putTerm_159 : decode cX6_putTerm 159 = .ok (.pop, 1) := by decide +kernel
theorem dX6_putTerm_160 : decode cX6_putTerm 160 = .ok (.iconst 5, 1) := by decide +kernel
theorem dX6_putTerm_161 : decode cX6_putTerm 161 = .ok (.bipush (-11), 2) := by decide +kernel
theorem dX6_putTerm_163 : decode cX6_putTerm 163 = .ok (.iload 5, 2) := by decide +kernel
theorem dX6_putTerm_165 : decode cX6_putTerm 165 = .ok (.isub, 1) := by decide +kernel
theorem dX6_putTerm_166 : decode cX6_putTerm 166 = .ok (.imul, 1) := by decide +kernel
theorem dX6_putTerm_167 : decode cX6_putTerm 167 = .ok (.istore 6, 2) := by decide +kernel
theorem dX6_putTerm_169 : decode cX6_putTerm 169 = .ok (.aload_n 0, 1) := by decide +kernel
theorem dX6_putTerm_170 : decode cX6_putTerm 170 = .ok (.getfield 20, 3) := by decide +kernel
theorem dX6_putTerm_173 : decode cX6_putTerm 173 = .ok (.iload 6, 2) := by decide +kernel
theorem dX6_putTerm_175 : decode cX6_putTerm 175 = .ok (.iconst 2, 1) := by decide +kernel
theorem dX6_putTerm_176 : decode cX6_putTerm 176 = .ok (.iadd, 1) := by decide +kernel
theorem dX6_putTerm_177 : decode cX6_putTerm 177 = .ok (.invokevirtual 94, 3) := by decide +kernel
theorem dX6_putTerm_180 : decode cX6_putTerm 180 = .ok (.istore_n 2, 1) := by decide +kernel
theorem dX6_putTerm_181 : decode cX6_putTerm 181 = .ok (.aload_n 0, 1) := by decide +kernel
theorem dX6_putTerm_182 : decode cX6_putTerm 182 = .ok (.getfield 20, 3) := by decide +kernel
theorem dX6_putTerm_185 : decode cX6_putTerm 185 = .ok (.iload 6, 2) := by decide +kernel
theorem dX6_putTerm_187 : decode cX6_putTerm 187 = .ok (.iconst 3, 1) := by decide +kernel
theorem dX6_putTerm_188 : decode cX6_putTerm 188 = .ok (.iadd, 1) := by decide +kernel
theorem dX6_putTerm_189 : decode cX6_putTerm 189 = .ok (.invokevirtual 94, 3) := by decide +kernel
theorem dX6_putTerm_192 : decode cX6_putTerm 192 = .ok (.istore_n 3, 1) := by decide +kernel
theorem dX6_putTerm_193 : decode cX6_putTerm 193 = .ok (.iinc 4 1, 3) := by decide +kernel
theorem dX6_putTerm_196 : decode cX6_putTerm 196 = .ok (.goto (-145), 3) := by decide +kernel
theorem dX6_putTerm_199 : decode cX6_putTerm 199 = .ok (.iconst 0, 1) := by decide +kernel
theorem dX6_putTerm_200 : decode cX6_putTerm 200 = .ok (.ireturn, 1) := by decide +kernel
theorem dX6_putNumber_0 : decode cX6_putNumber 0 = .ok (.aload_n 1, 1) := by decide +kernel
theorem dX6_putNumber_1 : decode cX6_putNumber 1 = .ok (.iconst 1, 1) := by decide +kernel
theorem dX6_putNumber_2 : decode cX6_putNumber 2 = .ok (.invokevirtual 98, 3) := by decide +kernel
theorem dX6_putNumber_5 : decode cX6_putNumber 5 = .ok (.pop, 1) := by decide +kernel
theorem dX6_putNumber_6 : decode cX6_putNumber 6 = .ok (.aload_n 1, 1) := by decide +kernel
theorem dX6_putNumber_7 : decode cX6_putNumber 7 = .ok (.iconst 1, 1) := by decide +kernel
theorem dX6_putNumber_8 : decode cX6_putNumber 8 = .ok (.invokevirtual 98, 3) := by decide +kernel
theorem dX6_putNumber_11 : decode cX6_putNumber 11 = .ok (.pop, 1) := by decide +kernel
theorem dX6_putNumber_12 : decode cX6_putNumber 12 = .ok (.iconst 0, 1) := by decide +kernel
theorem dX6_putNumber_13 : decode cX6_putNumber 13 = .ok (.istore_n 2, 1) := by decide +kernel
theorem dX6_putNumber_14 : decode cX6_putNumber 14 = .ok (.iload_n 2, 1) := by decide +kernel
theorem dX6_putNumber_15 : decode cX6_putNumber 15 = .ok (.iload_n 0, 1) := by decide +kernel
theorem dX6_putNumber_16 : decode cX6_putNumber 16 = .ok (.if_icmp .ge 21, 3) := by decide +kernel
theorem dX6_putNumber_19 : decode cX6_putNumber 19 = .ok (.aload_n 1, 1) := by decide +kernel
theorem dX6_putNumber_20 : decode cX6_putNumber 20 = .ok (.iconst 0, 1) := by decide +kernel
theorem dX6_putNumber_21 : decode cX6_putNumber 21 = .ok (.invokevirtual 98, 3) := by decide +kernel
theorem dX6_putNumber_24 : decode cX6_putNumber 24 = .ok (.pop, 1) := by decide +kernel
theorem dX6_putNumber_25 : decode cX6_putNumber 25 = .ok (.aload_n 1, 1) := by decide +kernel
theorem dX6_putNumber_26 : decode cX6_putNumber 26 = .ok (.iconst 3, 1) := by decide +kernel
theorem dX6_putNumber_27 : decode cX6_putNumber 27 = .ok (.invokevirtual 98, 3) := by decide +kernel
theorem dX6_putNumber_30 : decode cX6_putNumber 30 = .ok (.pop, 1) := by decide +kernel
theorem dX6_putNumber_31 : decode cX6_putNumber 31 = .ok (.iinc 2 1, 3) := by decide +kernel
theorem dX6_putNumber_34 : decode cX6_putNumber 34 = .ok (.goto (-20), 3) := by decide +kernel
theorem dX6_putNumber_37 : decode cX6_putNumber 37 = .ok (.aload_n 1, 1) := by decide +kernel
theorem dX6_putNumber_38 : decode cX6_putNumber 38 = .ok (.iconst 2, 1) := by decide +kernel
theorem dX6_putNumber_39 : decode cX6_putNumber 39 = .ok (.invokevirtual 98, 3) := by decide +kernel
theorem dX6_putNumber_42 : decode cX6_putNumber 42 = .ok (.pop, 1) := by decide +kernel
theorem dX6_putNumber_43 : decode cX6_putNumber 43 = .ok (.return_, 1) := by decide +kernel
theorem dX6_partsOf_0 : decode cX6_partsOf 0 = .ok (.iconst 0, 1) := by decide +kernel
theorem dX6_partsOf_1 : decode cX6_partsOf 1 = .ok (.istore_n 3, 1) := by decide +kernel
theorem dX6_partsOf_2 : decode cX6_partsOf 2 = .ok (.iload_n 1, 1) := by decide +kernel
theorem dX6_partsOf_3 : decode cX6_partsOf 3 = .ok (.istore 4, 2) := by decide +kernel
theorem dX6_partsOf_5 : decode cX6_partsOf 5 = .ok (.iload 4, 2) := by decide +kernel
theorem dX6_partsOf_7 : decode cX6_partsOf 7 = .ok (.iload_n 2, 1) := by decide +kernel
theorem dX6_partsOf_8 : decode cX6_partsOf 8 = .ok (.if_icmp .ge 78, 3) := by decide +kernel
theorem dX6_partsOf_11 : decode cX6_partsOf 11 = .ok (.iload_n 3, 1) := by decide +kernel
theorem dX6_partsOf_12 : decode cX6_partsOf 12 = .ok (.bipush 120, 2) := by decide +kernel
theorem dX6_partsOf_14 : decode cX6_partsOf 14 = .ok (.if_icmp .gt 72, 3) := by decide +kernel
theorem dX6_partsOf_17 : decode cX6_partsOf 17 = .ok (.aload_n 0, 1) := by decide +kernel
theorem dX6_partsOf_18 : decode cX6_partsOf 18 = .ok (.getfield 14, 3) := by decide +kernel
theorem dX6_partsOf_21 : decode cX6_partsOf 21 = .ok (.iload 4, 2) := by decide +kernel
theorem dX6_partsOf_23 : decode cX6_partsOf 23 = .ok (.invokevirtual 94, 3) := by decide +kernel
theorem dX6_partsOf_26 : decode cX6_partsOf 26 = .ok (.istore 5, 2) := by decide +kernel
theorem dX6_partsOf_28 : decode cX6_partsOf 28 = .ok (.iload 5, 2) := by decide +kernel
theorem dX6_partsOf_30 : decode cX6_partsOf 30 = .ok (.iconst (-1), 1) := by decide +kernel
theorem dX6_partsOf_31 : decode cX6_partsOf 31 = .ok (.if_icmp .le 9, 3) := by decide +kernel
theorem dX6_partsOf_34 : decode cX6_partsOf 34 = .ok (.iinc 3 1, 3) := by decide +kernel
theorem dX6_partsOf_37 : decode cX6_partsOf 37 = .ok (.goto 43, 3) := by decide +kernel
theorem dX6_partsOf_40 : decode cX6_partsOf 40 = .ok (.iload 5, 2) := by decide +kernel
theorem dX6_partsOf_42 : decode cX6_partsOf 42 = .ok (.bipush (-11), 2) := by decide +kernel
theorem dX6_partsOf_44 : decode cX6_partsOf 44 = .ok (.if_icmp .le 17, 3) := by decide +kernel
theorem dX6_partsOf_47 : decode cX6_partsOf 47 = .ok (.iload_n 3, 1) := by decide +kernel
theorem dX6_partsOf_48 : decode cX6_partsOf 48 = .ok (.iconst 3, 1) := by decide +kernel
theorem dX6_partsOf_49 : decode cX6_partsOf 49 = .ok (.iconst 2, 1) := by decide +kernel
theorem dX6_partsOf_50 : decode cX6_partsOf 50 = .ok (.iconst (-1), 1) := by decide +kernel
theorem dX6_partsOf_51 : decode cX6_partsOf 51 = .ok (.iload 5, 2) := by decide +kernel
theorem dX6_partsOf_53 : decode cX6_partsOf 53 = .ok (.isub, 1) := by decide +kernel
theorem dX6_partsOf_54 : decode cX6_partsOf 54 = .ok (.imul, 1) := by decide +kernel
theorem dX6_partsOf_55 : decode cX6_partsOf 55 = .ok (.iadd, 1) := by decide +kernel
theorem dX6_partsOf_56 : decode cX6_partsOf 56 = .ok (.iadd, 1) := by decide +kernel
theorem dX6_partsOf_57 : decode cX6_partsOf 57 = .ok (.istore_n 3, 1) := by decide +kernel
theorem dX6_partsOf_58 : decode cX6_partsOf 58 = .ok (.goto 22, 3) := by decide +kernel
theorem dX6_partsOf_61 : decode cX6_partsOf 61 = .ok (.iload_n 3, 1) := by decide +kernel
theorem dX6_partsOf_62 : decode cX6_partsOf 62 = .ok (.aload_n 0, 1) := by decide +kernel
theorem dX6_partsOf_63 : decode cX6_partsOf 63 = .ok (.getfield 20, 3) := by decide +kernel
theorem dX6_partsOf_66 : decode cX6_partsOf 66 = .ok (.iconst 5, 1) := by decide +kernel
theorem dX6_partsOf_67 : decode cX6_partsOf 67 = .ok (.bipush (-11), 2) := by decide +kernel
theorem dX6_partsOf_69 : decode cX6_partsOf 69 = .ok (.iload 5, 2) := by decide +kernel
theorem dX6_partsOf_71 : decode cX6_partsOf 71 = .ok (.isub, 1) := by decide +kernel
theorem dX6_partsOf_72 : decode cX6_partsOf 72 = .ok (.imul, 1) := by decide +kernel
theorem dX6_partsOf_73 : decode cX6_partsOf 73 = .ok (.iconst 4, 1) := by decide +kernel
theorem dX6_partsOf_74 : decode cX6_partsOf 74 = .ok (.iadd, 1) := by decide +kernel
theorem dX6_partsOf_75 : decode cX6_partsOf 75 = .ok (.invokevirtual 94, 3) := by decide +kernel
theorem dX6_partsOf_78 : decode cX6_partsOf 78 = .ok (.iadd, 1) := by decide +kernel
theorem dX6_partsOf_79 : decode cX6_partsOf 79 = .ok (.istore_n 3, 1) := by decide +kernel
theorem dX6_partsOf_80 : decode cX6_partsOf 80 = .ok (.iinc 4 1, 3) := by decide +kernel
theorem dX6_partsOf_83 : decode cX6_partsOf 83 = .ok (.goto (-78), 3) := by decide +kernel
theorem dX6_partsOf_86 : decode cX6_partsOf 86 = .ok (.iload_n 3, 1) := by decide +kernel
theorem dX6_partsOf_87 : decode cX6_partsOf 87 = .ok (.ireturn, 1) := by decide +kernel
theorem dX6_take_0 : decode cX6_take 0 = .ok (.aload_n 0, 1) := by decide +kernel
theorem dX6_take_1 : decode cX6_take 1 = .ok (.getfield 57, 3) := by decide +kernel
theorem dX6_take_4 : decode cX6_take 4 = .ok (.invokevirtual 81, 3) := by decide +kernel
theorem dX6_take_7 : decode cX6_take 7 = .ok (.lookupswitch 128 #[(0, 108), (40, 83), (41, 88), (46, 98), (48, 78), (59, 103), (92, 93), (97, 73)], 73) := by decide +kernel
theorem dX6_take_80 : decode cX6_take 80 = .ok (.aload_n 0, 1) := by decide +kernel
theorem dX6_take_81 : decode cX6_take 81 = .ok (.invokevirtual 106, 3) := by decide +kernel
theorem dX6_take_84 : decode cX6_take 84 = .ok (.ireturn, 1) := by decide +kernel
theorem dX6_take_85 : decode cX6_take 85 = .ok (.aload_n 0, 1) := by decide +kernel
theorem dX6_take_86 : decode cX6_take 86 = .ok (.invokevirtual 109, 3) := by decide +kernel
theorem dX6_take_89 : decode cX6_take 89 = .ok (.ireturn, 1) := by decide +kernel
theorem dX6_take_90 : decode cX6_take 90 = .ok (.aload_n 0, 1) := by decide +kernel
theorem dX6_take_91 : decode cX6_take 91 = .ok (.invokevirtual 112, 3) := by decide +kernel
theorem dX6_take_94 : decode cX6_take 94 = .ok (.ireturn, 1) := by decide +kernel
theorem dX6_take_95 : decode cX6_take 95 = .ok (.aload_n 0, 1) := by decide +kernel
theorem dX6_take_96 : decode cX6_take 96 = .ok (.invokevirtual 115, 3) := by decide +kernel
theorem dX6_take_99 : decode cX6_take 99 = .ok (.ireturn, 1) := by decide +kernel
theorem dX6_take_100 : decode cX6_take 100 = .ok (.aload_n 0, 1) := by decide +kernel
theorem dX6_take_101 : decode cX6_take 101 = .ok (.invokevirtual 118, 3) := by decide +kernel
theorem dX6_take_104 : decode cX6_take 104 = .ok (.ireturn, 1) := by decide +kernel
theorem dX6_take_105 : decode cX6_take 105 = .ok (.aload_n 0, 1) := by decide +kernel
theorem dX6_take_106 : decode cX6_take 106 = .ok (.invokevirtual 121, 3) := by decide +kernel
theorem dX6_take_109 : decode cX6_take 109 = .ok (.ireturn, 1) := by decide +kernel
theorem dX6_take_110 : decode cX6_take 110 = .ok (.aload_n 0, 1) := by decide +kernel
theorem dX6_take_111 : decode cX6_take 111 = .ok (.invokevirtual 124, 3) := by decide +kernel
theorem dX6_take_114 : decode cX6_take 114 = .ok (.ireturn, 1) := by decide +kernel
theorem dX6_take_115 : decode cX6_take 115 = .ok (.aload_n 0, 1) := by decide +kernel
theorem dX6_take_116 : decode cX6_take 116 = .ok (.invokevirtual 127, 3) := by decide +kernel
theorem dX6_take_119 : decode cX6_take 119 = .ok (.ifCond .eq 14, 3) := by decide +kernel
theorem dX6_take_122 : decode cX6_take 122 = .ok (.aload_n 0, 1) := by decide +kernel
theorem dX6_take_123 : decode cX6_take 123 = .ok (.getfield 48, 3) := by decide +kernel
theorem dX6_take_126 : decode cX6_take 126 = .ok (.ifCond .ne 7, 3) := by decide +kernel
theorem dX6_take_129 : decode cX6_take 129 = .ok (.iconst 0, 1) := by decide +kernel
theorem dX6_take_130 : decode cX6_take 130 = .ok (.goto 4, 3) := by decide +kernel
theorem dX6_take_133 : decode cX6_take 133 = .ok (.iconst 1, 1) := by decide +kernel
theorem dX6_take_134 : decode cX6_take 134 = .ok (.ireturn, 1) := by decide +kernel
theorem dX6_take_135 : decode cX6_take 135 = .ok (.iconst 1, 1) := by decide +kernel
theorem dX6_take_136 : decode cX6_take 136 = .ok (.ireturn, 1) := by decide +kernel
theorem dX6_takeWord_0 : decode cX6_takeWord 0 = .ok (.aload_n 0, 1) := by decide +kernel
theorem dX6_takeWord_1 : decode cX6_takeWord 1 = .ok (.getfield 57, 3) := by decide +kernel
theorem dX6_takeWord_4 : decode cX6_takeWord 4 = .ok (.invokevirtual 131, 3) := by decide +kernel
theorem dX6_takeWord_7 : decode cX6_takeWord 7 = .ok (.aload_n 0, 1) := by decide +kernel
theorem dX6_takeWord_8 : decode cX6_takeWord 8 = .ok (.getfield 57, 3) := by decide +kernel
theorem dX6_takeWord_11 : decode cX6_takeWord 11 = .ok (.invokevirtual 61, 3) := by decide +kernel
theorem dX6_takeWord_14 : decode cX6_takeWord 14 = .ok (.isub, 1) := by decide +kernel
theorem dX6_takeWord_15 : decode cX6_takeWord 15 = .ok (.bipush 8, 2) := by decide +kernel
theorem dX6_takeWord_17 : decode cX6_takeWord 17 = .ok (.if_icmp .le 5, 3) := by decide +kernel
theorem dX6_takeWord_20 : decode cX6_takeWord 20 = .ok (.iconst 2, 1) := by decide +kernel
theorem dX6_takeWord_21 : decode cX6_takeWord 21 = .ok (.ireturn, 1) := by decide +kernel
theorem dX6_takeWord_22 : decode cX6_takeWord 22 = .ok (.aload_n 0, 1) := by decide +kernel
theorem dX6_takeWord_23 : decode cX6_takeWord 23 = .ok (.getfield 32, 3) := by decide +kernel
theorem dX6_takeWord_26 : decode cX6_takeWord 26 = .ok (.iconst 2, 1) := by decide +kernel
theorem dX6_takeWord_27 : decode cX6_takeWord 27 = .ok (.if_icmp .eq 11, 3) := by decide +kernel
theorem dX6_takeWord_30 : decode cX6_takeWord 30 = .ok (.aload_n 0, 1) := by decide +kernel
theorem dX6_takeWord_31 : decode cX6_takeWord 31 = .ok (.getfield 32, 3) := by decide +kernel
theorem dX6_takeWord_34 : decode cX6_takeWord 34 = .ok (.iconst 3, 1) := by decide +kernel
theorem dX6_takeWord_35 : decode cX6_takeWord 35 = .ok (.if_icmp .ne 8, 3) := by decide +kernel
theorem dX6_takeWord_38 : decode cX6_takeWord 38 = .ok (.aload_n 0, 1) := by decide +kernel
theorem dX6_takeWord_39 : decode cX6_takeWord 39 = .ok (.invokevirtual 134, 3) := by decide +kernel
theorem dX6_takeWord_42 : decode cX6_takeWord 42 = .ok (.ireturn, 1) := by decide +kernel
theorem dX6_takeWord_43 : decode cX6_takeWord 43 = .ok (.aload_n 0, 1) := by decide +kernel
theorem dX6_takeWord_44 : decode cX6_takeWord 44 = .ok (.invokevirtual 137, 3) := by decide +kernel
theorem dX6_takeWord_47 : decode cX6_takeWord 47 = .ok (.istore_n 1, 1) := by decide +kernel
theorem dX6_takeWord_48 : decode cX6_takeWord 48 = .ok (.aload_n 0, 1) := by decide +kernel
theorem dX6_takeWord_49 : decode cX6_takeWord 49 = .ok (.getfield 32, 3) := by decide +kernel
theorem dX6_takeWord_52 : decode cX6_takeWord 52 = .ok (.ifCond .ne 28, 3) := by decide +kernel
theorem dX6_takeWord_55 : decode cX6_takeWord 55 = .ok (.aload_n 0, 1) := by decide +kernel
theorem dX6_takeWord_56 : decode cX6_takeWord 56 = .ok (.getfield 57, 3) := by decide +kernel
theorem dX6_takeWord_59 : decode cX6_takeWord 59 = .ok (.invokevirtual 140, 3) := by decide +kernel
theorem dX6_takeWord_62 : decode cX6_takeWord 62 = .ok (.ifCond .eq 18, 3) := by decide +kernel
theorem dX6_takeWord_65 : decode cX6_takeWord 65 = .ok (.aload_n 0, 1) := by decide +kernel
theorem dX6_takeWord_66 : decode cX6_takeWord 66 = .ok (.iload_n 1, 1) := by decide +kernel
theorem dX6_takeWord_67 : decode cX6_takeWord 67 = .ok (.iconst (-1), 1) := by decide +kernel
theorem dX6_takeWord_68 : decode cX6_takeWord 68 = .ok (.if_icmp .eq 7, 3) := by decide +kernel
theorem dX6_takeWord_71 : decode cX6_takeWord 71 = .ok (.iconst 1, 1) := by decide +kernel
theorem dX6_takeWord_72 : decode cX6_takeWord 72 = .ok (.goto 4, 3) := by decide +kernel
theorem dX6_takeWord_75 : decode cX6_takeWord 75 = .ok (.iconst 0, 1) := by decide +kernel
theorem dX6_takeWord_76 : decode cX6_takeWord 76 = .ok (.invokevirtual 143, 3) := by decide +kernel
theorem dX6_takeWord_79 : decode cX6_takeWord 79 = .ok (.ireturn, 1) := by decide +kernel
theorem dX6_takeWord_80 : decode cX6_takeWord 80 = .ok (.aload_n 0, 1) := by decide +kernel
theorem dX6_takeWord_81 : decode cX6_takeWord 81 = .ok (.invokevirtual 147, 3) := by decide +kernel
theorem dX6_takeWord_84 : decode cX6_takeWord 84 = .ok (.istore_n 2, 1) := by decide +kernel
theorem dX6_takeWord_85 : decode cX6_takeWord 85 = .ok (.iload_n 2, 1) := by decide +kernel
theorem dX6_takeWord_86 : decode cX6_takeWord 86 = .ok (.iconst (-1), 1) := by decide +kernel
theorem dX6_takeWord_87 : decode cX6_takeWord 87 = .ok (.if_icmp .ne 10, 3) := by decide +kernel
theorem dX6_takeWord_90 : decode cX6_takeWord 90 = .ok (.iload_n 1, 1) := by decide +kernel
theorem dX6_takeWord_91 : decode cX6_takeWord 91 = .ok (.iconst (-1), 1) := by decide +kernel
theorem dX6_takeWord_92 : decode cX6_takeWord 92 = .ok (.if_icmp .ne 5, 3) := by decide +kernel
theorem dX6_takeWord_95 : decode cX6_takeWord 95 = .ok (.iconst 3, 1) := by decide +kernel
theorem dX6_takeWord_96 : decode cX6_takeWord 96 = .ok (.ireturn, 1) := by decide +kernel
theorem dX6_takeWord_97 : decode cX6_takeWord 97 = .ok (.aload_n 0, 1) := by decide +kernel
theorem dX6_takeWord_98 : decode cX6_takeWord 98 = .ok (.invokevirtual 150, 3) := by decide +kernel
theorem dX6_takeWord_101 : decode cX6_takeWord 101 = .ok (.aload_n 0, 1) := by decide +kernel
theorem dX6_takeWord_102 : decode cX6_takeWord 102 = .ok (.getfield 14, 3) := by decide +kernel
theorem dX6_takeWord_105 : decode cX6_takeWord 105 = .ok (.iload_n 2, 1) := by decide +kernel
theorem dX6_takeWord_106 : decode cX6_takeWord 106 = .ok (.iconst (-1), 1) := by decide +kernel
theorem dX6_takeWord_107 : decode cX6_takeWord 107 = .ok (.if_icmp .ne 10, 3) := by decide +kernel
theorem dX6_takeWord_110 : decode cX6_takeWord 110 = .ok (.bipush (-11), 2) := by decide +kernel
theorem dX6_takeWord_112 : decode cX6_takeWord 112 = .ok (.iload_n 1, 1) := by decide +kernel
theorem dX6_takeWord_113 : decode cX6_takeWord 113 = .ok (.isub, 1) := by decide +kernel
theorem dX6_takeWord_114 : decode cX6_takeWord 114 = .ok (.goto 6, 3) := by decide +kernel
theorem dX6_takeWord_117 : decode cX6_takeWord 117 = .ok (.iconst 2, 1) := by decide +kernel
theorem dX6_takeWord_118 : decode cX6_takeWord 118 = .ok (.iload_n 2, 1) := by decide +kernel
theorem dX6_takeWord_119 : decode cX6_takeWord 119 = .ok (.iadd, 1) := by decide +kernel
theorem dX6_takeWord_120 : decode cX6_takeWord 120 = .ok (.invokevirtual 98, 3) := by decide +kernel
theorem dX6_takeWord_123 : decode cX6_takeWord 123 = .ok (.pop, 1) := by decide +kernel
theorem dX6_takeWord_124 : decode cX6_takeWord 124 = .ok (.aload_n 0, 1) := by decide +kernel
theorem dX6_takeWord_125 : decode cX6_takeWord 125 = .ok (.iconst 4, 1) := by decide +kernel
theorem dX6_takeWord_126 : decode cX6_takeWord 126 = .ok (.putfield 32, 3) := by decide +kernel
theorem dX6_takeWord_129 : decode cX6_takeWord 129 = .ok (.iconst 0, 1) := by decide +kernel
theorem dX6_takeWord_130 : decode cX6_takeWord 130 = .ok (.ireturn, 1) := by decide +kernel
theorem dX6_takeNewName_0 : decode cX6_takeNewName 0 = .ok (.aload_n 0, 1) := by decide +kernel
theorem dX6_takeNewName_1 : decode cX6_takeNewName 1 = .ok (.getfield 45, 3) := by decide +kernel
theorem dX6_takeNewName_4 : decode cX6_takeNewName 4 = .ok (.bipush 12, 2) := by decide +kernel
theorem dX6_takeNewName_6 : decode cX6_takeNewName 6 = .ok (.if_icmp .ne 5, 3) := by decide +kernel
theorem dX6_takeNewName_9 : decode cX6_takeNewName 9 = .ok (.iconst 2, 1) := by decide +kernel
theorem dX6_takeNewName_10 : decode cX6_takeNewName 10 = .ok (.ireturn, 1) := by decide +kernel
theorem dX6_takeNewName_11 : decode cX6_takeNewName 11 = .ok (.iload_n 1, 1) := by decide +kernel
theorem dX6_takeNewName_12 : decode cX6_takeNewName 12 = .ok (.ifCond .eq 5, 3) := by decide +kernel
theorem dX6_takeNewName_15 : decode cX6_takeNewName 15 = .ok (.iconst 4, 1) := by decide +kernel
theorem dX6_takeNewName_16 : decode cX6_takeNewName 16 = .ok (.ireturn, 1) := by decide +kernel
theorem dX6_takeNewName_17 : decode cX6_takeNewName 17 = .ok (.aload_n 0, 1) := by decide +kernel
theorem dX6_takeNewName_18 : decode cX6_takeNewName 18 = .ok (.getfield 20, 3) := by decide +kernel
theorem dX6_takeNewName_21 : decode cX6_takeNewName 21 = .ok (.aload_n 0, 1) := by decide +kernel
theorem dX6_takeNewName_22 : decode cX6_takeNewName 22 = .ok (.getfield 57, 3) := by decide +kernel
theorem dX6_takeNewName_25 : decode cX6_takeNewName 25 = .ok (.invokevirtual 61, 3) := by decide +kernel
theorem dX6_takeNewName_28 : decode cX6_takeNewName 28 = .ok (.invokevirtual 98, 3) := by decide +kernel
theorem dX6_takeNewName_31 : decode cX6_takeNewName 31 = .ok (.pop, 1) := by decide +kernel
theorem dX6_takeNewName_32 : decode cX6_takeNewName 32 = .ok (.aload_n 0, 1) := by decide +kernel
theorem dX6_takeNewName_33 : decode cX6_takeNewName 33 = .ok (.getfield 20, 3) := by decide +kernel
theorem dX6_takeNewName_36 : decode cX6_takeNewName 36 = .ok (.aload_n 0, 1) := by decide +kernel
theorem dX6_takeNewName_37 : decode cX6_takeNewName 37 = .ok (.getfield 57, 3) := by decide +kernel
theorem dX6_takeNewName_40 : decode cX6_takeNewName 40 = .ok (.invokevirtual 131, 3) := by decide +kernel
theorem dX6_takeNewName_43 : decode cX6_takeNewName 43 = .ok (.invokevirtual 98, 3) := by decide +kernel
theorem dX6_takeNewName_46 : decode cX6_takeNewName 46 = .ok (.pop, 1) := by decide +kernel
theorem dX6_takeNewName_47 : decode cX6_takeNewName 47 = .ok (.aload_n 0, 1) := by decide +kernel
theorem dX6_takeNewName_48 : decode cX6_takeNewName 48 = .ok (.getfield 20, 3) := by decide +kernel
theorem dX6_takeNewName_51 : decode cX6_takeNewName 51 = .ok (.aload_n 0, 1) := by decide +kernel
theorem dX6_takeNewName_52 : decode cX6_takeNewName 52 = .ok (.getfield 14, 3) := by decide +kernel
theorem dX6_takeNewName_55 : decode cX6_takeNewName 55 = .ok (.invokevirtual 84, 3) := by decide +kernel
theorem dX6_takeNewName_58 : decode cX6_takeNewName 58 = .ok (.invokevirtual 98, 3) := by decide +kernel
theorem dX6_takeNewName_61 : decode cX6_takeNewName 61 = .ok (.pop, 1) := by decide +kernel
theorem dX6_takeNewName_62 : decode cX6_takeNewName 62 = .ok (.aload_n 0, 1) := by decide +kernel
theorem dX6_takeNewName_63 : decode cX6_takeNewName 63 = .ok (.getfield 20, 3) := by decide +kernel
theorem dX6_takeNewName_66 : decode cX6_takeNewName 66 = .ok (.iconst 0, 1) := by decide +kernel
theorem dX6_takeNewName_67 : decode cX6_takeNewName 67 = .ok (.invokevirtual 98, 3) := by decide +kernel
theorem dX6_takeNewName_70 : decode cX6_takeNewName 70 = .ok (.pop, 1) := by decide +kernel
theorem dX6_takeNewName_71 : decode cX6_takeNewName 71 = .ok (.aload_n 0, 1) := by decide +kernel
theorem dX6_takeNewName_72 : decode cX6_takeNewName 72 = .ok (.getfield 20, 3) := by decide +kernel
theorem dX6_takeNewName_75 : decode cX6_takeNewName 75 = .ok (.iconst 0, 1) := by decide +kernel
theorem dX6_takeNewName_76 : decode cX6_takeNewName 76 = .ok (.invokevirtual 98, 3) := by decide +kernel
theorem dX6_takeNewName_79 : decode cX6_takeNewName 79 = .ok (.pop, 1) := by decide +kernel
theorem dX6_takeNewName_80 : decode cX6_takeNewName 80 = .ok (.aload_n 0, 1) := by decide +kernel
theorem dX6_takeNewName_81 : decode cX6_takeNewName 81 = .ok (.iconst 1, 1) := by decide +kernel
theorem dX6_takeNewName_82 : decode cX6_takeNewName 82 = .ok (.putfield 48, 3) := by decide +kernel
theorem dX6_takeNewName_85 : decode cX6_takeNewName 85 = .ok (.aload_n 0, 1) := by decide +kernel
theorem dX6_takeNewName_86 : decode cX6_takeNewName 86 = .ok (.getfield 57, 3) := by decide +kernel
theorem dX6_takeNewName_89 : decode cX6_takeNewName 89 = .ok (.invokevirtual 75, 3) := by decide +kernel
theorem dX6_takeNewName_92 : decode cX6_takeNewName 92 = .ok (.aload_n 0, 1) := by decide +kernel
theorem dX6_takeNewName_93 : decode cX6_takeNewName 93 = .ok (.iconst 1, 1) := by decide +kernel
theorem dX6_takeNewName_94 : decode cX6_takeNewName 94 = .ok (.putfield 32, 3) := by decide +kernel
theorem dX6_takeNewName_97 : decode cX6_takeNewName 97 = .ok (.iconst 0, 1) := by decide +kernel
theorem dX6_takeNewName_98 : decode cX6_takeNewName 98 = .ok (.ireturn, 1) := by decide +kernel
theorem dX6_takeFunctionName_0 : decode cX6_takeFunctionName 0 = .ok (.aload_n 0, 1) := by decide +kernel
theorem dX6_takeFunctionName_1 : decode cX6_takeFunctionName 1 = .ok (.getfield 23, 3) := by decide +kernel
theorem dX6_takeFunctionName_4 : decode cX6_takeFunctionName 4 = .ok (.invokevirtual 84, 3) := by decide +kernel
theorem dX6_takeFunctionName_7 : decode cX6_takeFunctionName 7 = .ok (.bipush 60, 2) := by decide +kernel
theorem dX6_takeFunctionName_9 : decode cX6_takeFunctionName 9 = .ok (.if_icmp .lt 5, 3) := by decide +kernel
theorem dX6_takeFunctionName_12 : decode cX6_takeFunctionName 12 = .ok (.iconst 2, 1) := by decide +kernel
theorem dX6_takeFunctionName_13 : decode cX6_takeFunctionName 13 = .ok (.ireturn, 1) := by decide +kernel
theorem dX6_takeFunctionName_14 : decode cX6_takeFunctionName 14 = .ok (.aload_n 0, 1) := by decide +kernel
theorem dX6_takeFunctionName_15 : decode cX6_takeFunctionName 15 = .ok (.getfield 23, 3) := by decide +kernel
theorem dX6_takeFunctionName_18 : decode cX6_takeFunctionName 18 = .ok (.aload_n 0, 1) := by decide +kernel
theorem dX6_takeFunctionName_19 : decode cX6_takeFunctionName 19 = .ok (.getfield 57, 3) := by decide +kernel
theorem dX6_takeFunctionName_22 : decode cX6_takeFunctionName 22 = .ok (.invokevirtual 61, 3) := by decide +kernel
theorem dX6_takeFunctionName_25 : decode cX6_takeFunctionName 25 = .ok (.invokevirtual 98, 3) := by decide +kernel
theorem dX6_takeFunctionName_28 : decode cX6_takeFunctionName 28 = .ok (.pop, 1) := by decide +kernel
theorem dX6_takeFunctionName_29 : decode cX6_takeFunctionName 29 = .ok (.aload_n 0, 1) := by decide +kernel
theorem dX6_takeFunctionName_30 : decode cX6_takeFunctionName 30 = .ok (.getfield 23, 3) := by decide +kernel
theorem dX6_takeFunctionName_33 : decode cX6_takeFunctionName 33 = .ok (.aload_n 0, 1) := by decide +kernel
theorem dX6_takeFunctionName_34 : decode cX6_takeFunctionName 34 = .ok (.getfield 57, 3) := by decide +kernel
theorem dX6_takeFunctionName_37 : decode cX6_takeFunctionName 37 = .ok (.invokevirtual 131, 3) := by decide +kernel
theorem dX6_takeFunctionName_40 : decode cX6_takeFunctionName 40 = .ok (.invokevirtual 98, 3) := by decide +kernel
theorem dX6_takeFunctionName_43 : decode cX6_takeFunctionName 43 = .ok (.pop, 1) := by decide +kernel
theorem dX6_takeFunctionName_44 : decode cX6_takeFunctionName 44 = .ok (.aload_n 0, 1) := by decide +kernel
theorem dX6_takeFunctionName_45 : decode cX6_takeFunctionName 45 = .ok (.getfield 14, 3) := by decide +kernel
theorem dX6_takeFunctionName_48 : decode cX6_takeFunctionName 48 = .ok (.iconst 1, 1) := by decide +kernel
theorem dX6_takeFunctionName_49 : decode cX6_takeFunctionName 49 = .ok (.invokevirtual 98, 3) := by decide +kernel
theorem dX6_takeFunctionName_52 : decode cX6_takeFunctionName 52 = .ok (.pop, 1) := by decide +kernel
theorem dX6_takeFunctionName_53 : decode cX6_takeFunctionName 53 = .ok (.aload_n 0, 1) := by decide +kernel
theorem dX6_takeFunctionName_54 : decode cX6_takeFunctionName 54 = .ok (.iconst 3, 1) := by decide +kernel
theorem dX6_takeFunctionName_55 : decode cX6_takeFunctionName 55 = .ok (.putfield 32, 3) := by decide +kernel
theorem dX6_takeFunctionName_58 : decode cX6_takeFunctionName 58 = .ok (.iconst 0, 1) := by decide +kernel
theorem dX6_takeFunctionName_59 : decode cX6_takeFunctionName 59 = .ok (.ireturn, 1) := by decide +kernel
theorem dX6_functionOfWord_0 : decode cX6_functionOfWord 0 = .ok (.aload_n 0, 1) := by decide +kernel
theorem dX6_functionOfWord_1 : decode cX6_functionOfWord 1 = .ok (.getfield 23, 3) := by decide +kernel
theorem dX6_functionOfWord_4 : decode cX6_functionOfWord 4 = .ok (.invokevirtual 84, 3) := by decide +kernel
theorem dX6_functionOfWord_7 : decode cX6_functionOfWord 7 = .ok (.iconst 2, 1) := by decide +kernel
theorem dX6_functionOfWord_8 : decode cX6_functionOfWord 8 = .ok (.idiv, 1) := by decide +kernel
theorem dX6_functionOfWord_9 : decode cX6_functionOfWord 9 = .ok (.istore_n 1, 1) := by decide +kernel
theorem dX6_functionOfWord_10 : decode cX6_functionOfWord 10 = .ok (.iload_n 1, 1) := by decide +kernel
theorem dX6_functionOfWord_11 : decode cX6_functionOfWord 11 = .ok (.iconst 1, 1) := by decide +kernel
theorem dX6_functionOfWord_12 : decode cX6_functionOfWord 12 = .ok (.isub, 1) := by decide +kernel
theorem dX6_functionOfWord_13 : decode cX6_functionOfWord 13 = .ok (.istore_n 2, 1) := by decide +kernel
theorem dX6_functionOfWord_14 : decode cX6_functionOfWord 14 = .ok (.iload_n 2, 1) := by decide +kernel
theorem dX6_functionOfWord_15 : decode cX6_functionOfWord 15 = .ok (.ifCond .lt 47, 3) := by decide +kernel
theorem dX6_functionOfWord_18 : decode cX6_functionOfWord 18 = .ok (.aload_n 0, 1) := by decide +kernel
theorem dX6_functionOfWord_19 : decode cX6_functionOfWord 19 = .ok (.getfield 57, 3) := by decide +kernel
theorem dX6_functionOfWord_22 : decode cX6_functionOfWord 22 = .ok (.aload_n 0, 1) := by decide +kernel
theorem dX6_functionOfWord_23 : decode cX6_functionOfWord 23 = .ok (.getfield 23, 3) := by decide +kernel
theorem dX6_functionOfWord_26 : decode cX6_functionOfWord 26 = .ok (.iconst 2, 1) := by decide +kernel
theorem dX6_functionOfWord_27 : decode cX6_functionOfWord 27 = .ok (.iload_n 2, 1) := by decide +kernel
theorem dX6_functionOfWord_28 : decode cX6_functionOfWord 28 = .ok (.imul, 1) := by decide +kernel
theorem dX6_functionOfWord_29 : decode cX6_functionOfWord 29 = .ok (.invokevirtual 94, 3) := by decide +kernel
theorem dX6_functionOfWord_32 : decode cX6_functionOfWord 32 = .ok (.aload_n 0, 1) := by decide +kernel
theorem dX6_functionOfWord_33 : decode cX6_functionOfWord 33 = .ok (.getfield 23, 3) := by decide +kernel
theorem dX6_functionOfWord_36 : decode cX6_functionOfWord 36 = .ok (.iconst 2, 1) := by decide +kernel
theorem dX6_functionOfWord_37 : decode cX6_functionOfWord 37 = .ok (.iload_n 2, 1) := by decide +kernel
theorem dX6_functionOfWord_38 : decode cX6_functionOfWord 38 = .ok (.imul, 1) := by decide +kernel
theorem dX6_functionOfWord_39 : decode cX6_functionOfWord 39 = .ok (.iconst 1, 1) := by decide +kernel
theorem dX6_functionOfWord_40 : decode cX6_functionOfWord 40 = .ok (.iadd, 1) := by decide +kernel
theorem dX6_functionOfWord_41 : decode cX6_functionOfWord 41 = .ok (.invokevirtual 94, 3) := by decide +kernel
theorem dX6_functionOfWord_44 : decode cX6_functionOfWord 44 = .ok (.invokevirtual 153, 3) := by decide +kernel
theorem dX6_functionOfWord_47 : decode cX6_functionOfWord 47 = .ok (.ifCond .eq 9, 3) := by decide +kernel
theorem dX6_functionOfWord_50 : decode cX6_functionOfWord 50 = .ok (.iload_n 1, 1) := by decide +kernel
theorem dX6_functionOfWord_51 : decode cX6_functionOfWord 51 = .ok (.iconst 1, 1) := by decide +kernel
theorem dX6_functionOfWord_52 : decode cX6_functionOfWord 52 = .ok (.isub, 1) := by decide +kernel
theorem dX6_functionOfWord_53 : decode cX6_functionOfWord 53 = .ok (.iload_n 2, 1) := by decide +kernel
theorem dX6_functionOfWord_54 : decode cX6_functionOfWord 54 = .ok (.isub, 1) := by decide +kernel
theorem dX6_functionOfWord_55 : decode cX6_functionOfWord 55 = .ok (.ireturn, 1) := by decide +kernel
theorem dX6_functionOfWord_56 : decode cX6_functionOfWord 56 = .ok (.iinc 2 (-1), 3) := by decide +kernel
theorem dX6_functionOfWord_59 : decode cX6_functionOfWord 59 = .ok (.goto (-45), 3) := by decide +kernel
theorem dX6_functionOfWord_62 : decode cX6_functionOfWord 62 = .ok (.iconst (-1), 1) := by decide +kernel
theorem dX6_functionOfWord_63 : decode cX6_functionOfWord 63 = .ok (.ireturn, 1) := by decide +kernel
theorem dX6_nameOfWord_0 : decode cX6_nameOfWord 0 = .ok (.iconst 0, 1) := by decide +kernel
theorem dX6_nameOfWord_1 : decode cX6_nameOfWord 1 = .ok (.istore_n 1, 1) := by decide +kernel
theorem dX6_nameOfWord_2 : decode cX6_nameOfWord 2 = .ok (.iload_n 1, 1) := by decide +kernel
theorem dX6_nameOfWord_3 : decode cX6_nameOfWord 3 = .ok (.aload_n 0, 1) := by decide +kernel
theorem dX6_nameOfWord_4 : decode cX6_nameOfWord 4 = .ok (.getfield 45, 3) := by decide +kernel
theorem dX6_nameOfWord_7 : decode cX6_nameOfWord 7 = .ok (.if_icmp .ge 43, 3) := by decide +kernel
theorem dX6_nameOfWord_10 : decode cX6_nameOfWord 10 = .ok (.aload_n 0, 1) := by decide +kernel
theorem dX6_nameOfWord_11 : decode cX6_nameOfWord 11 = .ok (.getfield 57, 3) := by decide +kernel
theorem dX6_nameOfWord_14 : decode cX6_nameOfWord 14 = .ok (.aload_n 0, 1) := by decide +kernel
theorem dX6_nameOfWord_15 : decode cX6_nameOfWord 15 = .ok (.getfield 20, 3) := by decide +kernel
theorem dX6_nameOfWord_18 : decode cX6_nameOfWord 18 = .ok (.iconst 5, 1) := by decide +kernel
theorem dX6_nameOfWord_19 : decode cX6_nameOfWord 19 = .ok (.iload_n 1, 1) := by decide +kernel
theorem dX6_nameOfWord_20 : decode cX6_nameOfWord 20 = .ok (.imul, 1) := by decide +kernel
theorem dX6_nameOfWord_21 : decode cX6_nameOfWord 21 = .ok (.invokevirtual 94, 3) := by decide +kernel
theorem dX6_nameOfWord_24 : decode cX6_nameOfWord 24 = .ok (.aload_n 0, 1) := by decide +kernel
theorem dX6_nameOfWord_25 : decode cX6_nameOfWord 25 = .ok (.getfield 20, 3) := by decide +kernel
theorem dX6_nameOfWord_28 : decode cX6_nameOfWord 28 = .ok (.iconst 5, 1) := by decide +kernel
theorem dX6_nameOfWord_29 : decode cX6_nameOfWord 29 = .ok (.iload_n 1, 1) := by decide +kernel
theorem dX6_nameOfWord_30 : decode cX6_nameOfWord 30 = .ok (.imul, 1) := by decide +kernel
theorem dX6_nameOfWord_31 : decode cX6_nameOfWord 31 = .ok (.iconst 1, 1) := by decide +kernel
theorem dX6_nameOfWord_32 : decode cX6_nameOfWord 32 = .ok (.iadd, 1) := by decide +kernel
theorem dX6_nameOfWord_33 : decode cX6_nameOfWord 33 = .ok (.invokevirtual 94, 3) := by decide +kernel
theorem dX6_nameOfWord_36 : decode cX6_nameOfWord 36 = .ok (.invokevirtual 153, 3) := by decide +kernel
theorem dX6_nameOfWord_39 : decode cX6_nameOfWord 39 = .ok (.ifCond .eq 5, 3) := by decide +kernel
theorem dX6_nameOfWord_42 : decode cX6_nameOfWord 42 = .ok (.iload_n 1, 1) := by decide +kernel
theorem dX6_nameOfWord_43 : decode cX6_nameOfWord 43 = .ok (.ireturn, 1) := by decide +kernel
theorem dX6_nameOfWord_44 : decode cX6_nameOfWord 44 = .ok (.iinc 1 1, 3) := by decide +kernel
theorem dX6_nameOfWord_47 : decode cX6_nameOfWord 47 = .ok (.goto (-45), 3) := by decide +kernel
theorem dX6_nameOfWord_50 : decode cX6_nameOfWord 50 = .ok (.iconst (-1), 1) := by decide +kernel
theorem dX6_nameOfWord_51 : decode cX6_nameOfWord 51 = .ok (.ireturn, 1) := by decide +kernel
theorem dX6_takeNumber_0 : decode cX6_takeNumber 0 = .ok (.aload_n 0, 1) := by decide +kernel
theorem dX6_takeNumber_1 : decode cX6_takeNumber 1 = .ok (.invokevirtual 157, 3) := by decide +kernel
theorem dX6_takeNumber_4 : decode cX6_takeNumber 4 = .ok (.ifCond .ne 5, 3) := by decide +kernel
theorem dX6_takeNumber_7 : decode cX6_takeNumber 7 = .ok (.iconst 1, 1) := by decide +kernel
theorem dX6_takeNumber_8 : decode cX6_takeNumber 8 = .ok (.ireturn, 1) := by decide +kernel
theorem dX6_takeNumber_9 : decode cX6_takeNumber 9 = .ok (.aload_n 0, 1) := by decide +kernel
theorem dX6_takeNumber_10 : decode cX6_takeNumber 10 = .ok (.getfield 57, 3) := by decide +kernel
theorem dX6_takeNumber_13 : decode cX6_takeNumber 13 = .ok (.invokevirtual 131, 3) := by decide +kernel
theorem dX6_takeNumber_16 : decode cX6_takeNumber 16 = .ok (.aload_n 0, 1) := by decide +kernel
theorem dX6_takeNumber_17 : decode cX6_takeNumber 17 = .ok (.getfield 57, 3) := by decide +kernel
theorem dX6_takeNumber_20 : decode cX6_takeNumber 20 = .ok (.invokevirtual 61, 3) := by decide +kernel
theorem dX6_takeNumber_23 : decode cX6_takeNumber 23 = .ok (.isub, 1) := by decide +kernel
theorem dX6_takeNumber_24 : decode cX6_takeNumber 24 = .ok (.iconst 1, 1) := by decide +kernel
theorem dX6_takeNumber_25 : decode cX6_takeNumber 25 = .ok (.if_icmp .le 5, 3) := by decide +kernel
theorem dX6_takeNumber_28 : decode cX6_takeNumber 28 = .ok (.iconst 2, 1) := by decide +kernel
theorem dX6_takeNumber_29 : decode cX6_takeNumber 29 = .ok (.ireturn, 1) := by decide +kernel
theorem dX6_takeNumber_30 : decode cX6_takeNumber 30 = .ok (.aload_n 0, 1) := by decide +kernel
theorem dX6_takeNumber_31 : decode cX6_takeNumber 31 = .ok (.invokevirtual 150, 3) := by decide +kernel
theorem dX6_takeNumber_34 : decode cX6_takeNumber 34 = .ok (.aload_n 0, 1) := by decide +kernel
theorem dX6_takeNumber_35 : decode cX6_takeNumber 35 = .ok (.getfield 14, 3) := by decide +kernel
theorem dX6_takeNumber_38 : decode cX6_takeNumber 38 = .ok (.iconst (-1), 1) := by decide +kernel
theorem dX6_takeNumber_39 : decode cX6_takeNumber 39 = .ok (.aload_n 0, 1) := by decide +kernel
theorem dX6_takeNumber_40 : decode cX6_takeNumber 40 = .ok (.getfield 57, 3) := by decide +kernel
theorem dX6_takeNumber_43 : decode cX6_takeNumber 43 = .ok (.invokevirtual 160, 3) := by decide +kernel
theorem dX6_takeNumber_46 : decode cX6_takeNumber 46 = .ok (.isub, 1) := by decide +kernel
theorem dX6_takeNumber_47 : decode cX6_takeNumber 47 = .ok (.invokevirtual 98, 3) := by decide +kernel
theorem dX6_takeNumber_50 : decode cX6_takeNumber 50 = .ok (.pop, 1) := by decide +kernel
theorem dX6_takeNumber_51 : decode cX6_takeNumber 51 = .ok (.aload_n 0, 1) := by decide +kernel
theorem dX6_takeNumber_52 : decode cX6_takeNumber 52 = .ok (.iconst 4, 1) := by decide +kernel
theorem dX6_takeNumber_53 : decode cX6_takeNumber 53 = .ok (.putfield 32, 3) := by decide +kernel
theorem dX6_takeNumber_56 : decode cX6_takeNumber 56 = .ok (.iconst 0, 1) := by decide +kernel
theorem dX6_takeNumber_57 : decode cX6_takeNumber 57 = .ok (.ireturn, 1) := by decide +kernel
theorem dX6_takeOpening_0 : decode cX6_takeOpening 0 = .ok (.aload_n 0, 1) := by decide +kernel
theorem dX6_takeOpening_1 : decode cX6_takeOpening 1 = .ok (.invokevirtual 157, 3) := by decide +kernel
theorem dX6_takeOpening_4 : decode cX6_takeOpening 4 = .ok (.ifCond .ne 5, 3) := by decide +kernel
theorem dX6_takeOpening_7 : decode cX6_takeOpening 7 = .ok (.iconst 1, 1) := by decide +kernel
theorem dX6_takeOpening_8 : decode cX6_takeOpening 8 = .ok (.ireturn, 1) := by decide +kernel
theorem dX6_takeOpening_9 : decode cX6_takeOpening 9 = .ok (.aload_n 0, 1) := by decide +kernel
theorem dX6_takeOpening_10 : decode cX6_takeOpening 10 = .ok (.getfield 26, 3) := by decide +kernel
theorem dX6_takeOpening_13 : decode cX6_takeOpening 13 = .ok (.invokevirtual 84, 3) := by decide +kernel
theorem dX6_takeOpening_16 : decode cX6_takeOpening 16 = .ok (.bipush 36, 2) := by decide +kernel
theorem dX6_takeOpening_18 : decode cX6_takeOpening 18 = .ok (.if_icmp .lt 5, 3) := by decide +kernel
theorem dX6_takeOpening_21 : decode cX6_takeOpening 21 = .ok (.iconst 2, 1) := by decide +kernel
theorem dX6_takeOpening_22 : decode cX6_takeOpening 22 = .ok (.ireturn, 1) := by decide +kernel
theorem dX6_takeOpening_23 : decode cX6_takeOpening 23 = .ok (.aload_n 0, 1) := by decide +kernel
theorem dX6_takeOpening_24 : decode cX6_takeOpening 24 = .ok (.invokevirtual 150, 3) := by decide +kernel
theorem dX6_takeOpening_27 : decode cX6_takeOpening 27 = .ok (.aload_n 0, 1) := by decide +kernel
theorem dX6_takeOpening_28 : decode cX6_takeOpening 28 = .ok (.getfield 26, 3) := by decide +kernel
theorem dX6_takeOpening_31 : decode cX6_takeOpening 31 = .ok (.aload_n 0, 1) := by decide +kernel
theorem dX6_takeOpening_32 : decode cX6_takeOpening 32 = .ok (.getfield 36, 3) := by decide +kernel
theorem dX6_takeOpening_35 : decode cX6_takeOpening 35 = .ok (.invokevirtual 98, 3) := by decide +kernel
theorem dX6_takeOpening_38 : decode cX6_takeOpening 38 = .ok (.pop, 1) := by decide +kernel
theorem dX6_takeOpening_39 : decode cX6_takeOpening 39 = .ok (.aload_n 0, 1) := by decide +kernel
theorem dX6_takeOpening_40 : decode cX6_takeOpening 40 = .ok (.getfield 26, 3) := by decide +kernel
theorem dX6_takeOpening_43 : decode cX6_takeOpening 43 = .ok (.aload_n 0, 1) := by decide +kernel
theorem dX6_takeOpening_44 : decode cX6_takeOpening 44 = .ok (.getfield 39, 3) := by decide +kernel
theorem dX6_takeOpening_47 : decode cX6_takeOpening 47 = .ok (.invokevirtual 98, 3) := by decide +kernel
theorem dX6_takeOpening_50 : decode cX6_takeOpening 50 = .ok (.pop, 1) := by decide +kernel
theorem dX6_takeOpening_51 : decode cX6_takeOpening 51 = .ok (.aload_n 0, 1) := by decide +kernel
theorem dX6_takeOpening_52 : decode cX6_takeOpening 52 = .ok (.getfield 26, 3) := by decide +kernel
theorem dX6_takeOpening_55 : decode cX6_takeOpening 55 = .ok (.aload_n 0, 1) := by decide +kernel
theorem dX6_takeOpening_56 : decode cX6_takeOpening 56 = .ok (.getfield 23, 3) := by decide +kernel
theorem dX6_takeOpening_59 : decode cX6_takeOpening 59 = .ok (.invokevirtual 84, 3) := by decide +kernel
theorem dX6_takeOpening_62 : decode cX6_takeOpening 62 = .ok (.invokevirtual 98, 3) := by decide +kernel
theorem dX6_takeOpening_65 : decode cX6_takeOpening 65 = .ok (.pop, 1) := by decide +kernel
theorem dX6_takeOpening_66 : decode cX6_takeOpening 66 = .ok (.aload_n 0, 1) := by decide +kernel
theorem dX6_takeOpening_67 : decode cX6_takeOpening 67 = .ok (.iconst 0, 1) := by decide +kernel
theorem dX6_takeOpening_68 : decode cX6_takeOpening 68 = .ok (.putfield 39, 3) := by decide +kernel
theorem dX6_takeOpening_71 : decode cX6_takeOpening 71 = .ok (.aload_n 0, 1) := by decide +kernel
theorem dX6_takeOpening_72 : decode cX6_takeOpening 72 = .ok (.iconst 1, 1) := by decide +kernel
theorem dX6_takeOpening_73 : decode cX6_takeOpening 73 = .ok (.putfield 32, 3) := by decide +kernel
theorem dX6_takeOpening_76 : decode cX6_takeOpening 76 = .ok (.iconst 0, 1) := by decide +kernel
theorem dX6_takeOpening_77 : decode cX6_takeOpening 77 = .ok (.ireturn, 1) := by decide +kernel
theorem dX6_takeClosing_0 : decode cX6_takeClosing 0 = .ok (.aload_n 0, 1) := by decide +kernel
theorem dX6_takeClosing_1 : decode cX6_takeClosing 1 = .ok (.getfield 32, 3) := by decide +kernel
theorem dX6_takeClosing_4 : decode cX6_takeClosing 4 = .ok (.iconst 4, 1) := by decide +kernel
theorem dX6_takeClosing_5 : decode cX6_takeClosing 5 = .ok (.if_icmp .ne 13, 3) := by decide +kernel
theorem dX6_takeClosing_8 : decode cX6_takeClosing 8 = .ok (.aload_n 0, 1) := by decide +kernel
theorem dX6_takeClosing_9 : decode cX6_takeClosing 9 = .ok (.getfield 26, 3) := by decide +kernel
theorem dX6_takeClosing_12 : decode cX6_takeClosing 12 = .ok (.invokevirtual 84, 3) := by decide +kernel
theorem dX6_takeClosing_15 : decode cX6_takeClosing 15 = .ok (.ifCond .ne 5, 3) := by decide +kernel
theorem dX6_takeClosing_18 : decode cX6_takeClosing 18 = .ok (.iconst 1, 1) := by decide +kernel
theorem dX6_takeClosing_19 : decode cX6_takeClosing 19 = .ok (.ireturn, 1) := by decide +kernel
theorem dX6_takeClosing_20 : decode cX6_takeClosing 20 = .ok (.aload_n 0, 1) := by decide +kernel
theorem dX6_takeClosing_21 : decode cX6_takeClosing 21 = .ok (.getfield 23, 3) := by decide +kernel
theorem dX6_takeClosing_24 : decode cX6_takeClosing 24 = .ok (.aload_n 0, 1) := by decide +kernel
theorem dX6_takeClosing_25 : decode cX6_takeClosing 25 = .ok (.getfield 26, 3) := by decide +kernel
theorem dX6_takeClosing_28 : decode cX6_takeClosing 28 = .ok (.invokevirtual 91, 3) := by decide +kernel
theorem dX6_takeClosing_31 : decode cX6_takeClosing 31 = .ok (.invokevirtual 68, 3) := by decide +kernel
theorem dX6_takeClosing_34 : decode cX6_takeClosing 34 = .ok (.aload_n 0, 1) := by decide +kernel
theorem dX6_takeClosing_35 : decode cX6_takeClosing 35 = .ok (.aload_n 0, 1) := by decide +kernel
theorem dX6_takeClosing_36 : decode cX6_takeClosing 36 = .ok (.getfield 26, 3) := by decide +kernel
theorem dX6_takeClosing_39 : decode cX6_takeClosing 39 = .ok (.invokevirtual 91, 3) := by decide +kernel
theorem dX6_takeClosing_42 : decode cX6_takeClosing 42 = .ok (.putfield 39, 3) := by decide +kernel
theorem dX6_takeClosing_45 : decode cX6_takeClosing 45 = .ok (.aload_n 0, 1) := by decide +kernel
theorem dX6_takeClosing_46 : decode cX6_takeClosing 46 = .ok (.aload_n 0, 1) := by decide +kernel
theorem dX6_takeClosing_47 : decode cX6_takeClosing 47 = .ok (.getfield 26, 3) := by decide +kernel
theorem dX6_takeClosing_50 : decode cX6_takeClosing 50 = .ok (.invokevirtual 91, 3) := by decide +kernel
theorem dX6_takeClosing_53 : decode cX6_takeClosing 53 = .ok (.putfield 36, 3) := by decide +kernel
theorem dX6_takeClosing_56 : decode cX6_takeClosing 56 = .ok (.iconst 0, 1) := by decide +kernel
theorem dX6_takeClosing_57 : decode cX6_takeClosing 57 = .ok (.ireturn, 1) := by decide +kernel
theorem dX6_takeFunction_0 : decode cX6_takeFunction 0 = .ok (.aload_n 0, 1) := by decide +kernel
theorem dX6_takeFunction_1 : decode cX6_takeFunction 1 = .ok (.getfield 32, 3) := by decide +kernel
theorem dX6_takeFunction_4 : decode cX6_takeFunction 4 = .ok (.ifCond .eq 13, 3) := by decide +kernel
theorem dX6_takeFunction_7 : decode cX6_takeFunction 7 = .ok (.aload_n 0, 1) := by decide +kernel
theorem dX6_takeFunction_8 : decode cX6_takeFunction 8 = .ok (.getfield 32, 3) := by decide +kernel
theorem dX6_takeFunction_11 : decode cX6_takeFunction 11 = .ok (.iconst 1, 1) := by decide +kernel
theorem dX6_takeFunction_12 : decode cX6_takeFunction 12 = .ok (.if_icmp .eq 5, 3) := by decide +kernel
theorem dX6_takeFunction_15 : decode cX6_takeFunction 15 = .ok (.iconst 1, 1) := by decide +kernel
theorem dX6_takeFunction_16 : decode cX6_takeFunction 16 = .ok (.ireturn, 1) := by decide +kernel
theorem dX6_takeFunction_17 : decode cX6_takeFunction 17 = .ok (.aload_n 0, 1) := by decide +kernel
theorem dX6_takeFunction_18 : decode cX6_takeFunction 18 = .ok (.iconst 2, 1) := by decide +kernel
theorem dX6_takeFunction_19 : decode cX6_takeFunction 19 = .ok (.putfield 32, 3) := by decide +kernel
theorem dX6_takeFunction_22 : decode cX6_takeFunction 22 = .ok (.iconst 0, 1) := by decide +kernel
theorem dX6_takeFunction_23 : decode cX6_takeFunction 23 = .ok (.ireturn, 1) := by decide +kernel
theorem dX6_takePoint_0 : decode cX6_takePoint 0 = .ok (.aload_n 0, 1) := by decide +kernel
theorem dX6_takePoint_1 : decode cX6_takePoint 1 = .ok (.getfield 32, 3) := by decide +kernel
theorem dX6_takePoint_4 : decode cX6_takePoint 4 = .ok (.iconst 3, 1) := by decide +kernel
theorem dX6_takePoint_5 : decode cX6_takePoint 5 = .ok (.if_icmp .eq 5, 3) := by decide +kernel
theorem dX6_takePoint_8 : decode cX6_takePoint 8 = .ok (.iconst 1, 1) := by decide +kernel
theorem dX6_takePoint_9 : decode cX6_takePoint 9 = .ok (.ireturn, 1) := by decide +kernel
theorem dX6_takePoint_10 : decode cX6_takePoint 10 = .ok (.aload_n 0, 1) := by decide +kernel
theorem dX6_takePoint_11 : decode cX6_takePoint 11 = .ok (.iconst 1, 1) := by decide +kernel
theorem dX6_takePoint_12 : decode cX6_takePoint 12 = .ok (.putfield 32, 3) := by decide +kernel
theorem dX6_takePoint_15 : decode cX6_takePoint 15 = .ok (.iconst 0, 1) := by decide +kernel
theorem dX6_takePoint_16 : decode cX6_takePoint 16 = .ok (.ireturn, 1) := by decide +kernel
theorem dX6_takeSemicolon_0 : decode cX6_takeSemicolon 0 = .ok (.aload_n 0, 1) := by decide +kernel
theorem dX6_takeSemicolon_1 : decode cX6_takeSemicolon 1 = .ok (.invokevirtual 127, 3) := by decide +kernel
theorem dX6_takeSemicolon_4 : decode cX6_takeSemicolon 4 = .ok (.ifCond .eq 10, 3) := by decide +kernel
theorem dX6_takeSemicolon_7 : decode cX6_takeSemicolon 7 = .ok (.aload_n 0, 1) := by decide +kernel
theorem dX6_takeSemicolon_8 : decode cX6_takeSemicolon 8 = .ok (.getfield 48, 3) := by decide +kernel
theorem dX6_takeSemicolon_11 : decode cX6_takeSemicolon 11 = .ok (.ifCond .ne 5, 3) := by decide +kernel
theorem dX6_takeSemicolon_14 : decode cX6_takeSemicolon 14 = .ok (.iconst 1, 1) := by decide +kernel
theorem dX6_takeSemicolon_15 : decode cX6_takeSemicolon 15 = .ok (.ireturn, 1) := by decide +kernel
theorem dX6_takeSemicolon_16 : decode cX6_takeSemicolon 16 = .ok (.iconst 5, 1) := by decide +kernel
theorem dX6_takeSemicolon_17 : decode cX6_takeSemicolon 17 = .ok (.aload_n 0, 1) := by decide +kernel
theorem dX6_takeSemicolon_18 : decode cX6_takeSemicolon 18 = .ok (.getfield 45, 3) := by decide +kernel
theorem dX6_takeSemicolon_21 : decode cX6_takeSemicolon 21 = .ok (.imul, 1) := by decide +kernel
theorem dX6_takeSemicolon_22 : decode cX6_takeSemicolon 22 = .ok (.istore_n 1, 1) := by decide +kernel
theorem dX6_takeSemicolon_23 : decode cX6_takeSemicolon 23 = .ok (.aload_n 0, 1) := by decide +kernel
theorem dX6_takeSemicolon_24 : decode cX6_takeSemicolon 24 = .ok (.getfield 20, 3) := by decide +kernel
theorem dX6_takeSemicolon_27 : decode cX6_takeSemicolon 27 = .ok (.iload_n 1, 1) := by decide +kernel
theorem dX6_takeSemicolon_28 : decode cX6_takeSemicolon 28 = .ok (.iconst 3, 1) := by decide +kernel
theorem dX6_takeSemicolon_29 : decode cX6_takeSemicolon 29 = .ok (.iadd, 1) := by decide +kernel
theorem dX6_takeSemicolon_30 : decode cX6_takeSemicolon 30 = .ok (.aload_n 0, 1) := by decide +kernel
theorem dX6_takeSemicolon_31 : decode cX6_takeSemicolon 31 = .ok (.getfield 14, 3) := by decide +kernel
theorem dX6_takeSemicolon_34 : decode cX6_takeSemicolon 34 = .ok (.invokevirtual 84, 3) := by decide +kernel
theorem dX6_takeSemicolon_37 : decode cX6_takeSemicolon 37 = .ok (.invokevirtual 163, 3) := by decide +kernel
theorem dX6_takeSemicolon_40 : decode cX6_takeSemicolon 40 = .ok (.aload_n 0, 1) := by decide +kernel
theorem dX6_takeSemicolon_41 : decode cX6_takeSemicolon 41 = .ok (.getfield 20, 3) := by decide +kernel
theorem dX6_takeSemicolon_44 : decode cX6_takeSemicolon 44 = .ok (.iload_n 1, 1) := by decide +kernel
theorem dX6_takeSemicolon_45 : decode cX6_takeSemicolon 45 = .ok (.iconst 4, 1) := by decide +kernel
theorem dX6_takeSemicolon_46 : decode cX6_takeSemicolon 46 = .ok (.iadd, 1) := by decide +kernel
theorem dX6_takeSemicolon_47 : decode cX6_takeSemicolon 47 = .ok (.aload_n 0, 1) := by decide +kernel
theorem dX6_takeSemicolon_48 : decode cX6_takeSemicolon 48 = .ok (.aload_n 0, 1) := by decide +kernel
theorem dX6_takeSemicolon_49 : decode cX6_takeSemicolon 49 = .ok (.getfield 20, 3) := by decide +kernel
theorem dX6_takeSemicolon_52 : decode cX6_takeSemicolon 52 = .ok (.iload_n 1, 1) := by decide +kernel
theorem dX6_takeSemicolon_53 : decode cX6_takeSemicolon 53 = .ok (.iconst 2, 1) := by decide +kernel
theorem dX6_takeSemicolon_54 : decode cX6_takeSemicolon 54 = .ok (.iadd, 1) := by decide +kernel
theorem dX6_takeSemicolon_55 : decode cX6_takeSemicolon 55 = .ok (.invokevirtual 94, 3) := by decide +kernel
theorem dX6_takeSemicolon_58 : decode cX6_takeSemicolon 58 = .ok (.aload_n 0, 1) := by decide +kernel
theorem dX6_takeSemicolon_59 : decode cX6_takeSemicolon 59 = .ok (.getfield 14, 3) := by decide +kernel
theorem dX6_takeSemicolon_62 : decode cX6_takeSemicolon 62 = .ok (.invokevirtual 84, 3) := by decide +kernel
theorem dX6_takeSemicolon_65 : decode cX6_takeSemicolon 65 = .ok (.invokevirtual 87, 3) := by decide +kernel
theorem dX6_takeSemicolon_68 : decode cX6_takeSemicolon 68 = .ok (.invokevirtual 163, 3) := by decide +kernel
theorem dX6_takeSemicolon_71 : decode cX6_takeSemicolon 71 = .ok (.aload_n 0, 1) := by decide +kernel
theorem dX6_takeSemicolon_72 : decode cX6_takeSemicolon 72 = .ok (.dup, 1) := by decide +kernel
theorem dX6_takeSemicolon_73 : decode cX6_takeSemicolon 73 = .ok (.getfield 45, 3) := by decide +kernel
theorem dX6_takeSemicolon_76 : decode cX6_takeSemicolon 76 = .ok (.iconst 1, 1) := by decide +kernel
theorem dX6_takeSemicolon_77 : decode cX6_takeSemicolon 77 = .ok (.iadd, 1) := by decide +kernel
theorem dX6_takeSemicolon_78 : decode cX6_takeSemicolon 78 = .ok (.putfield 45, 3) := by decide +kernel
theorem dX6_takeSemicolon_81 : decode cX6_takeSemicolon 81 = .ok (.aload_n 0, 1) := by decide +kernel
theorem dX6_takeSemicolon_82 : decode cX6_takeSemicolon 82 = .ok (.iconst 0, 1) := by decide +kernel
theorem dX6_takeSemicolon_83 : decode cX6_takeSemicolon 83 = .ok (.putfield 48, 3) := by decide +kernel
theorem dX6_takeSemicolon_86 : decode cX6_takeSemicolon 86 = .ok (.aload_n 0, 1) := by decide +kernel
theorem dX6_takeSemicolon_87 : decode cX6_takeSemicolon 87 = .ok (.invokevirtual 72, 3) := by decide +kernel
theorem dX6_takeSemicolon_90 : decode cX6_takeSemicolon 90 = .ok (.iconst 0, 1) := by decide +kernel
theorem dX6_takeSemicolon_91 : decode cX6_takeSemicolon 91 = .ok (.ireturn, 1) := by decide +kernel
theorem dX6_beginItem_0 : decode cX6_beginItem 0 = .ok (.aload_n 0, 1) := by decide +kernel
theorem dX6_beginItem_1 : decode cX6_beginItem 1 = .ok (.getfield 23, 3) := by decide +kernel
theorem dX6_beginItem_4 : decode cX6_beginItem 4 = .ok (.iconst 0, 1) := by decide +kernel
theorem dX6_beginItem_5 : decode cX6_beginItem 5 = .ok (.invokevirtual 68, 3) := by decide +kernel
theorem dX6_beginItem_8 : decode cX6_beginItem 8 = .ok (.aload_n 0, 1) := by decide +kernel
theorem dX6_beginItem_9 : decode cX6_beginItem 9 = .ok (.iconst 0, 1) := by decide +kernel
theorem dX6_beginItem_10 : decode cX6_beginItem 10 = .ok (.putfield 39, 3) := by decide +kernel
theorem dX6_beginItem_13 : decode cX6_beginItem 13 = .ok (.aload_n 0, 1) := by decide +kernel
theorem dX6_beginItem_14 : decode cX6_beginItem 14 = .ok (.aload_n 0, 1) := by decide +kernel
theorem dX6_beginItem_15 : decode cX6_beginItem 15 = .ok (.getfield 14, 3) := by decide +kernel
theorem dX6_beginItem_18 : decode cX6_beginItem 18 = .ok (.invokevirtual 84, 3) := by decide +kernel
theorem dX6_beginItem_21 : decode cX6_beginItem 21 = .ok (.putfield 42, 3) := by decide +kernel
theorem dX6_beginItem_24 : decode cX6_beginItem 24 = .ok (.aload_n 0, 1) := by decide +kernel
theorem dX6_beginItem_25 : decode cX6_beginItem 25 = .ok (.iconst 0, 1) := by decide +kernel
theorem dX6_beginItem_26 : decode cX6_beginItem 26 = .ok (.putfield 32, 3) := by decide +kernel
theorem dX6_beginItem_29 : decode cX6_beginItem 29 = .ok (.return_, 1) := by decide +kernel
theorem dX6_isAtomDue_0 : decode cX6_isAtomDue 0 = .ok (.aload_n 0, 1) := by decide +kernel
theorem dX6_isAtomDue_1 : decode cX6_isAtomDue 1 = .ok (.getfield 32, 3) := by decide +kernel
theorem dX6_isAtomDue_4 : decode cX6_isAtomDue 4 = .ok (.ifCond .eq 19, 3) := by decide +kernel
theorem dX6_isAtomDue_7 : decode cX6_isAtomDue 7 = .ok (.aload_n 0, 1) := by decide +kernel
theorem dX6_isAtomDue_8 : decode cX6_isAtomDue 8 = .ok (.getfield 32, 3) := by decide +kernel
theorem dX6_isAtomDue_11 : decode cX6_isAtomDue 11 = .ok (.iconst 1, 1) := by decide +kernel
theorem dX6_isAtomDue_12 : decode cX6_isAtomDue 12 = .ok (.if_icmp .eq 11, 3) := by decide +kernel
theorem dX6_isAtomDue_15 : decode cX6_isAtomDue 15 = .ok (.aload_n 0, 1) := by decide +kernel
theorem dX6_isAtomDue_16 : decode cX6_isAtomDue 16 = .ok (.getfield 32, 3) := by decide +kernel
theorem dX6_isAtomDue_19 : decode cX6_isAtomDue 19 = .ok (.iconst 4, 1) := by decide +kernel
theorem dX6_isAtomDue_20 : decode cX6_isAtomDue 20 = .ok (.if_icmp .ne 7, 3) := by decide +kernel
theorem dX6_isAtomDue_23 : decode cX6_isAtomDue 23 = .ok (.iconst 1, 1) := by decide +kernel
theorem dX6_isAtomDue_24 : decode cX6_isAtomDue 24 = .ok (.goto 4, 3) := by decide +kernel
theorem dX6_isAtomDue_27 : decode cX6_isAtomDue 27 = .ok (.iconst 0, 1) := by decide +kernel
theorem dX6_isAtomDue_28 : decode cX6_isAtomDue 28 = .ok (.ireturn, 1) := by decide +kernel
theorem dX6_isWhole_0 : decode cX6_isWhole 0 = .ok (.aload_n 0, 1) := by decide +kernel
theorem dX6_isWhole_1 : decode cX6_isWhole 1 = .ok (.getfield 32, 3) := by decide +kernel
theorem dX6_isWhole_4 : decode cX6_isWhole 4 = .ok (.iconst 4, 1) := by decide +kernel
theorem dX6_isWhole_5 : decode cX6_isWhole 5 = .ok (.if_icmp .ne 17, 3) := by decide +kernel
theorem dX6_isWhole_8 : decode cX6_isWhole 8 = .ok (.aload_n 0, 1) := by decide +kernel
theorem dX6_isWhole_9 : decode cX6_isWhole 9 = .ok (.getfield 26, 3) := by decide +kernel
theorem dX6_isWhole_12 : decode cX6_isWhole 12 = .ok (.invokevirtual 84, 3) := by decide +kernel
theorem dX6_isWhole_15 : decode cX6_isWhole 15 = .ok (.ifCond .ne 7, 3) := by decide +kernel
theorem dX6_isWhole_18 : decode cX6_isWhole 18 = .ok (.iconst 1, 1) := by decide +kernel
theorem dX6_isWhole_19 : decode cX6_isWhole 19 = .ok (.goto 4, 3) := by decide +kernel
theorem dX6_isWhole_22 : decode cX6_isWhole 22 = .ok (.iconst 0, 1) := by decide +kernel
theorem dX6_isWhole_23 : decode cX6_isWhole 23 = .ok (.ireturn, 1) := by decide +kernel
theorem dX6_beginAtom_0 : decode cX6_beginAtom 0 = .ok (.aload_n 0, 1) := by decide +kernel
theorem dX6_beginAtom_1 : decode cX6_beginAtom 1 = .ok (.getfield 39, 3) := by decide +kernel
theorem dX6_beginAtom_4 : decode cX6_beginAtom 4 = .ok (.ifCond .ne 17, 3) := by decide +kernel
theorem dX6_beginAtom_7 : decode cX6_beginAtom 7 = .ok (.aload_n 0, 1) := by decide +kernel
theorem dX6_beginAtom_8 : decode cX6_beginAtom 8 = .ok (.aload_n 0, 1) := by decide +kernel
theorem dX6_beginAtom_9 : decode cX6_beginAtom 9 = .ok (.getfield 14, 3) := by decide +kernel
theorem dX6_beginAtom_12 : decode cX6_beginAtom 12 = .ok (.invokevirtual 84, 3) := by decide +kernel
theorem dX6_beginAtom_15 : decode cX6_beginAtom 15 = .ok (.putfield 36, 3) := by decide +kernel
theorem dX6_beginAtom_18 : decode cX6_beginAtom 18 = .ok (.goto 15, 3) := by decide +kernel
theorem dX6_beginAtom_21 : decode cX6_beginAtom 21 = .ok (.aload_n 0, 1) := by decide +kernel
theorem dX6_beginAtom_22 : decode cX6_beginAtom 22 = .ok (.getfield 14, 3) := by decide +kernel
theorem dX6_beginAtom_25 : decode cX6_beginAtom 25 = .ok (.aload_n 0, 1) := by decide +kernel
theorem dX6_beginAtom_26 : decode cX6_beginAtom 26 = .ok (.getfield 36, 3) := by decide +kernel
theorem dX6_beginAtom_29 : decode cX6_beginAtom 29 = .ok (.iconst 0, 1) := by decide +kernel
theorem dX6_beginAtom_30 : decode cX6_beginAtom 30 = .ok (.invokevirtual 166, 3) := by decide +kernel
theorem dX6_beginAtom_33 : decode cX6_beginAtom 33 = .ok (.aload_n 0, 1) := by decide +kernel
theorem dX6_beginAtom_34 : decode cX6_beginAtom 34 = .ok (.dup, 1) := by decide +kernel
theorem dX6_beginAtom_35 : decode cX6_beginAtom 35 = .ok (.getfield 39, 3) := by decide +kernel
theorem dX6_beginAtom_38 : decode cX6_beginAtom 38 = .ok (.iconst 1, 1) := by decide +kernel
theorem dX6_beginAtom_39 : decode cX6_beginAtom 39 = .ok (.iadd, 1) := by decide +kernel
theorem dX6_beginAtom_40 : decode cX6_beginAtom 40 = .ok (.putfield 39, 3) := by decide +kernel
theorem dX6_beginAtom_43 : decode cX6_beginAtom 43 = .ok (.return_, 1) := by decide +kernel
theorem dX7_init_0 : decode cX7_init 0 = .ok (.aload_n 0, 1) := by decide +kernel
theorem dX7_init_1 : decode cX7_init 1 = .ok (.invokespecial 1, 3) := by decide +kernel
theorem dX7_init_4 : decode cX7_init 4 = .ok (.aload_n 0, 1) := by decide +kernel
theorem dX7_init_5 : decode cX7_init 5 = .ok (.iconst 0, 1) := by decide +kernel
theorem dX7_init_6 : decode cX7_init 6 = .ok (.putfield 9, 3) := by decide +kernel
theorem dX7_init_9 : decode cX7_init 9 = .ok (.aload_n 0, 1) := by decide +kernel
theorem dX7_init_10 : decode cX7_init 10 = .ok (.iconst 0, 1) := by decide +kernel
theorem dX7_init_11 : decode cX7_init 11 = .ok (.putfield 13, 3) := by decide +kernel
theorem dX7_init_14 : decode cX7_init 14 = .ok (.aload_n 0, 1) := by decide +kernel
theorem dX7_init_15 : decode cX7_init 15 = .ok (.iconst 0, 1) := by decide +kernel
theorem dX7_init_16 : decode cX7_init 16 = .ok (.putfield 16, 3) := by decide +kernel
theorem dX7_init_19 : decode cX7_init 19 = .ok (.aload_n 0, 1) := by decide +kernel
theorem dX7_init_20 : decode cX7_init 20 = .ok (.aload_n 1, 1) := by decide +kernel
theorem dX7_init_21 : decode cX7_init 21 = .ok (.putfield 19, 3) := by decide +kernel
theorem dX7_init_24 : decode cX7_init 24 = .ok (.return_, 1) := by decide +kernel
theorem dX7_begin_0 : decode cX7_begin 0 = .ok (.aload_n 0, 1) := by decide +kernel
theorem dX7_begin_1 : decode cX7_begin 1 = .ok (.iconst 0, 1) := by decide +kernel
theorem dX7_begin_2 : decode cX7_begin 2 = .ok (.putfield 9, 3) := by decide +kernel
theorem dX7_begin_5 : decode cX7_begin 5 = .ok (.aload_n 0, 1) := by decide +kernel
theorem dX7_begin_6 : decode cX7_begin 6 = .ok (.iconst 0, 1) := by decide +kernel
theorem dX7_begin_7 : decode cX7_begin 7 = .ok (.putfield 13, 3) := by decide +kernel
theorem dX7_begin_10 : decode cX7_begin 10 = .ok (.aload_n 0, 1) := by decide +kernel
theorem dX7_begin_11 : decode cX7_begin 11 = .ok (.iconst 0, 1) := by decide +kernel
theorem dX7_begin_12 : decode cX7_begin 12 = .ok (.putfield 16, 3) := by decide +kernel
theorem dX7_begin_15 : decode cX7_begin 15 = .ok (.return_, 1) := by decide +kernel
theorem dX7_sort_0 : decode cX7_sort 0 = .ok (.aload_n 0, 1) := by decide +kernel
theorem dX7_sort_1 : decode cX7_sort 1 = .ok (.getfield 9, 3) := by decide +kernel
theorem dX7_sort_4 : decode cX7_sort 4 = .ok (.ireturn, 1) := by decide +kernel
theorem dX7_start_0 : decode cX7_start 0 = .ok (.aload_n 0, 1) := by decide +kernel
theorem dX7_start_1 : decode cX7_start 1 = .ok (.getfield 13, 3) := by decide +kernel
theorem dX7_start_4 : decode cX7_start 4 = .ok (.ireturn, 1) := by decide +kernel
theorem dX7_end_0 : decode cX7_end 0 = .ok (.aload_n 0, 1) := by decide +kernel
theorem dX7_end_1 : decode cX7_end 1 = .ok (.getfield 16, 3) := by decide +kernel
theorem dX7_end_4 : decode cX7_end 4 = .ok (.ireturn, 1) := by decide +kernel
theorem dX7_figure_0 : decode cX7_figure 0 = .ok (.aload_n 0, 1) := by decide +kernel
theorem dX7_figure_1 : decode cX7_figure 1 = .ok (.getfield 19, 3) := by decide +kernel
theorem dX7_figure_4 : decode cX7_figure 4 = .ok (.aload_n 0, 1) := by decide +kernel
theorem dX7_figure_5 : decode cX7_figure 5 = .ok (.getfield 13, 3) := by decide +kernel
theorem dX7_figure_8 : decode cX7_figure 8 = .ok (.invokevirtual 23, 3) := by decide +kernel
theorem dX7_figure_11 : decode cX7_figure 11 = .ok (.bipush 48, 2) := by decide +kernel
theorem dX7_figure_13 : decode cX7_figure 13 = .ok (.isub, 1) := by decide +kernel
theorem dX7_figure_14 : decode cX7_figure 14 = .ok (.ireturn, 1) := by decide +kernel
theorem dX7_advance_0 : decode cX7_advance 0 = .ok (.aload_n 0, 1) := by decide +kernel
theorem dX7_advance_1 : decode cX7_advance 1 = .ok (.aload_n 0, 1) := by decide +kernel
theorem dX7_advance_2 : decode cX7_advance 2 = .ok (.aload_n 0, 1) := by decide +kernel
theorem dX7_advance_3 : decode cX7_advance 3 = .ok (.getfield 16, 3) := by decide +kernel
theorem dX7_advance_6 : decode cX7_advance 6 = .ok (.invokevirtual 29, 3) := by decide +kernel
theorem dX7_advance_9 : decode cX7_advance 9 = .ok (.putfield 13, 3) := by decide +kernel
theorem dX7_advance_12 : decode cX7_advance 12 = .ok (.aload_n 0, 1) := by decide +kernel
theorem dX7_advance_13 : decode cX7_advance 13 = .ok (.aload_n 0, 1) := by decide +kernel
theorem dX7_advance_14 : decode cX7_advance 14 = .ok (.aload_n 0, 1) := by decide +kernel
theorem dX7_advance_15 : decode cX7_advance 15 = .ok (.getfield 13, 3) := by decide +kernel
theorem dX7_advance_18 : decode cX7_advance 18 = .ok (.invokevirtual 32, 3) := by decide +kernel
theorem dX7_advance_21 : decode cX7_advance 21 = .ok (.putfield 9, 3) := by decide +kernel
theorem dX7_advance_24 : decode cX7_advance 24 = .ok (.aload_n 0, 1) := by decide +kernel
theorem dX7_advance_25 : decode cX7_advance 25 = .ok (.aload_n 0, 1) := by decide +kernel
theorem dX7_advance_26 : decode cX7_advance 26 = .ok (.getfield 9, 3) := by decide +kernel
theorem dX7_advance_29 : decode cX7_advance 29 = .ok (.ifCond .ne 10, 3) := by decide +kernel
theorem dX7_advance_32 : decode cX7_advance 32 = .ok (.aload_n 0, 1) := by decide +kernel
theorem dX7_advance_33 : decode cX7_advance 33 = .ok (.getfield 13, 3) := by decide +kernel
theorem dX7_advance_36 : decode cX7_advance 36 = .ok (.goto 9, 3) := by decide +kernel
theorem dX7_advance_39 : decode cX7_advance 39 = .ok (.aload_n 0, 1) := by decide +kernel
theorem dX7_advance_40 : decode cX7_advance 40 = .ok (.getfield 13, 3) := by decide +kernel
theorem dX7_advance_43 : decode cX7_advance 43 = .ok (.iconst 1, 1) := by decide +kernel
theorem dX7_advance_44 : decode cX7_advance 44 = .ok (.iadd, 1) := by decide +kernel
theorem dX7_advance_45 : decode cX7_advance 45 = .ok (.putfield 16, 3) := by decide +kernel
theorem dX7_advance_48 : decode cX7_advance 48 = .ok (.aload_n 0, 1) := by decide +kernel
theorem dX7_advance_49 : decode cX7_advance 49 = .ok (.getfield 9, 3) := by decide +kernel
theorem dX7_advance_52 : decode cX7_advance 52 = .ok (.bipush 97, 2) := by decide +kernel
theorem dX7_advance_54 : decode cX7_advance 54 = .ok (.if_icmp .eq 12, 3) := by decide +kernel
theorem dX7_advance_57 : decode cX7_advance 57 = .ok (.aload_n 0, 1) := by decide +kernel
theorem dX7_advance_58 : decode cX7_advance 58 = .ok (.getfield 9, 3) := by decide +kernel
theorem dX7_advance_61 : decode cX7_advance 61 = .ok (.bipush 48, 2) := by decide +kernel
theorem dX7_advance_63 : decode cX7_advance 63 = .ok (.if_icmp .ne 45, 3) := by decide +kernel
theorem dX7_advance_66 : decode cX7_advance 66 = .ok (.aload_n 0, 1) := by decide +kernel
theorem dX7_advance_67 : decode cX7_advance 67 = .ok (.getfield 16, 3) := by decide +kernel
theorem dX7_advance_70 : decode cX7_advance 70 = .ok (.aload_n 0, 1) := by decide +kernel
theorem dX7_advance_71 : decode cX7_advance 71 = .ok (.getfield 19, 3) := by decide +kernel
theorem dX7_advance_74 : decode cX7_advance 74 = .ok (.invokevirtual 35, 3) := by decide +kernel
theorem dX7_advance_77 : decode cX7_advance 77 = .ok (.if_icmp .ge 31, 3) := by decide +kernel
theorem dX7_advance_80 : decode cX7_advance 80 = .ok (.aload_n 0, 1) := by decide +kernel
theorem dX7_advance_81 : decode cX7_advance 81 = .ok (.aload_n 0, 1) := by decide +kernel
theorem dX7_advance_82 : decode cX7_advance 82 = .ok (.getfield 16, 3) := by decide +kernel
theorem dX7_advance_85 : decode cX7_advance 85 = .ok (.invokevirtual 32, 3) := by decide +kernel
theorem dX7_advance_88 : decode cX7_advance 88 = .ok (.aload_n 0, 1) := by decide +kernel
theorem dX7_advance_89 : decode cX7_advance 89 = .ok (.getfield 9, 3) := by decide +kernel
theorem dX7_advance_92 : decode cX7_advance 92 = .ok (.if_icmp .ne 16, 3) := by decide +kernel
theorem dX7_advance_95 : decode cX7_advance 95 = .ok (.aload_n 0, 1) := by decide +kernel
theorem dX7_advance_96 : decode cX7_advance 96 = .ok (.dup, 1) := by decide +kernel
theorem dX7_advance_97 : decode cX7_advance 97 = .ok (.getfield 16, 3) := by decide +kernel
theorem dX7_advance_100 : decode cX7_advance 100 = .ok (.iconst 1, 1) := by decide +kernel
theorem dX7_advance_101 : decode cX7_advance 101 = .ok (.iadd, 1) := by decide +kernel
theorem dX7_advance_102 : decode cX7_advance 102 = .ok (.putfield 16, 3) := by decide +kernel
theorem dX7_advance_105 : decode cX7_advance 105 = .ok (.goto (-39), 3) := by decide +kernel
theorem dX7_advance_108 : decode cX7_advance 108 = .ok (.return_, 1) := by decide +kernel
theorem dX7_equalsSignIsNext_0 : decode cX7_equalsSignIsNext 0 = .ok (.aload_n 0, 1) := by decide +kernel
theorem dX7_equalsSignIsNext_1 : decode cX7_equalsSignIsNext 1 = .ok (.aload_n 0, 1) := by decide +kernel
theorem dX7_equalsSignIsNext_2 : decode cX7_equalsSignIsNext 2 = .ok (.aload_n 0, 1) := by decide +kernel
theorem dX7_equalsSignIsNext_3 : decode cX7_equalsSignIsNext 3 = .ok (.getfield 16, 3) := by decide +kernel
theorem dX7_equalsSignIsNext_6 : decode cX7_equalsSignIsNext 6 = .ok (.invokevirtual 29, 3) := by decide +kernel
theorem dX7_equalsSignIsNext_9 : decode cX7_equalsSignIsNext 9 = .ok (.invokevirtual 32, 3) := by decide +kernel
theorem dX7_equalsSignIsNext_12 : decode cX7_equalsSignIsNext 12 = .ok (.bipush 61, 2) := by decide +kernel
theorem dX7_equalsSignIsNext_14 : decode cX7_equalsSignIsNext 14 = .ok (.if_icmp .ne 7, 3) := by decide +kernel
theorem dX7_equalsSignIsNext_17 : decode cX7_equalsSignIsNext 17 = .ok (.iconst 1, 1) := by decide +kernel
theorem dX7_equalsSignIsNext_18 : decode cX7_equalsSignIsNext 18 = .ok (.goto 4, 3) := by decide +kernel
theorem dX7_equalsSignIsNext_21 : decode cX7_equalsSignIsNext 21 = .ok (.iconst 0, 1) := by decide +kernel
theorem dX7_equalsSignIsNext_22 : decode cX7_equalsSignIsNext 22 = .ok (.ireturn, 1) := by decide +kernel
theorem dX7_isWord_0 : decode cX7_isWord 0 = .ok (.iload_n 2, 1) := by decide +kernel
theorem dX7_isWord_1 : decode cX7_isWord 1 = .ok (.iload_n 1, 1) := by decide +kernel
theorem dX7_isWord_2 : decode cX7_isWord 2 = .ok (.isub, 1) := by decide +kernel
theorem dX7_isWord_3 : decode cX7_isWord 3 = .ok (.aload_n 0, 1) := by decide +kernel
theorem dX7_isWord_4 : decode cX7_isWord 4 = .ok (.getfield 16, 3) := by decide +kernel
theorem dX7_isWord_7 : decode cX7_isWord 7 = .ok (.aload_n 0, 1) := by decide +kernel
theorem dX7_isWord_8 : decode cX7_isWord 8 = .ok (.getfield 13, 3) := by decide +kernel
theorem dX7_isWord_11 : decode cX7_isWord 11 = .ok (.isub, 1) := by decide +kernel
theorem dX7_isWord_12 : decode cX7_isWord 12 = .ok (.if_icmp .eq 5, 3) := by decide +kernel
theorem dX7_isWord_15 : decode cX7_isWord 15 = .ok (.iconst 0, 1) := by decide +kernel
theorem dX7_isWord_16 : decode cX7_isWord 16 = .ok (.ireturn, 1) := by decide +kernel
theorem dX7_isWord_17 : decode cX7_isWord 17 = .ok (.iload_n 1, 1) := by decide +kernel
theorem dX7_isWord_18 : decode cX7_isWord 18 = .ok (.istore_n 3, 1) := by decide +kernel
theorem dX7_isWord_19 : decode cX7_isWord 19 = .ok (.iload_n 3, 1) := by decide +kernel
theorem dX7_isWord_20 : decode cX7_isWord 20 = .ok (.iload_n 2, 1) := by decide +kernel
theorem dX7_isWord_21 : decode cX7_isWord 21 = .ok (.if_icmp .ge 37, 3) := by decide +kernel
theorem dX7_isWord_24 : decode cX7_isWord 24 = .ok (.aload_n 0, 1) := by decide +kernel
theorem dX7_isWord_25 : decode cX7_isWord 25 = .ok (.getfield 19, 3) := by decide +kernel
theorem dX7_isWord_28 : decode cX7_isWord 28 = .ok (.iload_n 3, 1) := by decide +kernel
theorem dX7_isWord_29 : decode cX7_isWord 29 = .ok (.invokevirtual 23, 3) := by decide +kernel
theorem dX7_isWord_32 : decode cX7_isWord 32 = .ok (.aload_n 0, 1) := by decide +kernel
theorem dX7_isWord_33 : decode cX7_isWord 33 = .ok (.getfield 19, 3) := by decide +kernel
theorem dX7_isWord_36 : decode cX7_isWord 36 = .ok (.aload_n 0, 1) := by decide +kernel
theorem dX7_isWord_37 : decode cX7_isWord 37 = .ok (.getfield 13, 3) := by decide +kernel
theorem dX7_isWord_40 : decode cX7_isWord 40 = .ok (.iload_n 3, 1) := by decide +kernel
theorem dX7_isWord_41 : decode cX7_isWord 41 = .ok (.iadd, 1) := by decide +kernel
theorem dX7_isWord_42 : decode cX7_isWord 42 = .ok (.iload_n 1, 1) := by decide +kernel
theorem dX7_isWord_43 : decode cX7_isWord 43 = .ok (.isub, 1) := by decide +kernel
theorem dX7_isWord_44 : decode cX7_isWord 44 = .ok (.invokevirtual 23, 3) := by decide +kernel
theorem dX7_isWord_47 : decode cX7_isWord 47 = .ok (.if_icmp .eq 5, 3) := by decide +kernel
theorem dX7_isWord_50 : decode cX7_isWord 50 = .ok (.iconst 0, 1) := by decide +kernel
theorem dX7_isWord_51 : decode cX7_isWord 51 = .ok (.ireturn, 1) := by decide +kernel
theorem dX7_isWord_52 : decode cX7_isWord 52 = .ok (.iinc 3 1, 3) := by decide +kernel
theorem dX7_isWord_55 : decode cX7_isWord 55 = .ok (.goto (-36), 3) := by decide +kernel
theorem dX7_isWord_58 : decode cX7_isWord 58 = .ok (.iconst 1, 1) := by decide +kernel
theorem dX7_isWord_59 : decode cX7_isWord 59 = .ok (.ireturn, 1) := by decide +kernel
theorem dX7_behindBlanks_0 : decode cX7_behindBlanks 0 = .ok (.iload_n 1, 1) := by decide +kernel
theorem dX7_behindBlanks_1 : decode cX7_behindBlanks 1 = .ok (.istore_n 2, 1) := by decide +kernel
theorem dX7_behindBlanks_2 : decode cX7_behindBlanks 2 = .ok (.iload_n 2, 1) := by decide +kernel
theorem dX7_behindBlanks_3 : decode cX7_behindBlanks 3 = .ok (.aload_n 0, 1) := by decide +kernel
theorem dX7_behindBlanks_4 : decode cX7_behindBlanks 4 = .ok (.getfield 19, 3) := by decide +kernel
theorem dX7_behindBlanks_7 : decode cX7_behindBlanks 7 = .ok (.invokevirtual 35, 3) := by decide +kernel
theorem dX7_behindBlanks_10 : decode cX7_behindBlanks 10 = .ok (.if_icmp .ge 35, 3) := by decide +kernel
theorem dX7_behindBlanks_13 : decode cX7_behindBlanks 13 = .ok (.aload_n 0, 1) := by decide +kernel
theorem dX7_behindBlanks_14 : decode cX7_behindBlanks 14 = .ok (.getfield 19, 3) := by decide +kernel
theorem dX7_behindBlanks_17 : decode cX7_behindBlanks 17 = .ok (.iload_n 2, 1) := by decide +kernel
theorem dX7_behindBlanks_18 : decode cX7_behindBlanks 18 = .ok (.invokevirtual 23, 3) := by decide +kernel
theorem dX7_behindBlanks_21 : decode cX7_behindBlanks 21 = .ok (.bipush 32, 2) := by decide +kernel
theorem dX7_behindBlanks_23 : decode cX7_behindBlanks 23 = .ok (.if_icmp .eq 16, 3) := by decide +kernel
theorem dX7_behindBlanks_26 : decode cX7_behindBlanks 26 = .ok (.aload_n 0, 1) := by decide +kernel
theorem dX7_behindBlanks_27 : decode cX7_behindBlanks 27 = .ok (.getfield 19, 3) := by decide +kernel
theorem dX7_behindBlanks_30 : decode cX7_behindBlanks 30 = .ok (.iload_n 2, 1) := by decide +kernel
theorem dX7_behindBlanks_31 : decode cX7_behindBlanks 31 = .ok (.invokevirtual 23, 3) := by decide +kernel
theorem dX7_behindBlanks_34 : decode cX7_behindBlanks 34 = .ok (.bipush 10, 2) := by decide +kernel
theorem dX7_behindBlanks_36 : decode cX7_behindBlanks 36 = .ok (.if_icmp .ne 9, 3) := by decide +kernel
theorem dX7_behindBlanks_39 : decode cX7_behindBlanks 39 = .ok (.iinc 2 1, 3) := by decide +kernel
theorem dX7_behindBlanks_42 : decode cX7_behindBlanks 42 = .ok (.goto (-40), 3) := by decide +kernel
theorem dX7_behindBlanks_45 : decode cX7_behindBlanks 45 = .ok (.iload_n 2, 1) := by decide +kernel
theorem dX7_behindBlanks_46 : decode cX7_behindBlanks 46 = .ok (.ireturn, 1) := by decide +kernel
theorem dX7_sortOf_0 : decode cX7_sortOf 0 = .ok (.iload_n 1, 1) := by decide +kernel
theorem dX7_sortOf_1 : decode cX7_sortOf 1 = .ok (.aload_n 0, 1) := by decide +kernel
theorem dX7_sortOf_2 : decode cX7_sortOf 2 = .ok (.getfield 19, 3) := by decide +kernel
theorem dX7_sortOf_5 : decode cX7_sortOf 5 = .ok (.invokevirtual 35, 3) := by decide +kernel
theorem dX7_sortOf_8 : decode cX7_sortOf 8 = .ok (.if_icmp .lt 5, 3) := by decide +kernel
theorem dX7_sortOf_11 : decode cX7_sortOf 11 = .ok (.iconst 0, 1) := by decide +kernel
theorem dX7_sortOf_12 : decode cX7_sortOf 12 = .ok (.ireturn, 1) := by decide +kernel
theorem dX7_sortOf_13 : decode cX7_sortOf 13 = .ok (.aload_n 0, 1) := by decide +kernel
theorem dX7_sortOf_14 : decode cX7_sortOf 14 = .ok (.getfield 19, 3) := by decide +kernel
theorem dX7_sortOf_17 : decode cX7_sortOf 17 = .ok (.iload_n 1, 1) := by decide +kernel
theorem dX7_sortOf_18 : decode cX7_sortOf 18 = .ok (.invokevirtual 23, 3) := by decide +kernel
theorem dX7_sortOf_21 : decode cX7_sortOf 21 = .ok (.istore_n 2, 1) := by decide +kernel
theorem dX7_sortOf_22 : decode cX7_sortOf 22 = .ok (.iload_n 2, 1) := by decide +kernel
theorem dX7_sortOf_23 : decode cX7_sortOf 23 = .ok (.bipush 97, 2) := by decide +kernel
theorem dX7_sortOf_25 : decode cX7_sortOf 25 = .ok (.if_icmp .lt 12, 3) := by decide +kernel
theorem dX7_sortOf_28 : decode cX7_sortOf 28 = .ok (.iload_n 2, 1) := by decide +kernel
theorem dX7_sortOf_29 : decode cX7_sortOf 29 = .ok (.bipush 122, 2) := by decide +kernel
theorem dX7_sortOf_31 : decode cX7_sortOf 31 = .ok (.if_icmp .gt 6, 3) := by decide +kernel
theorem dX7_sortOf_34 : decode cX7_sortOf 34 = .ok (.bipush 97, 2) := by decide +kernel
theorem dX7_sortOf_36 : decode cX7_sortOf 36 = .ok (.ireturn, 1) := by decide +kernel
theorem dX7_sortOf_37 : decode cX7_sortOf 37 = .ok (.iload_n 2, 1) := by decide +kernel
theorem dX7_sortOf_38 : decode cX7_sortOf 38 = .ok (.bipush 48, 2) := by decide +kernel
theorem dX7_sortOf_40 : decode cX7_sortOf 40 = .ok (.if_icmp .lt 12, 3) := by decide +kernel
theorem dX7_sortOf_43 : decode cX7_sortOf 43 = .ok (.iload_n 2, 1) := by decide +kernel
theorem dX7_sortOf_44 : decode cX7_sortOf 44 = .ok (.bipush 57, 2) := by decide +kernel
theorem dX7_sortOf_46 : decode cX7_sortOf 46 = .ok (.if_icmp .gt 6, 3) := by decide +kernel
theorem dX7_sortOf_49 : decode cX7_sortOf 49 = .ok (.bipush 48, 2) := by decide +kernel
theorem dX7_sortOf_51 : decode cX7_sortOf 51 = .ok (.ireturn, 1) := by decide +kernel
theorem dX7_sortOf_52 : decode cX7_sortOf 52 = .ok (.iload_n 2, 1) := by decide +kernel
theorem dX7_sortOf_53 : decode cX7_sortOf 53 = .ok (.lookupswitch 61 #[(40, 59), (41, 59), (46, 59), (59, 59), (61, 59), (92, 59)], 59) := by decide +kernel
theorem dX7_sortOf_112 : decode cX7_sortOf 112 = .ok (.iload_n 2, 1) := by decide +kernel
theorem dX7_sortOf_113 : decode cX7_sortOf 113 = .ok (.ireturn, 1) := by decide +kernel
theorem dX7_sortOf_114 : decode cX7_sortOf 114 = .ok (.iconst 1, 1) := by decide +kernel
theorem dX7_sortOf_115 : decode cX7_sortOf 115 = .ok (.ireturn, 1) := by decide +kernel
theorem dX8_init_0 : decode cX8_init 0 = .ok (.aload_n 0, 1) := by decide +kernel
theorem dX8_init_1 : decode cX8_init 1 = .ok (.invokespecial 3, 3) := by decide +kernel
theorem dX8_init_4 : decode cX8_init 4 = .ok (.aload_n 0, 1) := by decide +kernel
theorem dX8_init_5 : decode cX8_init 5 = .ok (.new 9, 3) := by decide +kernel
theorem dX8_init_8 : decode cX8_init 8 = .ok (.dup, 1) := by decide +kernel
theorem dX8_init_9 : decode cX8_init 9 = .ok (.invokespecial 11, 3) := by decide +kernel
theorem dX8_init_12 : decode cX8_init 12 = .ok (.putfield 12, 3) := by decide +kernel
theorem dX8_init_15 : decode cX8_init 15 = .ok (.aload_n 0, 1) := by decide +kernel
theorem dX8_init_16 : decode cX8_init 16 = .ok (.new 18, 3) := by decide +kernel
theorem dX8_init_19 : decode cX8_init 19 = .ok (.dup, 1) := by decide +kernel
theorem dX8_init_20 : decode cX8_init 20 = .ok (.bipush 64, 2) := by decide +kernel
theorem dX8_init_22 : decode cX8_init 22 = .ok (.sipush 400, 3) := by decide +kernel
theorem dX8_init_25 : decode cX8_init 25 = .ok (.invokespecial 20, 3) := by decide +kernel
theorem dX8_init_28 : decode cX8_init 28 = .ok (.putfield 23, 3) := by decide +kernel
theorem dX8_init_31 : decode cX8_init 31 = .ok (.aload_n 0, 1) := by decide +kernel
theorem dX8_init_32 : decode cX8_init 32 = .ok (.new 18, 3) := by decide +kernel
theorem dX8_init_35 : decode cX8_init 35 = .ok (.dup, 1) := by decide +kernel
theorem dX8_init_36 : decode cX8_init 36 = .ok (.bipush 32, 2) := by decide +kernel
theorem dX8_init_38 : decode cX8_init 38 = .ok (.sipush 1600, 3) := by decide +kernel
theorem dX8_init_41 : decode cX8_init 41 = .ok (.invokespecial 20, 3) := by decide +kernel
theorem dX8_init_44 : decode cX8_init 44 = .ok (.putfield 27, 3) := by decide +kernel
theorem dX8_init_47 : decode cX8_init 47 = .ok (.aload_n 0, 1) := by decide +kernel
theorem dX8_init_48 : decode cX8_init 48 = .ok (.new 18, 3) := by decide +kernel
theorem dX8_init_51 : decode cX8_init 51 = .ok (.dup, 1) := by decide +kernel
theorem dX8_init_52 : decode cX8_init 52 = .ok (.bipush 32, 2) := by decide +kernel
theorem dX8_init_54 : decode cX8_init 54 = .ok (.sipush 800, 3) := by decide +kernel
theorem dX8_init_57 : decode cX8_init 57 = .ok (.invokespecial 20, 3) := by decide +kernel
theorem dX8_init_60 : decode cX8_init 60 = .ok (.putfield 30, 3) := by decide +kernel
theorem dX8_init_63 : decode cX8_init 63 = .ok (.aload_n 0, 1) := by decide +kernel
theorem dX8_init_64 : decode cX8_init 64 = .ok (.new 18, 3) := by decide +kernel
theorem dX8_init_67 : decode cX8_init 67 = .ok (.dup, 1) := by decide +kernel
theorem dX8_init_68 : decode cX8_init 68 = .ok (.bipush 64, 2) := by decide +kernel
theorem dX8_init_70 : decode cX8_init 70 = .ok (.ldc 33, 2) := by decide +kernel
theorem dX8_init_72 : decode cX8_init 72 = .ok (.invokespecial 20, 3) := by decide +kernel
theorem dX8_init_75 : decode cX8_init 75 = .ok (.putfield 34, 3) := by decide +kernel
theorem dX8_init_78 : decode cX8_init 78 = .ok (.aload_n 0, 1) := by decide +kernel
theorem dX8_init_79 : decode cX8_init 79 = .ok (.iconst 0, 1) := by decide +kernel
theorem dX8_init_80 : decode cX8_init 80 = .ok (.putfield 37, 3) := by decide +kernel
theorem dX8_init_83 : decode cX8_init 83 = .ok (.aload_n 0, 1) := by decide +kernel
theorem dX8_init_84 : decode cX8_init 84 = .ok (.iconst (-1), 1) := by decide +kernel
theorem dX8_init_85 : decode cX8_init 85 = .ok (.putfield 41, 3) := by decide +kernel
theorem dX8_init_88 : decode cX8_init 88 = .ok (.aload_n 0, 1) := by decide +kernel
theorem dX8_init_89 : decode cX8_init 89 = .ok (.iconst 0, 1) := by decide +kernel
theorem dX8_init_90 : decode cX8_init 90 = .ok (.putfield 44, 3) := by decide +kernel
theorem dX8_init_93 : decode cX8_init 93 = .ok (.aload_n 0, 1) := by decide +kernel
theorem dX8_init_94 : decode cX8_init 94 = .ok (.iconst 0, 1) := by decide +kernel
theorem dX8_init_95 : decode cX8_init 95 = .ok (.putfield 47, 3) := by decide +kernel
theorem dX8_init_98 : decode cX8_init 98 = .ok (.return_, 1) := by decide +kernel
theorem dX8_isRead_0 : decode cX8_isRead 0 = .ok (.aload_n 0, 1) := by decide +kernel
theorem dX8_isRead_1 : decode cX8_isRead 1 = .ok (.getfield 47, 3) := by decide +kernel
theorem dX8_isRead_4 : decode cX8_isRead 4 = .ok (.ireturn, 1) := by decide +kernel
theorem dX8_term_0 : decode cX8_term 0 = .ok (.aload_n 0, 1) := by decide +kernel
theorem dX8_term_1 : decode cX8_term 1 = .ok (.getfield 23, 3) := by decide +kernel
theorem dX8_term_4 : decode cX8_term 4 = .ok (.areturn, 1) := by decide +kernel
theorem dX8_wires_0 : decode cX8_wires 0 = .ok (.aload_n 0, 1) := by decide +kernel
theorem dX8_wires_1 : decode cX8_wires 1 = .ok (.getfield 37, 3) := by decide +kernel
theorem dX8_wires_4 : decode cX8_wires 4 = .ok (.ireturn, 1) := by decide +kernel
theorem dX8_wantedNode_0 : decode cX8_wantedNode 0 = .ok (.aload_n 0, 1) := by decide +kernel
theorem dX8_wantedNode_1 : decode cX8_wantedNode 1 = .ok (.getfield 41, 3) := by decide +kernel
theorem dX8_wantedNode_4 : decode cX8_wantedNode 4 = .ok (.ireturn, 1) := by decide +kernel
theorem dX8_wantedWires_0 : decode cX8_wantedWires 0 = .ok (.aload_n 0, 1) := by decide +kernel
theorem dX8_wantedWires_1 : decode cX8_wantedWires 1 = .ok (.getfield 44, 3) := by decide +kernel
theorem dX8_wantedWires_4 : decode cX8_wantedWires 4 = .ok (.ireturn, 1) := by decide +kernel
theorem dX8_go_0 : decode cX8_go 0 = .ok (.aload_n 0, 1) := by decide +kernel
theorem dX8_go_1 : decode cX8_go 1 = .ok (.getfield 12, 3) := by decide +kernel
theorem dX8_go_4 : decode cX8_go 4 = .ok (.invokevirtual 51, 3) := by decide +kernel
theorem dX8_go_7 : decode cX8_go 7 = .ok (.aload_n 0, 1) := by decide +kernel
theorem dX8_go_8 : decode cX8_go 8 = .ok (.getfield 23, 3) := by decide +kernel
theorem dX8_go_11 : decode cX8_go 11 = .ok (.iconst 0, 1) := by decide +kernel
theorem dX8_go_12 : decode cX8_go 12 = .ok (.invokevirtual 54, 3) := by decide +kernel
theorem dX8_go_15 : decode cX8_go 15 = .ok (.aload_n 0, 1) := by decide +kernel
theorem dX8_go_16 : decode cX8_go 16 = .ok (.getfield 27, 3) := by decide +kernel
theorem dX8_go_19 : decode cX8_go 19 = .ok (.iconst 0, 1) := by decide +kernel
theorem dX8_go_20 : decode cX8_go 20 = .ok (.invokevirtual 54, 3) := by decide +kernel
theorem dX8_go_23 : decode cX8_go 23 = .ok (.aload_n 0, 1) := by decide +kernel
theorem dX8_go_24 : decode cX8_go 24 = .ok (.getfield 30, 3) := by decide +kernel
theorem dX8_go_27 : decode cX8_go 27 = .ok (.iconst 0, 1) := by decide +kernel
theorem dX8_go_28 : decode cX8_go 28 = .ok (.invokevirtual 54, 3) := by decide +kernel
theorem dX8_go_31 : decode cX8_go 31 = .ok (.aload_n 0, 1) := by decide +kernel
theorem dX8_go_32 : decode cX8_go 32 = .ok (.getfield 34, 3) := by decide +kernel
theorem dX8_go_35 : decode cX8_go 35 = .ok (.iconst 0, 1) := by decide +kernel
theorem dX8_go_36 : decode cX8_go 36 = .ok (.invokevirtual 54, 3) := by decide +kernel
theorem dX8_go_39 : decode cX8_go 39 = .ok (.aload_n 0, 1) := by decide +kernel
theorem dX8_go_40 : decode cX8_go 40 = .ok (.iconst 0, 1) := by decide +kernel
theorem dX8_go_41 : decode cX8_go 41 = .ok (.putfield 37, 3) := by decide +kernel
theorem dX8_go_44 : decode cX8_go 44 = .ok (.aload_n 0, 1) := by decide +kernel
theorem dX8_go_45 : decode cX8_go 45 = .ok (.iconst (-1), 1) := by decide +kernel
theorem dX8_go_46 : decode cX8_go 46 = .ok (.putfield 41, 3) := by decide +kernel
theorem dX8_go_49 : decode cX8_go 49 = .ok (.aload_n 0, 1) := by decide +kernel
theorem dX8_go_50 : decode cX8_go 50 = .ok (.iconst 0, 1) := by decide +kernel
theorem dX8_go_51 : decode cX8_go 51 = .ok (.putfield 44, 3) := by decide +kernel
theorem dX8_go_54 : decode cX8_go 54 = .ok (.iconst 0, 1) := by decide +kernel
theorem dX8_go_55 : decode cX8_go 55 = .ok (.istore_n 3, 1) := by decide +kernel
theorem dX8_go_56 : decode cX8_go 56 = .ok (.iload_n 3, 1) := by decide +kernel
theorem dX8_go_57 : decode cX8_go 57 = .ok (.ifCond .lt 76, 3) := by decide +kernel
theorem dX8_go_60 : decode cX8_go 60 = .ok (.aload_n 0, 1) := by decide +kernel
theorem dX8_go_61 : decode cX8_go 61 = .ok (.getfield 37, 3) := by decide +kernel
theorem dX8_go_64 : decode cX8_go 64 = .ok (.sipush 4000, 3) := by decide +kernel
theorem dX8_go_67 : decode cX8_go 67 = .ok (.if_icmp .gt 66, 3) := by decide +kernel
theorem dX8_go_70 : decode cX8_go 70 = .ok (.aload_n 1, 1) := by decide +kernel
theorem dX8_go_71 : decode cX8_go 71 = .ok (.iload_n 3, 1) := by decide +kernel
theorem dX8_go_72 : decode cX8_go 72 = .ok (.invokevirtual 58, 3) := by decide +kernel
theorem dX8_go_75 : decode cX8_go 75 = .ok (.istore 4, 2) := by decide +kernel
theorem dX8_go_77 : decode cX8_go 77 = .ok (.aload_n 0, 1) := by decide +kernel
theorem dX8_go_78 : decode cX8_go 78 = .ok (.dup, 1) := by decide +kernel
theorem dX8_go_79 : decode cX8_go 79 = .ok (.getfield 37, 3) := by decide +kernel
theorem dX8_go_82 : decode cX8_go 82 = .ok (.iconst 1, 1) := by decide +kernel
theorem dX8_go_83 : decode cX8_go 83 = .ok (.iadd, 1) := by decide +kernel
theorem dX8_go_84 : decode cX8_go 84 = .ok (.putfield 37, 3) := by decide +kernel
theorem dX8_go_87 : decode cX8_go 87 = .ok (.aload_n 0, 1) := by decide +kernel
theorem dX8_go_88 : decode cX8_go 88 = .ok (.iload_n 3, 1) := by decide +kernel
theorem dX8_go_89 : decode cX8_go 89 = .ok (.iload 4, 2) := by decide +kernel
theorem dX8_go_91 : decode cX8_go 91 = .ok (.invokevirtual 64, 3) := by decide +kernel
theorem dX8_go_94 : decode cX8_go 94 = .ok (.aload_n 0, 1) := by decide +kernel
theorem dX8_go_95 : decode cX8_go 95 = .ok (.getfield 44, 3) := by decide +kernel
theorem dX8_go_98 : decode cX8_go 98 = .ok (.ifCond .le 10, 3) := by decide +kernel
theorem dX8_go_101 : decode cX8_go 101 = .ok (.iload_n 2, 1) := by decide +kernel
theorem dX8_go_102 : decode cX8_go 102 = .ok (.ifCond .ne 6, 3) := by decide +kernel
theorem dX8_go_105 : decode cX8_go 105 = .ok (.goto 28, 3) := by decide +kernel
theorem dX8_go_108 : decode cX8_go 108 = .ok (.aload_n 0, 1) := by decide +kernel
theorem dX8_go_109 : decode cX8_go 109 = .ok (.getfield 37, 3) := by decide +kernel
theorem dX8_go_112 : decode cX8_go 112 = .ok (.sipush 4000, 3) := by decide +kernel
theorem dX8_go_115 : decode cX8_go 115 = .ok (.if_icmp .le 7, 3) := by decide +kernel
theorem dX8_go_118 : decode cX8_go 118 = .ok (.iconst (-1), 1) := by decide +kernel
theorem dX8_go_119 : decode cX8_go 119 = .ok (.goto 10, 3) := by decide +kernel
theorem dX8_go_122 : decode cX8_go 122 = .ok (.aload_n 0, 1) := by decide +kernel
theorem dX8_go_123 : decode cX8_go 123 = .ok (.aload_n 1, 1) := by decide +kernel
theorem dX8_go_124 : decode cX8_go 124 = .ok (.iload 4, 2) := by decide +kernel
theorem dX8_go_126 : decode cX8_go 126 = .ok (.invokevirtual 67, 3) := by decide +kernel
theorem dX8_go_129 : decode cX8_go 129 = .ok (.istore_n 3, 1) := by decide +kernel
theorem dX8_go_130 : decode cX8_go 130 = .ok (.goto (-74), 3) := by decide +kernel
theorem dX8_go_133 : decode cX8_go 133 = .ok (.aload_n 0, 1) := by decide +kernel
theorem dX8_go_134 : decode cX8_go 134 = .ok (.iload_n 3, 1) := by decide +kernel
theorem dX8_go_135 : decode cX8_go 135 = .ok (.bipush (-2), 2) := by decide +kernel
theorem dX8_go_137 : decode cX8_go 137 = .ok (.if_icmp .ne 7, 3) := by decide +kernel
theorem dX8_go_140 : decode cX8_go 140 = .ok (.iconst 1, 1) := by decide +kernel
theorem dX8_go_141 : decode cX8_go 141 = .ok (.goto 4, 3) := by decide +kernel
theorem dX8_go_144 : decode cX8_go 144 = .ok (.iconst 0, 1) := by decide +kernel
theorem dX8_go_145 : decode cX8_go 145 = .ok (.putfield 47, 3) := by decide +kernel
theorem dX8_go_148 : decode cX8_go 148 = .ok (.return_, 1) := by decide +kernel
theorem dX8_lookWhetherWanted_0 : decode cX8_lookWhetherWanted 0 = .ok (.iload_n 1, 1) := by decide +kernel
theorem dX8_lookWhetherWanted_1 : decode cX8_lookWhetherWanted 1 = .ok (.iconst 4, 1) := by decide +kernel
theorem dX8_lookWhetherWanted_2 : decode cX8_lookWhetherWanted 2 = .ok (.irem, 1) := by decide +kernel
theorem dX8_lookWhetherWanted_3 : decode cX8_lookWhetherWanted 3 = .ok (.ifCond .ne 13, 3) := by decide +kernel
theorem dX8_lookWhetherWanted_6 : decode cX8_lookWhetherWanted 6 = .ok (.iload_n 2, 1) := by decide +kernel
theorem dX8_lookWhetherWanted_7 : decode cX8_lookWhetherWanted 7 = .ok (.iconst 4, 1) := by decide +kernel
theorem dX8_lookWhetherWanted_8 : decode cX8_lookWhetherWanted 8 = .ok (.irem, 1) := by decide +kernel
theorem dX8_lookWhetherWanted_9 : decode cX8_lookWhetherWanted 9 = .ok (.ifCond .ne 7, 3) := by decide +kernel
theorem dX8_lookWhetherWanted_12 : decode cX8_lookWhetherWanted 12 = .ok (.iconst 1, 1) := by decide +kernel
theorem dX8_lookWhetherWanted_13 : decode cX8_lookWhetherWanted 13 = .ok (.goto 4, 3) := by decide +kernel
theorem dX8_lookWhetherWanted_16 : decode cX8_lookWhetherWanted 16 = .ok (.iconst 0, 1) := by decide +kernel
theorem dX8_lookWhetherWanted_17 : decode cX8_lookWhetherWanted 17 = .ok (.istore_n 3, 1) := by decide +kernel
theorem dX8_lookWhetherWanted_18 : decode cX8_lookWhetherWanted 18 = .ok (.aload_n 0, 1) := by decide +kernel
theorem dX8_lookWhetherWanted_19 : decode cX8_lookWhetherWanted 19 = .ok (.getfield 44, 3) := by decide +kernel
theorem dX8_lookWhetherWanted_22 : decode cX8_lookWhetherWanted 22 = .ok (.ifCond .ne 34, 3) := by decide +kernel
theorem dX8_lookWhetherWanted_25 : decode cX8_lookWhetherWanted 25 = .ok (.iload_n 3, 1) := by decide +kernel
theorem dX8_lookWhetherWanted_26 : decode cX8_lookWhetherWanted 26 = .ok (.ifCond .eq 30, 3) := by decide +kernel
theorem dX8_lookWhetherWanted_29 : decode cX8_lookWhetherWanted 29 = .ok (.iload_n 1, 1) := by decide +kernel
theorem dX8_lookWhetherWanted_30 : decode cX8_lookWhetherWanted 30 = .ok (.ifCond .eq 26, 3) := by decide +kernel
theorem dX8_lookWhetherWanted_33 : decode cX8_lookWhetherWanted 33 = .ok (.iload_n 2, 1) := by decide +kernel
theorem dX8_lookWhetherWanted_34 : decode cX8_lookWhetherWanted 34 = .ok (.ifCond .eq 22, 3) := by decide +kernel
theorem dX8_lookWhetherWanted_37 : decode cX8_lookWhetherWanted 37 = .ok (.aload_n 0, 1) := by decide +kernel
theorem dX8_lookWhetherWanted_38 : decode cX8_lookWhetherWanted 38 = .ok (.iload_n 1, 1) := by decide +kernel
theorem dX8_lookWhetherWanted_39 : decode cX8_lookWhetherWanted 39 = .ok (.iload_n 2, 1) := by decide +kernel
theorem dX8_lookWhetherWanted_40 : decode cX8_lookWhetherWanted 40 = .ok (.invokestatic 71, 3) := by decide +kernel
theorem dX8_lookWhetherWanted_43 : decode cX8_lookWhetherWanted 43 = .ok (.iconst 4, 1) := by decide +kernel
theorem dX8_lookWhetherWanted_44 : decode cX8_lookWhetherWanted 44 = .ok (.idiv, 1) := by decide +kernel
theorem dX8_lookWhetherWanted_45 : decode cX8_lookWhetherWanted 45 = .ok (.putfield 41, 3) := by decide +kernel
theorem dX8_lookWhetherWanted_48 : decode cX8_lookWhetherWanted 48 = .ok (.aload_n 0, 1) := by decide +kernel
theorem dX8_lookWhetherWanted_49 : decode cX8_lookWhetherWanted 49 = .ok (.aload_n 0, 1) := by decide +kernel
theorem dX8_lookWhetherWanted_50 : decode cX8_lookWhetherWanted 50 = .ok (.getfield 37, 3) := by decide +kernel
theorem dX8_lookWhetherWanted_53 : decode cX8_lookWhetherWanted 53 = .ok (.putfield 44, 3) := by decide +kernel
theorem dX8_lookWhetherWanted_56 : decode cX8_lookWhetherWanted 56 = .ok (.return_, 1) := by decide +kernel
theorem dX8_pass_0 : decode cX8_pass 0 = .ok (.iload_n 2, 1) := by decide +kernel
theorem dX8_pass_1 : decode cX8_pass 1 = .ok (.iconst 4, 1) := by decide +kernel
theorem dX8_pass_2 : decode cX8_pass 2 = .ok (.idiv, 1) := by decide +kernel
theorem dX8_pass_3 : decode cX8_pass 3 = .ok (.istore_n 3, 1) := by decide +kernel
theorem dX8_pass_4 : decode cX8_pass 4 = .ok (.iload_n 2, 1) := by decide +kernel
theorem dX8_pass_5 : decode cX8_pass 5 = .ok (.iconst 4, 1) := by decide +kernel
theorem dX8_pass_6 : decode cX8_pass 6 = .ok (.irem, 1) := by decide +kernel
theorem dX8_pass_7 : decode cX8_pass 7 = .ok (.istore 4, 2) := by decide +kernel
theorem dX8_pass_9 : decode cX8_pass 9 = .ok (.aload_n 1, 1) := by decide +kernel
theorem dX8_pass_10 : decode cX8_pass 10 = .ok (.iload_n 3, 1) := by decide +kernel
theorem dX8_pass_11 : decode cX8_pass 11 = .ok (.invokevirtual 77, 3) := by decide +kernel
theorem dX8_pass_14 : decode cX8_pass 14 = .ok (.istore 5, 2) := by decide +kernel
theorem dX8_pass_16 : decode cX8_pass 16 = .ok (.iload 5, 2) := by decide +kernel
theorem dX8_pass_18 : decode cX8_pass 18 = .ok (.sipush 200, 3) := by decide +kernel
theorem dX8_pass_21 : decode cX8_pass 21 = .ok (.if_icmp .le 5, 3) := by decide +kernel
theorem dX8_pass_24 : decode cX8_pass 24 = .ok (.iconst (-1), 1) := by decide +kernel
theorem dX8_pass_25 : decode cX8_pass 25 = .ok (.ireturn, 1) := by decide +kernel
theorem dX8_pass_26 : decode cX8_pass 26 = .ok (.aload_n 1, 1) := by decide +kernel
theorem dX8_pass_27 : decode cX8_pass 27 = .ok (.iload_n 3, 1) := by decide +kernel
theorem dX8_pass_28 : decode cX8_pass 28 = .ok (.invokevirtual 80, 3) := by decide +kernel
theorem dX8_pass_31 : decode cX8_pass 31 = .ok (.tableswitch 232 1 5 #[33, 83, 105, 152, 192], 33) := by decide +kernel
theorem dX8_pass_64 : decode cX8_pass 64 = .ok (.iload 4, 2) := by decide +kernel
theorem dX8_pass_66 : decode cX8_pass 66 = .ok (.ifCond .ne 23, 3) := by decide +kernel
theorem dX8_pass_69 : decode cX8_pass 69 = .ok (.aload_n 0, 1) := by decide +kernel
theorem dX8_pass_70 : decode cX8_pass 70 = .ok (.iload_n 3, 1) := by decide +kernel
theorem dX8_pass_71 : decode cX8_pass 71 = .ok (.iload 5, 2) := by decide +kernel
theorem dX8_pass_73 : decode cX8_pass 73 = .ok (.invokevirtual 83, 3) := by decide +kernel
theorem dX8_pass_76 : decode cX8_pass 76 = .ok (.ifCond .eq 11, 3) := by decide +kernel
theorem dX8_pass_79 : decode cX8_pass 79 = .ok (.iconst 4, 1) := by decide +kernel
theorem dX8_pass_80 : decode cX8_pass 80 = .ok (.iload_n 3, 1) := by decide +kernel
theorem dX8_pass_81 : decode cX8_pass 81 = .ok (.imul, 1) := by decide +kernel
theorem dX8_pass_82 : decode cX8_pass 82 = .ok (.iconst 1, 1) := by decide +kernel
theorem dX8_pass_83 : decode cX8_pass 83 = .ok (.iadd, 1) := by decide +kernel
theorem dX8_pass_84 : decode cX8_pass 84 = .ok (.goto 4, 3) := by decide +kernel
theorem dX8_pass_87 : decode cX8_pass 87 = .ok (.iconst (-1), 1) := by decide +kernel
theorem dX8_pass_88 : decode cX8_pass 88 = .ok (.ireturn, 1) := by decide +kernel
theorem dX8_pass_89 : decode cX8_pass 89 = .ok (.iload 4, 2) := by decide +kernel
theorem dX8_pass_91 : decode cX8_pass 91 = .ok (.iconst 2, 1) := by decide +kernel
theorem dX8_pass_92 : decode cX8_pass 92 = .ok (.if_icmp .ne 20, 3) := by decide +kernel
theorem dX8_pass_95 : decode cX8_pass 95 = .ok (.aload_n 0, 1) := by decide +kernel
theorem dX8_pass_96 : decode cX8_pass 96 = .ok (.iload_n 3, 1) := by decide +kernel
theorem dX8_pass_97 : decode cX8_pass 97 = .ok (.iload 5, 2) := by decide +kernel
theorem dX8_pass_99 : decode cX8_pass 99 = .ok (.invokevirtual 87, 3) := by decide +kernel
theorem dX8_pass_102 : decode cX8_pass 102 = .ok (.ifCond .eq 10, 3) := by decide +kernel
theorem dX8_pass_105 : decode cX8_pass 105 = .ok (.aload_n 0, 1) := by decide +kernel
theorem dX8_pass_106 : decode cX8_pass 106 = .ok (.invokevirtual 90, 3) := by decide +kernel
theorem dX8_pass_109 : decode cX8_pass 109 = .ok (.goto 4, 3) := by decide +kernel
theorem dX8_pass_112 : decode cX8_pass 112 = .ok (.iconst (-1), 1) := by decide +kernel
theorem dX8_pass_113 : decode cX8_pass 113 = .ok (.ireturn, 1) := by decide +kernel
theorem dX8_pass_114 : decode cX8_pass 114 = .ok (.iload 4, 2) := by decide +kernel
theorem dX8_pass_116 : decode cX8_pass 116 = .ok (.iconst 1, 1) := by decide +kernel
theorem dX8_pass_117 : decode cX8_pass 117 = .ok (.if_icmp .ne 17, 3) := by decide +kernel
theorem dX8_pass_120 : decode cX8_pass 120 = .ok (.aload_n 0, 1) := by decide +kernel
theorem dX8_pass_121 : decode cX8_pass 121 = .ok (.iload_n 3, 1) := by decide +kernel
theorem dX8_pass_122 : decode cX8_pass 122 = .ok (.invokevirtual 94, 3) := by decide +kernel
theorem dX8_pass_125 : decode cX8_pass 125 = .ok (.ifCond .eq 9, 3) := by decide +kernel
theorem dX8_pass_128 : decode cX8_pass 128 = .ok (.iconst 4, 1) := by decide +kernel
theorem dX8_pass_129 : decode cX8_pass 129 = .ok (.iload_n 3, 1) := by decide +kernel
theorem dX8_pass_130 : decode cX8_pass 130 = .ok (.imul, 1) := by decide +kernel
theorem dX8_pass_131 : decode cX8_pass 131 = .ok (.goto 4, 3) := by decide +kernel
theorem dX8_pass_134 : decode cX8_pass 134 = .ok (.iconst (-1), 1) := by decide +kernel
theorem dX8_pass_135 : decode cX8_pass 135 = .ok (.ireturn, 1) := by decide +kernel
theorem dX8_pass_136 : decode cX8_pass 136 = .ok (.iload 4, 2) := by decide +kernel
theorem dX8_pass_138 : decode cX8_pass 138 = .ok (.ifCond .ne 30, 3) := by decide +kernel
theorem dX8_pass_141 : decode cX8_pass 141 = .ok (.aload_n 0, 1) := by decide +kernel
theorem dX8_pass_142 : decode cX8_pass 142 = .ok (.getfield 12, 3) := by decide +kernel
theorem dX8_pass_145 : decode cX8_pass 145 = .ok (.iload 5, 2) := by decide +kernel
theorem dX8_pass_147 : decode cX8_pass 147 = .ok (.invokevirtual 98, 3) := by decide +kernel
theorem dX8_pass_150 : decode cX8_pass 150 = .ok (.istore 6, 2) := by decide +kernel
theorem dX8_pass_152 : decode cX8_pass 152 = .ok (.iload 6, 2) := by decide +kernel
theorem dX8_pass_154 : decode cX8_pass 154 = .ok (.ifCond .ne 7, 3) := by decide +kernel
theorem dX8_pass_157 : decode cX8_pass 157 = .ok (.iconst (-1), 1) := by decide +kernel
theorem dX8_pass_158 : decode cX8_pass 158 = .ok (.goto 9, 3) := by decide +kernel
theorem dX8_pass_161 : decode cX8_pass 161 = .ok (.iconst 4, 1) := by decide +kernel
theorem dX8_pass_162 : decode cX8_pass 162 = .ok (.iload_n 3, 1) := by decide +kernel
theorem dX8_pass_163 : decode cX8_pass 163 = .ok (.imul, 1) := by decide +kernel
theorem dX8_pass_164 : decode cX8_pass 164 = .ok (.iload 6, 2) := by decide +kernel
theorem dX8_pass_166 : decode cX8_pass 166 = .ok (.iadd, 1) := by decide +kernel
theorem dX8_pass_167 : decode cX8_pass 167 = .ok (.ireturn, 1) := by decide +kernel
theorem dX8_pass_168 : decode cX8_pass 168 = .ok (.aload_n 0, 1) := by decide +kernel
theorem dX8_pass_169 : decode cX8_pass 169 = .ok (.getfield 12, 3) := by decide +kernel
theorem dX8_pass_172 : decode cX8_pass 172 = .ok (.iload 5, 2) := by decide +kernel
theorem dX8_pass_174 : decode cX8_pass 174 = .ok (.iload 4, 2) := by decide +kernel
theorem dX8_pass_176 : decode cX8_pass 176 = .ok (.invokevirtual 101, 3) := by decide +kernel
theorem dX8_pass_179 : decode cX8_pass 179 = .ok (.iconst 4, 1) := by decide +kernel
theorem dX8_pass_180 : decode cX8_pass 180 = .ok (.iload_n 3, 1) := by decide +kernel
theorem dX8_pass_181 : decode cX8_pass 181 = .ok (.imul, 1) := by decide +kernel
theorem dX8_pass_182 : decode cX8_pass 182 = .ok (.ireturn, 1) := by decide +kernel
theorem dX8_pass_183 : decode cX8_pass 183 = .ok (.iload 4, 2) := by decide +kernel
theorem dX8_pass_185 : decode cX8_pass 185 = .ok (.ifCond .ne 25, 3) := by decide +kernel
theorem dX8_pass_188 : decode cX8_pass 188 = .ok (.aload_n 0, 1) := by decide +kernel
theorem dX8_pass_189 : decode cX8_pass 189 = .ok (.getfield 12, 3) := by decide +kernel
theorem dX8_pass_192 : decode cX8_pass 192 = .ok (.iload 5, 2) := by decide +kernel
theorem dX8_pass_194 : decode cX8_pass 194 = .ok (.invokevirtual 104, 3) := by decide +kernel
theorem dX8_pass_197 : decode cX8_pass 197 = .ok (.ifCond .eq 11, 3) := by decide +kernel
theorem dX8_pass_200 : decode cX8_pass 200 = .ok (.iconst 4, 1) := by decide +kernel
theorem dX8_pass_201 : decode cX8_pass 201 = .ok (.iload_n 3, 1) := by decide +kernel
theorem dX8_pass_202 : decode cX8_pass 202 = .ok (.imul, 1) := by decide +kernel
theorem dX8_pass_203 : decode cX8_pass 203 = .ok (.iconst 1, 1) := by decide +kernel
theorem dX8_pass_204 : decode cX8_pass 204 = .ok (.iadd, 1) := by decide +kernel
theorem dX8_pass_205 : decode cX8_pass 205 = .ok (.goto 4, 3) := by decide +kernel
theorem dX8_pass_208 : decode cX8_pass 208 = .ok (.iconst (-1), 1) := by decide +kernel
theorem dX8_pass_209 : decode cX8_pass 209 = .ok (.ireturn, 1) := by decide +kernel
theorem dX8_pass_210 : decode cX8_pass 210 = .ok (.aload_n 0, 1) := by decide +kernel
theorem dX8_pass_211 : decode cX8_pass 211 = .ok (.getfield 12, 3) := by decide +kernel
theorem dX8_pass_214 : decode cX8_pass 214 = .ok (.iload 5, 2) := by decide +kernel
theorem dX8_pass_216 : decode cX8_pass 216 = .ok (.invokevirtual 107, 3) := by decide +kernel
theorem dX8_pass_219 : decode cX8_pass 219 = .ok (.iconst 4, 1) := by decide +kernel
theorem dX8_pass_220 : decode cX8_pass 220 = .ok (.iload_n 3, 1) := by decide +kernel
theorem dX8_pass_221 : decode cX8_pass 221 = .ok (.imul, 1) := by decide +kernel
theorem dX8_pass_222 : decode cX8_pass 222 = .ok (.ireturn, 1) := by decide +kernel
theorem dX8_pass_223 : decode cX8_pass 223 = .ok (.iload 4, 2) := by decide +kernel
theorem dX8_pass_225 : decode cX8_pass 225 = .ok (.ifCond .ne 25, 3) := by decide +kernel
theorem dX8_pass_228 : decode cX8_pass 228 = .ok (.aload_n 0, 1) := by decide +kernel
theorem dX8_pass_229 : decode cX8_pass 229 = .ok (.getfield 12, 3) := by decide +kernel
theorem dX8_pass_232 : decode cX8_pass 232 = .ok (.iload 5, 2) := by decide +kernel
theorem dX8_pass_234 : decode cX8_pass 234 = .ok (.invokevirtual 110, 3) := by decide +kernel
theorem dX8_pass_237 : decode cX8_pass 237 = .ok (.ifCond .eq 11, 3) := by decide +kernel
theorem dX8_pass_240 : decode cX8_pass 240 = .ok (.iconst 4, 1) := by decide +kernel
theorem dX8_pass_241 : decode cX8_pass 241 = .ok (.iload_n 3, 1) := by decide +kernel
theorem dX8_pass_242 : decode cX8_pass 242 = .ok (.imul, 1) := by decide +kernel
theorem dX8_pass_243 : decode cX8_pass 243 = .ok (.iconst 1, 1) := by decide +kernel
theorem dX8_pass_244 : decode cX8_pass 244 = .ok (.iadd, 1) := by decide +kernel
theorem dX8_pass_245 : decode cX8_pass 245 = .ok (.goto 4, 3) := by decide +kernel
theorem dX8_pass_248 : decode cX8_pass 248 = .ok (.iconst (-1), 1) := by decide +kernel
theorem dX8_pass_249 : decode cX8_pass 249 = .ok (.ireturn, 1) := by decide +kernel
theorem dX8_pass_250 : decode cX8_pass 250 = .ok (.aload_n 0, 1) := by decide +kernel
theorem dX8_pass_251 : decode cX8_pass 251 = .ok (.getfield 12, 3) := by decide +kernel
theorem dX8_pass_254 : decode cX8_pass 254 = .ok (.iload 5, 2) := by decide +kernel
theorem dX8_pass_256 : decode cX8_pass 256 = .ok (.invokevirtual 113, 3) := by decide +kernel
theorem dX8_pass_259 : decode cX8_pass 259 = .ok (.iconst 4, 1) := by decide +kernel
theorem dX8_pass_260 : decode cX8_pass 260 = .ok (.iload_n 3, 1) := by decide +kernel
theorem dX8_pass_261 : decode cX8_pass 261 = .ok (.imul, 1) := by decide +kernel
theorem dX8_pass_262 : decode cX8_pass 262 = .ok (.ireturn, 1) := by decide +kernel
theorem dX8_pass_263 : decode cX8_pass 263 = .ok (.iconst (-1), 1) := by decide +kernel
theorem dX8_pass_264 : decode cX8_pass 264 = .ok (.ireturn, 1) := by decide +kernel
theorem dX8_beginFunction_0 : decode cX8_beginFunction 0 = .ok (.aload_n 0, 1) := by decide +kernel
theorem dX8_beginFunction_1 : decode cX8_beginFunction 1 = .ok (.getfield 30, 3) := by decide +kernel
theorem dX8_beginFunction_4 : decode cX8_beginFunction 4 = .ok (.iload_n 1, 1) := by decide +kernel
theorem dX8_beginFunction_5 : decode cX8_beginFunction 5 = .ok (.invokevirtual 116, 3) := by decide +kernel
theorem dX8_beginFunction_8 : decode cX8_beginFunction 8 = .ok (.pop, 1) := by decide +kernel
theorem dX8_beginFunction_9 : decode cX8_beginFunction 9 = .ok (.aload_n 0, 1) := by decide +kernel
theorem dX8_beginFunction_10 : decode cX8_beginFunction 10 = .ok (.getfield 30, 3) := by decide +kernel
theorem dX8_beginFunction_13 : decode cX8_beginFunction 13 = .ok (.aload_n 0, 1) := by decide +kernel
theorem dX8_beginFunction_14 : decode cX8_beginFunction 14 = .ok (.getfield 34, 3) := by decide +kernel
theorem dX8_beginFunction_17 : decode cX8_beginFunction 17 = .ok (.invokevirtual 119, 3) := by decide +kernel
theorem dX8_beginFunction_20 : decode cX8_beginFunction 20 = .ok (.invokevirtual 116, 3) := by decide +kernel
theorem dX8_beginFunction_23 : decode cX8_beginFunction 23 = .ok (.pop, 1) := by decide +kernel
theorem dX8_beginFunction_24 : decode cX8_beginFunction 24 = .ok (.iconst 0, 1) := by decide +kernel
theorem dX8_beginFunction_25 : decode cX8_beginFunction 25 = .ok (.istore_n 3, 1) := by decide +kernel
theorem dX8_beginFunction_26 : decode cX8_beginFunction 26 = .ok (.iload_n 3, 1) := by decide +kernel
theorem dX8_beginFunction_27 : decode cX8_beginFunction 27 = .ok (.iload_n 2, 1) := by decide +kernel
theorem dX8_beginFunction_28 : decode cX8_beginFunction 28 = .ok (.if_icmp .ge 25, 3) := by decide +kernel
theorem dX8_beginFunction_31 : decode cX8_beginFunction 31 = .ok (.aload_n 0, 1) := by decide +kernel
theorem dX8_beginFunction_32 : decode cX8_beginFunction 32 = .ok (.getfield 34, 3) := by decide +kernel
theorem dX8_beginFunction_35 : decode cX8_beginFunction 35 = .ok (.aload_n 0, 1) := by decide +kernel
theorem dX8_beginFunction_36 : decode cX8_beginFunction 36 = .ok (.getfield 12, 3) := by decide +kernel
theorem dX8_beginFunction_39 : decode cX8_beginFunction 39 = .ok (.iload_n 3, 1) := by decide +kernel
theorem dX8_beginFunction_40 : decode cX8_beginFunction 40 = .ok (.invokevirtual 122, 3) := by decide +kernel
theorem dX8_beginFunction_43 : decode cX8_beginFunction 43 = .ok (.invokevirtual 116, 3) := by decide +kernel
theorem dX8_beginFunction_46 : decode cX8_beginFunction 46 = .ok (.pop, 1) := by decide +kernel
theorem dX8_beginFunction_47 : decode cX8_beginFunction 47 = .ok (.iinc 3 1, 3) := by decide +kernel
theorem dX8_beginFunction_50 : decode cX8_beginFunction 50 = .ok (.goto (-24), 3) := by decide +kernel
theorem dX8_beginFunction_53 : decode cX8_beginFunction 53 = .ok (.aload_n 0, 1) := by decide +kernel
theorem dX8_beginFunction_54 : decode cX8_beginFunction 54 = .ok (.getfield 23, 3) := by decide +kernel
theorem dX8_beginFunction_57 : decode cX8_beginFunction 57 = .ok (.iconst 1, 1) := by decide +kernel
theorem dX8_beginFunction_58 : decode cX8_beginFunction 58 = .ok (.invokevirtual 116, 3) := by decide +kernel
theorem dX8_beginFunction_61 : decode cX8_beginFunction 61 = .ok (.ireturn, 1) := by decide +kernel
theorem dX8_beginApplication_0 : decode cX8_beginApplication 0 = .ok (.aload_n 0, 1) := by decide +kernel
theorem dX8_beginApplication_1 : decode cX8_beginApplication 1 = .ok (.getfield 27, 3) := by decide +kernel
theorem dX8_beginApplication_4 : decode cX8_beginApplication 4 = .ok (.iload_n 1, 1) := by decide +kernel
theorem dX8_beginApplication_5 : decode cX8_beginApplication 5 = .ok (.invokevirtual 116, 3) := by decide +kernel
theorem dX8_beginApplication_8 : decode cX8_beginApplication 8 = .ok (.pop, 1) := by decide +kernel
theorem dX8_beginApplication_9 : decode cX8_beginApplication 9 = .ok (.aload_n 0, 1) := by decide +kernel
theorem dX8_beginApplication_10 : decode cX8_beginApplication 10 = .ok (.getfield 27, 3) := by decide +kernel
theorem dX8_beginApplication_13 : decode cX8_beginApplication 13 = .ok (.aload_n 0, 1) := by decide +kernel
theorem dX8_beginApplication_14 : decode cX8_beginApplication 14 = .ok (.getfield 12, 3) := by decide +kernel
theorem dX8_beginApplication_17 : decode cX8_beginApplication 17 = .ok (.invokevirtual 125, 3) := by decide +kernel
theorem dX8_beginApplication_20 : decode cX8_beginApplication 20 = .ok (.invokevirtual 116, 3) := by decide +kernel
theorem dX8_beginApplication_23 : decode cX8_beginApplication 23 = .ok (.pop, 1) := by decide +kernel
theorem dX8_beginApplication_24 : decode cX8_beginApplication 24 = .ok (.aload_n 0, 1) := by decide +kernel
theorem dX8_beginApplication_25 : decode cX8_beginApplication 25 = .ok (.getfield 27, 3) := by decide +kernel
theorem dX8_beginApplication_28 : decode cX8_beginApplication 28 = .ok (.aload_n 0, 1) := by decide +kernel
theorem dX8_beginApplication_29 : decode cX8_beginApplication 29 = .ok (.getfield 30, 3) := by decide +kernel
theorem dX8_beginApplication_32 : decode cX8_beginApplication 32 = .ok (.invokevirtual 119, 3) := by decide +kernel
theorem dX8_beginApplication_35 : decode cX8_beginApplication 35 = .ok (.invokevirtual 116, 3) := by decide +kernel
theorem dX8_beginApplication_38 : decode cX8_beginApplication 38 = .ok (.pop, 1) := by decide +kernel
theorem dX8_beginApplication_39 : decode cX8_beginApplication 39 = .ok (.aload_n 0, 1) := by decide +kernel
theorem dX8_beginApplication_40 : decode cX8_beginApplication 40 = .ok (.getfield 27, 3) := by decide +kernel
theorem dX8_beginApplication_43 : decode cX8_beginApplication 43 = .ok (.aload_n 0, 1) := by decide +kernel
theorem dX8_beginApplication_44 : decode cX8_beginApplication 44 = .ok (.getfield 34, 3) := by decide +kernel
theorem dX8_beginApplication_47 : decode cX8_beginApplication 47 = .ok (.invokevirtual 119, 3) := by decide +kernel
theorem dX8_beginApplication_50 : decode cX8_beginApplication 50 = .ok (.invokevirtual 116, 3) := by decide +kernel
theorem dX8_beginApplication_53 : decode cX8_beginApplication 53 = .ok (.pop, 1) := by decide +kernel
theorem dX8_beginApplication_54 : decode cX8_beginApplication 54 = .ok (.aload_n 0, 1) := by decide +kernel
theorem dX8_beginApplication_55 : decode cX8_beginApplication 55 = .ok (.getfield 23, 3) := by decide +kernel
theorem dX8_beginApplication_58 : decode cX8_beginApplication 58 = .ok (.iconst 0, 1) := by decide +kernel
theorem dX8_beginApplication_59 : decode cX8_beginApplication 59 = .ok (.invokevirtual 116, 3) := by decide +kernel
theorem dX8_beginApplication_62 : decode cX8_beginApplication 62 = .ok (.ireturn, 1) := by decide +kernel
theorem dX8_readVariable_0 : decode cX8_readVariable 0 = .ok (.aload_n 0, 1) := by decide +kernel
theorem dX8_readVariable_1 : decode cX8_readVariable 1 = .ok (.getfield 30, 3) := by decide +kernel
theorem dX8_readVariable_4 : decode cX8_readVariable 4 = .ok (.invokevirtual 119, 3) := by decide +kernel
theorem dX8_readVariable_7 : decode cX8_readVariable 7 = .ok (.iconst 2, 1) := by decide +kernel
theorem dX8_readVariable_8 : decode cX8_readVariable 8 = .ok (.isub, 1) := by decide +kernel
theorem dX8_readVariable_9 : decode cX8_readVariable 9 = .ok (.istore_n 3, 1) := by decide +kernel
theorem dX8_readVariable_10 : decode cX8_readVariable 10 = .ok (.iload_n 3, 1) := by decide +kernel
theorem dX8_readVariable_11 : decode cX8_readVariable 11 = .ok (.ifCond .lt 62, 3) := by decide +kernel
theorem dX8_readVariable_14 : decode cX8_readVariable 14 = .ok (.aload_n 0, 1) := by decide +kernel
theorem dX8_readVariable_15 : decode cX8_readVariable 15 = .ok (.getfield 30, 3) := by decide +kernel
theorem dX8_readVariable_18 : decode cX8_readVariable 18 = .ok (.iload_n 3, 1) := by decide +kernel
theorem dX8_readVariable_19 : decode cX8_readVariable 19 = .ok (.invokevirtual 128, 3) := by decide +kernel
theorem dX8_readVariable_22 : decode cX8_readVariable 22 = .ok (.iload_n 1, 1) := by decide +kernel
theorem dX8_readVariable_23 : decode cX8_readVariable 23 = .ok (.if_icmp .ne 44, 3) := by decide +kernel
theorem dX8_readVariable_26 : decode cX8_readVariable 26 = .ok (.aload_n 0, 1) := by decide +kernel
theorem dX8_readVariable_27 : decode cX8_readVariable 27 = .ok (.aload_n 0, 1) := by decide +kernel
theorem dX8_readVariable_28 : decode cX8_readVariable 28 = .ok (.getfield 30, 3) := by decide +kernel
theorem dX8_readVariable_31 : decode cX8_readVariable 31 = .ok (.iload_n 3, 1) := by decide +kernel
theorem dX8_readVariable_32 : decode cX8_readVariable 32 = .ok (.iconst 1, 1) := by decide +kernel
theorem dX8_readVariable_33 : decode cX8_readVariable 33 = .ok (.iadd, 1) := by decide +kernel
theorem dX8_readVariable_34 : decode cX8_readVariable 34 = .ok (.invokevirtual 128, 3) := by decide +kernel
theorem dX8_readVariable_37 : decode cX8_readVariable 37 = .ok (.iload_n 2, 1) := by decide +kernel
theorem dX8_readVariable_38 : decode cX8_readVariable 38 = .ok (.invokevirtual 131, 3) := by decide +kernel
theorem dX8_readVariable_41 : decode cX8_readVariable 41 = .ok (.ifCond .eq 26, 3) := by decide +kernel
theorem dX8_readVariable_44 : decode cX8_readVariable 44 = .ok (.aload_n 0, 1) := by decide +kernel
theorem dX8_readVariable_45 : decode cX8_readVariable 45 = .ok (.getfield 23, 3) := by decide +kernel
theorem dX8_readVariable_48 : decode cX8_readVariable 48 = .ok (.iconst 2, 1) := by decide +kernel
theorem dX8_readVariable_49 : decode cX8_readVariable 49 = .ok (.aload_n 0, 1) := by decide +kernel
theorem dX8_readVariable_50 : decode cX8_readVariable 50 = .ok (.getfield 30, 3) := by decide +kernel
theorem dX8_readVariable_53 : decode cX8_readVariable 53 = .ok (.invokevirtual 119, 3) := by decide +kernel
theorem dX8_readVariable_56 : decode cX8_readVariable 56 = .ok (.iconst 2, 1) := by decide +kernel
theorem dX8_readVariable_57 : decode cX8_readVariable 57 = .ok (.isub, 1) := by decide +kernel
theorem dX8_readVariable_58 : decode cX8_readVariable 58 = .ok (.iload_n 3, 1) := by decide +kernel
theorem dX8_readVariable_59 : decode cX8_readVariable 59 = .ok (.isub, 1) := by decide +kernel
theorem dX8_readVariable_60 : decode cX8_readVariable 60 = .ok (.iconst 2, 1) := by decide +kernel
theorem dX8_readVariable_61 : decode cX8_readVariable 61 = .ok (.idiv, 1) := by decide +kernel
theorem dX8_readVariable_62 : decode cX8_readVariable 62 = .ok (.iadd, 1) := by decide +kernel
theorem dX8_readVariable_63 : decode cX8_readVariable 63 = .ok (.invokevirtual 116, 3) := by decide +kernel
theorem dX8_readVariable_66 : decode cX8_readVariable 66 = .ok (.ireturn, 1) := by decide +kernel
theorem dX8_readVariable_67 : decode cX8_readVariable 67 = .ok (.iinc 3 (-2), 3) := by decide +kernel
theorem dX8_readVariable_70 : decode cX8_readVariable 70 = .ok (.goto (-60), 3) := by decide +kernel
theorem dX8_readVariable_73 : decode cX8_readVariable 73 = .ok (.iconst 0, 1) := by decide +kernel
theorem dX8_readVariable_74 : decode cX8_readVariable 74 = .ok (.ireturn, 1) := by decide +kernel
theorem dX8_isAsThen_0 : decode cX8_isAsThen 0 = .ok (.iconst 0, 1) := by decide +kernel
theorem dX8_isAsThen_1 : decode cX8_isAsThen 1 = .ok (.istore_n 3, 1) := by decide +kernel
theorem dX8_isAsThen_2 : decode cX8_isAsThen 2 = .ok (.iload_n 3, 1) := by decide +kernel
theorem dX8_isAsThen_3 : decode cX8_isAsThen 3 = .ok (.iload_n 2, 1) := by decide +kernel
theorem dX8_isAsThen_4 : decode cX8_isAsThen 4 = .ok (.if_icmp .ge 32, 3) := by decide +kernel
theorem dX8_isAsThen_7 : decode cX8_isAsThen 7 = .ok (.aload_n 0, 1) := by decide +kernel
theorem dX8_isAsThen_8 : decode cX8_isAsThen 8 = .ok (.getfield 34, 3) := by decide +kernel
theorem dX8_isAsThen_11 : decode cX8_isAsThen 11 = .ok (.iload_n 1, 1) := by decide +kernel
theorem dX8_isAsThen_12 : decode cX8_isAsThen 12 = .ok (.iload_n 3, 1) := by decide +kernel
theorem dX8_isAsThen_13 : decode cX8_isAsThen 13 = .ok (.iadd, 1) := by decide +kernel
theorem dX8_isAsThen_14 : decode cX8_isAsThen 14 = .ok (.invokevirtual 128, 3) := by decide +kernel
theorem dX8_isAsThen_17 : decode cX8_isAsThen 17 = .ok (.aload_n 0, 1) := by decide +kernel
theorem dX8_isAsThen_18 : decode cX8_isAsThen 18 = .ok (.getfield 12, 3) := by decide +kernel
theorem dX8_isAsThen_21 : decode cX8_isAsThen 21 = .ok (.iload_n 3, 1) := by decide +kernel
theorem dX8_isAsThen_22 : decode cX8_isAsThen 22 = .ok (.invokevirtual 122, 3) := by decide +kernel
theorem dX8_isAsThen_25 : decode cX8_isAsThen 25 = .ok (.if_icmp .eq 5, 3) := by decide +kernel
theorem dX8_isAsThen_28 : decode cX8_isAsThen 28 = .ok (.iconst 0, 1) := by decide +kernel
theorem dX8_isAsThen_29 : decode cX8_isAsThen 29 = .ok (.ireturn, 1) := by decide +kernel
theorem dX8_isAsThen_30 : decode cX8_isAsThen 30 = .ok (.iinc 3 1, 3) := by decide +kernel
theorem dX8_isAsThen_33 : decode cX8_isAsThen 33 = .ok (.goto (-31), 3) := by decide +kernel
theorem dX8_isAsThen_36 : decode cX8_isAsThen 36 = .ok (.iconst 1, 1) := by decide +kernel
theorem dX8_isAsThen_37 : decode cX8_isAsThen 37 = .ok (.ireturn, 1) := by decide +kernel
theorem dX8_nextArgument_0 : decode cX8_nextArgument 0 = .ok (.aload_n 0, 1) := by decide +kernel
theorem dX8_nextArgument_1 : decode cX8_nextArgument 1 = .ok (.getfield 27, 3) := by decide +kernel
theorem dX8_nextArgument_4 : decode cX8_nextArgument 4 = .ok (.invokevirtual 119, 3) := by decide +kernel
theorem dX8_nextArgument_7 : decode cX8_nextArgument 7 = .ok (.ifCond .ne 6, 3) := by decide +kernel
theorem dX8_nextArgument_10 : decode cX8_nextArgument 10 = .ok (.bipush (-2), 2) := by decide +kernel
theorem dX8_nextArgument_12 : decode cX8_nextArgument 12 = .ok (.ireturn, 1) := by decide +kernel
theorem dX8_nextArgument_13 : decode cX8_nextArgument 13 = .ok (.aload_n 0, 1) := by decide +kernel
theorem dX8_nextArgument_14 : decode cX8_nextArgument 14 = .ok (.getfield 34, 3) := by decide +kernel
theorem dX8_nextArgument_17 : decode cX8_nextArgument 17 = .ok (.aload_n 0, 1) := by decide +kernel
theorem dX8_nextArgument_18 : decode cX8_nextArgument 18 = .ok (.getfield 27, 3) := by decide +kernel
theorem dX8_nextArgument_21 : decode cX8_nextArgument 21 = .ok (.invokevirtual 134, 3) := by decide +kernel
theorem dX8_nextArgument_24 : decode cX8_nextArgument 24 = .ok (.invokevirtual 54, 3) := by decide +kernel
theorem dX8_nextArgument_27 : decode cX8_nextArgument 27 = .ok (.aload_n 0, 1) := by decide +kernel
theorem dX8_nextArgument_28 : decode cX8_nextArgument 28 = .ok (.getfield 30, 3) := by decide +kernel
theorem dX8_nextArgument_31 : decode cX8_nextArgument 31 = .ok (.aload_n 0, 1) := by decide +kernel
theorem dX8_nextArgument_32 : decode cX8_nextArgument 32 = .ok (.getfield 27, 3) := by decide +kernel
theorem dX8_nextArgument_35 : decode cX8_nextArgument 35 = .ok (.invokevirtual 134, 3) := by decide +kernel
theorem dX8_nextArgument_38 : decode cX8_nextArgument 38 = .ok (.invokevirtual 54, 3) := by decide +kernel
theorem dX8_nextArgument_41 : decode cX8_nextArgument 41 = .ok (.aload_n 0, 1) := by decide +kernel
theorem dX8_nextArgument_42 : decode cX8_nextArgument 42 = .ok (.getfield 12, 3) := by decide +kernel
theorem dX8_nextArgument_45 : decode cX8_nextArgument 45 = .ok (.aload_n 0, 1) := by decide +kernel
theorem dX8_nextArgument_46 : decode cX8_nextArgument 46 = .ok (.getfield 27, 3) := by decide +kernel
theorem dX8_nextArgument_49 : decode cX8_nextArgument 49 = .ok (.invokevirtual 134, 3) := by decide +kernel
theorem dX8_nextArgument_52 : decode cX8_nextArgument 52 = .ok (.invokevirtual 137, 3) := by decide +kernel
theorem dX8_nextArgument_55 : decode cX8_nextArgument 55 = .ok (.iconst 4, 1) := by decide +kernel
theorem dX8_nextArgument_56 : decode cX8_nextArgument 56 = .ok (.aload_n 0, 1) := by decide +kernel
theorem dX8_nextArgument_57 : decode cX8_nextArgument 57 = .ok (.getfield 27, 3) := by decide +kernel
theorem dX8_nextArgument_60 : decode cX8_nextArgument 60 = .ok (.invokevirtual 134, 3) := by decide +kernel
theorem dX8_nextArgument_63 : decode cX8_nextArgument 63 = .ok (.imul, 1) := by decide +kernel
theorem dX8_nextArgument_64 : decode cX8_nextArgument 64 = .ok (.iconst 2, 1) := by decide +kernel
theorem dX8_nextArgument_65 : decode cX8_nextArgument 65 = .ok (.iadd, 1) := by decide +kernel
theorem dX8_nextArgument_66 : decode cX8_nextArgument 66 = .ok (.ireturn, 1) := by decide +kernel
theorem dX9_init_0 : decode cX9_init 0 = .ok (.aload_n 0, 1) := by decide +kernel
theorem dX9_init_1 : decode cX9_init 1 = .ok (.invokespecial 1, 3) := by decide +kernel
theorem dX9_init_4 : decode cX9_init 4 = .ok (.aload_n 0, 1) := by decide +kernel
theorem dX9_init_5 : decode cX9_init 5 = .ok (.new 7, 3) := by decide +kernel
theorem dX9_init_8 : decode cX9_init 8 = .ok (.dup, 1) := by decide +kernel
theorem dX9_init_9 : decode cX9_init 9 = .ok (.bipush 80, 2) := by decide +kernel
theorem dX9_init_11 : decode cX9_init 11 = .ok (.sipush 700, 3) := by decide +kernel
theorem dX9_init_14 : decode cX9_init 14 = .ok (.invokespecial 11, 3) := by decide +kernel
theorem dX9_init_17 : decode cX9_init 17 = .ok (.putfield 14, 3) := by decide +kernel
theorem dX9_init_20 : decode cX9_init 20 = .ok (.aload_n 0, 1) := by decide +kernel
theorem dX9_init_21 : decode cX9_init 21 = .ok (.new 18, 3) := by decide +kernel
theorem dX9_init_24 : decode cX9_init 24 = .ok (.dup, 1) := by decide +kernel
theorem dX9_init_25 : decode cX9_init 25 = .ok (.aload_n 0, 1) := by decide +kernel
theorem dX9_init_26 : decode cX9_init 26 = .ok (.getfield 14, 3) := by decide +kernel
theorem dX9_init_29 : decode cX9_init 29 = .ok (.invokespecial 20, 3) := by decide +kernel
theorem dX9_init_32 : decode cX9_init 32 = .ok (.putfield 23, 3) := by decide +kernel
theorem dX9_init_35 : decode cX9_init 35 = .ok (.aload_n 0, 1) := by decide +kernel
theorem dX9_init_36 : decode cX9_init 36 = .ok (.new 27, 3) := by decide +kernel
theorem dX9_init_39 : decode cX9_init 39 = .ok (.dup, 1) := by decide +kernel
theorem dX9_init_40 : decode cX9_init 40 = .ok (.invokespecial 29, 3) := by decide +kernel
theorem dX9_init_43 : decode cX9_init 43 = .ok (.putfield 30, 3) := by decide +kernel
theorem dX9_init_46 : decode cX9_init 46 = .ok (.aload_n 0, 1) := by decide +kernel
theorem dX9_init_47 : decode cX9_init 47 = .ok (.new 34, 3) := by decide +kernel
theorem dX9_init_50 : decode cX9_init 50 = .ok (.dup, 1) := by decide +kernel
theorem dX9_init_51 : decode cX9_init 51 = .ok (.invokespecial 36, 3) := by decide +kernel
theorem dX9_init_54 : decode cX9_init 54 = .ok (.putfield 37, 3) := by decide +kernel
theorem dX9_init_57 : decode cX9_init 57 = .ok (.aload_n 0, 1) := by decide +kernel
theorem dX9_init_58 : decode cX9_init 58 = .ok (.new 41, 3) := by decide +kernel
theorem dX9_init_61 : decode cX9_init 61 = .ok (.dup, 1) := by decide +kernel
theorem dX9_init_62 : decode cX9_init 62 = .ok (.invokespecial 43, 3) := by decide +kernel
theorem dX9_init_65 : decode cX9_init 65 = .ok (.putfield 44, 3) := by decide +kernel
theorem dX9_init_68 : decode cX9_init 68 = .ok (.aload_n 0, 1) := by decide +kernel
theorem dX9_init_69 : decode cX9_init 69 = .ok (.new 7, 3) := by decide +kernel
theorem dX9_init_72 : decode cX9_init 72 = .ok (.dup, 1) := by decide +kernel
theorem dX9_init_73 : decode cX9_init 73 = .ok (.bipush 64, 2) := by decide +kernel
theorem dX9_init_75 : decode cX9_init 75 = .ok (.bipush 120, 2) := by decide +kernel
theorem dX9_init_77 : decode cX9_init 77 = .ok (.invokespecial 11, 3) := by decide +kernel
theorem dX9_init_80 : decode cX9_init 80 = .ok (.putfield 48, 3) := by decide +kernel
theorem dX9_init_83 : decode cX9_init 83 = .ok (.aload_n 0, 1) := by decide +kernel
theorem dX9_init_84 : decode cX9_init 84 = .ok (.new 7, 3) := by decide +kernel
theorem dX9_init_87 : decode cX9_init 87 = .ok (.dup, 1) := by decide +kernel
theorem dX9_init_88 : decode cX9_init 88 = .ok (.bipush 64, 2) := by decide +kernel
theorem dX9_init_90 : decode cX9_init 90 = .ok (.bipush 120, 2) := by decide +kernel
theorem dX9_init_92 : decode cX9_init 92 = .ok (.invokespecial 11, 3) := by decide +kernel
theorem dX9_init_95 : decode cX9_init 95 = .ok (.putfield 51, 3) := by decide +kernel
theorem dX9_init_98 : decode cX9_init 98 = .ok (.aload_n 0, 1) := by decide +kernel
theorem dX9_init_99 : decode cX9_init 99 = .ok (.new 7, 3) := by decide +kernel
theorem dX9_init_102 : decode cX9_init 102 = .ok (.dup, 1) := by decide +kernel
theorem dX9_init_103 : decode cX9_init 103 = .ok (.bipush 64, 2) := by decide +kernel
theorem dX9_init_105 : decode cX9_init 105 = .ok (.sipush 1000, 3) := by decide +kernel
theorem dX9_init_108 : decode cX9_init 108 = .ok (.invokespecial 11, 3) := by decide +kernel
theorem dX9_init_111 : decode cX9_init 111 = .ok (.putfield 54, 3) := by decide +kernel
theorem dX9_init_114 : decode cX9_init 114 = .ok (.aload_n 0, 1) := by decide +kernel
theorem dX9_init_115 : decode cX9_init 115 = .ok (.new 7, 3) := by decide +kernel
theorem dX9_init_118 : decode cX9_init 118 = .ok (.dup, 1) := by decide +kernel
theorem dX9_init_119 : decode cX9_init 119 = .ok (.bipush 6, 2) := by decide +kernel
theorem dX9_init_121 : decode cX9_init 121 = .ok (.bipush 6, 2) := by decide +kernel
theorem dX9_init_123 : decode cX9_init 123 = .ok (.invokespecial 11, 3) := by decide +kernel
theorem dX9_init_126 : decode cX9_init 126 = .ok (.putfield 57, 3) := by decide +kernel
theorem dX9_init_129 : decode cX9_init 129 = .ok (.aload_n 0, 1) := by decide +kernel
theorem dX9_init_130 : decode cX9_init 130 = .ok (.new 7, 3) := by decide +kernel
theorem dX9_init_133 : decode cX9_init 133 = .ok (.dup, 1) := by decide +kernel
theorem dX9_init_134 : decode cX9_init 134 = .ok (.bipush 15, 2) := by decide +kernel
theorem dX9_init_136 : decode cX9_init 136 = .ok (.bipush 15, 2) := by decide +kernel
theorem dX9_init_138 : decode cX9_init 138 = .ok (.invokespecial 11, 3) := by decide +kernel
theorem dX9_init_141 : decode cX9_init 141 = .ok (.putfield 60, 3) := by decide +kernel
theorem dX9_init_144 : decode cX9_init 144 = .ok (.aload_n 0, 1) := by decide +kernel
theorem dX9_init_145 : decode cX9_init 145 = .ok (.new 63, 3) := by decide +kernel
theorem dX9_init_148 : decode cX9_init 148 = .ok (.dup, 1) := by decide +kernel
theorem dX9_init_149 : decode cX9_init 149 = .ok (.invokespecial 65, 3) := by decide +kernel
theorem dX9_init_152 : decode cX9_init 152 = .ok (.putfield 66, 3) := by decide +kernel
theorem dX9_init_155 : decode cX9_init 155 = .ok (.aload_n 0, 1) := by decide +kernel
theorem dX9_init_156 : decode cX9_init 156 = .ok (.new 63, 3) := by decide +kernel
theorem dX9_init_159 : decode cX9_init 159 = .ok (.dup, 1) := by decide +kernel
theorem dX9_init_160 : decode cX9_init 160 = .ok (.invokespecial 65, 3) := by decide +kernel
theorem dX9_init_163 : decode cX9_init 163 = .ok (.putfield 70, 3) := by decide +kernel
theorem dX9_init_166 : decode cX9_init 166 = .ok (.aload_n 0, 1) := by decide +kernel
theorem dX9_init_167 : decode cX9_init 167 = .ok (.new 73, 3) := by decide +kernel
theorem dX9_init_170 : decode cX9_init 170 = .ok (.dup, 1) := by decide +kernel
