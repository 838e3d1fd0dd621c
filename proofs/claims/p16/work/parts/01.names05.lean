theorem dX10_node_5 : decode cX10_node 5 = .ok (.aload_n 0, 1) := by decide +kernel
theorem dX10_node_6 : decode cX10_node 6 = .ok (.aload_n 0, 1) := by decide +kernel
theorem dX10_node_7 : decode cX10_node 7 = .ok (.iload_n 1, 1) := by decide +kernel
theorem dX10_node_8 : decode cX10_node 8 = .ok (.invokevirtual 334, 3) := by decide +kernel
theorem dX10_node_11 : decode cX10_node 11 = .ok (.ifCond .eq 16, 3) := by decide +kernel
theorem dX10_node_14 : decode cX10_node 14 = .ok (.iload_n 2, 1) := by decide +kernel
theorem dX10_node_15 : decode cX10_node 15 = .ok (.iconst 0, 1) := by decide +kernel
theorem dX10_node_16 : decode cX10_node 16 = .ok (.iconst 4, 1) := by decide +kernel
theorem dX10_node_17 : decode cX10_node 17 = .ok (.invokestatic 154, 3) := by decide +kernel
theorem dX10_node_20 : decode cX10_node 20 = .ok (.ifCond .eq 7, 3) := by decide +kernel
theorem dX10_node_23 : decode cX10_node 23 = .ok (.iconst 1, 1) := by decide +kernel
theorem dX10_node_24 : decode cX10_node 24 = .ok (.goto 4, 3) := by decide +kernel
theorem dX10_node_27 : decode cX10_node 27 = .ok (.iconst 0, 1) := by decide +kernel
theorem dX10_node_28 : decode cX10_node 28 = .ok (.iconst 1, 1) := by decide +kernel
theorem dX10_node_29 : decode cX10_node 29 = .ok (.invokevirtual 269, 3) := by decide +kernel
theorem dX10_node_32 : decode cX10_node 32 = .ok (.ifCond .ne 5, 3) := by decide +kernel
theorem dX10_node_35 : decode cX10_node 35 = .ok (.iconst 0, 1) := by decide +kernel
theorem dX10_node_36 : decode cX10_node 36 = .ok (.ireturn, 1) := by decide +kernel
theorem dX10_node_37 : decode cX10_node 37 = .ok (.iload_n 2, 1) := by decide +kernel
theorem dX10_node_38 : decode cX10_node 38 = .ok (.iconst 2, 1) := by decide +kernel
theorem dX10_node_39 : decode cX10_node 39 = .ok (.if_icmp .ge 23, 3) := by decide +kernel
theorem dX10_node_42 : decode cX10_node 42 = .ok (.iload_n 2, 1) := by decide +kernel
theorem dX10_node_43 : decode cX10_node 43 = .ok (.ifCond .ne 12, 3) := by decide +kernel
theorem dX10_node_46 : decode cX10_node 46 = .ok (.aload_n 0, 1) := by decide +kernel
theorem dX10_node_47 : decode cX10_node 47 = .ok (.getfield 39, 3) := by decide +kernel
theorem dX10_node_50 : decode cX10_node 50 = .ok (.iload_n 1, 1) := by decide +kernel
theorem dX10_node_51 : decode cX10_node 51 = .ok (.iaload, 1) := by decide +kernel
theorem dX10_node_52 : decode cX10_node 52 = .ok (.goto 9, 3) := by decide +kernel
theorem dX10_node_55 : decode cX10_node 55 = .ok (.aload_n 0, 1) := by decide +kernel
theorem dX10_node_56 : decode cX10_node 56 = .ok (.getfield 42, 3) := by decide +kernel
theorem dX10_node_59 : decode cX10_node 59 = .ok (.iload_n 1, 1) := by decide +kernel
theorem dX10_node_60 : decode cX10_node 60 = .ok (.iaload, 1) := by decide +kernel
theorem dX10_node_61 : decode cX10_node 61 = .ok (.ireturn, 1) := by decide +kernel
theorem dX10_node_62 : decode cX10_node 62 = .ok (.iload_n 2, 1) := by decide +kernel
theorem dX10_node_63 : decode cX10_node 63 = .ok (.iconst 2, 1) := by decide +kernel
theorem dX10_node_64 : decode cX10_node 64 = .ok (.isub, 1) := by decide +kernel
theorem dX10_node_65 : decode cX10_node 65 = .ok (.aload_n 0, 1) := by decide +kernel
theorem dX10_node_66 : decode cX10_node 66 = .ok (.getfield 39, 3) := by decide +kernel
theorem dX10_node_69 : decode cX10_node 69 = .ok (.iload_n 1, 1) := by decide +kernel
theorem dX10_node_70 : decode cX10_node 70 = .ok (.iaload, 1) := by decide +kernel
theorem dX10_node_71 : decode cX10_node 71 = .ok (.invokestatic 352, 3) := by decide +kernel
theorem dX10_node_74 : decode cX10_node 74 = .ok (.if_icmp .ge 18, 3) := by decide +kernel
theorem dX10_node_77 : decode cX10_node 77 = .ok (.aload_n 0, 1) := by decide +kernel
theorem dX10_node_78 : decode cX10_node 78 = .ok (.getfield 45, 3) := by decide +kernel
theorem dX10_node_81 : decode cX10_node 81 = .ok (.iconst 4, 1) := by decide +kernel
theorem dX10_node_82 : decode cX10_node 82 = .ok (.iload_n 1, 1) := by decide +kernel
theorem dX10_node_83 : decode cX10_node 83 = .ok (.imul, 1) := by decide +kernel
theorem dX10_node_84 : decode cX10_node 84 = .ok (.iload_n 2, 1) := by decide +kernel
theorem dX10_node_85 : decode cX10_node 85 = .ok (.iadd, 1) := by decide +kernel
theorem dX10_node_86 : decode cX10_node 86 = .ok (.iconst 2, 1) := by decide +kernel
theorem dX10_node_87 : decode cX10_node 87 = .ok (.isub, 1) := by decide +kernel
theorem dX10_node_88 : decode cX10_node 88 = .ok (.iaload, 1) := by decide +kernel
theorem dX10_node_89 : decode cX10_node 89 = .ok (.goto 4, 3) := by decide +kernel
theorem dX10_node_92 : decode cX10_node 92 = .ok (.iconst (-1), 1) := by decide +kernel
theorem dX10_node_93 : decode cX10_node 93 = .ok (.ireturn, 1) := by decide +kernel
theorem dX10_active_0 : decode cX10_active 0 = .ok (.aload_n 0, 1) := by decide +kernel
theorem dX10_active_1 : decode cX10_active 1 = .ok (.iconst 0, 1) := by decide +kernel
theorem dX10_active_2 : decode cX10_active 2 = .ok (.putfield 141, 3) := by decide +kernel
theorem dX10_active_5 : decode cX10_active 5 = .ok (.iload_n 1, 1) := by decide +kernel
theorem dX10_active_6 : decode cX10_active 6 = .ok (.istore_n 3, 1) := by decide +kernel
theorem dX10_active_7 : decode cX10_active 7 = .ok (.iconst 0, 1) := by decide +kernel
theorem dX10_active_8 : decode cX10_active 8 = .ok (.istore 4, 2) := by decide +kernel
theorem dX10_active_10 : decode cX10_active 10 = .ok (.iload 4, 2) := by decide +kernel
theorem dX10_active_12 : decode cX10_active 12 = .ok (.aload_n 0, 1) := by decide +kernel
theorem dX10_active_13 : decode cX10_active 13 = .ok (.getfield 290, 3) := by decide +kernel
theorem dX10_active_16 : decode cX10_active 16 = .ok (.if_icmp .ge 87, 3) := by decide +kernel
theorem dX10_active_19 : decode cX10_active 19 = .ok (.iload_n 1, 1) := by decide +kernel
theorem dX10_active_20 : decode cX10_active 20 = .ok (.ifCond .lt 83, 3) := by decide +kernel
theorem dX10_active_23 : decode cX10_active 23 = .ok (.aload_n 0, 1) := by decide +kernel
theorem dX10_active_24 : decode cX10_active 24 = .ok (.iload 4, 2) := by decide +kernel
theorem dX10_active_26 : decode cX10_active 26 = .ok (.invokevirtual 340, 3) := by decide +kernel
theorem dX10_active_29 : decode cX10_active 29 = .ok (.ifCond .ne 6, 3) := by decide +kernel
theorem dX10_active_32 : decode cX10_active 32 = .ok (.goto 65, 3) := by decide +kernel
theorem dX10_active_35 : decode cX10_active 35 = .ok (.iload_n 3, 1) := by decide +kernel
theorem dX10_active_36 : decode cX10_active 36 = .ok (.ifCond .ne 58, 3) := by decide +kernel
theorem dX10_active_39 : decode cX10_active 39 = .ok (.aload_n 0, 1) := by decide +kernel
theorem dX10_active_40 : decode cX10_active 40 = .ok (.iload_n 2, 1) := by decide +kernel
theorem dX10_active_41 : decode cX10_active 41 = .ok (.iconst 0, 1) := by decide +kernel
theorem dX10_active_42 : decode cX10_active 42 = .ok (.iconst 2, 1) := by decide +kernel
theorem dX10_active_43 : decode cX10_active 43 = .ok (.invokestatic 154, 3) := by decide +kernel
theorem dX10_active_46 : decode cX10_active 46 = .ok (.iconst 1, 1) := by decide +kernel
theorem dX10_active_47 : decode cX10_active 47 = .ok (.invokevirtual 269, 3) := by decide +kernel
theorem dX10_active_50 : decode cX10_active 50 = .ok (.ifCond .eq 44, 3) := by decide +kernel
theorem dX10_active_53 : decode cX10_active 53 = .ok (.aload_n 0, 1) := by decide +kernel
theorem dX10_active_54 : decode cX10_active 54 = .ok (.getfield 45, 3) := by decide +kernel
theorem dX10_active_57 : decode cX10_active 57 = .ok (.iconst 4, 1) := by decide +kernel
theorem dX10_active_58 : decode cX10_active 58 = .ok (.iload 4, 2) := by decide +kernel
theorem dX10_active_60 : decode cX10_active 60 = .ok (.imul, 1) := by decide +kernel
theorem dX10_active_61 : decode cX10_active 61 = .ok (.iaload, 1) := by decide +kernel
theorem dX10_active_62 : decode cX10_active 62 = .ok (.iconst 4, 1) := by decide +kernel
theorem dX10_active_63 : decode cX10_active 63 = .ok (.idiv, 1) := by decide +kernel
theorem dX10_active_64 : decode cX10_active 64 = .ok (.istore 5, 2) := by decide +kernel
theorem dX10_active_66 : decode cX10_active 66 = .ok (.iload_n 2, 1) := by decide +kernel
theorem dX10_active_67 : decode cX10_active 67 = .ok (.ifCond .ne 8, 3) := by decide +kernel
theorem dX10_active_70 : decode cX10_active 70 = .ok (.iload 4, 2) := by decide +kernel
theorem dX10_active_72 : decode cX10_active 72 = .ok (.goto 21, 3) := by decide +kernel
theorem dX10_active_75 : decode cX10_active 75 = .ok (.iload_n 2, 1) := by decide +kernel
theorem dX10_active_76 : decode cX10_active 76 = .ok (.iconst 1, 1) := by decide +kernel
theorem dX10_active_77 : decode cX10_active 77 = .ok (.if_icmp .ne 8, 3) := by decide +kernel
theorem dX10_active_80 : decode cX10_active 80 = .ok (.iload 5, 2) := by decide +kernel
theorem dX10_active_82 : decode cX10_active 82 = .ok (.goto 11, 3) := by decide +kernel
theorem dX10_active_85 : decode cX10_active 85 = .ok (.aload_n 0, 1) := by decide +kernel
theorem dX10_active_86 : decode cX10_active 86 = .ok (.iload 4, 2) := by decide +kernel
theorem dX10_active_88 : decode cX10_active 88 = .ok (.iload 5, 2) := by decide +kernel
theorem dX10_active_90 : decode cX10_active 90 = .ok (.invokevirtual 358, 3) := by decide +kernel
theorem dX10_active_93 : decode cX10_active 93 = .ok (.ireturn, 1) := by decide +kernel
theorem dX10_active_94 : decode cX10_active 94 = .ok (.iinc 3 (-1), 3) := by decide +kernel
theorem dX10_active_97 : decode cX10_active 97 = .ok (.iinc 4 1, 3) := by decide +kernel
theorem dX10_active_100 : decode cX10_active 100 = .ok (.goto (-90), 3) := by decide +kernel
theorem dX10_active_103 : decode cX10_active 103 = .ok (.aload_n 0, 1) := by decide +kernel
theorem dX10_active_104 : decode cX10_active 104 = .ok (.iconst 0, 1) := by decide +kernel
theorem dX10_active_105 : decode cX10_active 105 = .ok (.iconst 1, 1) := by decide +kernel
theorem dX10_active_106 : decode cX10_active 106 = .ok (.invokevirtual 269, 3) := by decide +kernel
theorem dX10_active_109 : decode cX10_active 109 = .ok (.pop, 1) := by decide +kernel
theorem dX10_active_110 : decode cX10_active 110 = .ok (.iconst 0, 1) := by decide +kernel
theorem dX10_active_111 : decode cX10_active 111 = .ok (.ireturn, 1) := by decide +kernel
theorem dX10_wanted_0 : decode cX10_wanted 0 = .ok (.aload_n 0, 1) := by decide +kernel
theorem dX10_wanted_1 : decode cX10_wanted 1 = .ok (.iconst 0, 1) := by decide +kernel
theorem dX10_wanted_2 : decode cX10_wanted 2 = .ok (.putfield 141, 3) := by decide +kernel
theorem dX10_wanted_5 : decode cX10_wanted 5 = .ok (.aload_n 0, 1) := by decide +kernel
theorem dX10_wanted_6 : decode cX10_wanted 6 = .ok (.iload_n 1, 1) := by decide +kernel
theorem dX10_wanted_7 : decode cX10_wanted 7 = .ok (.iconst 0, 1) := by decide +kernel
theorem dX10_wanted_8 : decode cX10_wanted 8 = .ok (.iconst 2, 1) := by decide +kernel
theorem dX10_wanted_9 : decode cX10_wanted 9 = .ok (.invokestatic 154, 3) := by decide +kernel
theorem dX10_wanted_12 : decode cX10_wanted 12 = .ok (.iconst 1, 1) := by decide +kernel
theorem dX10_wanted_13 : decode cX10_wanted 13 = .ok (.invokevirtual 269, 3) := by decide +kernel
theorem dX10_wanted_16 : decode cX10_wanted 16 = .ok (.ifCond .ne 5, 3) := by decide +kernel
theorem dX10_wanted_19 : decode cX10_wanted 19 = .ok (.iconst 0, 1) := by decide +kernel
theorem dX10_wanted_20 : decode cX10_wanted 20 = .ok (.ireturn, 1) := by decide +kernel
theorem dX10_wanted_21 : decode cX10_wanted 21 = .ok (.aload_n 0, 1) := by decide +kernel
theorem dX10_wanted_22 : decode cX10_wanted 22 = .ok (.invokevirtual 343, 3) := by decide +kernel
theorem dX10_wanted_25 : decode cX10_wanted 25 = .ok (.aload_n 0, 1) := by decide +kernel
theorem dX10_wanted_26 : decode cX10_wanted 26 = .ok (.getfield 346, 3) := by decide +kernel
theorem dX10_wanted_29 : decode cX10_wanted 29 = .ok (.iconst (-1), 1) := by decide +kernel
theorem dX10_wanted_30 : decode cX10_wanted 30 = .ok (.if_icmp .ne 14, 3) := by decide +kernel
theorem dX10_wanted_33 : decode cX10_wanted 33 = .ok (.iload_n 1, 1) := by decide +kernel
theorem dX10_wanted_34 : decode cX10_wanted 34 = .ok (.iconst 2, 1) := by decide +kernel
theorem dX10_wanted_35 : decode cX10_wanted 35 = .ok (.if_icmp .ne 7, 3) := by decide +kernel
theorem dX10_wanted_38 : decode cX10_wanted 38 = .ok (.iconst 0, 1) := by decide +kernel
theorem dX10_wanted_39 : decode cX10_wanted 39 = .ok (.goto 4, 3) := by decide +kernel
theorem dX10_wanted_42 : decode cX10_wanted 42 = .ok (.iconst (-1), 1) := by decide +kernel
theorem dX10_wanted_43 : decode cX10_wanted 43 = .ok (.ireturn, 1) := by decide +kernel
theorem dX10_wanted_44 : decode cX10_wanted 44 = .ok (.iload_n 1, 1) := by decide +kernel
theorem dX10_wanted_45 : decode cX10_wanted 45 = .ok (.ifCond .ne 10, 3) := by decide +kernel
theorem dX10_wanted_48 : decode cX10_wanted 48 = .ok (.aload_n 0, 1) := by decide +kernel
theorem dX10_wanted_49 : decode cX10_wanted 49 = .ok (.getfield 346, 3) := by decide +kernel
theorem dX10_wanted_52 : decode cX10_wanted 52 = .ok (.goto 28, 3) := by decide +kernel
theorem dX10_wanted_55 : decode cX10_wanted 55 = .ok (.iload_n 1, 1) := by decide +kernel
theorem dX10_wanted_56 : decode cX10_wanted 56 = .ok (.iconst 1, 1) := by decide +kernel
theorem dX10_wanted_57 : decode cX10_wanted 57 = .ok (.if_icmp .ne 19, 3) := by decide +kernel
theorem dX10_wanted_60 : decode cX10_wanted 60 = .ok (.aload_n 0, 1) := by decide +kernel
theorem dX10_wanted_61 : decode cX10_wanted 61 = .ok (.getfield 45, 3) := by decide +kernel
theorem dX10_wanted_64 : decode cX10_wanted 64 = .ok (.iconst 4, 1) := by decide +kernel
theorem dX10_wanted_65 : decode cX10_wanted 65 = .ok (.aload_n 0, 1) := by decide +kernel
theorem dX10_wanted_66 : decode cX10_wanted 66 = .ok (.getfield 346, 3) := by decide +kernel
theorem dX10_wanted_69 : decode cX10_wanted 69 = .ok (.imul, 1) := by decide +kernel
theorem dX10_wanted_70 : decode cX10_wanted 70 = .ok (.iaload, 1) := by decide +kernel
theorem dX10_wanted_71 : decode cX10_wanted 71 = .ok (.iconst 4, 1) := by decide +kernel
theorem dX10_wanted_72 : decode cX10_wanted 72 = .ok (.idiv, 1) := by decide +kernel
theorem dX10_wanted_73 : decode cX10_wanted 73 = .ok (.goto 7, 3) := by decide +kernel
theorem dX10_wanted_76 : decode cX10_wanted 76 = .ok (.aload_n 0, 1) := by decide +kernel
theorem dX10_wanted_77 : decode cX10_wanted 77 = .ok (.getfield 412, 3) := by decide +kernel
theorem dX10_wanted_80 : decode cX10_wanted 80 = .ok (.ireturn, 1) := by decide +kernel
theorem dX10_isWhich_0 : decode cX10_isWhich 0 = .ok (.iload_n 0, 1) := by decide +kernel
theorem dX10_isWhich_1 : decode cX10_isWhich 1 = .ok (.iconst 0, 1) := by decide +kernel
theorem dX10_isWhich_2 : decode cX10_isWhich 2 = .ok (.iconst 2, 1) := by decide +kernel
theorem dX10_isWhich_3 : decode cX10_isWhich 3 = .ok (.invokestatic 154, 3) := by decide +kernel
theorem dX10_isWhich_6 : decode cX10_isWhich 6 = .ok (.ireturn, 1) := by decide +kernel
theorem dX10_baseOf_0 : decode cX10_baseOf 0 = .ok (.sipush 1300, 3) := by decide +kernel
theorem dX10_baseOf_3 : decode cX10_baseOf 3 = .ok (.iload_n 0, 1) := by decide +kernel
theorem dX10_baseOf_4 : decode cX10_baseOf 4 = .ok (.imul, 1) := by decide +kernel
theorem dX10_baseOf_5 : decode cX10_baseOf 5 = .ok (.ireturn, 1) := by decide +kernel
theorem dX10_part_0 : decode cX10_part 0 = .ok (.aload_n 0, 1) := by decide +kernel
theorem dX10_part_1 : decode cX10_part 1 = .ok (.iconst 0, 1) := by decide +kernel
theorem dX10_part_2 : decode cX10_part 2 = .ok (.putfield 141, 3) := by decide +kernel
theorem dX10_part_5 : decode cX10_part 5 = .ok (.aload_n 0, 1) := by decide +kernel
theorem dX10_part_6 : decode cX10_part 6 = .ok (.iload_n 1, 1) := by decide +kernel
theorem dX10_part_7 : decode cX10_part 7 = .ok (.invokestatic 506, 3) := by decide +kernel
theorem dX10_part_10 : decode cX10_part 10 = .ok (.ifCond .eq 31, 3) := by decide +kernel
theorem dX10_part_13 : decode cX10_part 13 = .ok (.aload_n 0, 1) := by decide +kernel
theorem dX10_part_14 : decode cX10_part 14 = .ok (.iload_n 1, 1) := by decide +kernel
theorem dX10_part_15 : decode cX10_part 15 = .ok (.invokevirtual 500, 3) := by decide +kernel
theorem dX10_part_18 : decode cX10_part 18 = .ok (.ifCond .eq 23, 3) := by decide +kernel
theorem dX10_part_21 : decode cX10_part 21 = .ok (.iload_n 2, 1) := by decide +kernel
theorem dX10_part_22 : decode cX10_part 22 = .ok (.iconst 0, 1) := by decide +kernel
theorem dX10_part_23 : decode cX10_part 23 = .ok (.aload_n 0, 1) := by decide +kernel
theorem dX10_part_24 : decode cX10_part 24 = .ok (.getfield 13, 3) := by decide +kernel
theorem dX10_part_27 : decode cX10_part 27 = .ok (.iload_n 1, 1) := by decide +kernel
theorem dX10_part_28 : decode cX10_part 28 = .ok (.iaload, 1) := by decide +kernel
theorem dX10_part_29 : decode cX10_part 29 = .ok (.iconst 1, 1) := by decide +kernel
theorem dX10_part_30 : decode cX10_part 30 = .ok (.isub, 1) := by decide +kernel
theorem dX10_part_31 : decode cX10_part 31 = .ok (.invokestatic 154, 3) := by decide +kernel
theorem dX10_part_34 : decode cX10_part 34 = .ok (.ifCond .eq 7, 3) := by decide +kernel
theorem dX10_part_37 : decode cX10_part 37 = .ok (.iconst 1, 1) := by decide +kernel
theorem dX10_part_38 : decode cX10_part 38 = .ok (.goto 4, 3) := by decide +kernel
theorem dX10_part_41 : decode cX10_part 41 = .ok (.iconst 0, 1) := by decide +kernel
theorem dX10_part_42 : decode cX10_part 42 = .ok (.iconst 1, 1) := by decide +kernel
theorem dX10_part_43 : decode cX10_part 43 = .ok (.invokevirtual 269, 3) := by decide +kernel
theorem dX10_part_46 : decode cX10_part 46 = .ok (.ifCond .ne 5, 3) := by decide +kernel
theorem dX10_part_49 : decode cX10_part 49 = .ok (.iconst 0, 1) := by decide +kernel
theorem dX10_part_50 : decode cX10_part 50 = .ok (.ireturn, 1) := by decide +kernel
theorem dX10_part_51 : decode cX10_part 51 = .ok (.aload_n 0, 1) := by decide +kernel
theorem dX10_part_52 : decode cX10_part 52 = .ok (.getfield 7, 3) := by decide +kernel
theorem dX10_part_55 : decode cX10_part 55 = .ok (.iload_n 1, 1) := by decide +kernel
theorem dX10_part_56 : decode cX10_part 56 = .ok (.invokestatic 509, 3) := by decide +kernel
theorem dX10_part_59 : decode cX10_part 59 = .ok (.iload_n 2, 1) := by decide +kernel
theorem dX10_part_60 : decode cX10_part 60 = .ok (.iadd, 1) := by decide +kernel
theorem dX10_part_61 : decode cX10_part 61 = .ok (.iaload, 1) := by decide +kernel
theorem dX10_part_62 : decode cX10_part 62 = .ok (.ireturn, 1) := by decide +kernel
theorem dX10_says_0 : decode cX10_says 0 = .ok (.aload_n 0, 1) := by decide +kernel
theorem dX10_says_1 : decode cX10_says 1 = .ok (.getfield 131, 3) := by decide +kernel
theorem dX10_says_4 : decode cX10_says 4 = .ok (.aload_n 0, 1) := by decide +kernel
theorem dX10_says_5 : decode cX10_says 5 = .ok (.getfield 512, 3) := by decide +kernel
theorem dX10_says_8 : decode cX10_says 8 = .ok (.iload_n 1, 1) := by decide +kernel
theorem dX10_says_9 : decode cX10_says 9 = .ok (.i2b, 1) := by decide +kernel
theorem dX10_says_10 : decode cX10_says 10 = .ok (.bastore, 1) := by decide +kernel
theorem dX10_says_11 : decode cX10_says 11 = .ok (.aload_n 0, 1) := by decide +kernel
theorem dX10_says_12 : decode cX10_says 12 = .ok (.dup, 1) := by decide +kernel
theorem dX10_says_13 : decode cX10_says 13 = .ok (.getfield 512, 3) := by decide +kernel
theorem dX10_says_16 : decode cX10_says 16 = .ok (.iconst 1, 1) := by decide +kernel
theorem dX10_says_17 : decode cX10_says 17 = .ok (.iadd, 1) := by decide +kernel
theorem dX10_says_18 : decode cX10_says 18 = .ok (.putfield 512, 3) := by decide +kernel
theorem dX10_says_21 : decode cX10_says 21 = .ok (.return_, 1) := by decide +kernel
theorem dX10_letterOf_0 : decode cX10_letterOf 0 = .ok (.bipush 97, 2) := by decide +kernel
theorem dX10_letterOf_2 : decode cX10_letterOf 2 = .ok (.iload_n 0, 1) := by decide +kernel
theorem dX10_letterOf_3 : decode cX10_letterOf 3 = .ok (.bipush 26, 2) := by decide +kernel
theorem dX10_letterOf_5 : decode cX10_letterOf 5 = .ok (.irem, 1) := by decide +kernel
theorem dX10_letterOf_6 : decode cX10_letterOf 6 = .ok (.iadd, 1) := by decide +kernel
theorem dX10_letterOf_7 : decode cX10_letterOf 7 = .ok (.ireturn, 1) := by decide +kernel
theorem dX10_saysLater_0 : decode cX10_saysLater 0 = .ok (.aload_n 0, 1) := by decide +kernel
theorem dX10_saysLater_1 : decode cX10_saysLater 1 = .ok (.getfield 135, 3) := by decide +kernel
theorem dX10_saysLater_4 : decode cX10_saysLater 4 = .ok (.aload_n 0, 1) := by decide +kernel
theorem dX10_saysLater_5 : decode cX10_saysLater 5 = .ok (.getfield 515, 3) := by decide +kernel
theorem dX10_saysLater_8 : decode cX10_saysLater 8 = .ok (.iload_n 1, 1) := by decide +kernel
theorem dX10_saysLater_9 : decode cX10_saysLater 9 = .ok (.iastore, 1) := by decide +kernel
theorem dX10_saysLater_10 : decode cX10_saysLater 10 = .ok (.aload_n 0, 1) := by decide +kernel
theorem dX10_saysLater_11 : decode cX10_saysLater 11 = .ok (.dup, 1) := by decide +kernel
theorem dX10_saysLater_12 : decode cX10_saysLater 12 = .ok (.getfield 515, 3) := by decide +kernel
theorem dX10_saysLater_15 : decode cX10_saysLater 15 = .ok (.iconst 1, 1) := by decide +kernel
theorem dX10_saysLater_16 : decode cX10_saysLater 16 = .ok (.iadd, 1) := by decide +kernel
theorem dX10_saysLater_17 : decode cX10_saysLater 17 = .ok (.putfield 515, 3) := by decide +kernel
theorem dX10_saysLater_20 : decode cX10_saysLater 20 = .ok (.return_, 1) := by decide +kernel
theorem dX10_waitsPart_0 : decode cX10_waitsPart 0 = .ok (.aload_n 0, 1) := by decide +kernel
theorem dX10_waitsPart_1 : decode cX10_waitsPart 1 = .ok (.iconst (-1), 1) := by decide +kernel
theorem dX10_waitsPart_2 : decode cX10_waitsPart 2 = .ok (.iconst 4, 1) := by decide +kernel
theorem dX10_waitsPart_3 : decode cX10_waitsPart 3 = .ok (.iload_n 1, 1) := by decide +kernel
theorem dX10_waitsPart_4 : decode cX10_waitsPart 4 = .ok (.imul, 1) := by decide +kernel
theorem dX10_waitsPart_5 : decode cX10_waitsPart 5 = .ok (.isub, 1) := by decide +kernel
theorem dX10_waitsPart_6 : decode cX10_waitsPart 6 = .ok (.iload_n 2, 1) := by decide +kernel
theorem dX10_waitsPart_7 : decode cX10_waitsPart 7 = .ok (.isub, 1) := by decide +kernel
theorem dX10_waitsPart_8 : decode cX10_waitsPart 8 = .ok (.invokevirtual 518, 3) := by decide +kernel
theorem dX10_waitsPart_11 : decode cX10_waitsPart 11 = .ok (.return_, 1) := by decide +kernel
theorem dX10_saysPart_0 : decode cX10_saysPart 0 = .ok (.aload_n 0, 1) := by decide +kernel
theorem dX10_saysPart_1 : decode cX10_saysPart 1 = .ok (.getfield 7, 3) := by decide +kernel
theorem dX10_saysPart_4 : decode cX10_saysPart 4 = .ok (.iload_n 1, 1) := by decide +kernel
theorem dX10_saysPart_5 : decode cX10_saysPart 5 = .ok (.iload_n 2, 1) := by decide +kernel
theorem dX10_saysPart_6 : decode cX10_saysPart 6 = .ok (.iadd, 1) := by decide +kernel
theorem dX10_saysPart_7 : decode cX10_saysPart 7 = .ok (.iaload, 1) := by decide +kernel
theorem dX10_saysPart_8 : decode cX10_saysPart 8 = .ok (.istore 5, 2) := by decide +kernel
theorem dX10_saysPart_10 : decode cX10_saysPart 10 = .ok (.iload 4, 2) := by decide +kernel
theorem dX10_saysPart_12 : decode cX10_saysPart 12 = .ok (.iconst 1, 1) := by decide +kernel
theorem dX10_saysPart_13 : decode cX10_saysPart 13 = .ok (.if_icmp .ne 9, 3) := by decide +kernel
theorem dX10_saysPart_16 : decode cX10_saysPart 16 = .ok (.iload 5, 2) := by decide +kernel
theorem dX10_saysPart_18 : decode cX10_saysPart 18 = .ok (.iconst 1, 1) := by decide +kernel
theorem dX10_saysPart_19 : decode cX10_saysPart 19 = .ok (.if_icmp .eq 15, 3) := by decide +kernel
theorem dX10_saysPart_22 : decode cX10_saysPart 22 = .ok (.iload 4, 2) := by decide +kernel
theorem dX10_saysPart_24 : decode cX10_saysPart 24 = .ok (.iconst 2, 1) := by decide +kernel
theorem dX10_saysPart_25 : decode cX10_saysPart 25 = .ok (.if_icmp .ne 21, 3) := by decide +kernel
theorem dX10_saysPart_28 : decode cX10_saysPart 28 = .ok (.iload 5, 2) := by decide +kernel
theorem dX10_saysPart_30 : decode cX10_saysPart 30 = .ok (.iconst 2, 1) := by decide +kernel
theorem dX10_saysPart_31 : decode cX10_saysPart 31 = .ok (.if_icmp .ge 15, 3) := by decide +kernel
theorem dX10_saysPart_34 : decode cX10_saysPart 34 = .ok (.aload_n 0, 1) := by decide +kernel
theorem dX10_saysPart_35 : decode cX10_saysPart 35 = .ok (.bipush 40, 2) := by decide +kernel
theorem dX10_saysPart_37 : decode cX10_saysPart 37 = .ok (.invokevirtual 521, 3) := by decide +kernel
theorem dX10_saysPart_40 : decode cX10_saysPart 40 = .ok (.aload_n 0, 1) := by decide +kernel
theorem dX10_saysPart_41 : decode cX10_saysPart 41 = .ok (.bipush 41, 2) := by decide +kernel
theorem dX10_saysPart_43 : decode cX10_saysPart 43 = .ok (.invokevirtual 518, 3) := by decide +kernel
theorem dX10_saysPart_46 : decode cX10_saysPart 46 = .ok (.iload 5, 2) := by decide +kernel
theorem dX10_saysPart_48 : decode cX10_saysPart 48 = .ok (.ifCond .ne 24, 3) := by decide +kernel
theorem dX10_saysPart_51 : decode cX10_saysPart 51 = .ok (.aload_n 0, 1) := by decide +kernel
theorem dX10_saysPart_52 : decode cX10_saysPart 52 = .ok (.iload_n 3, 1) := by decide +kernel
theorem dX10_saysPart_53 : decode cX10_saysPart 53 = .ok (.iconst 2, 1) := by decide +kernel
theorem dX10_saysPart_54 : decode cX10_saysPart 54 = .ok (.invokevirtual 524, 3) := by decide +kernel
theorem dX10_saysPart_57 : decode cX10_saysPart 57 = .ok (.aload_n 0, 1) := by decide +kernel
theorem dX10_saysPart_58 : decode cX10_saysPart 58 = .ok (.bipush 32, 2) := by decide +kernel
theorem dX10_saysPart_60 : decode cX10_saysPart 60 = .ok (.invokevirtual 518, 3) := by decide +kernel
theorem dX10_saysPart_63 : decode cX10_saysPart 63 = .ok (.aload_n 0, 1) := by decide +kernel
theorem dX10_saysPart_64 : decode cX10_saysPart 64 = .ok (.iload_n 3, 1) := by decide +kernel
theorem dX10_saysPart_65 : decode cX10_saysPart 65 = .ok (.iconst 1, 1) := by decide +kernel
theorem dX10_saysPart_66 : decode cX10_saysPart 66 = .ok (.invokevirtual 524, 3) := by decide +kernel
theorem dX10_saysPart_69 : decode cX10_saysPart 69 = .ok (.goto 55, 3) := by decide +kernel
theorem dX10_saysPart_72 : decode cX10_saysPart 72 = .ok (.iload 5, 2) := by decide +kernel
theorem dX10_saysPart_74 : decode cX10_saysPart 74 = .ok (.iconst 1, 1) := by decide +kernel
theorem dX10_saysPart_75 : decode cX10_saysPart 75 = .ok (.if_icmp .ne 34, 3) := by decide +kernel
theorem dX10_saysPart_78 : decode cX10_saysPart 78 = .ok (.aload_n 0, 1) := by decide +kernel
theorem dX10_saysPart_79 : decode cX10_saysPart 79 = .ok (.bipush 92, 2) := by decide +kernel
theorem dX10_saysPart_81 : decode cX10_saysPart 81 = .ok (.invokevirtual 521, 3) := by decide +kernel
theorem dX10_saysPart_84 : decode cX10_saysPart 84 = .ok (.aload_n 0, 1) := by decide +kernel
theorem dX10_saysPart_85 : decode cX10_saysPart 85 = .ok (.iload_n 3, 1) := by decide +kernel
theorem dX10_saysPart_86 : decode cX10_saysPart 86 = .ok (.invokestatic 527, 3) := by decide +kernel
theorem dX10_saysPart_89 : decode cX10_saysPart 89 = .ok (.invokevirtual 521, 3) := by decide +kernel
theorem dX10_saysPart_92 : decode cX10_saysPart 92 = .ok (.aload_n 0, 1) := by decide +kernel
theorem dX10_saysPart_93 : decode cX10_saysPart 93 = .ok (.bipush 46, 2) := by decide +kernel
theorem dX10_saysPart_95 : decode cX10_saysPart 95 = .ok (.invokevirtual 521, 3) := by decide +kernel
theorem dX10_saysPart_98 : decode cX10_saysPart 98 = .ok (.aload_n 0, 1) := by decide +kernel
theorem dX10_saysPart_99 : decode cX10_saysPart 99 = .ok (.iload_n 3, 1) := by decide +kernel
theorem dX10_saysPart_100 : decode cX10_saysPart 100 = .ok (.iconst 1, 1) := by decide +kernel
theorem dX10_saysPart_101 : decode cX10_saysPart 101 = .ok (.iadd, 1) := by decide +kernel
theorem dX10_saysPart_102 : decode cX10_saysPart 102 = .ok (.iconst 0, 1) := by decide +kernel
theorem dX10_saysPart_103 : decode cX10_saysPart 103 = .ok (.invokevirtual 524, 3) := by decide +kernel
theorem dX10_saysPart_106 : decode cX10_saysPart 106 = .ok (.goto 18, 3) := by decide +kernel
theorem dX10_saysPart_109 : decode cX10_saysPart 109 = .ok (.aload_n 0, 1) := by decide +kernel
theorem dX10_saysPart_110 : decode cX10_saysPart 110 = .ok (.iload_n 3, 1) := by decide +kernel
theorem dX10_saysPart_111 : decode cX10_saysPart 111 = .ok (.iconst 1, 1) := by decide +kernel
theorem dX10_saysPart_112 : decode cX10_saysPart 112 = .ok (.isub, 1) := by decide +kernel
theorem dX10_saysPart_113 : decode cX10_saysPart 113 = .ok (.iload 5, 2) := by decide +kernel
theorem dX10_saysPart_115 : decode cX10_saysPart 115 = .ok (.iconst 2, 1) := by decide +kernel
theorem dX10_saysPart_116 : decode cX10_saysPart 116 = .ok (.isub, 1) := by decide +kernel
theorem dX10_saysPart_117 : decode cX10_saysPart 117 = .ok (.isub, 1) := by decide +kernel
theorem dX10_saysPart_118 : decode cX10_saysPart 118 = .ok (.invokestatic 527, 3) := by decide +kernel
theorem dX10_saysPart_121 : decode cX10_saysPart 121 = .ok (.invokevirtual 521, 3) := by decide +kernel
theorem dX10_saysPart_124 : decode cX10_saysPart 124 = .ok (.iload_n 2, 1) := by decide +kernel
theorem dX10_saysPart_125 : decode cX10_saysPart 125 = .ok (.iconst 1, 1) := by decide +kernel
theorem dX10_saysPart_126 : decode cX10_saysPart 126 = .ok (.iadd, 1) := by decide +kernel
theorem dX10_saysPart_127 : decode cX10_saysPart 127 = .ok (.ireturn, 1) := by decide +kernel
theorem dX10_say_0 : decode cX10_say 0 = .ok (.aload_n 0, 1) := by decide +kernel
theorem dX10_say_1 : decode cX10_say 1 = .ok (.iconst 0, 1) := by decide +kernel
theorem dX10_say_2 : decode cX10_say 2 = .ok (.putfield 141, 3) := by decide +kernel
theorem dX10_say_5 : decode cX10_say 5 = .ok (.aload_n 0, 1) := by decide +kernel
theorem dX10_say_6 : decode cX10_say 6 = .ok (.iload_n 1, 1) := by decide +kernel
theorem dX10_say_7 : decode cX10_say 7 = .ok (.invokestatic 506, 3) := by decide +kernel
theorem dX10_say_10 : decode cX10_say 10 = .ok (.iconst 1, 1) := by decide +kernel
theorem dX10_say_11 : decode cX10_say 11 = .ok (.invokevirtual 269, 3) := by decide +kernel
theorem dX10_say_14 : decode cX10_say 14 = .ok (.ifCond .ne 5, 3) := by decide +kernel
theorem dX10_say_17 : decode cX10_say 17 = .ok (.iconst 0, 1) := by decide +kernel
theorem dX10_say_18 : decode cX10_say 18 = .ok (.ireturn, 1) := by decide +kernel
theorem dX10_say_19 : decode cX10_say 19 = .ok (.aload_n 0, 1) := by decide +kernel
theorem dX10_say_20 : decode cX10_say 20 = .ok (.iload_n 1, 1) := by decide +kernel
theorem dX10_say_21 : decode cX10_say 21 = .ok (.invokevirtual 500, 3) := by decide +kernel
theorem dX10_say_24 : decode cX10_say 24 = .ok (.ifCond .ne 5, 3) := by decide +kernel
theorem dX10_say_27 : decode cX10_say 27 = .ok (.iconst (-1), 1) := by decide +kernel
theorem dX10_say_28 : decode cX10_say 28 = .ok (.ireturn, 1) := by decide +kernel
theorem dX10_say_29 : decode cX10_say 29 = .ok (.aload_n 0, 1) := by decide +kernel
theorem dX10_say_30 : decode cX10_say 30 = .ok (.iconst 0, 1) := by decide +kernel
theorem dX10_say_31 : decode cX10_say 31 = .ok (.putfield 512, 3) := by decide +kernel
theorem dX10_say_34 : decode cX10_say 34 = .ok (.aload_n 0, 1) := by decide +kernel
theorem dX10_say_35 : decode cX10_say 35 = .ok (.iconst 0, 1) := by decide +kernel
theorem dX10_say_36 : decode cX10_say 36 = .ok (.putfield 515, 3) := by decide +kernel
theorem dX10_say_39 : decode cX10_say 39 = .ok (.aload_n 0, 1) := by decide +kernel
theorem dX10_say_40 : decode cX10_say 40 = .ok (.iconst 0, 1) := by decide +kernel
theorem dX10_say_41 : decode cX10_say 41 = .ok (.iconst 0, 1) := by decide +kernel
theorem dX10_say_42 : decode cX10_say 42 = .ok (.invokevirtual 524, 3) := by decide +kernel
theorem dX10_say_45 : decode cX10_say 45 = .ok (.iconst 0, 1) := by decide +kernel
theorem dX10_say_46 : decode cX10_say 46 = .ok (.istore_n 2, 1) := by decide +kernel
theorem dX10_say_47 : decode cX10_say 47 = .ok (.aload_n 0, 1) := by decide +kernel
theorem dX10_say_48 : decode cX10_say 48 = .ok (.getfield 515, 3) := by decide +kernel
theorem dX10_say_51 : decode cX10_say 51 = .ok (.ifCond .le 58, 3) := by decide +kernel
theorem dX10_say_54 : decode cX10_say 54 = .ok (.aload_n 0, 1) := by decide +kernel
theorem dX10_say_55 : decode cX10_say 55 = .ok (.dup, 1) := by decide +kernel
theorem dX10_say_56 : decode cX10_say 56 = .ok (.getfield 515, 3) := by decide +kernel
theorem dX10_say_59 : decode cX10_say 59 = .ok (.iconst 1, 1) := by decide +kernel
theorem dX10_say_60 : decode cX10_say 60 = .ok (.isub, 1) := by decide +kernel
theorem dX10_say_61 : decode cX10_say 61 = .ok (.putfield 515, 3) := by decide +kernel
theorem dX10_say_64 : decode cX10_say 64 = .ok (.aload_n 0, 1) := by decide +kernel
theorem dX10_say_65 : decode cX10_say 65 = .ok (.getfield 135, 3) := by decide +kernel
theorem dX10_say_68 : decode cX10_say 68 = .ok (.aload_n 0, 1) := by decide +kernel
theorem dX10_say_69 : decode cX10_say 69 = .ok (.getfield 515, 3) := by decide +kernel
theorem dX10_say_72 : decode cX10_say 72 = .ok (.iaload, 1) := by decide +kernel
theorem dX10_say_73 : decode cX10_say 73 = .ok (.istore_n 3, 1) := by decide +kernel
theorem dX10_say_74 : decode cX10_say 74 = .ok (.iload_n 3, 1) := by decide +kernel
theorem dX10_say_75 : decode cX10_say 75 = .ok (.ifCond .lt 11, 3) := by decide +kernel
theorem dX10_say_78 : decode cX10_say 78 = .ok (.aload_n 0, 1) := by decide +kernel
theorem dX10_say_79 : decode cX10_say 79 = .ok (.iload_n 3, 1) := by decide +kernel
theorem dX10_say_80 : decode cX10_say 80 = .ok (.invokevirtual 521, 3) := by decide +kernel
theorem dX10_say_83 : decode cX10_say 83 = .ok (.goto 23, 3) := by decide +kernel
theorem dX10_say_86 : decode cX10_say 86 = .ok (.aload_n 0, 1) := by decide +kernel
theorem dX10_say_87 : decode cX10_say 87 = .ok (.iload_n 1, 1) := by decide +kernel
theorem dX10_say_88 : decode cX10_say 88 = .ok (.invokestatic 509, 3) := by decide +kernel
theorem dX10_say_91 : decode cX10_say 91 = .ok (.iload_n 2, 1) := by decide +kernel
theorem dX10_say_92 : decode cX10_say 92 = .ok (.iconst (-1), 1) := by decide +kernel
theorem dX10_say_93 : decode cX10_say 93 = .ok (.iload_n 3, 1) := by decide +kernel
theorem dX10_say_94 : decode cX10_say 94 = .ok (.isub, 1) := by decide +kernel
theorem dX10_say_95 : decode cX10_say 95 = .ok (.iconst 4, 1) := by decide +kernel
theorem dX10_say_96 : decode cX10_say 96 = .ok (.idiv, 1) := by decide +kernel
theorem dX10_say_97 : decode cX10_say 97 = .ok (.iconst (-1), 1) := by decide +kernel
theorem dX10_say_98 : decode cX10_say 98 = .ok (.iload_n 3, 1) := by decide +kernel
theorem dX10_say_99 : decode cX10_say 99 = .ok (.isub, 1) := by decide +kernel
theorem dX10_say_100 : decode cX10_say 100 = .ok (.iconst 4, 1) := by decide +kernel
theorem dX10_say_101 : decode cX10_say 101 = .ok (.irem, 1) := by decide +kernel
theorem dX10_say_102 : decode cX10_say 102 = .ok (.invokevirtual 530, 3) := by decide +kernel
theorem dX10_say_105 : decode cX10_say 105 = .ok (.istore_n 2, 1) := by decide +kernel
theorem dX10_say_106 : decode cX10_say 106 = .ok (.goto (-59), 3) := by decide +kernel
theorem dX10_say_109 : decode cX10_say 109 = .ok (.aload_n 0, 1) := by decide +kernel
theorem dX10_say_110 : decode cX10_say 110 = .ok (.getfield 512, 3) := by decide +kernel
theorem dX10_say_113 : decode cX10_say 113 = .ok (.ireturn, 1) := by decide +kernel
theorem dX10_said_0 : decode cX10_said 0 = .ok (.aload_n 0, 1) := by decide +kernel
theorem dX10_said_1 : decode cX10_said 1 = .ok (.iconst 0, 1) := by decide +kernel
theorem dX10_said_2 : decode cX10_said 2 = .ok (.putfield 141, 3) := by decide +kernel
theorem dX10_said_5 : decode cX10_said 5 = .ok (.iload_n 1, 1) := by decide +kernel
theorem dX10_said_6 : decode cX10_said 6 = .ok (.iconst 0, 1) := by decide +kernel
theorem dX10_said_7 : decode cX10_said 7 = .ok (.aload_n 0, 1) := by decide +kernel
theorem dX10_said_8 : decode cX10_said 8 = .ok (.getfield 512, 3) := by decide +kernel
theorem dX10_said_11 : decode cX10_said 11 = .ok (.iconst 1, 1) := by decide +kernel
theorem dX10_said_12 : decode cX10_said 12 = .ok (.isub, 1) := by decide +kernel
theorem dX10_said_13 : decode cX10_said 13 = .ok (.invokestatic 154, 3) := by decide +kernel
theorem dX10_said_16 : decode cX10_said 16 = .ok (.ifCond .eq 12, 3) := by decide +kernel
theorem dX10_said_19 : decode cX10_said 19 = .ok (.aload_n 0, 1) := by decide +kernel
theorem dX10_said_20 : decode cX10_said 20 = .ok (.getfield 131, 3) := by decide +kernel
theorem dX10_said_23 : decode cX10_said 23 = .ok (.iload_n 1, 1) := by decide +kernel
theorem dX10_said_24 : decode cX10_said 24 = .ok (.baload, 1) := by decide +kernel
theorem dX10_said_25 : decode cX10_said 25 = .ok (.goto 4, 3) := by decide +kernel
theorem dX10_said_28 : decode cX10_said 28 = .ok (.iconst (-1), 1) := by decide +kernel
theorem dX10_said_29 : decode cX10_said 29 = .ok (.ireturn, 1) := by decide +kernel
theorem dX10_same_0 : decode cX10_same 0 = .ok (.aload_n 0, 1) := by decide +kernel
theorem dX10_same_1 : decode cX10_same 1 = .ok (.iconst 0, 1) := by decide +kernel
theorem dX10_same_2 : decode cX10_same 2 = .ok (.putfield 141, 3) := by decide +kernel
theorem dX10_same_5 : decode cX10_same 5 = .ok (.aload_n 0, 1) := by decide +kernel
theorem dX10_same_6 : decode cX10_same 6 = .ok (.iload_n 1, 1) := by decide +kernel
theorem dX10_same_7 : decode cX10_same 7 = .ok (.invokestatic 506, 3) := by decide +kernel
theorem dX10_same_10 : decode cX10_same 10 = .ok (.ifCond .eq 14, 3) := by decide +kernel
theorem dX10_same_13 : decode cX10_same 13 = .ok (.iload_n 2, 1) := by decide +kernel
theorem dX10_same_14 : decode cX10_same 14 = .ok (.invokestatic 506, 3) := by decide +kernel
theorem dX10_same_17 : decode cX10_same 17 = .ok (.ifCond .eq 7, 3) := by decide +kernel
theorem dX10_same_20 : decode cX10_same 20 = .ok (.iconst 1, 1) := by decide +kernel
theorem dX10_same_21 : decode cX10_same 21 = .ok (.goto 4, 3) := by decide +kernel
theorem dX10_same_24 : decode cX10_same 24 = .ok (.iconst 0, 1) := by decide +kernel
theorem dX10_same_25 : decode cX10_same 25 = .ok (.iconst 1, 1) := by decide +kernel
theorem dX10_same_26 : decode cX10_same 26 = .ok (.invokevirtual 269, 3) := by decide +kernel
theorem dX10_same_29 : decode cX10_same 29 = .ok (.ifCond .eq 32, 3) := by decide +kernel
theorem dX10_same_32 : decode cX10_same 32 = .ok (.aload_n 0, 1) := by decide +kernel
theorem dX10_same_33 : decode cX10_same 33 = .ok (.aload_n 0, 1) := by decide +kernel
theorem dX10_same_34 : decode cX10_same 34 = .ok (.iload_n 1, 1) := by decide +kernel
theorem dX10_same_35 : decode cX10_same 35 = .ok (.invokevirtual 500, 3) := by decide +kernel
theorem dX10_same_38 : decode cX10_same 38 = .ok (.ifCond .eq 15, 3) := by decide +kernel
theorem dX10_same_41 : decode cX10_same 41 = .ok (.aload_n 0, 1) := by decide +kernel
theorem dX10_same_42 : decode cX10_same 42 = .ok (.iload_n 2, 1) := by decide +kernel
theorem dX10_same_43 : decode cX10_same 43 = .ok (.invokevirtual 500, 3) := by decide +kernel
theorem dX10_same_46 : decode cX10_same 46 = .ok (.ifCond .eq 7, 3) := by decide +kernel
theorem dX10_same_49 : decode cX10_same 49 = .ok (.iconst 1, 1) := by decide +kernel
theorem dX10_same_50 : decode cX10_same 50 = .ok (.goto 4, 3) := by decide +kernel
theorem dX10_same_53 : decode cX10_same 53 = .ok (.iconst 0, 1) := by decide +kernel
theorem dX10_same_54 : decode cX10_same 54 = .ok (.iconst 2, 1) := by decide +kernel
theorem dX10_same_55 : decode cX10_same 55 = .ok (.invokevirtual 269, 3) := by decide +kernel
theorem dX10_same_58 : decode cX10_same 58 = .ok (.ifCond .ne 5, 3) := by decide +kernel
theorem dX10_same_61 : decode cX10_same 61 = .ok (.iconst 0, 1) := by decide +kernel
theorem dX10_same_62 : decode cX10_same 62 = .ok (.ireturn, 1) := by decide +kernel
theorem dX10_same_63 : decode cX10_same 63 = .ok (.aload_n 0, 1) := by decide +kernel
theorem dX10_same_64 : decode cX10_same 64 = .ok (.getfield 13, 3) := by decide +kernel
theorem dX10_same_67 : decode cX10_same 67 = .ok (.iload_n 1, 1) := by decide +kernel
theorem dX10_same_68 : decode cX10_same 68 = .ok (.iaload, 1) := by decide +kernel
theorem dX10_same_69 : decode cX10_same 69 = .ok (.aload_n 0, 1) := by decide +kernel
theorem dX10_same_70 : decode cX10_same 70 = .ok (.getfield 13, 3) := by decide +kernel
theorem dX10_same_73 : decode cX10_same 73 = .ok (.iload_n 2, 1) := by decide +kernel
theorem dX10_same_74 : decode cX10_same 74 = .ok (.iaload, 1) := by decide +kernel
theorem dX10_same_75 : decode cX10_same 75 = .ok (.if_icmp .eq 5, 3) := by decide +kernel
theorem dX10_same_78 : decode cX10_same 78 = .ok (.iconst 0, 1) := by decide +kernel
theorem dX10_same_79 : decode cX10_same 79 = .ok (.ireturn, 1) := by decide +kernel
theorem dX10_same_80 : decode cX10_same 80 = .ok (.iconst 0, 1) := by decide +kernel
theorem dX10_same_81 : decode cX10_same 81 = .ok (.istore_n 3, 1) := by decide +kernel
theorem dX10_same_82 : decode cX10_same 82 = .ok (.iload_n 3, 1) := by decide +kernel
theorem dX10_same_83 : decode cX10_same 83 = .ok (.aload_n 0, 1) := by decide +kernel
theorem dX10_same_84 : decode cX10_same 84 = .ok (.getfield 13, 3) := by decide +kernel
theorem dX10_same_87 : decode cX10_same 87 = .ok (.iload_n 1, 1) := by decide +kernel
theorem dX10_same_88 : decode cX10_same 88 = .ok (.iaload, 1) := by decide +kernel
theorem dX10_same_89 : decode cX10_same 89 = .ok (.if_icmp .ge 36, 3) := by decide +kernel
theorem dX10_same_92 : decode cX10_same 92 = .ok (.aload_n 0, 1) := by decide +kernel
theorem dX10_same_93 : decode cX10_same 93 = .ok (.getfield 7, 3) := by decide +kernel
theorem dX10_same_96 : decode cX10_same 96 = .ok (.iload_n 1, 1) := by decide +kernel
theorem dX10_same_97 : decode cX10_same 97 = .ok (.invokestatic 509, 3) := by decide +kernel
theorem dX10_same_100 : decode cX10_same 100 = .ok (.iload_n 3, 1) := by decide +kernel
theorem dX10_same_101 : decode cX10_same 101 = .ok (.iadd, 1) := by decide +kernel
theorem dX10_same_102 : decode cX10_same 102 = .ok (.iaload, 1) := by decide +kernel
theorem dX10_same_103 : decode cX10_same 103 = .ok (.aload_n 0, 1) := by decide +kernel
theorem dX10_same_104 : decode cX10_same 104 = .ok (.getfield 7, 3) := by decide +kernel
theorem dX10_same_107 : decode cX10_same 107 = .ok (.iload_n 2, 1) := by decide +kernel
theorem dX10_same_108 : decode cX10_same 108 = .ok (.invokestatic 509, 3) := by decide +kernel
theorem dX10_same_111 : decode cX10_same 111 = .ok (.iload_n 3, 1) := by decide +kernel
theorem dX10_same_112 : decode cX10_same 112 = .ok (.iadd, 1) := by decide +kernel
theorem dX10_same_113 : decode cX10_same 113 = .ok (.iaload, 1) := by decide +kernel
theorem dX10_same_114 : decode cX10_same 114 = .ok (.if_icmp .eq 5, 3) := by decide +kernel
theorem dX10_same_117 : decode cX10_same 117 = .ok (.iconst 0, 1) := by decide +kernel
theorem dX10_same_118 : decode cX10_same 118 = .ok (.ireturn, 1) := by decide +kernel
theorem dX10_same_119 : decode cX10_same 119 = .ok (.iinc 3 1, 3) := by decide +kernel
theorem dX10_same_122 : decode cX10_same 122 = .ok (.goto (-40), 3) := by decide +kernel
theorem dX10_same_125 : decode cX10_same 125 = .ok (.iconst 1, 1) := by decide +kernel
theorem dX10_same_126 : decode cX10_same 126 = .ok (.ireturn, 1) := by decide +kernel
theorem dX10_plain_0 : decode cX10_plain 0 = .ok (.aload_n 0, 1) := by decide +kernel
theorem dX10_plain_1 : decode cX10_plain 1 = .ok (.iconst 0, 1) := by decide +kernel
theorem dX10_plain_2 : decode cX10_plain 2 = .ok (.putfield 141, 3) := by decide +kernel
theorem dX10_plain_5 : decode cX10_plain 5 = .ok (.aload_n 0, 1) := by decide +kernel
theorem dX10_plain_6 : decode cX10_plain 6 = .ok (.iload_n 1, 1) := by decide +kernel
theorem dX10_plain_7 : decode cX10_plain 7 = .ok (.iconst 0, 1) := by decide +kernel
theorem dX10_plain_8 : decode cX10_plain 8 = .ok (.sipush 200, 3) := by decide +kernel
theorem dX10_plain_11 : decode cX10_plain 11 = .ok (.invokestatic 154, 3) := by decide +kernel
theorem dX10_plain_14 : decode cX10_plain 14 = .ok (.iconst 1, 1) := by decide +kernel
theorem dX10_plain_15 : decode cX10_plain 15 = .ok (.invokevirtual 269, 3) := by decide +kernel
theorem dX10_plain_18 : decode cX10_plain 18 = .ok (.ifCond .ne 5, 3) := by decide +kernel
theorem dX10_plain_21 : decode cX10_plain 21 = .ok (.iconst 0, 1) := by decide +kernel
theorem dX10_plain_22 : decode cX10_plain 22 = .ok (.ireturn, 1) := by decide +kernel
theorem dX10_plain_23 : decode cX10_plain 23 = .ok (.aload_n 0, 1) := by decide +kernel
theorem dX10_plain_24 : decode cX10_plain 24 = .ok (.iload_n 1, 1) := by decide +kernel
theorem dX10_plain_25 : decode cX10_plain 25 = .ok (.invokevirtual 487, 3) := by decide +kernel
theorem dX10_plain_28 : decode cX10_plain 28 = .ok (.ifCond .eq 12, 3) := by decide +kernel
theorem dX10_plain_31 : decode cX10_plain 31 = .ok (.aload_n 0, 1) := by decide +kernel
theorem dX10_plain_32 : decode cX10_plain 32 = .ok (.getfield 13, 3) := by decide +kernel
theorem dX10_plain_35 : decode cX10_plain 35 = .ok (.iconst 1, 1) := by decide +kernel
theorem dX10_plain_36 : decode cX10_plain 36 = .ok (.iaload, 1) := by decide +kernel
theorem dX10_plain_37 : decode cX10_plain 37 = .ok (.goto 4, 3) := by decide +kernel
theorem dX10_plain_40 : decode cX10_plain 40 = .ok (.iconst (-1), 1) := by decide +kernel
theorem dX10_plain_41 : decode cX10_plain 41 = .ok (.ireturn, 1) := by decide +kernel
theorem dX10_redexes_0 : decode cX10_redexes 0 = .ok (.aload_n 0, 1) := by decide +kernel
theorem dX10_redexes_1 : decode cX10_redexes 1 = .ok (.iconst 0, 1) := by decide +kernel
theorem dX10_redexes_2 : decode cX10_redexes 2 = .ok (.putfield 141, 3) := by decide +kernel
theorem dX10_redexes_5 : decode cX10_redexes 5 = .ok (.aload_n 0, 1) := by decide +kernel
theorem dX10_redexes_6 : decode cX10_redexes 6 = .ok (.iload_n 1, 1) := by decide +kernel
theorem dX10_redexes_7 : decode cX10_redexes 7 = .ok (.invokestatic 506, 3) := by decide +kernel
theorem dX10_redexes_10 : decode cX10_redexes 10 = .ok (.iconst 1, 1) := by decide +kernel
theorem dX10_redexes_11 : decode cX10_redexes 11 = .ok (.invokevirtual 269, 3) := by decide +kernel
theorem dX10_redexes_14 : decode cX10_redexes 14 = .ok (.ifCond .eq 16, 3) := by decide +kernel
theorem dX10_redexes_17 : decode cX10_redexes 17 = .ok (.aload_n 0, 1) := by decide +kernel
theorem dX10_redexes_18 : decode cX10_redexes 18 = .ok (.aload_n 0, 1) := by decide +kernel
theorem dX10_redexes_19 : decode cX10_redexes 19 = .ok (.iload_n 1, 1) := by decide +kernel
theorem dX10_redexes_20 : decode cX10_redexes 20 = .ok (.invokevirtual 500, 3) := by decide +kernel
theorem dX10_redexes_23 : decode cX10_redexes 23 = .ok (.iconst 2, 1) := by decide +kernel
theorem dX10_redexes_24 : decode cX10_redexes 24 = .ok (.invokevirtual 269, 3) := by decide +kernel
theorem dX10_redexes_27 : decode cX10_redexes 27 = .ok (.ifCond .ne 5, 3) := by decide +kernel
theorem dX10_redexes_30 : decode cX10_redexes 30 = .ok (.iconst 0, 1) := by decide +kernel
theorem dX10_redexes_31 : decode cX10_redexes 31 = .ok (.ireturn, 1) := by decide +kernel
theorem dX10_redexes_32 : decode cX10_redexes 32 = .ok (.iconst 0, 1) := by decide +kernel
theorem dX10_redexes_33 : decode cX10_redexes 33 = .ok (.istore_n 2, 1) := by decide +kernel
theorem dX10_redexes_34 : decode cX10_redexes 34 = .ok (.iconst 0, 1) := by decide +kernel
theorem dX10_redexes_35 : decode cX10_redexes 35 = .ok (.istore_n 3, 1) := by decide +kernel
theorem dX10_redexes_36 : decode cX10_redexes 36 = .ok (.iload_n 3, 1) := by decide +kernel
theorem dX10_redexes_37 : decode cX10_redexes 37 = .ok (.iconst 1, 1) := by decide +kernel
theorem dX10_redexes_38 : decode cX10_redexes 38 = .ok (.iadd, 1) := by decide +kernel
theorem dX10_redexes_39 : decode cX10_redexes 39 = .ok (.aload_n 0, 1) := by decide +kernel
theorem dX10_redexes_40 : decode cX10_redexes 40 = .ok (.getfield 13, 3) := by decide +kernel
theorem dX10_redexes_43 : decode cX10_redexes 43 = .ok (.iload_n 1, 1) := by decide +kernel
theorem dX10_redexes_44 : decode cX10_redexes 44 = .ok (.iaload, 1) := by decide +kernel
theorem dX10_redexes_45 : decode cX10_redexes 45 = .ok (.if_icmp .ge 48, 3) := by decide +kernel
theorem dX10_redexes_48 : decode cX10_redexes 48 = .ok (.iload_n 2, 1) := by decide +kernel
theorem dX10_redexes_49 : decode cX10_redexes 49 = .ok (.aload_n 0, 1) := by decide +kernel
theorem dX10_redexes_50 : decode cX10_redexes 50 = .ok (.getfield 7, 3) := by decide +kernel
theorem dX10_redexes_53 : decode cX10_redexes 53 = .ok (.iload_n 1, 1) := by decide +kernel
theorem dX10_redexes_54 : decode cX10_redexes 54 = .ok (.invokestatic 509, 3) := by decide +kernel
theorem dX10_redexes_57 : decode cX10_redexes 57 = .ok (.iload_n 3, 1) := by decide +kernel
theorem dX10_redexes_58 : decode cX10_redexes 58 = .ok (.iadd, 1) := by decide +kernel
theorem dX10_redexes_59 : decode cX10_redexes 59 = .ok (.iaload, 1) := by decide +kernel
theorem dX10_redexes_60 : decode cX10_redexes 60 = .ok (.ifCond .ne 24, 3) := by decide +kernel
theorem dX10_redexes_63 : decode cX10_redexes 63 = .ok (.aload_n 0, 1) := by decide +kernel
theorem dX10_redexes_64 : decode cX10_redexes 64 = .ok (.getfield 7, 3) := by decide +kernel
theorem dX10_redexes_67 : decode cX10_redexes 67 = .ok (.iload_n 1, 1) := by decide +kernel
theorem dX10_redexes_68 : decode cX10_redexes 68 = .ok (.invokestatic 509, 3) := by decide +kernel
theorem dX10_redexes_71 : decode cX10_redexes 71 = .ok (.iload_n 3, 1) := by decide +kernel
theorem dX10_redexes_72 : decode cX10_redexes 72 = .ok (.iadd, 1) := by decide +kernel
theorem dX10_redexes_73 : decode cX10_redexes 73 = .ok (.iconst 1, 1) := by decide +kernel
theorem dX10_redexes_74 : decode cX10_redexes 74 = .ok (.iadd, 1) := by decide +kernel
theorem dX10_redexes_75 : decode cX10_redexes 75 = .ok (.iaload, 1) := by decide +kernel
theorem dX10_redexes_76 : decode cX10_redexes 76 = .ok (.iconst 1, 1) := by decide +kernel
theorem dX10_redexes_77 : decode cX10_redexes 77 = .ok (.if_icmp .ne 7, 3) := by decide +kernel
theorem dX10_redexes_80 : decode cX10_redexes 80 = .ok (.iconst 1, 1) := by decide +kernel
theorem dX10_redexes_81 : decode cX10_redexes 81 = .ok (.goto 4, 3) := by decide +kernel
theorem dX10_redexes_84 : decode cX10_redexes 84 = .ok (.iconst 0, 1) := by decide +kernel
theorem dX10_redexes_85 : decode cX10_redexes 85 = .ok (.iadd, 1) := by decide +kernel
theorem dX10_redexes_86 : decode cX10_redexes 86 = .ok (.istore_n 2, 1) := by decide +kernel
theorem dX10_redexes_87 : decode cX10_redexes 87 = .ok (.iinc 3 1, 3) := by decide +kernel
theorem dX10_redexes_90 : decode cX10_redexes 90 = .ok (.goto (-54), 3) := by decide +kernel
theorem dX10_redexes_93 : decode cX10_redexes 93 = .ok (.iload_n 2, 1) := by decide +kernel
theorem dX10_redexes_94 : decode cX10_redexes 94 = .ok (.ireturn, 1) := by decide +kernel
theorem dJ9_floorMod_7cf53_0 : decode cJ9_floorMod_7cf53 0 = .ok (.iload_n 0, 1) := by decide +kernel
theorem dJ9_floorMod_7cf53_1 : decode cJ9_floorMod_7cf53 1 = .ok (.iload_n 1, 1) := by decide +kernel
theorem dJ9_floorMod_7cf53_2 : decode cJ9_floorMod_7cf53 2 = .ok (.irem, 1) := by decide +kernel
theorem dJ9_floorMod_7cf53_3 : decode cJ9_floorMod_7cf53 3 = .ok (.istore_n 2, 1) := by decide +kernel
theorem dJ9_floorMod_7cf53_4 : decode cJ9_floorMod_7cf53 4 = .ok (.iload_n 0, 1) := by decide +kernel
theorem dJ9_floorMod_7cf53_5 : decode cJ9_floorMod_7cf53 5 = .ok (.iload_n 1, 1) := by decide +kernel
theorem dJ9_floorMod_7cf53_6 : decode cJ9_floorMod_7cf53 6 = .ok (.ixor, 1) := by decide +kernel
theorem dJ9_floorMod_7cf53_7 : decode cJ9_floorMod_7cf53 7 = .ok (.ifCond .ge 11, 3) := by decide +kernel
theorem dJ9_floorMod_7cf53_10 : decode cJ9_floorMod_7cf53 10 = .ok (.iload_n 2, 1) := by decide +kernel
theorem dJ9_floorMod_7cf53_11 : decode cJ9_floorMod_7cf53 11 = .ok (.ifCond .eq 7, 3) := by decide +kernel
theorem dJ9_floorMod_7cf53_14 : decode cJ9_floorMod_7cf53 14 = .ok (.iload_n 2, 1) := by decide +kernel
theorem dJ9_floorMod_7cf53_15 : decode cJ9_floorMod_7cf53 15 = .ok (.iload_n 1, 1) := by decide +kernel
theorem dJ9_floorMod_7cf53_16 : decode cJ9_floorMod_7cf53 16 = .ok (.iadd, 1) := by decide +kernel
theorem dJ9_floorMod_7cf53_17 : decode cJ9_floorMod_7cf53 17 = .ok (.ireturn, 1) := by decide +kernel
theorem dJ9_floorMod_7cf53_18 : decode cJ9_floorMod_7cf53 18 = .ok (.iload_n 2, 1) := by decide +kernel
theorem dJ9_floorMod_7cf53_19 : decode cJ9_floorMod_7cf53 19 = .ok (.ireturn, 1) := by decide +kernel
theorem dJ9_max_7cf53_0 : decode cJ9_max_7cf53 0 = .ok (.iload_n 0, 1) := by decide +kernel
theorem dJ9_max_7cf53_1 : decode cJ9_max_7cf53 1 = .ok (.iload_n 1, 1) := by decide +kernel
theorem dJ9_max_7cf53_2 : decode cJ9_max_7cf53 2 = .ok (.if_icmp .lt 7, 3) := by decide +kernel
theorem dJ9_max_7cf53_5 : decode cJ9_max_7cf53 5 = .ok (.iload_n 0, 1) := by decide +kernel
theorem dJ9_max_7cf53_6 : decode cJ9_max_7cf53 6 = .ok (.goto 4, 3) := by decide +kernel
theorem dJ9_max_7cf53_9 : decode cJ9_max_7cf53 9 = .ok (.iload_n 1, 1) := by decide +kernel
theorem dJ9_max_7cf53_10 : decode cJ9_max_7cf53 10 = .ok (.ireturn, 1) := by decide +kernel
theorem dJ9_min_7cf53_0 : decode cJ9_min_7cf53 0 = .ok (.iload_n 0, 1) := by decide +kernel
theorem dJ9_min_7cf53_1 : decode cJ9_min_7cf53 1 = .ok (.iload_n 1, 1) := by decide +kernel
theorem dJ9_min_7cf53_2 : decode cJ9_min_7cf53 2 = .ok (.if_icmp .gt 7, 3) := by decide +kernel
theorem dJ9_min_7cf53_5 : decode cJ9_min_7cf53 5 = .ok (.iload_n 0, 1) := by decide +kernel
theorem dJ9_min_7cf53_6 : decode cJ9_min_7cf53 6 = .ok (.goto 4, 3) := by decide +kernel
theorem dJ9_min_7cf53_9 : decode cJ9_min_7cf53 9 = .ok (.iload_n 1, 1) := by decide +kernel
theorem dJ9_min_7cf53_10 : decode cJ9_min_7cf53 10 = .ok (.ireturn, 1) := by decide +kernel
theorem dJ7_copyOf_59c91_0 : decode cJ7_copyOf_59c91 0 = .ok (.iload_n 1, 1) := by decide +kernel
theorem dJ7_copyOf_59c91_1 : decode cJ7_copyOf_59c91 1 = .ok (.aload_n 0, 1) := by decide +kernel
theorem dJ7_copyOf_59c91_2 : decode cJ7_copyOf_59c91 2 = .ok (.arraylength, 1) := by decide +kernel
theorem dJ7_copyOf_59c91_3 : decode cJ7_copyOf_59c91 3 = .ok (.if_icmp .ne 11, 3) := by decide +kernel
theorem dJ7_copyOf_59c91_6 : decode cJ7_copyOf_59c91 6 = .ok (.aload_n 0, 1) := by decide +kernel
theorem dJ7_copyOf_59c91_7 : decode cJ7_copyOf_59c91 7 = .ok (.invokevirtual 316, 3) := by decide +kernel
theorem dJ7_copyOf_59c91_10 : decode cJ7_copyOf_59c91 10 = .ok (.checkcast 317, 3) := by decide +kernel
theorem dJ7_copyOf_59c91_13 : decode cJ7_copyOf_59c91 13 = .ok (.areturn, 1) := by decide +kernel
theorem dJ7_copyOf_59c91_14 : decode cJ7_copyOf_59c91 14 = .ok (.iload_n 1, 1) := by decide +kernel
theorem dJ7_copyOf_59c91_15 : decode cJ7_copyOf_59c91 15 = .ok (.newarray .int, 2) := by decide +kernel
theorem dJ7_copyOf_59c91_17 : decode cJ7_copyOf_59c91 17 = .ok (.astore_n 2, 1) := by decide +kernel
theorem dJ7_copyOf_59c91_18 : decode cJ7_copyOf_59c91 18 = .ok (.aload_n 0, 1) := by decide +kernel
theorem dJ7_copyOf_59c91_19 : decode cJ7_copyOf_59c91 19 = .ok (.iconst 0, 1) := by decide +kernel
theorem dJ7_copyOf_59c91_20 : decode cJ7_copyOf_59c91 20 = .ok (.aload_n 2, 1) := by decide +kernel
theorem dJ7_copyOf_59c91_21 : decode cJ7_copyOf_59c91 21 = .ok (.iconst 0, 1) := by decide +kernel
theorem dJ7_copyOf_59c91_22 : decode cJ7_copyOf_59c91 22 = .ok (.aload_n 0, 1) := by decide +kernel
theorem dJ7_copyOf_59c91_23 : decode cJ7_copyOf_59c91 23 = .ok (.arraylength, 1) := by decide +kernel
theorem dJ7_copyOf_59c91_24 : decode cJ7_copyOf_59c91 24 = .ok (.iload_n 1, 1) := by decide +kernel
theorem dJ7_copyOf_59c91_25 : decode cJ7_copyOf_59c91 25 = .ok (.invokestatic 304, 3) := by decide +kernel
theorem dJ7_copyOf_59c91_28 : decode cJ7_copyOf_59c91 28 = .ok (.invokestatic 150, 3) := by decide +kernel
theorem dJ7_copyOf_59c91_31 : decode cJ7_copyOf_59c91 31 = .ok (.aload_n 2, 1) := by decide +kernel
theorem dJ7_copyOf_59c91_32 : decode cJ7_copyOf_59c91 32 = .ok (.areturn, 1) := by decide +kernel
theorem dL_tell_0 : decode cL_tell 0 = .ok (.aload_n 2, 1) := by decide +kernel
theorem dL_tell_1 : decode cL_tell 1 = .ok (.iconst 0, 1) := by decide +kernel
theorem dL_tell_2 : decode cL_tell 2 = .ok (.aload_n 0, 1) := by decide +kernel
theorem dL_tell_3 : decode cL_tell 3 = .ok (.iload_n 1, 1) := by decide +kernel
theorem dL_tell_4 : decode cL_tell 4 = .ok (.invokevirtual 7, 3) := by decide +kernel
theorem dL_tell_7 : decode cL_tell 7 = .ok (.i2l, 1) := by decide +kernel
theorem dL_tell_8 : decode cL_tell 8 = .ok (.lastore, 1) := by decide +kernel
theorem dL_tell_9 : decode cL_tell 9 = .ok (.goto 6, 3) := by decide +kernel
theorem dL_tell_12 : decode cL_tell 12 = .ok (.astore_n 3, 1) := by decide +kernel
theorem dL_tell_13 : decode cL_tell 13 = .ok (.iconst 1, 1) := by decide +kernel
theorem dL_tell_14 : decode cL_tell 14 = .ok (.ireturn, 1) := by decide +kernel
theorem dL_tell_15 : decode cL_tell 15 = .ok (.iconst 0, 1) := by decide +kernel
theorem dL_tell_16 : decode cL_tell 16 = .ok (.ireturn, 1) := by decide +kernel
theorem dL_step_0 : decode cL_step 0 = .ok (.aload_n 2, 1) := by decide +kernel
theorem dL_step_1 : decode cL_step 1 = .ok (.iconst 0, 1) := by decide +kernel
theorem dL_step_2 : decode cL_step 2 = .ok (.aload_n 0, 1) := by decide +kernel
theorem dL_step_3 : decode cL_step 3 = .ok (.iload_n 1, 1) := by decide +kernel
theorem dL_step_4 : decode cL_step 4 = .ok (.invokevirtual 15, 3) := by decide +kernel
theorem dL_step_7 : decode cL_step 7 = .ok (.i2l, 1) := by decide +kernel
theorem dL_step_8 : decode cL_step 8 = .ok (.lastore, 1) := by decide +kernel
theorem dL_step_9 : decode cL_step 9 = .ok (.goto 6, 3) := by decide +kernel
theorem dL_step_12 : decode cL_step 12 = .ok (.astore_n 3, 1) := by decide +kernel
theorem dL_step_13 : decode cL_step 13 = .ok (.iconst 1, 1) := by decide +kernel
theorem dL_step_14 : decode cL_step 14 = .ok (.ireturn, 1) := by decide +kernel
theorem dL_step_15 : decode cL_step 15 = .ok (.iconst 0, 1) := by decide +kernel
theorem dL_step_16 : decode cL_step 16 = .ok (.ireturn, 1) := by decide +kernel
theorem dL_run_0 : decode cL_run 0 = .ok (.aload_n 3, 1) := by decide +kernel
theorem dL_run_1 : decode cL_run 1 = .ok (.iconst 0, 1) := by decide +kernel
theorem dL_run_2 : decode cL_run 2 = .ok (.aload_n 0, 1) := by decide +kernel
theorem dL_run_3 : decode cL_run 3 = .ok (.iload_n 1, 1) := by decide +kernel
theorem dL_run_4 : decode cL_run 4 = .ok (.iload_n 2, 1) := by decide +kernel
theorem dL_run_5 : decode cL_run 5 = .ok (.invokevirtual 18, 3) := by decide +kernel
theorem dL_run_8 : decode cL_run 8 = .ok (.i2l, 1) := by decide +kernel
theorem dL_run_9 : decode cL_run 9 = .ok (.lastore, 1) := by decide +kernel
theorem dL_run_10 : decode cL_run 10 = .ok (.goto 7, 3) := by decide +kernel
theorem dL_run_13 : decode cL_run 13 = .ok (.astore 4, 2) := by decide +kernel
theorem dL_run_15 : decode cL_run 15 = .ok (.iconst 1, 1) := by decide +kernel
theorem dL_run_16 : decode cL_run 16 = .ok (.ireturn, 1) := by decide +kernel
theorem dL_run_17 : decode cL_run 17 = .ok (.iconst 0, 1) := by decide +kernel
theorem dL_run_18 : decode cL_run 18 = .ok (.ireturn, 1) := by decide +kernel
theorem dL_count_0 : decode cL_count 0 = .ok (.aload_n 2, 1) := by decide +kernel
theorem dL_count_1 : decode cL_count 1 = .ok (.iconst 0, 1) := by decide +kernel
theorem dL_count_2 : decode cL_count 2 = .ok (.aload_n 0, 1) := by decide +kernel
theorem dL_count_3 : decode cL_count 3 = .ok (.iload_n 1, 1) := by decide +kernel
theorem dL_count_4 : decode cL_count 4 = .ok (.invokevirtual 22, 3) := by decide +kernel
theorem dL_count_7 : decode cL_count 7 = .ok (.i2l, 1) := by decide +kernel
theorem dL_count_8 : decode cL_count 8 = .ok (.lastore, 1) := by decide +kernel
theorem dL_count_9 : decode cL_count 9 = .ok (.goto 6, 3) := by decide +kernel
theorem dL_count_12 : decode cL_count 12 = .ok (.astore_n 3, 1) := by decide +kernel
theorem dL_count_13 : decode cL_count 13 = .ok (.iconst 1, 1) := by decide +kernel
theorem dL_count_14 : decode cL_count 14 = .ok (.ireturn, 1) := by decide +kernel
theorem dL_count_15 : decode cL_count 15 = .ok (.iconst 0, 1) := by decide +kernel
theorem dL_count_16 : decode cL_count 16 = .ok (.ireturn, 1) := by decide +kernel
theorem dL_node_0 : decode cL_node 0 = .ok (.aload_n 3, 1) := by decide +kernel
theorem dL_node_1 : decode cL_node 1 = .ok (.iconst 0, 1) := by decide +kernel
theorem dL_node_2 : decode cL_node 2 = .ok (.aload_n 0, 1) := by decide +kernel
theorem dL_node_3 : decode cL_node 3 = .ok (.iload_n 1, 1) := by decide +kernel
theorem dL_node_4 : decode cL_node 4 = .ok (.iload_n 2, 1) := by decide +kernel
theorem dL_node_5 : decode cL_node 5 = .ok (.invokevirtual 27, 3) := by decide +kernel
theorem dL_node_8 : decode cL_node 8 = .ok (.i2l, 1) := by decide +kernel
theorem dL_node_9 : decode cL_node 9 = .ok (.lastore, 1) := by decide +kernel
theorem dL_node_10 : decode cL_node 10 = .ok (.goto 7, 3) := by decide +kernel
theorem dL_node_13 : decode cL_node 13 = .ok (.astore 4, 2) := by decide +kernel
theorem dL_node_15 : decode cL_node 15 = .ok (.iconst 1, 1) := by decide +kernel
theorem dL_node_16 : decode cL_node 16 = .ok (.ireturn, 1) := by decide +kernel
theorem dL_node_17 : decode cL_node 17 = .ok (.iconst 0, 1) := by decide +kernel
theorem dL_node_18 : decode cL_node 18 = .ok (.ireturn, 1) := by decide +kernel
theorem dL_active_0 : decode cL_active 0 = .ok (.aload_n 3, 1) := by decide +kernel
theorem dL_active_1 : decode cL_active 1 = .ok (.iconst 0, 1) := by decide +kernel
theorem dL_active_2 : decode cL_active 2 = .ok (.aload_n 0, 1) := by decide +kernel
theorem dL_active_3 : decode cL_active 3 = .ok (.iload_n 1, 1) := by decide +kernel
theorem dL_active_4 : decode cL_active 4 = .ok (.iload_n 2, 1) := by decide +kernel
theorem dL_active_5 : decode cL_active 5 = .ok (.invokevirtual 30, 3) := by decide +kernel
theorem dL_active_8 : decode cL_active 8 = .ok (.i2l, 1) := by decide +kernel
theorem dL_active_9 : decode cL_active 9 = .ok (.lastore, 1) := by decide +kernel
theorem dL_active_10 : decode cL_active 10 = .ok (.goto 7, 3) := by decide +kernel
theorem dL_active_13 : decode cL_active 13 = .ok (.astore 4, 2) := by decide +kernel
theorem dL_active_15 : decode cL_active 15 = .ok (.iconst 1, 1) := by decide +kernel
theorem dL_active_16 : decode cL_active 16 = .ok (.ireturn, 1) := by decide +kernel
theorem dL_active_17 : decode cL_active 17 = .ok (.iconst 0, 1) := by decide +kernel
theorem dL_active_18 : decode cL_active 18 = .ok (.ireturn, 1) := by decide +kernel
theorem dL_wanted_0 : decode cL_wanted 0 = .ok (.aload_n 2, 1) := by decide +kernel
theorem dL_wanted_1 : decode cL_wanted 1 = .ok (.iconst 0, 1) := by decide +kernel
theorem dL_wanted_2 : decode cL_wanted 2 = .ok (.aload_n 0, 1) := by decide +kernel
theorem dL_wanted_3 : decode cL_wanted 3 = .ok (.iload_n 1, 1) := by decide +kernel
theorem dL_wanted_4 : decode cL_wanted 4 = .ok (.invokevirtual 33, 3) := by decide +kernel
theorem dL_wanted_7 : decode cL_wanted 7 = .ok (.i2l, 1) := by decide +kernel
theorem dL_wanted_8 : decode cL_wanted 8 = .ok (.lastore, 1) := by decide +kernel
theorem dL_wanted_9 : decode cL_wanted 9 = .ok (.goto 6, 3) := by decide +kernel
theorem dL_wanted_12 : decode cL_wanted 12 = .ok (.astore_n 3, 1) := by decide +kernel
theorem dL_wanted_13 : decode cL_wanted 13 = .ok (.iconst 1, 1) := by decide +kernel
theorem dL_wanted_14 : decode cL_wanted 14 = .ok (.ireturn, 1) := by decide +kernel
theorem dL_wanted_15 : decode cL_wanted 15 = .ok (.iconst 0, 1) := by decide +kernel
theorem dL_wanted_16 : decode cL_wanted 16 = .ok (.ireturn, 1) := by decide +kernel
theorem dL_part_0 : decode cL_part 0 = .ok (.aload_n 3, 1) := by decide +kernel
theorem dL_part_1 : decode cL_part 1 = .ok (.iconst 0, 1) := by decide +kernel
theorem dL_part_2 : decode cL_part 2 = .ok (.aload_n 0, 1) := by decide +kernel
theorem dL_part_3 : decode cL_part 3 = .ok (.iload_n 1, 1) := by decide +kernel
theorem dL_part_4 : decode cL_part 4 = .ok (.iload_n 2, 1) := by decide +kernel
theorem dL_part_5 : decode cL_part 5 = .ok (.invokevirtual 36, 3) := by decide +kernel
theorem dL_part_8 : decode cL_part 8 = .ok (.i2l, 1) := by decide +kernel
theorem dL_part_9 : decode cL_part 9 = .ok (.lastore, 1) := by decide +kernel
theorem dL_part_10 : decode cL_part 10 = .ok (.goto 7, 3) := by decide +kernel
theorem dL_part_13 : decode cL_part 13 = .ok (.astore 4, 2) := by decide +kernel
theorem dL_part_15 : decode cL_part 15 = .ok (.iconst 1, 1) := by decide +kernel
theorem dL_part_16 : decode cL_part 16 = .ok (.ireturn, 1) := by decide +kernel
theorem dL_part_17 : decode cL_part 17 = .ok (.iconst 0, 1) := by decide +kernel
theorem dL_part_18 : decode cL_part 18 = .ok (.ireturn, 1) := by decide +kernel
theorem dL_say_0 : decode cL_say 0 = .ok (.aload_n 2, 1) := by decide +kernel
theorem dL_say_1 : decode cL_say 1 = .ok (.iconst 0, 1) := by decide +kernel
theorem dL_say_2 : decode cL_say 2 = .ok (.aload_n 0, 1) := by decide +kernel
theorem dL_say_3 : decode cL_say 3 = .ok (.iload_n 1, 1) := by decide +kernel
theorem dL_say_4 : decode cL_say 4 = .ok (.invokevirtual 39, 3) := by decide +kernel
theorem dL_say_7 : decode cL_say 7 = .ok (.i2l, 1) := by decide +kernel
theorem dL_say_8 : decode cL_say 8 = .ok (.lastore, 1) := by decide +kernel
theorem dL_say_9 : decode cL_say 9 = .ok (.goto 6, 3) := by decide +kernel
theorem dL_say_12 : decode cL_say 12 = .ok (.astore_n 3, 1) := by decide +kernel
theorem dL_say_13 : decode cL_say 13 = .ok (.iconst 1, 1) := by decide +kernel
theorem dL_say_14 : decode cL_say 14 = .ok (.ireturn, 1) := by decide +kernel
theorem dL_say_15 : decode cL_say 15 = .ok (.iconst 0, 1) := by decide +kernel
theorem dL_say_16 : decode cL_say 16 = .ok (.ireturn, 1) := by decide +kernel
theorem dL_same_0 : decode cL_same 0 = .ok (.aload_n 3, 1) := by decide +kernel
theorem dL_same_1 : decode cL_same 1 = .ok (.iconst 0, 1) := by decide +kernel
theorem dL_same_2 : decode cL_same 2 = .ok (.aload_n 0, 1) := by decide +kernel
theorem dL_same_3 : decode cL_same 3 = .ok (.iload_n 1, 1) := by decide +kernel
theorem dL_same_4 : decode cL_same 4 = .ok (.iload_n 2, 1) := by decide +kernel
theorem dL_same_5 : decode cL_same 5 = .ok (.invokevirtual 42, 3) := by decide +kernel
theorem dL_same_8 : decode cL_same 8 = .ok (.ifCond .eq 7, 3) := by decide +kernel
theorem dL_same_11 : decode cL_same 11 = .ok (.lconst 1, 1) := by decide +kernel
theorem dL_same_12 : decode cL_same 12 = .ok (.goto 4, 3) := by decide +kernel
theorem dL_same_15 : decode cL_same 15 = .ok (.lconst 0, 1) := by decide +kernel
theorem dL_same_16 : decode cL_same 16 = .ok (.lastore, 1) := by decide +kernel
theorem dL_same_17 : decode cL_same 17 = .ok (.goto 11, 3) := by decide +kernel
theorem dL_same_20 : decode cL_same 20 = .ok (.astore 4, 2) := by decide +kernel
theorem dL_same_22 : decode cL_same 22 = .ok (.iconst 1, 1) := by decide +kernel
theorem dL_same_23 : decode cL_same 23 = .ok (.ireturn, 1) := by decide +kernel
theorem dL_same_24 : decode cL_same 24 = .ok (.astore 4, 2) := by decide +kernel
theorem dL_same_26 : decode cL_same 26 = .ok (.iconst 2, 1) := by decide +kernel
theorem dL_same_27 : decode cL_same 27 = .ok (.ireturn, 1) := by decide +kernel
theorem dL_same_28 : decode cL_same 28 = .ok (.iconst 0, 1) := by decide +kernel
theorem dL_same_29 : decode cL_same 29 = .ok (.ireturn, 1) := by decide +kernel
theorem dL_plain_0 : decode cL_plain 0 = .ok (.aload_n 2, 1) := by decide +kernel
theorem dL_plain_1 : decode cL_plain 1 = .ok (.iconst 0, 1) := by decide +kernel
theorem dL_plain_2 : decode cL_plain 2 = .ok (.aload_n 0, 1) := by decide +kernel
theorem dL_plain_3 : decode cL_plain 3 = .ok (.iload_n 1, 1) := by decide +kernel
theorem dL_plain_4 : decode cL_plain 4 = .ok (.invokevirtual 46, 3) := by decide +kernel
theorem dL_plain_7 : decode cL_plain 7 = .ok (.i2l, 1) := by decide +kernel
theorem dL_plain_8 : decode cL_plain 8 = .ok (.lastore, 1) := by decide +kernel
theorem dL_plain_9 : decode cL_plain 9 = .ok (.goto 6, 3) := by decide +kernel
theorem dL_plain_12 : decode cL_plain 12 = .ok (.astore_n 3, 1) := by decide +kernel
theorem dL_plain_13 : decode cL_plain 13 = .ok (.iconst 1, 1) := by decide +kernel
theorem dL_plain_14 : decode cL_plain 14 = .ok (.ireturn, 1) := by decide +kernel
theorem dL_plain_15 : decode cL_plain 15 = .ok (.iconst 0, 1) := by decide +kernel
theorem dL_plain_16 : decode cL_plain 16 = .ok (.ireturn, 1) := by decide +kernel
theorem dL_redexes_0 : decode cL_redexes 0 = .ok (.aload_n 2, 1) := by decide +kernel
theorem dL_redexes_1 : decode cL_redexes 1 = .ok (.iconst 0, 1) := by decide +kernel
theorem dL_redexes_2 : decode cL_redexes 2 = .ok (.aload_n 0, 1) := by decide +kernel
theorem dL_redexes_3 : decode cL_redexes 3 = .ok (.iload_n 1, 1) := by decide +kernel
theorem dL_redexes_4 : decode cL_redexes 4 = .ok (.invokevirtual 49, 3) := by decide +kernel
theorem dL_redexes_7 : decode cL_redexes 7 = .ok (.i2l, 1) := by decide +kernel
theorem dL_redexes_8 : decode cL_redexes 8 = .ok (.lastore, 1) := by decide +kernel
theorem dL_redexes_9 : decode cL_redexes 9 = .ok (.goto 9, 3) := by decide +kernel
theorem dL_redexes_12 : decode cL_redexes 12 = .ok (.astore_n 3, 1) := by decide +kernel
theorem dL_redexes_13 : decode cL_redexes 13 = .ok (.iconst 1, 1) := by decide +kernel
theorem dL_redexes_14 : decode cL_redexes 14 = .ok (.ireturn, 1) := by decide +kernel
theorem dL_redexes_15 : decode cL_redexes 15 = .ok (.astore_n 3, 1) := by decide +kernel
theorem dL_redexes_16 : decode cL_redexes 16 = .ok (.iconst 2, 1) := by decide +kernel
theorem dL_redexes_17 : decode cL_redexes 17 = .ok (.ireturn, 1) := by decide +kernel
theorem dL_redexes_18 : decode cL_redexes 18 = .ok (.iconst 0, 1) := by decide +kernel
theorem dL_redexes_19 : decode cL_redexes 19 = .ok (.ireturn, 1) := by decide +kernel
theorem dL_trial_0 : decode cL_trial 0 = .ok (.aload_n 3, 1) := by decide +kernel
theorem dL_trial_1 : decode cL_trial 1 = .ok (.iconst 0, 1) := by decide +kernel
theorem dL_trial_2 : decode cL_trial 2 = .ok (.aload_n 0, 1) := by decide +kernel
theorem dL_trial_3 : decode cL_trial 3 = .ok (.iload_n 1, 1) := by decide +kernel
theorem dL_trial_4 : decode cL_trial 4 = .ok (.iload_n 2, 1) := by decide +kernel
theorem dL_trial_5 : decode cL_trial 5 = .ok (.invokevirtual 52, 3) := by decide +kernel
theorem dL_trial_8 : decode cL_trial 8 = .ok (.i2l, 1) := by decide +kernel
theorem dL_trial_9 : decode cL_trial 9 = .ok (.lastore, 1) := by decide +kernel
theorem dL_trial_10 : decode cL_trial 10 = .ok (.goto 11, 3) := by decide +kernel
theorem dL_trial_13 : decode cL_trial 13 = .ok (.astore 4, 2) := by decide +kernel
theorem dL_trial_15 : decode cL_trial 15 = .ok (.iconst 1, 1) := by decide +kernel
theorem dL_trial_16 : decode cL_trial 16 = .ok (.ireturn, 1) := by decide +kernel
theorem dL_trial_17 : decode cL_trial 17 = .ok (.astore 4, 2) := by decide +kernel
theorem dL_trial_19 : decode cL_trial 19 = .ok (.iconst 2, 1) := by decide +kernel
theorem dL_trial_20 : decode cL_trial 20 = .ok (.ireturn, 1) := by decide +kernel
theorem dL_trial_21 : decode cL_trial 21 = .ok (.iconst 0, 1) := by decide +kernel
theorem dL_trial_22 : decode cL_trial 22 = .ok (.ireturn, 1) := by decide +kernel
theorem dL_law_0 : decode cL_law 0 = .ok (.new 8, 3) := by decide +kernel
theorem dL_law_3 : decode cL_law 3 = .ok (.dup, 1) := by decide +kernel
theorem dL_law_4 : decode cL_law 4 = .ok (.invokespecial 55, 3) := by decide +kernel
theorem dL_law_7 : decode cL_law 7 = .ok (.astore_n 1, 1) := by decide +kernel
theorem dL_law_8 : decode cL_law 8 = .ok (.new 56, 3) := by decide +kernel
theorem dL_law_11 : decode cL_law 11 = .ok (.dup, 1) := by decide +kernel
theorem dL_law_12 : decode cL_law 12 = .ok (.invokespecial 58, 3) := by decide +kernel
theorem dL_law_15 : decode cL_law 15 = .ok (.astore_n 2, 1) := by decide +kernel
theorem dL_law_16 : decode cL_law 16 = .ok (.iconst 1, 1) := by decide +kernel
theorem dL_law_17 : decode cL_law 17 = .ok (.newarray .long, 2) := by decide +kernel
theorem dL_law_19 : decode cL_law 19 = .ok (.astore_n 3, 1) := by decide +kernel
theorem dL_law_20 : decode cL_law 20 = .ok (.iconst 0, 1) := by decide +kernel
theorem dL_law_21 : decode cL_law 21 = .ok (.istore 4, 2) := by decide +kernel
theorem dL_law_23 : decode cL_law 23 = .ok (.iload 4, 2) := by decide +kernel
theorem dL_law_25 : decode cL_law 25 = .ok (.aload_n 0, 1) := by decide +kernel
theorem dL_law_26 : decode cL_law 26 = .ok (.arraylength, 1) := by decide +kernel
theorem dL_law_27 : decode cL_law 27 = .ok (.bipush 6, 2) := by decide +kernel
theorem dL_law_29 : decode cL_law 29 = .ok (.isub, 1) := by decide +kernel
theorem dL_law_30 : decode cL_law 30 = .ok (.if_icmp .gt 688, 3) := by decide +kernel
theorem dL_law_33 : decode cL_law 33 = .ok (.aload_n 0, 1) := by decide +kernel
theorem dL_law_34 : decode cL_law 34 = .ok (.iload 4, 2) := by decide +kernel
theorem dL_law_36 : decode cL_law 36 = .ok (.iaload, 1) := by decide +kernel
theorem dL_law_37 : decode cL_law 37 = .ok (.bipush 31, 2) := by decide +kernel
theorem dL_law_39 : decode cL_law 39 = .ok (.iand, 1) := by decide +kernel
theorem dL_law_40 : decode cL_law 40 = .ok (.tableswitch 672 0 16 #[84, 157, 185, 198, 211, 239, 279, 307, 347, 387, 415, 455, 483, 508, 548, 604, 632], 84) := by decide +kernel
theorem dL_law_124 : decode cL_law 124 = .ok (.aload_n 1, 1) := by decide +kernel
theorem dL_law_125 : decode cL_law 125 = .ok (.aload_n 0, 1) := by decide +kernel
theorem dL_law_126 : decode cL_law 126 = .ok (.iload 4, 2) := by decide +kernel
theorem dL_law_128 : decode cL_law 128 = .ok (.iconst 1, 1) := by decide +kernel
theorem dL_law_129 : decode cL_law 129 = .ok (.iadd, 1) := by decide +kernel
theorem dL_law_130 : decode cL_law 130 = .ok (.iaload, 1) := by decide +kernel
theorem dL_law_131 : decode cL_law 131 = .ok (.aload_n 0, 1) := by decide +kernel
theorem dL_law_132 : decode cL_law 132 = .ok (.iload 4, 2) := by decide +kernel
theorem dL_law_134 : decode cL_law 134 = .ok (.iconst 2, 1) := by decide +kernel
theorem dL_law_135 : decode cL_law 135 = .ok (.iadd, 1) := by decide +kernel
theorem dL_law_136 : decode cL_law 136 = .ok (.iaload, 1) := by decide +kernel
theorem dL_law_137 : decode cL_law 137 = .ok (.aload_n 0, 1) := by decide +kernel
theorem dL_law_138 : decode cL_law 138 = .ok (.iload 4, 2) := by decide +kernel
theorem dL_law_140 : decode cL_law 140 = .ok (.iconst 3, 1) := by decide +kernel
theorem dL_law_141 : decode cL_law 141 = .ok (.iadd, 1) := by decide +kernel
theorem dL_law_142 : decode cL_law 142 = .ok (.iaload, 1) := by decide +kernel
theorem dL_law_143 : decode cL_law 143 = .ok (.aload_n 0, 1) := by decide +kernel
theorem dL_law_144 : decode cL_law 144 = .ok (.iload 4, 2) := by decide +kernel
theorem dL_law_146 : decode cL_law 146 = .ok (.iconst 4, 1) := by decide +kernel
theorem dL_law_147 : decode cL_law 147 = .ok (.iadd, 1) := by decide +kernel
theorem dL_law_148 : decode cL_law 148 = .ok (.iaload, 1) := by decide +kernel
theorem dL_law_149 : decode cL_law 149 = .ok (.aload_n 0, 1) := by decide +kernel
theorem dL_law_150 : decode cL_law 150 = .ok (.iload 4, 2) := by decide +kernel
theorem dL_law_152 : decode cL_law 152 = .ok (.iconst 5, 1) := by decide +kernel
theorem dL_law_153 : decode cL_law 153 = .ok (.iadd, 1) := by decide +kernel
theorem dL_law_154 : decode cL_law 154 = .ok (.iaload, 1) := by decide +kernel
theorem dL_law_155 : decode cL_law 155 = .ok (.invokevirtual 59, 3) := by decide +kernel
theorem dL_law_158 : decode cL_law 158 = .ok (.pop, 1) := by decide +kernel
theorem dL_law_159 : decode cL_law 159 = .ok (.aload_n 2, 1) := by decide +kernel
theorem dL_law_160 : decode cL_law 160 = .ok (.aload_n 0, 1) := by decide +kernel
theorem dL_law_161 : decode cL_law 161 = .ok (.iload 4, 2) := by decide +kernel
theorem dL_law_163 : decode cL_law 163 = .ok (.iconst 1, 1) := by decide +kernel
theorem dL_law_164 : decode cL_law 164 = .ok (.iadd, 1) := by decide +kernel
theorem dL_law_165 : decode cL_law 165 = .ok (.iaload, 1) := by decide +kernel
theorem dL_law_166 : decode cL_law 166 = .ok (.aload_n 0, 1) := by decide +kernel
theorem dL_law_167 : decode cL_law 167 = .ok (.iload 4, 2) := by decide +kernel
theorem dL_law_169 : decode cL_law 169 = .ok (.iconst 2, 1) := by decide +kernel
theorem dL_law_170 : decode cL_law 170 = .ok (.iadd, 1) := by decide +kernel
theorem dL_law_171 : decode cL_law 171 = .ok (.iaload, 1) := by decide +kernel
theorem dL_law_172 : decode cL_law 172 = .ok (.aload_n 0, 1) := by decide +kernel
theorem dL_law_173 : decode cL_law 173 = .ok (.iload 4, 2) := by decide +kernel
theorem dL_law_175 : decode cL_law 175 = .ok (.iconst 3, 1) := by decide +kernel
theorem dL_law_176 : decode cL_law 176 = .ok (.iadd, 1) := by decide +kernel
theorem dL_law_177 : decode cL_law 177 = .ok (.iaload, 1) := by decide +kernel
theorem dL_law_178 : decode cL_law 178 = .ok (.aload_n 0, 1) := by decide +kernel
theorem dL_law_179 : decode cL_law 179 = .ok (.iload 4, 2) := by decide +kernel
theorem dL_law_181 : decode cL_law 181 = .ok (.iconst 4, 1) := by decide +kernel
theorem dL_law_182 : decode cL_law 182 = .ok (.iadd, 1) := by decide +kernel
theorem dL_law_183 : decode cL_law 183 = .ok (.iaload, 1) := by decide +kernel
theorem dL_law_184 : decode cL_law 184 = .ok (.aload_n 0, 1) := by decide +kernel
theorem dL_law_185 : decode cL_law 185 = .ok (.iload 4, 2) := by decide +kernel
theorem dL_law_187 : decode cL_law 187 = .ok (.iconst 5, 1) := by decide +kernel
theorem dL_law_188 : decode cL_law 188 = .ok (.iadd, 1) := by decide +kernel
theorem dL_law_189 : decode cL_law 189 = .ok (.iaload, 1) := by decide +kernel
theorem dL_law_190 : decode cL_law 190 = .ok (.invokevirtual 63, 3) := by decide +kernel
theorem dL_law_193 : decode cL_law 193 = .ok (.pop, 1) := by decide +kernel
theorem dL_law_194 : decode cL_law 194 = .ok (.goto 518, 3) := by decide +kernel
theorem dL_law_197 : decode cL_law 197 = .ok (.aload_n 1, 1) := by decide +kernel
theorem dL_law_198 : decode cL_law 198 = .ok (.aload_n 0, 1) := by decide +kernel
theorem dL_law_199 : decode cL_law 199 = .ok (.iload 4, 2) := by decide +kernel
theorem dL_law_201 : decode cL_law 201 = .ok (.iconst 1, 1) := by decide +kernel
theorem dL_law_202 : decode cL_law 202 = .ok (.iadd, 1) := by decide +kernel
theorem dL_law_203 : decode cL_law 203 = .ok (.iaload, 1) := by decide +kernel
theorem dL_law_204 : decode cL_law 204 = .ok (.aload_n 3, 1) := by decide +kernel
theorem dL_law_205 : decode cL_law 205 = .ok (.invokestatic 64, 3) := by decide +kernel
theorem dL_law_208 : decode cL_law 208 = .ok (.istore 5, 2) := by decide +kernel
theorem dL_law_210 : decode cL_law 210 = .ok (.aload_n 2, 1) := by decide +kernel
theorem dL_law_211 : decode cL_law 211 = .ok (.aload_n 0, 1) := by decide +kernel
theorem dL_law_212 : decode cL_law 212 = .ok (.iload 4, 2) := by decide +kernel
theorem dL_law_214 : decode cL_law 214 = .ok (.iconst 1, 1) := by decide +kernel
theorem dL_law_215 : decode cL_law 215 = .ok (.iadd, 1) := by decide +kernel
theorem dL_law_216 : decode cL_law 216 = .ok (.iaload, 1) := by decide +kernel
theorem dL_law_217 : decode cL_law 217 = .ok (.invokevirtual 69, 3) := by decide +kernel
theorem dL_law_220 : decode cL_law 220 = .ok (.istore 6, 2) := by decide +kernel
theorem dL_law_222 : decode cL_law 222 = .ok (.goto 490, 3) := by decide +kernel
theorem dL_law_225 : decode cL_law 225 = .ok (.aload_n 1, 1) := by decide +kernel
theorem dL_law_226 : decode cL_law 226 = .ok (.invokevirtual 70, 3) := by decide +kernel
theorem dL_law_229 : decode cL_law 229 = .ok (.pop, 1) := by decide +kernel
theorem dL_law_230 : decode cL_law 230 = .ok (.aload_n 2, 1) := by decide +kernel
theorem dL_law_231 : decode cL_law 231 = .ok (.invokevirtual 74, 3) := by decide +kernel
theorem dL_law_234 : decode cL_law 234 = .ok (.pop, 1) := by decide +kernel
theorem dL_law_235 : decode cL_law 235 = .ok (.goto 477, 3) := by decide +kernel
theorem dL_law_238 : decode cL_law 238 = .ok (.aload_n 1, 1) := by decide +kernel
theorem dL_law_239 : decode cL_law 239 = .ok (.invokevirtual 75, 3) := by decide +kernel
theorem dL_law_242 : decode cL_law 242 = .ok (.pop, 1) := by decide +kernel
theorem dL_law_243 : decode cL_law 243 = .ok (.aload_n 2, 1) := by decide +kernel
theorem dL_law_244 : decode cL_law 244 = .ok (.invokevirtual 78, 3) := by decide +kernel
theorem dL_law_247 : decode cL_law 247 = .ok (.pop, 1) := by decide +kernel
theorem dL_law_248 : decode cL_law 248 = .ok (.goto 464, 3) := by decide +kernel
theorem dL_law_251 : decode cL_law 251 = .ok (.aload_n 1, 1) := by decide +kernel
theorem dL_law_252 : decode cL_law 252 = .ok (.aload_n 0, 1) := by decide +kernel
theorem dL_law_253 : decode cL_law 253 = .ok (.iload 4, 2) := by decide +kernel
theorem dL_law_255 : decode cL_law 255 = .ok (.iconst 1, 1) := by decide +kernel
theorem dL_law_256 : decode cL_law 256 = .ok (.iadd, 1) := by decide +kernel
theorem dL_law_257 : decode cL_law 257 = .ok (.iaload, 1) := by decide +kernel
theorem dL_law_258 : decode cL_law 258 = .ok (.aload_n 3, 1) := by decide +kernel
theorem dL_law_259 : decode cL_law 259 = .ok (.invokestatic 79, 3) := by decide +kernel
theorem dL_law_262 : decode cL_law 262 = .ok (.istore 5, 2) := by decide +kernel
theorem dL_law_264 : decode cL_law 264 = .ok (.aload_n 2, 1) := by decide +kernel
theorem dL_law_265 : decode cL_law 265 = .ok (.aload_n 0, 1) := by decide +kernel
theorem dL_law_266 : decode cL_law 266 = .ok (.iload 4, 2) := by decide +kernel
theorem dL_law_268 : decode cL_law 268 = .ok (.iconst 1, 1) := by decide +kernel
theorem dL_law_269 : decode cL_law 269 = .ok (.iadd, 1) := by decide +kernel
theorem dL_law_270 : decode cL_law 270 = .ok (.iaload, 1) := by decide +kernel
theorem dL_law_271 : decode cL_law 271 = .ok (.invokevirtual 81, 3) := by decide +kernel
theorem dL_law_274 : decode cL_law 274 = .ok (.istore 6, 2) := by decide +kernel
theorem dL_law_276 : decode cL_law 276 = .ok (.goto 436, 3) := by decide +kernel
theorem dL_law_279 : decode cL_law 279 = .ok (.aload_n 1, 1) := by decide +kernel
theorem dL_law_280 : decode cL_law 280 = .ok (.aload_n 0, 1) := by decide +kernel
theorem dL_law_281 : decode cL_law 281 = .ok (.iload 4, 2) := by decide +kernel
theorem dL_law_283 : decode cL_law 283 = .ok (.iconst 1, 1) := by decide +kernel
theorem dL_law_284 : decode cL_law 284 = .ok (.iadd, 1) := by decide +kernel
theorem dL_law_285 : decode cL_law 285 = .ok (.iaload, 1) := by decide +kernel
theorem dL_law_286 : decode cL_law 286 = .ok (.aload_n 0, 1) := by decide +kernel
theorem dL_law_287 : decode cL_law 287 = .ok (.iload 4, 2) := by decide +kernel
theorem dL_law_289 : decode cL_law 289 = .ok (.iconst 2, 1) := by decide +kernel
theorem dL_law_290 : decode cL_law 290 = .ok (.iadd, 1) := by decide +kernel
theorem dL_law_291 : decode cL_law 291 = .ok (.iaload, 1) := by decide +kernel
theorem dL_law_292 : decode cL_law 292 = .ok (.aload_n 3, 1) := by decide +kernel
theorem dL_law_293 : decode cL_law 293 = .ok (.invokestatic 82, 3) := by decide +kernel
theorem dL_law_296 : decode cL_law 296 = .ok (.istore 5, 2) := by decide +kernel
theorem dL_law_298 : decode cL_law 298 = .ok (.aload_n 2, 1) := by decide +kernel
theorem dL_law_299 : decode cL_law 299 = .ok (.aload_n 0, 1) := by decide +kernel
theorem dL_law_300 : decode cL_law 300 = .ok (.iload 4, 2) := by decide +kernel
theorem dL_law_302 : decode cL_law 302 = .ok (.iconst 1, 1) := by decide +kernel
theorem dL_law_303 : decode cL_law 303 = .ok (.iadd, 1) := by decide +kernel
theorem dL_law_304 : decode cL_law 304 = .ok (.iaload, 1) := by decide +kernel
theorem dL_law_305 : decode cL_law 305 = .ok (.aload_n 0, 1) := by decide +kernel
theorem dL_law_306 : decode cL_law 306 = .ok (.iload 4, 2) := by decide +kernel
theorem dL_law_308 : decode cL_law 308 = .ok (.iconst 2, 1) := by decide +kernel
theorem dL_law_309 : decode cL_law 309 = .ok (.iadd, 1) := by decide +kernel
theorem dL_law_310 : decode cL_law 310 = .ok (.iaload, 1) := by decide +kernel
theorem dL_law_311 : decode cL_law 311 = .ok (.invokevirtual 85, 3) := by decide +kernel
theorem dL_law_314 : decode cL_law 314 = .ok (.istore 6, 2) := by decide +kernel
theorem dL_law_316 : decode cL_law 316 = .ok (.goto 396, 3) := by decide +kernel
theorem dL_law_319 : decode cL_law 319 = .ok (.aload_n 1, 1) := by decide +kernel
theorem dL_law_320 : decode cL_law 320 = .ok (.aload_n 0, 1) := by decide +kernel
theorem dL_law_321 : decode cL_law 321 = .ok (.iload 4, 2) := by decide +kernel
theorem dL_law_323 : decode cL_law 323 = .ok (.iconst 1, 1) := by decide +kernel
theorem dL_law_324 : decode cL_law 324 = .ok (.iadd, 1) := by decide +kernel
theorem dL_law_325 : decode cL_law 325 = .ok (.iaload, 1) := by decide +kernel
theorem dL_law_326 : decode cL_law 326 = .ok (.aload_n 3, 1) := by decide +kernel
theorem dL_law_327 : decode cL_law 327 = .ok (.invokestatic 86, 3) := by decide +kernel
theorem dL_law_330 : decode cL_law 330 = .ok (.istore 5, 2) := by decide +kernel
theorem dL_law_332 : decode cL_law 332 = .ok (.aload_n 2, 1) := by decide +kernel
theorem dL_law_333 : decode cL_law 333 = .ok (.aload_n 0, 1) := by decide +kernel
theorem dL_law_334 : decode cL_law 334 = .ok (.iload 4, 2) := by decide +kernel
theorem dL_law_336 : decode cL_law 336 = .ok (.iconst 1, 1) := by decide +kernel
theorem dL_law_337 : decode cL_law 337 = .ok (.iadd, 1) := by decide +kernel
theorem dL_law_338 : decode cL_law 338 = .ok (.iaload, 1) := by decide +kernel
theorem dL_law_339 : decode cL_law 339 = .ok (.invokevirtual 88, 3) := by decide +kernel
theorem dL_law_342 : decode cL_law 342 = .ok (.istore 6, 2) := by decide +kernel
theorem dL_law_344 : decode cL_law 344 = .ok (.goto 368, 3) := by decide +kernel
theorem dL_law_347 : decode cL_law 347 = .ok (.aload_n 1, 1) := by decide +kernel
theorem dL_law_348 : decode cL_law 348 = .ok (.aload_n 0, 1) := by decide +kernel
theorem dL_law_349 : decode cL_law 349 = .ok (.iload 4, 2) := by decide +kernel
theorem dL_law_351 : decode cL_law 351 = .ok (.iconst 1, 1) := by decide +kernel
theorem dL_law_352 : decode cL_law 352 = .ok (.iadd, 1) := by decide +kernel
theorem dL_law_353 : decode cL_law 353 = .ok (.iaload, 1) := by decide +kernel
theorem dL_law_354 : decode cL_law 354 = .ok (.aload_n 0, 1) := by decide +kernel
theorem dL_law_355 : decode cL_law 355 = .ok (.iload 4, 2) := by decide +kernel
theorem dL_law_357 : decode cL_law 357 = .ok (.iconst 2, 1) := by decide +kernel
theorem dL_law_358 : decode cL_law 358 = .ok (.iadd, 1) := by decide +kernel
theorem dL_law_359 : decode cL_law 359 = .ok (.iaload, 1) := by decide +kernel
theorem dL_law_360 : decode cL_law 360 = .ok (.aload_n 3, 1) := by decide +kernel
theorem dL_law_361 : decode cL_law 361 = .ok (.invokestatic 89, 3) := by decide +kernel
theorem dL_law_364 : decode cL_law 364 = .ok (.istore 5, 2) := by decide +kernel
theorem dL_law_366 : decode cL_law 366 = .ok (.aload_n 2, 1) := by decide +kernel
theorem dL_law_367 : decode cL_law 367 = .ok (.aload_n 0, 1) := by decide +kernel
theorem dL_law_368 : decode cL_law 368 = .ok (.iload 4, 2) := by decide +kernel
theorem dL_law_370 : decode cL_law 370 = .ok (.iconst 1, 1) := by decide +kernel
theorem dL_law_371 : decode cL_law 371 = .ok (.iadd, 1) := by decide +kernel
theorem dL_law_372 : decode cL_law 372 = .ok (.iaload, 1) := by decide +kernel
theorem dL_law_373 : decode cL_law 373 = .ok (.aload_n 0, 1) := by decide +kernel
theorem dL_law_374 : decode cL_law 374 = .ok (.iload 4, 2) := by decide +kernel
theorem dL_law_376 : decode cL_law 376 = .ok (.iconst 2, 1) := by decide +kernel
theorem dL_law_377 : decode cL_law 377 = .ok (.iadd, 1) := by decide +kernel
theorem dL_law_378 : decode cL_law 378 = .ok (.iaload, 1) := by decide +kernel
theorem dL_law_379 : decode cL_law 379 = .ok (.invokevirtual 91, 3) := by decide +kernel
theorem dL_law_382 : decode cL_law 382 = .ok (.istore 6, 2) := by decide +kernel
theorem dL_law_384 : decode cL_law 384 = .ok (.goto 328, 3) := by decide +kernel
theorem dL_law_387 : decode cL_law 387 = .ok (.aload_n 1, 1) := by decide +kernel
theorem dL_law_388 : decode cL_law 388 = .ok (.aload_n 0, 1) := by decide +kernel
theorem dL_law_389 : decode cL_law 389 = .ok (.iload 4, 2) := by decide +kernel
theorem dL_law_391 : decode cL_law 391 = .ok (.iconst 1, 1) := by decide +kernel
theorem dL_law_392 : decode cL_law 392 = .ok (.iadd, 1) := by decide +kernel
theorem dL_law_393 : decode cL_law 393 = .ok (.iaload, 1) := by decide +kernel
theorem dL_law_394 : decode cL_law 394 = .ok (.aload_n 0, 1) := by decide +kernel
theorem dL_law_395 : decode cL_law 395 = .ok (.iload 4, 2) := by decide +kernel
theorem dL_law_397 : decode cL_law 397 = .ok (.iconst 2, 1) := by decide +kernel
theorem dL_law_398 : decode cL_law 398 = .ok (.iadd, 1) := by decide +kernel
theorem dL_law_399 : decode cL_law 399 = .ok (.iaload, 1) := by decide +kernel
theorem dL_law_400 : decode cL_law 400 = .ok (.aload_n 3, 1) := by decide +kernel
theorem dL_law_401 : decode cL_law 401 = .ok (.invokestatic 92, 3) := by decide +kernel
theorem dL_law_404 : decode cL_law 404 = .ok (.istore 5, 2) := by decide +kernel
theorem dL_law_406 : decode cL_law 406 = .ok (.aload_n 2, 1) := by decide +kernel
theorem dL_law_407 : decode cL_law 407 = .ok (.aload_n 0, 1) := by decide +kernel
theorem dL_law_408 : decode cL_law 408 = .ok (.iload 4, 2) := by decide +kernel
theorem dL_law_410 : decode cL_law 410 = .ok (.iconst 1, 1) := by decide +kernel
theorem dL_law_411 : decode cL_law 411 = .ok (.iadd, 1) := by decide +kernel
theorem dL_law_412 : decode cL_law 412 = .ok (.iaload, 1) := by decide +kernel
theorem dL_law_413 : decode cL_law 413 = .ok (.aload_n 0, 1) := by decide +kernel
theorem dL_law_414 : decode cL_law 414 = .ok (.iload 4, 2) := by decide +kernel
theorem dL_law_416 : decode cL_law 416 = .ok (.iconst 2, 1) := by decide +kernel
theorem dL_law_417 : decode cL_law 417 = .ok (.iadd, 1) := by decide +kernel
theorem dL_law_418 : decode cL_law 418 = .ok (.iaload, 1) := by decide +kernel
theorem dL_law_419 : decode cL_law 419 = .ok (.invokevirtual 94, 3) := by decide +kernel
theorem dL_law_422 : decode cL_law 422 = .ok (.istore 6, 2) := by decide +kernel
theorem dL_law_424 : decode cL_law 424 = .ok (.goto 288, 3) := by decide +kernel
theorem dL_law_427 : decode cL_law 427 = .ok (.aload_n 1, 1) := by decide +kernel
theorem dL_law_428 : decode cL_law 428 = .ok (.aload_n 0, 1) := by decide +kernel
theorem dL_law_429 : decode cL_law 429 = .ok (.iload 4, 2) := by decide +kernel
theorem dL_law_431 : decode cL_law 431 = .ok (.iconst 1, 1) := by decide +kernel
theorem dL_law_432 : decode cL_law 432 = .ok (.iadd, 1) := by decide +kernel
theorem dL_law_433 : decode cL_law 433 = .ok (.iaload, 1) := by decide +kernel
theorem dL_law_434 : decode cL_law 434 = .ok (.aload_n 3, 1) := by decide +kernel
theorem dL_law_435 : decode cL_law 435 = .ok (.invokestatic 95, 3) := by decide +kernel
theorem dL_law_438 : decode cL_law 438 = .ok (.istore 5, 2) := by decide +kernel
theorem dL_law_440 : decode cL_law 440 = .ok (.aload_n 2, 1) := by decide +kernel
theorem dL_law_441 : decode cL_law 441 = .ok (.aload_n 0, 1) := by decide +kernel
theorem dL_law_442 : decode cL_law 442 = .ok (.iload 4, 2) := by decide +kernel
theorem dL_law_444 : decode cL_law 444 = .ok (.iconst 1, 1) := by decide +kernel
theorem dL_law_445 : decode cL_law 445 = .ok (.iadd, 1) := by decide +kernel
theorem dL_law_446 : decode cL_law 446 = .ok (.iaload, 1) := by decide +kernel
theorem dL_law_447 : decode cL_law 447 = .ok (.invokevirtual 97, 3) := by decide +kernel
theorem dL_law_450 : decode cL_law 450 = .ok (.istore 6, 2) := by decide +kernel
theorem dL_law_452 : decode cL_law 452 = .ok (.goto 260, 3) := by decide +kernel
theorem dL_law_455 : decode cL_law 455 = .ok (.aload_n 1, 1) := by decide +kernel
theorem dL_law_456 : decode cL_law 456 = .ok (.aload_n 0, 1) := by decide +kernel
theorem dL_law_457 : decode cL_law 457 = .ok (.iload 4, 2) := by decide +kernel
theorem dL_law_459 : decode cL_law 459 = .ok (.iconst 1, 1) := by decide +kernel
theorem dL_law_460 : decode cL_law 460 = .ok (.iadd, 1) := by decide +kernel
theorem dL_law_461 : decode cL_law 461 = .ok (.iaload, 1) := by decide +kernel
theorem dL_law_462 : decode cL_law 462 = .ok (.aload_n 0, 1) := by decide +kernel
theorem dL_law_463 : decode cL_law 463 = .ok (.iload 4, 2) := by decide +kernel
theorem dL_law_465 : decode cL_law 465 = .ok (.iconst 2, 1) := by decide +kernel
theorem dL_law_466 : decode cL_law 466 = .ok (.iadd, 1) := by decide +kernel
theorem dL_law_467 : decode cL_law 467 = .ok (.iaload, 1) := by decide +kernel
theorem dL_law_468 : decode cL_law 468 = .ok (.aload_n 3, 1) := by decide +kernel
theorem dL_law_469 : decode cL_law 469 = .ok (.invokestatic 98, 3) := by decide +kernel
theorem dL_law_472 : decode cL_law 472 = .ok (.istore 5, 2) := by decide +kernel
theorem dL_law_474 : decode cL_law 474 = .ok (.aload_n 2, 1) := by decide +kernel
theorem dL_law_475 : decode cL_law 475 = .ok (.aload_n 0, 1) := by decide +kernel
theorem dL_law_476 : decode cL_law 476 = .ok (.iload 4, 2) := by decide +kernel
theorem dL_law_478 : decode cL_law 478 = .ok (.iconst 1, 1) := by decide +kernel
theorem dL_law_479 : decode cL_law 479 = .ok (.iadd, 1) := by decide +kernel
theorem dL_law_480 : decode cL_law 480 = .ok (.iaload, 1) := by decide +kernel
theorem dL_law_481 : decode cL_law 481 = .ok (.aload_n 0, 1) := by decide +kernel
theorem dL_law_482 : decode cL_law 482 = .ok (.iload 4, 2) := by decide +kernel
theorem dL_law_484 : decode cL_law 484 = .ok (.iconst 2, 1) := by decide +kernel
theorem dL_law_485 : decode cL_law 485 = .ok (.iadd, 1) := by decide +kernel
theorem dL_law_486 : decode cL_law 486 = .ok (.iaload, 1) := by decide +kernel
theorem dL_law_487 : decode cL_law 487 = .ok (.invokevirtual 100, 3) := by decide +kernel
theorem dL_law_490 : decode cL_law 490 = .ok (.istore 6, 2) := by decide +kernel
theorem dL_law_492 : decode cL_law 492 = .ok (.goto 220, 3) := by decide +kernel
theorem dL_law_495 : decode cL_law 495 = .ok (.aload_n 1, 1) := by decide +kernel
theorem dL_law_496 : decode cL_law 496 = .ok (.aload_n 0, 1) := by decide +kernel
theorem dL_law_497 : decode cL_law 497 = .ok (.iload 4, 2) := by decide +kernel
theorem dL_law_499 : decode cL_law 499 = .ok (.iconst 1, 1) := by decide +kernel
theorem dL_law_500 : decode cL_law 500 = .ok (.iadd, 1) := by decide +kernel
theorem dL_law_501 : decode cL_law 501 = .ok (.iaload, 1) := by decide +kernel
theorem dL_law_502 : decode cL_law 502 = .ok (.aload_n 3, 1) := by decide +kernel
theorem dL_law_503 : decode cL_law 503 = .ok (.invokestatic 101, 3) := by decide +kernel
theorem dL_law_506 : decode cL_law 506 = .ok (.istore 5, 2) := by decide +kernel
theorem dL_law_508 : decode cL_law 508 = .ok (.aload_n 2, 1) := by decide +kernel
theorem dL_law_509 : decode cL_law 509 = .ok (.aload_n 0, 1) := by decide +kernel
theorem dL_law_510 : decode cL_law 510 = .ok (.iload 4, 2) := by decide +kernel
theorem dL_law_512 : decode cL_law 512 = .ok (.iconst 1, 1) := by decide +kernel
theorem dL_law_513 : decode cL_law 513 = .ok (.iadd, 1) := by decide +kernel
theorem dL_law_514 : decode cL_law 514 = .ok (.iaload, 1) := by decide +kernel
theorem dL_law_515 : decode cL_law 515 = .ok (.invokevirtual 103, 3) := by decide +kernel
theorem dL_law_518 : decode cL_law 518 = .ok (.istore 6, 2) := by decide +kernel
theorem dL_law_520 : decode cL_law 520 = .ok (.goto 192, 3) := by decide +kernel
theorem dL_law_523 : decode cL_law 523 = .ok (.aload_n 1, 1) := by decide +kernel
theorem dL_law_524 : decode cL_law 524 = .ok (.aload_n 0, 1) := by decide +kernel
theorem dL_law_525 : decode cL_law 525 = .ok (.iload 4, 2) := by decide +kernel
theorem dL_law_527 : decode cL_law 527 = .ok (.iconst 1, 1) := by decide +kernel
theorem dL_law_528 : decode cL_law 528 = .ok (.iadd, 1) := by decide +kernel
theorem dL_law_529 : decode cL_law 529 = .ok (.iaload, 1) := by decide +kernel
theorem dL_law_530 : decode cL_law 530 = .ok (.invokevirtual 104, 3) := by decide +kernel
theorem dL_law_533 : decode cL_law 533 = .ok (.pop, 1) := by decide +kernel
theorem dL_law_534 : decode cL_law 534 = .ok (.aload_n 2, 1) := by decide +kernel
theorem dL_law_535 : decode cL_law 535 = .ok (.aload_n 0, 1) := by decide +kernel
theorem dL_law_536 : decode cL_law 536 = .ok (.iload 4, 2) := by decide +kernel
theorem dL_law_538 : decode cL_law 538 = .ok (.iconst 1, 1) := by decide +kernel
theorem dL_law_539 : decode cL_law 539 = .ok (.iadd, 1) := by decide +kernel
theorem dL_law_540 : decode cL_law 540 = .ok (.iaload, 1) := by decide +kernel
theorem dL_law_541 : decode cL_law 541 = .ok (.invokevirtual 107, 3) := by decide +kernel
theorem dL_law_544 : decode cL_law 544 = .ok (.pop, 1) := by decide +kernel
theorem dL_law_545 : decode cL_law 545 = .ok (.goto 167, 3) := by decide +kernel
theorem dL_law_548 : decode cL_law 548 = .ok (.aload_n 1, 1) := by decide +kernel
theorem dL_law_549 : decode cL_law 549 = .ok (.aload_n 0, 1) := by decide +kernel
theorem dL_law_550 : decode cL_law 550 = .ok (.iload 4, 2) := by decide +kernel
theorem dL_law_552 : decode cL_law 552 = .ok (.iconst 1, 1) := by decide +kernel
theorem dL_law_553 : decode cL_law 553 = .ok (.iadd, 1) := by decide +kernel
theorem dL_law_554 : decode cL_law 554 = .ok (.iaload, 1) := by decide +kernel
theorem dL_law_555 : decode cL_law 555 = .ok (.aload_n 0, 1) := by decide +kernel
theorem dL_law_556 : decode cL_law 556 = .ok (.iload 4, 2) := by decide +kernel
theorem dL_law_558 : decode cL_law 558 = .ok (.iconst 2, 1) := by decide +kernel
theorem dL_law_559 : decode cL_law 559 = .ok (.iadd, 1) := by decide +kernel
theorem dL_law_560 : decode cL_law 560 = .ok (.iaload, 1) := by decide +kernel
theorem dL_law_561 : decode cL_law 561 = .ok (.aload_n 3, 1) := by decide +kernel
theorem dL_law_562 : decode cL_law 562 = .ok (.invokestatic 108, 3) := by decide +kernel
theorem dL_law_565 : decode cL_law 565 = .ok (.istore 5, 2) := by decide +kernel
theorem dL_law_567 : decode cL_law 567 = .ok (.aload_n 2, 1) := by decide +kernel
theorem dL_law_568 : decode cL_law 568 = .ok (.aload_n 0, 1) := by decide +kernel
theorem dL_law_569 : decode cL_law 569 = .ok (.iload 4, 2) := by decide +kernel
theorem dL_law_571 : decode cL_law 571 = .ok (.iconst 1, 1) := by decide +kernel
theorem dL_law_572 : decode cL_law 572 = .ok (.iadd, 1) := by decide +kernel
theorem dL_law_573 : decode cL_law 573 = .ok (.iaload, 1) := by decide +kernel
theorem dL_law_574 : decode cL_law 574 = .ok (.aload_n 0, 1) := by decide +kernel
theorem dL_law_575 : decode cL_law 575 = .ok (.iload 4, 2) := by decide +kernel
theorem dL_law_577 : decode cL_law 577 = .ok (.iconst 2, 1) := by decide +kernel
theorem dL_law_578 : decode cL_law 578 = .ok (.iadd, 1) := by decide +kernel
theorem dL_law_579 : decode cL_law 579 = .ok (.iaload, 1) := by decide +kernel
theorem dL_law_580 : decode cL_law 580 = .ok (.invokevirtual 110, 3) := by decide +kernel
theorem dL_law_583 : decode cL_law 583 = .ok (.istore 6, 2) := by decide +kernel
theorem dL_law_585 : decode cL_law 585 = .ok (.goto 127, 3) := by decide +kernel
theorem dL_law_588 : decode cL_law 588 = .ok (.aload_n 1, 1) := by decide +kernel
theorem dL_law_589 : decode cL_law 589 = .ok (.aload_n 0, 1) := by decide +kernel
theorem dL_law_590 : decode cL_law 590 = .ok (.iload 4, 2) := by decide +kernel
theorem dL_law_592 : decode cL_law 592 = .ok (.iconst 1, 1) := by decide +kernel
theorem dL_law_593 : decode cL_law 593 = .ok (.iadd, 1) := by decide +kernel
theorem dL_law_594 : decode cL_law 594 = .ok (.iaload, 1) := by decide +kernel
theorem dL_law_595 : decode cL_law 595 = .ok (.aload_n 3, 1) := by decide +kernel
theorem dL_law_596 : decode cL_law 596 = .ok (.invokestatic 111, 3) := by decide +kernel
theorem dL_law_599 : decode cL_law 599 = .ok (.istore 5, 2) := by decide +kernel
theorem dL_law_601 : decode cL_law 601 = .ok (.aload_n 2, 1) := by decide +kernel
theorem dL_law_602 : decode cL_law 602 = .ok (.aload_n 0, 1) := by decide +kernel
theorem dL_law_603 : decode cL_law 603 = .ok (.iload 4, 2) := by decide +kernel
theorem dL_law_605 : decode cL_law 605 = .ok (.iconst 1, 1) := by decide +kernel
theorem dL_law_606 : decode cL_law 606 = .ok (.iadd, 1) := by decide +kernel
theorem dL_law_607 : decode cL_law 607 = .ok (.iaload, 1) := by decide +kernel
theorem dL_law_608 : decode cL_law 608 = .ok (.invokevirtual 113, 3) := by decide +kernel
theorem dL_law_611 : decode cL_law 611 = .ok (.istore 6, 2) := by decide +kernel
theorem dL_law_613 : decode cL_law 613 = .ok (.aload_n 2, 1) := by decide +kernel
theorem dL_law_614 : decode cL_law 614 = .ok (.invokevirtual 114, 3) := by decide +kernel
theorem dL_law_617 : decode cL_law 617 = .ok (.iload 5, 2) := by decide +kernel
theorem dL_law_619 : decode cL_law 619 = .ok (.if_icmp .eq 5, 3) := by decide +kernel
theorem dL_law_622 : decode cL_law 622 = .ok (.iconst 0, 1) := by decide +kernel
theorem dL_law_623 : decode cL_law 623 = .ok (.ireturn, 1) := by decide +kernel
theorem dL_law_624 : decode cL_law 624 = .ok (.iload 5, 2) := by decide +kernel
theorem dL_law_626 : decode cL_law 626 = .ok (.ifCond .ne 15, 3) := by decide +kernel
theorem dL_law_629 : decode cL_law 629 = .ok (.aload_n 3, 1) := by decide +kernel
theorem dL_law_630 : decode cL_law 630 = .ok (.iconst 0, 1) := by decide +kernel
theorem dL_law_631 : decode cL_law 631 = .ok (.laload, 1) := by decide +kernel
theorem dL_law_632 : decode cL_law 632 = .ok (.iload 6, 2) := by decide +kernel
theorem dL_law_634 : decode cL_law 634 = .ok (.i2l, 1) := by decide +kernel
theorem dL_law_635 : decode cL_law 635 = .ok (.lcmp, 1) := by decide +kernel
theorem dL_law_636 : decode cL_law 636 = .ok (.ifCond .eq 5, 3) := by decide +kernel
theorem dL_law_639 : decode cL_law 639 = .ok (.iconst 0, 1) := by decide +kernel
theorem dL_law_640 : decode cL_law 640 = .ok (.ireturn, 1) := by decide +kernel
theorem dL_law_641 : decode cL_law 641 = .ok (.goto 71, 3) := by decide +kernel
theorem dL_law_644 : decode cL_law 644 = .ok (.aload_n 1, 1) := by decide +kernel
theorem dL_law_645 : decode cL_law 645 = .ok (.aload_n 0, 1) := by decide +kernel
theorem dL_law_646 : decode cL_law 646 = .ok (.iload 4, 2) := by decide +kernel
theorem dL_law_648 : decode cL_law 648 = .ok (.iconst 1, 1) := by decide +kernel
theorem dL_law_649 : decode cL_law 649 = .ok (.iadd, 1) := by decide +kernel
theorem dL_law_650 : decode cL_law 650 = .ok (.iaload, 1) := by decide +kernel
theorem dL_law_651 : decode cL_law 651 = .ok (.aload_n 3, 1) := by decide +kernel
theorem dL_law_652 : decode cL_law 652 = .ok (.invokestatic 117, 3) := by decide +kernel
theorem dL_law_655 : decode cL_law 655 = .ok (.istore 5, 2) := by decide +kernel
theorem dL_law_657 : decode cL_law 657 = .ok (.aload_n 2, 1) := by decide +kernel
theorem dL_law_658 : decode cL_law 658 = .ok (.aload_n 0, 1) := by decide +kernel
theorem dL_law_659 : decode cL_law 659 = .ok (.iload 4, 2) := by decide +kernel
theorem dL_law_661 : decode cL_law 661 = .ok (.iconst 1, 1) := by decide +kernel
theorem dL_law_662 : decode cL_law 662 = .ok (.iadd, 1) := by decide +kernel
theorem dL_law_663 : decode cL_law 663 = .ok (.iaload, 1) := by decide +kernel
theorem dL_law_664 : decode cL_law 664 = .ok (.invokevirtual 119, 3) := by decide +kernel
theorem dL_law_667 : decode cL_law 667 = .ok (.istore 6, 2) := by decide +kernel
theorem dL_law_669 : decode cL_law 669 = .ok (.goto 43, 3) := by decide +kernel
theorem dL_law_672 : decode cL_law 672 = .ok (.aload_n 1, 1) := by decide +kernel
theorem dL_law_673 : decode cL_law 673 = .ok (.aload_n 0, 1) := by decide +kernel
theorem dL_law_674 : decode cL_law 674 = .ok (.iload 4, 2) := by decide +kernel
theorem dL_law_676 : decode cL_law 676 = .ok (.iconst 1, 1) := by decide +kernel
theorem dL_law_677 : decode cL_law 677 = .ok (.iadd, 1) := by decide +kernel
theorem dL_law_678 : decode cL_law 678 = .ok (.iaload, 1) := by decide +kernel
theorem dL_law_679 : decode cL_law 679 = .ok (.aload_n 0, 1) := by decide +kernel
theorem dL_law_680 : decode cL_law 680 = .ok (.iload 4, 2) := by decide +kernel
theorem dL_law_682 : decode cL_law 682 = .ok (.iconst 2, 1) := by decide +kernel
theorem dL_law_683 : decode cL_law 683 = .ok (.iadd, 1) := by decide +kernel
theorem dL_law_684 : decode cL_law 684 = .ok (.iaload, 1) := by decide +kernel
theorem dL_law_685 : decode cL_law 685 = .ok (.aload_n 3, 1) := by decide +kernel
theorem dL_law_686 : decode cL_law 686 = .ok (.invokestatic 120, 3) := by decide +kernel
theorem dL_law_689 : decode cL_law 689 = .ok (.istore 5, 2) := by decide +kernel
theorem dL_law_691 : decode cL_law 691 = .ok (.aload_n 2, 1) := by decide +kernel
theorem dL_law_692 : decode cL_law 692 = .ok (.aload_n 0, 1) := by decide +kernel
theorem dL_law_693 : decode cL_law 693 = .ok (.iload 4, 2) := by decide +kernel
theorem dL_law_695 : decode cL_law 695 = .ok (.iconst 1, 1) := by decide +kernel
theorem dL_law_696 : decode cL_law 696 = .ok (.iadd, 1) := by decide +kernel
theorem dL_law_697 : decode cL_law 697 = .ok (.iaload, 1) := by decide +kernel
theorem dL_law_698 : decode cL_law 698 = .ok (.aload_n 0, 1) := by decide +kernel
theorem dL_law_699 : decode cL_law 699 = .ok (.iload 4, 2) := by decide +kernel
theorem dL_law_701 : decode cL_law 701 = .ok (.iconst 2, 1) := by decide +kernel
theorem dL_law_702 : decode cL_law 702 = .ok (.iadd, 1) := by decide +kernel
theorem dL_law_703 : decode cL_law 703 = .ok (.iaload, 1) := by decide +kernel
theorem dL_law_704 : decode cL_law 704 = .ok (.invokevirtual 122, 3) := by decide +kernel
theorem dL_law_707 : decode cL_law 707 = .ok (.istore 6, 2) := by decide +kernel
theorem dL_law_709 : decode cL_law 709 = .ok (.goto 3, 3) := by decide +kernel
theorem dL_law_712 : decode cL_law 712 = .ok (.iinc 4 6, 3) := by decide +kernel
theorem dL_law_715 : decode cL_law 715 = .ok (.goto (-692), 3) := by decide +kernel
theorem dL_law_718 : decode cL_law 718 = .ok (.iconst 1, 1) := by decide +kernel
theorem dL_law_719 : decode cL_law 719 = .ok (.ireturn, 1) := by decide +kernel
abbrev vwCl : List vw_C := [(RX0, TX0, 5), (RX1, TX1, 8), (RX2, TX2, 6), (RX3, TX3, 3), (RX4, TX4, 3), (RX5, TX5, 2), (RX6, TX6, 12), (RX7, TX7, 4), (RX8, TX8, 9), (RX9, TX9, 18), (RX10, TX10, 76)]
