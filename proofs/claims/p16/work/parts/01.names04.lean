theorem dX10_laysNet_22 : decode cX10_laysNet 22 = .ok (.aload_n 0, 1) := by decide +kernel
theorem dX10_laysNet_23 : decode cX10_laysNet 23 = .ok (.iconst 0, 1) := by decide +kernel
theorem dX10_laysNet_24 : decode cX10_laysNet 24 = .ok (.putfield 281, 3) := by decide +kernel
theorem dX10_laysNet_27 : decode cX10_laysNet 27 = .ok (.aload_n 0, 1) := by decide +kernel
theorem dX10_laysNet_28 : decode cX10_laysNet 28 = .ok (.iconst 0, 1) := by decide +kernel
theorem dX10_laysNet_29 : decode cX10_laysNet 29 = .ok (.putfield 290, 3) := by decide +kernel
theorem dX10_laysNet_32 : decode cX10_laysNet 32 = .ok (.aload_n 0, 1) := by decide +kernel
theorem dX10_laysNet_33 : decode cX10_laysNet 33 = .ok (.iconst 0, 1) := by decide +kernel
theorem dX10_laysNet_34 : decode cX10_laysNet 34 = .ok (.iconst 0, 1) := by decide +kernel
theorem dX10_laysNet_35 : decode cX10_laysNet 35 = .ok (.invokevirtual 307, 3) := by decide +kernel
theorem dX10_laysNet_38 : decode cX10_laysNet 38 = .ok (.pop, 1) := by decide +kernel
theorem dX10_laysNet_39 : decode cX10_laysNet 39 = .ok (.aload_n 0, 1) := by decide +kernel
theorem dX10_laysNet_40 : decode cX10_laysNet 40 = .ok (.iconst 0, 1) := by decide +kernel
theorem dX10_laysNet_41 : decode cX10_laysNet 41 = .ok (.putfield 297, 3) := by decide +kernel
theorem dX10_laysNet_44 : decode cX10_laysNet 44 = .ok (.aload_n 0, 1) := by decide +kernel
theorem dX10_laysNet_45 : decode cX10_laysNet 45 = .ok (.iconst 0, 1) := by decide +kernel
theorem dX10_laysNet_46 : decode cX10_laysNet 46 = .ok (.aload_n 0, 1) := by decide +kernel
theorem dX10_laysNet_47 : decode cX10_laysNet 47 = .ok (.iconst 0, 1) := by decide +kernel
theorem dX10_laysNet_48 : decode cX10_laysNet 48 = .ok (.iconst 0, 1) := by decide +kernel
theorem dX10_laysNet_49 : decode cX10_laysNet 49 = .ok (.iconst 0, 1) := by decide +kernel
theorem dX10_laysNet_50 : decode cX10_laysNet 50 = .ok (.invokevirtual 310, 3) := by decide +kernel
theorem dX10_laysNet_53 : decode cX10_laysNet 53 = .ok (.invokevirtual 313, 3) := by decide +kernel
theorem dX10_laysNet_56 : decode cX10_laysNet 56 = .ok (.return_, 1) := by decide +kernel
theorem dX10_begins_0 : decode cX10_begins 0 = .ok (.iconst 0, 1) := by decide +kernel
theorem dX10_begins_1 : decode cX10_begins 1 = .ok (.istore_n 1, 1) := by decide +kernel
theorem dX10_begins_2 : decode cX10_begins 2 = .ok (.iload_n 1, 1) := by decide +kernel
theorem dX10_begins_3 : decode cX10_begins 3 = .ok (.bipush 6, 2) := by decide +kernel
theorem dX10_begins_5 : decode cX10_begins 5 = .ok (.if_icmp .ge 16, 3) := by decide +kernel
theorem dX10_begins_8 : decode cX10_begins 8 = .ok (.aload_n 0, 1) := by decide +kernel
theorem dX10_begins_9 : decode cX10_begins 9 = .ok (.getfield 51, 3) := by decide +kernel
theorem dX10_begins_12 : decode cX10_begins 12 = .ok (.iload_n 1, 1) := by decide +kernel
theorem dX10_begins_13 : decode cX10_begins 13 = .ok (.iconst 0, 1) := by decide +kernel
theorem dX10_begins_14 : decode cX10_begins 14 = .ok (.iastore, 1) := by decide +kernel
theorem dX10_begins_15 : decode cX10_begins 15 = .ok (.iinc 1 1, 3) := by decide +kernel
theorem dX10_begins_18 : decode cX10_begins 18 = .ok (.goto (-16), 3) := by decide +kernel
theorem dX10_begins_21 : decode cX10_begins 21 = .ok (.aload_n 0, 1) := by decide +kernel
theorem dX10_begins_22 : decode cX10_begins 22 = .ok (.aload_n 0, 1) := by decide +kernel
theorem dX10_begins_23 : decode cX10_begins 23 = .ok (.getfield 281, 3) := by decide +kernel
theorem dX10_begins_26 : decode cX10_begins 26 = .ok (.putfield 316, 3) := by decide +kernel
theorem dX10_begins_29 : decode cX10_begins 29 = .ok (.return_, 1) := by decide +kernel
theorem dX10_lays_0 : decode cX10_lays 0 = .ok (.aload_n 0, 1) := by decide +kernel
theorem dX10_lays_1 : decode cX10_lays 1 = .ok (.invokevirtual 278, 3) := by decide +kernel
theorem dX10_lays_4 : decode cX10_lays 4 = .ok (.aload_n 0, 1) := by decide +kernel
theorem dX10_lays_5 : decode cX10_lays 5 = .ok (.invokevirtual 287, 3) := by decide +kernel
theorem dX10_lays_8 : decode cX10_lays 8 = .ok (.return_, 1) := by decide +kernel
theorem dX10_keepsNet_0 : decode cX10_keepsNet 0 = .ok (.aload_n 0, 1) := by decide +kernel
theorem dX10_keepsNet_1 : decode cX10_keepsNet 1 = .ok (.aload_n 0, 1) := by decide +kernel
theorem dX10_keepsNet_2 : decode cX10_keepsNet 2 = .ok (.getfield 281, 3) := by decide +kernel
theorem dX10_keepsNet_5 : decode cX10_keepsNet 5 = .ok (.putfield 319, 3) := by decide +kernel
theorem dX10_keepsNet_8 : decode cX10_keepsNet 8 = .ok (.aload_n 0, 1) := by decide +kernel
theorem dX10_keepsNet_9 : decode cX10_keepsNet 9 = .ok (.aload_n 0, 1) := by decide +kernel
theorem dX10_keepsNet_10 : decode cX10_keepsNet 10 = .ok (.getfield 290, 3) := by decide +kernel
theorem dX10_keepsNet_13 : decode cX10_keepsNet 13 = .ok (.putfield 322, 3) := by decide +kernel
theorem dX10_keepsNet_16 : decode cX10_keepsNet 16 = .ok (.iconst 0, 1) := by decide +kernel
theorem dX10_keepsNet_17 : decode cX10_keepsNet 17 = .ok (.istore_n 1, 1) := by decide +kernel
theorem dX10_keepsNet_18 : decode cX10_keepsNet 18 = .ok (.iload_n 1, 1) := by decide +kernel
theorem dX10_keepsNet_19 : decode cX10_keepsNet 19 = .ok (.aload_n 0, 1) := by decide +kernel
theorem dX10_keepsNet_20 : decode cX10_keepsNet 20 = .ok (.getfield 290, 3) := by decide +kernel
theorem dX10_keepsNet_23 : decode cX10_keepsNet 23 = .ok (.if_icmp .ge 66, 3) := by decide +kernel
theorem dX10_keepsNet_26 : decode cX10_keepsNet 26 = .ok (.aload_n 0, 1) := by decide +kernel
theorem dX10_keepsNet_27 : decode cX10_keepsNet 27 = .ok (.getfield 54, 3) := by decide +kernel
theorem dX10_keepsNet_30 : decode cX10_keepsNet 30 = .ok (.iload_n 1, 1) := by decide +kernel
theorem dX10_keepsNet_31 : decode cX10_keepsNet 31 = .ok (.aload_n 0, 1) := by decide +kernel
theorem dX10_keepsNet_32 : decode cX10_keepsNet 32 = .ok (.getfield 39, 3) := by decide +kernel
theorem dX10_keepsNet_35 : decode cX10_keepsNet 35 = .ok (.iload_n 1, 1) := by decide +kernel
theorem dX10_keepsNet_36 : decode cX10_keepsNet 36 = .ok (.iaload, 1) := by decide +kernel
theorem dX10_keepsNet_37 : decode cX10_keepsNet 37 = .ok (.iastore, 1) := by decide +kernel
theorem dX10_keepsNet_38 : decode cX10_keepsNet 38 = .ok (.aload_n 0, 1) := by decide +kernel
theorem dX10_keepsNet_39 : decode cX10_keepsNet 39 = .ok (.getfield 57, 3) := by decide +kernel
theorem dX10_keepsNet_42 : decode cX10_keepsNet 42 = .ok (.iload_n 1, 1) := by decide +kernel
theorem dX10_keepsNet_43 : decode cX10_keepsNet 43 = .ok (.aload_n 0, 1) := by decide +kernel
theorem dX10_keepsNet_44 : decode cX10_keepsNet 44 = .ok (.getfield 42, 3) := by decide +kernel
theorem dX10_keepsNet_47 : decode cX10_keepsNet 47 = .ok (.iload_n 1, 1) := by decide +kernel
theorem dX10_keepsNet_48 : decode cX10_keepsNet 48 = .ok (.iaload, 1) := by decide +kernel
theorem dX10_keepsNet_49 : decode cX10_keepsNet 49 = .ok (.iastore, 1) := by decide +kernel
theorem dX10_keepsNet_50 : decode cX10_keepsNet 50 = .ok (.iconst 0, 1) := by decide +kernel
theorem dX10_keepsNet_51 : decode cX10_keepsNet 51 = .ok (.istore_n 2, 1) := by decide +kernel
theorem dX10_keepsNet_52 : decode cX10_keepsNet 52 = .ok (.iload_n 2, 1) := by decide +kernel
theorem dX10_keepsNet_53 : decode cX10_keepsNet 53 = .ok (.iconst 4, 1) := by decide +kernel
theorem dX10_keepsNet_54 : decode cX10_keepsNet 54 = .ok (.if_icmp .ge 29, 3) := by decide +kernel
theorem dX10_keepsNet_57 : decode cX10_keepsNet 57 = .ok (.aload_n 0, 1) := by decide +kernel
theorem dX10_keepsNet_58 : decode cX10_keepsNet 58 = .ok (.getfield 60, 3) := by decide +kernel
theorem dX10_keepsNet_61 : decode cX10_keepsNet 61 = .ok (.iconst 4, 1) := by decide +kernel
theorem dX10_keepsNet_62 : decode cX10_keepsNet 62 = .ok (.iload_n 1, 1) := by decide +kernel
theorem dX10_keepsNet_63 : decode cX10_keepsNet 63 = .ok (.imul, 1) := by decide +kernel
theorem dX10_keepsNet_64 : decode cX10_keepsNet 64 = .ok (.iload_n 2, 1) := by decide +kernel
theorem dX10_keepsNet_65 : decode cX10_keepsNet 65 = .ok (.iadd, 1) := by decide +kernel
theorem dX10_keepsNet_66 : decode cX10_keepsNet 66 = .ok (.aload_n 0, 1) := by decide +kernel
theorem dX10_keepsNet_67 : decode cX10_keepsNet 67 = .ok (.getfield 45, 3) := by decide +kernel
theorem dX10_keepsNet_70 : decode cX10_keepsNet 70 = .ok (.iconst 4, 1) := by decide +kernel
theorem dX10_keepsNet_71 : decode cX10_keepsNet 71 = .ok (.iload_n 1, 1) := by decide +kernel
theorem dX10_keepsNet_72 : decode cX10_keepsNet 72 = .ok (.imul, 1) := by decide +kernel
theorem dX10_keepsNet_73 : decode cX10_keepsNet 73 = .ok (.iload_n 2, 1) := by decide +kernel
theorem dX10_keepsNet_74 : decode cX10_keepsNet 74 = .ok (.iadd, 1) := by decide +kernel
theorem dX10_keepsNet_75 : decode cX10_keepsNet 75 = .ok (.iaload, 1) := by decide +kernel
theorem dX10_keepsNet_76 : decode cX10_keepsNet 76 = .ok (.iastore, 1) := by decide +kernel
theorem dX10_keepsNet_77 : decode cX10_keepsNet 77 = .ok (.iinc 2 1, 3) := by decide +kernel
theorem dX10_keepsNet_80 : decode cX10_keepsNet 80 = .ok (.goto (-28), 3) := by decide +kernel
theorem dX10_keepsNet_83 : decode cX10_keepsNet 83 = .ok (.iinc 1 1, 3) := by decide +kernel
theorem dX10_keepsNet_86 : decode cX10_keepsNet 86 = .ok (.goto (-68), 3) := by decide +kernel
theorem dX10_keepsNet_89 : decode cX10_keepsNet 89 = .ok (.return_, 1) := by decide +kernel
theorem dX10_comesNet_0 : decode cX10_comesNet 0 = .ok (.iconst 0, 1) := by decide +kernel
theorem dX10_comesNet_1 : decode cX10_comesNet 1 = .ok (.istore_n 1, 1) := by decide +kernel
theorem dX10_comesNet_2 : decode cX10_comesNet 2 = .ok (.iload_n 1, 1) := by decide +kernel
theorem dX10_comesNet_3 : decode cX10_comesNet 3 = .ok (.sipush 8000, 3) := by decide +kernel
theorem dX10_comesNet_6 : decode cX10_comesNet 6 = .ok (.if_icmp .ge 16, 3) := by decide +kernel
theorem dX10_comesNet_9 : decode cX10_comesNet 9 = .ok (.aload_n 0, 1) := by decide +kernel
theorem dX10_comesNet_10 : decode cX10_comesNet 10 = .ok (.getfield 39, 3) := by decide +kernel
theorem dX10_comesNet_13 : decode cX10_comesNet 13 = .ok (.iload_n 1, 1) := by decide +kernel
theorem dX10_comesNet_14 : decode cX10_comesNet 14 = .ok (.iconst (-1), 1) := by decide +kernel
theorem dX10_comesNet_15 : decode cX10_comesNet 15 = .ok (.iastore, 1) := by decide +kernel
theorem dX10_comesNet_16 : decode cX10_comesNet 16 = .ok (.iinc 1 1, 3) := by decide +kernel
theorem dX10_comesNet_19 : decode cX10_comesNet 19 = .ok (.goto (-17), 3) := by decide +kernel
theorem dX10_comesNet_22 : decode cX10_comesNet 22 = .ok (.aload_n 0, 1) := by decide +kernel
theorem dX10_comesNet_23 : decode cX10_comesNet 23 = .ok (.aload_n 0, 1) := by decide +kernel
theorem dX10_comesNet_24 : decode cX10_comesNet 24 = .ok (.getfield 319, 3) := by decide +kernel
theorem dX10_comesNet_27 : decode cX10_comesNet 27 = .ok (.putfield 281, 3) := by decide +kernel
theorem dX10_comesNet_30 : decode cX10_comesNet 30 = .ok (.aload_n 0, 1) := by decide +kernel
theorem dX10_comesNet_31 : decode cX10_comesNet 31 = .ok (.aload_n 0, 1) := by decide +kernel
theorem dX10_comesNet_32 : decode cX10_comesNet 32 = .ok (.getfield 322, 3) := by decide +kernel
theorem dX10_comesNet_35 : decode cX10_comesNet 35 = .ok (.putfield 290, 3) := by decide +kernel
theorem dX10_comesNet_38 : decode cX10_comesNet 38 = .ok (.iconst 0, 1) := by decide +kernel
theorem dX10_comesNet_39 : decode cX10_comesNet 39 = .ok (.istore_n 1, 1) := by decide +kernel
theorem dX10_comesNet_40 : decode cX10_comesNet 40 = .ok (.iload_n 1, 1) := by decide +kernel
theorem dX10_comesNet_41 : decode cX10_comesNet 41 = .ok (.aload_n 0, 1) := by decide +kernel
theorem dX10_comesNet_42 : decode cX10_comesNet 42 = .ok (.getfield 290, 3) := by decide +kernel
theorem dX10_comesNet_45 : decode cX10_comesNet 45 = .ok (.if_icmp .ge 66, 3) := by decide +kernel
theorem dX10_comesNet_48 : decode cX10_comesNet 48 = .ok (.aload_n 0, 1) := by decide +kernel
theorem dX10_comesNet_49 : decode cX10_comesNet 49 = .ok (.getfield 39, 3) := by decide +kernel
theorem dX10_comesNet_52 : decode cX10_comesNet 52 = .ok (.iload_n 1, 1) := by decide +kernel
theorem dX10_comesNet_53 : decode cX10_comesNet 53 = .ok (.aload_n 0, 1) := by decide +kernel
theorem dX10_comesNet_54 : decode cX10_comesNet 54 = .ok (.getfield 54, 3) := by decide +kernel
theorem dX10_comesNet_57 : decode cX10_comesNet 57 = .ok (.iload_n 1, 1) := by decide +kernel
theorem dX10_comesNet_58 : decode cX10_comesNet 58 = .ok (.iaload, 1) := by decide +kernel
theorem dX10_comesNet_59 : decode cX10_comesNet 59 = .ok (.iastore, 1) := by decide +kernel
theorem dX10_comesNet_60 : decode cX10_comesNet 60 = .ok (.aload_n 0, 1) := by decide +kernel
theorem dX10_comesNet_61 : decode cX10_comesNet 61 = .ok (.getfield 42, 3) := by decide +kernel
theorem dX10_comesNet_64 : decode cX10_comesNet 64 = .ok (.iload_n 1, 1) := by decide +kernel
theorem dX10_comesNet_65 : decode cX10_comesNet 65 = .ok (.aload_n 0, 1) := by decide +kernel
theorem dX10_comesNet_66 : decode cX10_comesNet 66 = .ok (.getfield 57, 3) := by decide +kernel
theorem dX10_comesNet_69 : decode cX10_comesNet 69 = .ok (.iload_n 1, 1) := by decide +kernel
theorem dX10_comesNet_70 : decode cX10_comesNet 70 = .ok (.iaload, 1) := by decide +kernel
theorem dX10_comesNet_71 : decode cX10_comesNet 71 = .ok (.iastore, 1) := by decide +kernel
theorem dX10_comesNet_72 : decode cX10_comesNet 72 = .ok (.iconst 0, 1) := by decide +kernel
theorem dX10_comesNet_73 : decode cX10_comesNet 73 = .ok (.istore_n 2, 1) := by decide +kernel
theorem dX10_comesNet_74 : decode cX10_comesNet 74 = .ok (.iload_n 2, 1) := by decide +kernel
theorem dX10_comesNet_75 : decode cX10_comesNet 75 = .ok (.iconst 4, 1) := by decide +kernel
theorem dX10_comesNet_76 : decode cX10_comesNet 76 = .ok (.if_icmp .ge 29, 3) := by decide +kernel
theorem dX10_comesNet_79 : decode cX10_comesNet 79 = .ok (.aload_n 0, 1) := by decide +kernel
theorem dX10_comesNet_80 : decode cX10_comesNet 80 = .ok (.getfield 45, 3) := by decide +kernel
theorem dX10_comesNet_83 : decode cX10_comesNet 83 = .ok (.iconst 4, 1) := by decide +kernel
theorem dX10_comesNet_84 : decode cX10_comesNet 84 = .ok (.iload_n 1, 1) := by decide +kernel
theorem dX10_comesNet_85 : decode cX10_comesNet 85 = .ok (.imul, 1) := by decide +kernel
theorem dX10_comesNet_86 : decode cX10_comesNet 86 = .ok (.iload_n 2, 1) := by decide +kernel
theorem dX10_comesNet_87 : decode cX10_comesNet 87 = .ok (.iadd, 1) := by decide +kernel
theorem dX10_comesNet_88 : decode cX10_comesNet 88 = .ok (.aload_n 0, 1) := by decide +kernel
theorem dX10_comesNet_89 : decode cX10_comesNet 89 = .ok (.getfield 60, 3) := by decide +kernel
theorem dX10_comesNet_92 : decode cX10_comesNet 92 = .ok (.iconst 4, 1) := by decide +kernel
theorem dX10_comesNet_93 : decode cX10_comesNet 93 = .ok (.iload_n 1, 1) := by decide +kernel
theorem dX10_comesNet_94 : decode cX10_comesNet 94 = .ok (.imul, 1) := by decide +kernel
theorem dX10_comesNet_95 : decode cX10_comesNet 95 = .ok (.iload_n 2, 1) := by decide +kernel
theorem dX10_comesNet_96 : decode cX10_comesNet 96 = .ok (.iadd, 1) := by decide +kernel
theorem dX10_comesNet_97 : decode cX10_comesNet 97 = .ok (.iaload, 1) := by decide +kernel
theorem dX10_comesNet_98 : decode cX10_comesNet 98 = .ok (.iastore, 1) := by decide +kernel
theorem dX10_comesNet_99 : decode cX10_comesNet 99 = .ok (.iinc 2 1, 3) := by decide +kernel
theorem dX10_comesNet_102 : decode cX10_comesNet 102 = .ok (.goto (-28), 3) := by decide +kernel
theorem dX10_comesNet_105 : decode cX10_comesNet 105 = .ok (.iinc 1 1, 3) := by decide +kernel
theorem dX10_comesNet_108 : decode cX10_comesNet 108 = .ok (.goto (-68), 3) := by decide +kernel
theorem dX10_comesNet_111 : decode cX10_comesNet 111 = .ok (.return_, 1) := by decide +kernel
theorem dX10_keepsOld_0 : decode cX10_keepsOld 0 = .ok (.aload_n 0, 1) := by decide +kernel
theorem dX10_keepsOld_1 : decode cX10_keepsOld 1 = .ok (.invokevirtual 325, 3) := by decide +kernel
theorem dX10_keepsOld_4 : decode cX10_keepsOld 4 = .ok (.aload_n 0, 1) := by decide +kernel
theorem dX10_keepsOld_5 : decode cX10_keepsOld 5 = .ok (.aload_n 0, 1) := by decide +kernel
theorem dX10_keepsOld_6 : decode cX10_keepsOld 6 = .ok (.getfield 13, 3) := by decide +kernel
theorem dX10_keepsOld_9 : decode cX10_keepsOld 9 = .ok (.iconst 2, 1) := by decide +kernel
theorem dX10_keepsOld_10 : decode cX10_keepsOld 10 = .ok (.iaload, 1) := by decide +kernel
theorem dX10_keepsOld_11 : decode cX10_keepsOld 11 = .ok (.putfield 328, 3) := by decide +kernel
theorem dX10_keepsOld_14 : decode cX10_keepsOld 14 = .ok (.iconst 0, 1) := by decide +kernel
theorem dX10_keepsOld_15 : decode cX10_keepsOld 15 = .ok (.istore_n 1, 1) := by decide +kernel
theorem dX10_keepsOld_16 : decode cX10_keepsOld 16 = .ok (.iload_n 1, 1) := by decide +kernel
theorem dX10_keepsOld_17 : decode cX10_keepsOld 17 = .ok (.aload_n 0, 1) := by decide +kernel
theorem dX10_keepsOld_18 : decode cX10_keepsOld 18 = .ok (.getfield 328, 3) := by decide +kernel
theorem dX10_keepsOld_21 : decode cX10_keepsOld 21 = .ok (.if_icmp .ge 25, 3) := by decide +kernel
theorem dX10_keepsOld_24 : decode cX10_keepsOld 24 = .ok (.aload_n 0, 1) := by decide +kernel
theorem dX10_keepsOld_25 : decode cX10_keepsOld 25 = .ok (.getfield 63, 3) := by decide +kernel
theorem dX10_keepsOld_28 : decode cX10_keepsOld 28 = .ok (.iload_n 1, 1) := by decide +kernel
theorem dX10_keepsOld_29 : decode cX10_keepsOld 29 = .ok (.aload_n 0, 1) := by decide +kernel
theorem dX10_keepsOld_30 : decode cX10_keepsOld 30 = .ok (.getfield 7, 3) := by decide +kernel
theorem dX10_keepsOld_33 : decode cX10_keepsOld 33 = .ok (.sipush 2600, 3) := by decide +kernel
theorem dX10_keepsOld_36 : decode cX10_keepsOld 36 = .ok (.iload_n 1, 1) := by decide +kernel
theorem dX10_keepsOld_37 : decode cX10_keepsOld 37 = .ok (.iadd, 1) := by decide +kernel
theorem dX10_keepsOld_38 : decode cX10_keepsOld 38 = .ok (.iaload, 1) := by decide +kernel
theorem dX10_keepsOld_39 : decode cX10_keepsOld 39 = .ok (.iastore, 1) := by decide +kernel
theorem dX10_keepsOld_40 : decode cX10_keepsOld 40 = .ok (.iinc 1 1, 3) := by decide +kernel
theorem dX10_keepsOld_43 : decode cX10_keepsOld 43 = .ok (.goto (-27), 3) := by decide +kernel
theorem dX10_keepsOld_46 : decode cX10_keepsOld 46 = .ok (.return_, 1) := by decide +kernel
theorem dX10_comesOld_0 : decode cX10_comesOld 0 = .ok (.aload_n 0, 1) := by decide +kernel
theorem dX10_comesOld_1 : decode cX10_comesOld 1 = .ok (.invokevirtual 331, 3) := by decide +kernel
theorem dX10_comesOld_4 : decode cX10_comesOld 4 = .ok (.aload_n 0, 1) := by decide +kernel
theorem dX10_comesOld_5 : decode cX10_comesOld 5 = .ok (.getfield 13, 3) := by decide +kernel
theorem dX10_comesOld_8 : decode cX10_comesOld 8 = .ok (.iconst 2, 1) := by decide +kernel
theorem dX10_comesOld_9 : decode cX10_comesOld 9 = .ok (.aload_n 0, 1) := by decide +kernel
theorem dX10_comesOld_10 : decode cX10_comesOld 10 = .ok (.getfield 328, 3) := by decide +kernel
theorem dX10_comesOld_13 : decode cX10_comesOld 13 = .ok (.iastore, 1) := by decide +kernel
theorem dX10_comesOld_14 : decode cX10_comesOld 14 = .ok (.iconst 0, 1) := by decide +kernel
theorem dX10_comesOld_15 : decode cX10_comesOld 15 = .ok (.istore_n 1, 1) := by decide +kernel
theorem dX10_comesOld_16 : decode cX10_comesOld 16 = .ok (.iload_n 1, 1) := by decide +kernel
theorem dX10_comesOld_17 : decode cX10_comesOld 17 = .ok (.aload_n 0, 1) := by decide +kernel
theorem dX10_comesOld_18 : decode cX10_comesOld 18 = .ok (.getfield 328, 3) := by decide +kernel
theorem dX10_comesOld_21 : decode cX10_comesOld 21 = .ok (.if_icmp .ge 25, 3) := by decide +kernel
theorem dX10_comesOld_24 : decode cX10_comesOld 24 = .ok (.aload_n 0, 1) := by decide +kernel
theorem dX10_comesOld_25 : decode cX10_comesOld 25 = .ok (.getfield 7, 3) := by decide +kernel
theorem dX10_comesOld_28 : decode cX10_comesOld 28 = .ok (.sipush 2600, 3) := by decide +kernel
theorem dX10_comesOld_31 : decode cX10_comesOld 31 = .ok (.iload_n 1, 1) := by decide +kernel
theorem dX10_comesOld_32 : decode cX10_comesOld 32 = .ok (.iadd, 1) := by decide +kernel
theorem dX10_comesOld_33 : decode cX10_comesOld 33 = .ok (.aload_n 0, 1) := by decide +kernel
theorem dX10_comesOld_34 : decode cX10_comesOld 34 = .ok (.getfield 63, 3) := by decide +kernel
theorem dX10_comesOld_37 : decode cX10_comesOld 37 = .ok (.iload_n 1, 1) := by decide +kernel
theorem dX10_comesOld_38 : decode cX10_comesOld 38 = .ok (.iaload, 1) := by decide +kernel
theorem dX10_comesOld_39 : decode cX10_comesOld 39 = .ok (.iastore, 1) := by decide +kernel
theorem dX10_comesOld_40 : decode cX10_comesOld 40 = .ok (.iinc 1 1, 3) := by decide +kernel
theorem dX10_comesOld_43 : decode cX10_comesOld 43 = .ok (.goto (-27), 3) := by decide +kernel
theorem dX10_comesOld_46 : decode cX10_comesOld 46 = .ok (.return_, 1) := by decide +kernel
theorem dX10_again_0 : decode cX10_again 0 = .ok (.aload_n 0, 1) := by decide +kernel
theorem dX10_again_1 : decode cX10_again 1 = .ok (.iconst 0, 1) := by decide +kernel
theorem dX10_again_2 : decode cX10_again 2 = .ok (.putfield 141, 3) := by decide +kernel
theorem dX10_again_5 : decode cX10_again 5 = .ok (.aload_n 0, 1) := by decide +kernel
theorem dX10_again_6 : decode cX10_again 6 = .ok (.getfield 281, 3) := by decide +kernel
theorem dX10_again_9 : decode cX10_again 9 = .ok (.istore_n 1, 1) := by decide +kernel
theorem dX10_again_10 : decode cX10_again 10 = .ok (.aload_n 0, 1) := by decide +kernel
theorem dX10_again_11 : decode cX10_again 11 = .ok (.invokevirtual 138, 3) := by decide +kernel
theorem dX10_again_14 : decode cX10_again 14 = .ok (.iload_n 1, 1) := by decide +kernel
theorem dX10_again_15 : decode cX10_again 15 = .ok (.ireturn, 1) := by decide +kernel
theorem dX10_isActive_0 : decode cX10_isActive 0 = .ok (.aload_n 0, 1) := by decide +kernel
theorem dX10_isActive_1 : decode cX10_isActive 1 = .ok (.iload_n 1, 1) := by decide +kernel
theorem dX10_isActive_2 : decode cX10_isActive 2 = .ok (.invokevirtual 334, 3) := by decide +kernel
theorem dX10_isActive_5 : decode cX10_isActive 5 = .ok (.ifCond .eq 47, 3) := by decide +kernel
theorem dX10_isActive_8 : decode cX10_isActive 8 = .ok (.aload_n 0, 1) := by decide +kernel
theorem dX10_isActive_9 : decode cX10_isActive 9 = .ok (.getfield 39, 3) := by decide +kernel
theorem dX10_isActive_12 : decode cX10_isActive 12 = .ok (.iload_n 1, 1) := by decide +kernel
theorem dX10_isActive_13 : decode cX10_isActive 13 = .ok (.iaload, 1) := by decide +kernel
theorem dX10_isActive_14 : decode cX10_isActive 14 = .ok (.ifCond .eq 38, 3) := by decide +kernel
theorem dX10_isActive_17 : decode cX10_isActive 17 = .ok (.aload_n 0, 1) := by decide +kernel
theorem dX10_isActive_18 : decode cX10_isActive 18 = .ok (.getfield 45, 3) := by decide +kernel
theorem dX10_isActive_21 : decode cX10_isActive 21 = .ok (.iconst 4, 1) := by decide +kernel
theorem dX10_isActive_22 : decode cX10_isActive 22 = .ok (.iload_n 1, 1) := by decide +kernel
theorem dX10_isActive_23 : decode cX10_isActive 23 = .ok (.imul, 1) := by decide +kernel
theorem dX10_isActive_24 : decode cX10_isActive 24 = .ok (.iaload, 1) := by decide +kernel
theorem dX10_isActive_25 : decode cX10_isActive 25 = .ok (.iconst 4, 1) := by decide +kernel
theorem dX10_isActive_26 : decode cX10_isActive 26 = .ok (.irem, 1) := by decide +kernel
theorem dX10_isActive_27 : decode cX10_isActive 27 = .ok (.ifCond .ne 25, 3) := by decide +kernel
theorem dX10_isActive_30 : decode cX10_isActive 30 = .ok (.aload_n 0, 1) := by decide +kernel
theorem dX10_isActive_31 : decode cX10_isActive 31 = .ok (.getfield 39, 3) := by decide +kernel
theorem dX10_isActive_34 : decode cX10_isActive 34 = .ok (.aload_n 0, 1) := by decide +kernel
theorem dX10_isActive_35 : decode cX10_isActive 35 = .ok (.getfield 45, 3) := by decide +kernel
theorem dX10_isActive_38 : decode cX10_isActive 38 = .ok (.iconst 4, 1) := by decide +kernel
theorem dX10_isActive_39 : decode cX10_isActive 39 = .ok (.iload_n 1, 1) := by decide +kernel
theorem dX10_isActive_40 : decode cX10_isActive 40 = .ok (.imul, 1) := by decide +kernel
theorem dX10_isActive_41 : decode cX10_isActive 41 = .ok (.iaload, 1) := by decide +kernel
theorem dX10_isActive_42 : decode cX10_isActive 42 = .ok (.iconst 4, 1) := by decide +kernel
theorem dX10_isActive_43 : decode cX10_isActive 43 = .ok (.idiv, 1) := by decide +kernel
theorem dX10_isActive_44 : decode cX10_isActive 44 = .ok (.iaload, 1) := by decide +kernel
theorem dX10_isActive_45 : decode cX10_isActive 45 = .ok (.ifCond .eq 7, 3) := by decide +kernel
theorem dX10_isActive_48 : decode cX10_isActive 48 = .ok (.iconst 1, 1) := by decide +kernel
theorem dX10_isActive_49 : decode cX10_isActive 49 = .ok (.goto 4, 3) := by decide +kernel
theorem dX10_isActive_52 : decode cX10_isActive 52 = .ok (.iconst 0, 1) := by decide +kernel
theorem dX10_isActive_53 : decode cX10_isActive 53 = .ok (.ireturn, 1) := by decide +kernel
theorem dX10_isLesser_0 : decode cX10_isLesser 0 = .ok (.aload_n 0, 1) := by decide +kernel
theorem dX10_isLesser_1 : decode cX10_isLesser 1 = .ok (.iload_n 1, 1) := by decide +kernel
theorem dX10_isLesser_2 : decode cX10_isLesser 2 = .ok (.invokevirtual 337, 3) := by decide +kernel
theorem dX10_isLesser_5 : decode cX10_isLesser 5 = .ok (.ifCond .eq 21, 3) := by decide +kernel
theorem dX10_isLesser_8 : decode cX10_isLesser 8 = .ok (.iload_n 1, 1) := by decide +kernel
theorem dX10_isLesser_9 : decode cX10_isLesser 9 = .ok (.aload_n 0, 1) := by decide +kernel
theorem dX10_isLesser_10 : decode cX10_isLesser 10 = .ok (.getfield 45, 3) := by decide +kernel
theorem dX10_isLesser_13 : decode cX10_isLesser 13 = .ok (.iconst 4, 1) := by decide +kernel
theorem dX10_isLesser_14 : decode cX10_isLesser 14 = .ok (.iload_n 1, 1) := by decide +kernel
theorem dX10_isLesser_15 : decode cX10_isLesser 15 = .ok (.imul, 1) := by decide +kernel
theorem dX10_isLesser_16 : decode cX10_isLesser 16 = .ok (.iaload, 1) := by decide +kernel
theorem dX10_isLesser_17 : decode cX10_isLesser 17 = .ok (.iconst 4, 1) := by decide +kernel
theorem dX10_isLesser_18 : decode cX10_isLesser 18 = .ok (.idiv, 1) := by decide +kernel
theorem dX10_isLesser_19 : decode cX10_isLesser 19 = .ok (.if_icmp .ge 7, 3) := by decide +kernel
theorem dX10_isLesser_22 : decode cX10_isLesser 22 = .ok (.iconst 1, 1) := by decide +kernel
theorem dX10_isLesser_23 : decode cX10_isLesser 23 = .ok (.goto 4, 3) := by decide +kernel
theorem dX10_isLesser_26 : decode cX10_isLesser 26 = .ok (.iconst 0, 1) := by decide +kernel
theorem dX10_isLesser_27 : decode cX10_isLesser 27 = .ok (.ireturn, 1) := by decide +kernel
theorem dX10_activeMany_0 : decode cX10_activeMany 0 = .ok (.iconst 0, 1) := by decide +kernel
theorem dX10_activeMany_1 : decode cX10_activeMany 1 = .ok (.istore_n 1, 1) := by decide +kernel
theorem dX10_activeMany_2 : decode cX10_activeMany 2 = .ok (.iconst 0, 1) := by decide +kernel
theorem dX10_activeMany_3 : decode cX10_activeMany 3 = .ok (.istore_n 2, 1) := by decide +kernel
theorem dX10_activeMany_4 : decode cX10_activeMany 4 = .ok (.iload_n 2, 1) := by decide +kernel
theorem dX10_activeMany_5 : decode cX10_activeMany 5 = .ok (.aload_n 0, 1) := by decide +kernel
theorem dX10_activeMany_6 : decode cX10_activeMany 6 = .ok (.getfield 290, 3) := by decide +kernel
theorem dX10_activeMany_9 : decode cX10_activeMany 9 = .ok (.if_icmp .ge 25, 3) := by decide +kernel
theorem dX10_activeMany_12 : decode cX10_activeMany 12 = .ok (.iload_n 1, 1) := by decide +kernel
theorem dX10_activeMany_13 : decode cX10_activeMany 13 = .ok (.aload_n 0, 1) := by decide +kernel
theorem dX10_activeMany_14 : decode cX10_activeMany 14 = .ok (.iload_n 2, 1) := by decide +kernel
theorem dX10_activeMany_15 : decode cX10_activeMany 15 = .ok (.invokevirtual 340, 3) := by decide +kernel
theorem dX10_activeMany_18 : decode cX10_activeMany 18 = .ok (.ifCond .eq 7, 3) := by decide +kernel
theorem dX10_activeMany_21 : decode cX10_activeMany 21 = .ok (.iconst 1, 1) := by decide +kernel
theorem dX10_activeMany_22 : decode cX10_activeMany 22 = .ok (.goto 4, 3) := by decide +kernel
theorem dX10_activeMany_25 : decode cX10_activeMany 25 = .ok (.iconst 0, 1) := by decide +kernel
theorem dX10_activeMany_26 : decode cX10_activeMany 26 = .ok (.iadd, 1) := by decide +kernel
theorem dX10_activeMany_27 : decode cX10_activeMany 27 = .ok (.istore_n 1, 1) := by decide +kernel
theorem dX10_activeMany_28 : decode cX10_activeMany 28 = .ok (.iinc 2 1, 3) := by decide +kernel
theorem dX10_activeMany_31 : decode cX10_activeMany 31 = .ok (.goto (-27), 3) := by decide +kernel
theorem dX10_activeMany_34 : decode cX10_activeMany 34 = .ok (.iload_n 1, 1) := by decide +kernel
theorem dX10_activeMany_35 : decode cX10_activeMany 35 = .ok (.ireturn, 1) := by decide +kernel
theorem dX10_chosen_0 : decode cX10_chosen 0 = .ok (.iload_n 1, 1) := by decide +kernel
theorem dX10_chosen_1 : decode cX10_chosen 1 = .ok (.ifCond .ne 12, 3) := by decide +kernel
theorem dX10_chosen_4 : decode cX10_chosen 4 = .ok (.aload_n 0, 1) := by decide +kernel
theorem dX10_chosen_5 : decode cX10_chosen 5 = .ok (.invokevirtual 343, 3) := by decide +kernel
theorem dX10_chosen_8 : decode cX10_chosen 8 = .ok (.aload_n 0, 1) := by decide +kernel
theorem dX10_chosen_9 : decode cX10_chosen 9 = .ok (.getfield 346, 3) := by decide +kernel
theorem dX10_chosen_12 : decode cX10_chosen 12 = .ok (.ireturn, 1) := by decide +kernel
theorem dX10_chosen_13 : decode cX10_chosen 13 = .ok (.iconst (-1), 1) := by decide +kernel
theorem dX10_chosen_14 : decode cX10_chosen 14 = .ok (.istore_n 2, 1) := by decide +kernel
theorem dX10_chosen_15 : decode cX10_chosen 15 = .ok (.iconst 0, 1) := by decide +kernel
theorem dX10_chosen_16 : decode cX10_chosen 16 = .ok (.istore_n 3, 1) := by decide +kernel
theorem dX10_chosen_17 : decode cX10_chosen 17 = .ok (.iload_n 3, 1) := by decide +kernel
theorem dX10_chosen_18 : decode cX10_chosen 18 = .ok (.aload_n 0, 1) := by decide +kernel
theorem dX10_chosen_19 : decode cX10_chosen 19 = .ok (.getfield 290, 3) := by decide +kernel
theorem dX10_chosen_22 : decode cX10_chosen 22 = .ok (.if_icmp .ge 29, 3) := by decide +kernel
theorem dX10_chosen_25 : decode cX10_chosen 25 = .ok (.aload_n 0, 1) := by decide +kernel
theorem dX10_chosen_26 : decode cX10_chosen 26 = .ok (.iload_n 3, 1) := by decide +kernel
theorem dX10_chosen_27 : decode cX10_chosen 27 = .ok (.invokevirtual 340, 3) := by decide +kernel
theorem dX10_chosen_30 : decode cX10_chosen 30 = .ok (.ifCond .eq 15, 3) := by decide +kernel
theorem dX10_chosen_33 : decode cX10_chosen 33 = .ok (.iload_n 2, 1) := by decide +kernel
theorem dX10_chosen_34 : decode cX10_chosen 34 = .ok (.iconst (-1), 1) := by decide +kernel
theorem dX10_chosen_35 : decode cX10_chosen 35 = .ok (.if_icmp .eq 8, 3) := by decide +kernel
theorem dX10_chosen_38 : decode cX10_chosen 38 = .ok (.iload_n 1, 1) := by decide +kernel
theorem dX10_chosen_39 : decode cX10_chosen 39 = .ok (.iconst 2, 1) := by decide +kernel
theorem dX10_chosen_40 : decode cX10_chosen 40 = .ok (.if_icmp .ne 5, 3) := by decide +kernel
theorem dX10_chosen_43 : decode cX10_chosen 43 = .ok (.iload_n 3, 1) := by decide +kernel
theorem dX10_chosen_44 : decode cX10_chosen 44 = .ok (.istore_n 2, 1) := by decide +kernel
theorem dX10_chosen_45 : decode cX10_chosen 45 = .ok (.iinc 3 1, 3) := by decide +kernel
theorem dX10_chosen_48 : decode cX10_chosen 48 = .ok (.goto (-31), 3) := by decide +kernel
theorem dX10_chosen_51 : decode cX10_chosen 51 = .ok (.iload_n 2, 1) := by decide +kernel
theorem dX10_chosen_52 : decode cX10_chosen 52 = .ok (.ireturn, 1) := by decide +kernel
theorem dX10_isThrough_0 : decode cX10_isThrough 0 = .ok (.iload_n 0, 1) := by decide +kernel
theorem dX10_isThrough_1 : decode cX10_isThrough 1 = .ok (.iconst 3, 1) := by decide +kernel
theorem dX10_isThrough_2 : decode cX10_isThrough 2 = .ok (.if_icmp .eq 13, 3) := by decide +kernel
theorem dX10_isThrough_5 : decode cX10_isThrough 5 = .ok (.iload_n 0, 1) := by decide +kernel
theorem dX10_isThrough_6 : decode cX10_isThrough 6 = .ok (.iconst 4, 1) := by decide +kernel
theorem dX10_isThrough_7 : decode cX10_isThrough 7 = .ok (.if_icmp .eq 8, 3) := by decide +kernel
theorem dX10_isThrough_10 : decode cX10_isThrough 10 = .ok (.iload_n 0, 1) := by decide +kernel
theorem dX10_isThrough_11 : decode cX10_isThrough 11 = .ok (.iconst 5, 1) := by decide +kernel
theorem dX10_isThrough_12 : decode cX10_isThrough 12 = .ok (.if_icmp .ne 7, 3) := by decide +kernel
theorem dX10_isThrough_15 : decode cX10_isThrough 15 = .ok (.iconst 1, 1) := by decide +kernel
theorem dX10_isThrough_16 : decode cX10_isThrough 16 = .ok (.goto 4, 3) := by decide +kernel
theorem dX10_isThrough_19 : decode cX10_isThrough 19 = .ok (.iconst 0, 1) := by decide +kernel
theorem dX10_isThrough_20 : decode cX10_isThrough 20 = .ok (.ireturn, 1) := by decide +kernel
theorem dX10_kindOf_0 : decode cX10_kindOf 0 = .ok (.aload_n 0, 1) := by decide +kernel
theorem dX10_kindOf_1 : decode cX10_kindOf 1 = .ok (.getfield 39, 3) := by decide +kernel
theorem dX10_kindOf_4 : decode cX10_kindOf 4 = .ok (.iload_n 1, 1) := by decide +kernel
theorem dX10_kindOf_5 : decode cX10_kindOf 5 = .ok (.iaload, 1) := by decide +kernel
theorem dX10_kindOf_6 : decode cX10_kindOf 6 = .ok (.bipush 6, 2) := by decide +kernel
theorem dX10_kindOf_8 : decode cX10_kindOf 8 = .ok (.if_icmp .eq 14, 3) := by decide +kernel
theorem dX10_kindOf_11 : decode cX10_kindOf 11 = .ok (.aload_n 0, 1) := by decide +kernel
theorem dX10_kindOf_12 : decode cX10_kindOf 12 = .ok (.getfield 39, 3) := by decide +kernel
theorem dX10_kindOf_15 : decode cX10_kindOf 15 = .ok (.iload_n 2, 1) := by decide +kernel
theorem dX10_kindOf_16 : decode cX10_kindOf 16 = .ok (.iaload, 1) := by decide +kernel
theorem dX10_kindOf_17 : decode cX10_kindOf 17 = .ok (.bipush 6, 2) := by decide +kernel
theorem dX10_kindOf_19 : decode cX10_kindOf 19 = .ok (.if_icmp .ne 5, 3) := by decide +kernel
theorem dX10_kindOf_22 : decode cX10_kindOf 22 = .ok (.iconst 5, 1) := by decide +kernel
theorem dX10_kindOf_23 : decode cX10_kindOf 23 = .ok (.ireturn, 1) := by decide +kernel
theorem dX10_kindOf_24 : decode cX10_kindOf 24 = .ok (.aload_n 0, 1) := by decide +kernel
theorem dX10_kindOf_25 : decode cX10_kindOf 25 = .ok (.getfield 42, 3) := by decide +kernel
theorem dX10_kindOf_28 : decode cX10_kindOf 28 = .ok (.iload_n 1, 1) := by decide +kernel
theorem dX10_kindOf_29 : decode cX10_kindOf 29 = .ok (.iaload, 1) := by decide +kernel
theorem dX10_kindOf_30 : decode cX10_kindOf 30 = .ok (.aload_n 0, 1) := by decide +kernel
theorem dX10_kindOf_31 : decode cX10_kindOf 31 = .ok (.getfield 42, 3) := by decide +kernel
theorem dX10_kindOf_34 : decode cX10_kindOf 34 = .ok (.iload_n 2, 1) := by decide +kernel
theorem dX10_kindOf_35 : decode cX10_kindOf 35 = .ok (.iaload, 1) := by decide +kernel
theorem dX10_kindOf_36 : decode cX10_kindOf 36 = .ok (.if_icmp .ne 91, 3) := by decide +kernel
theorem dX10_kindOf_39 : decode cX10_kindOf 39 = .ok (.aload_n 0, 1) := by decide +kernel
theorem dX10_kindOf_40 : decode cX10_kindOf 40 = .ok (.getfield 39, 3) := by decide +kernel
theorem dX10_kindOf_43 : decode cX10_kindOf 43 = .ok (.iload_n 1, 1) := by decide +kernel
theorem dX10_kindOf_44 : decode cX10_kindOf 44 = .ok (.iaload, 1) := by decide +kernel
theorem dX10_kindOf_45 : decode cX10_kindOf 45 = .ok (.iconst 1, 1) := by decide +kernel
theorem dX10_kindOf_46 : decode cX10_kindOf 46 = .ok (.if_icmp .ne 13, 3) := by decide +kernel
theorem dX10_kindOf_49 : decode cX10_kindOf 49 = .ok (.aload_n 0, 1) := by decide +kernel
theorem dX10_kindOf_50 : decode cX10_kindOf 50 = .ok (.getfield 39, 3) := by decide +kernel
theorem dX10_kindOf_53 : decode cX10_kindOf 53 = .ok (.iload_n 2, 1) := by decide +kernel
theorem dX10_kindOf_54 : decode cX10_kindOf 54 = .ok (.iaload, 1) := by decide +kernel
theorem dX10_kindOf_55 : decode cX10_kindOf 55 = .ok (.iconst 2, 1) := by decide +kernel
theorem dX10_kindOf_56 : decode cX10_kindOf 56 = .ok (.if_icmp .eq 23, 3) := by decide +kernel
theorem dX10_kindOf_59 : decode cX10_kindOf 59 = .ok (.aload_n 0, 1) := by decide +kernel
theorem dX10_kindOf_60 : decode cX10_kindOf 60 = .ok (.getfield 39, 3) := by decide +kernel
theorem dX10_kindOf_63 : decode cX10_kindOf 63 = .ok (.iload_n 1, 1) := by decide +kernel
theorem dX10_kindOf_64 : decode cX10_kindOf 64 = .ok (.iaload, 1) := by decide +kernel
theorem dX10_kindOf_65 : decode cX10_kindOf 65 = .ok (.iconst 2, 1) := by decide +kernel
theorem dX10_kindOf_66 : decode cX10_kindOf 66 = .ok (.if_icmp .ne 17, 3) := by decide +kernel
theorem dX10_kindOf_69 : decode cX10_kindOf 69 = .ok (.aload_n 0, 1) := by decide +kernel
theorem dX10_kindOf_70 : decode cX10_kindOf 70 = .ok (.getfield 39, 3) := by decide +kernel
theorem dX10_kindOf_73 : decode cX10_kindOf 73 = .ok (.iload_n 2, 1) := by decide +kernel
theorem dX10_kindOf_74 : decode cX10_kindOf 74 = .ok (.iaload, 1) := by decide +kernel
theorem dX10_kindOf_75 : decode cX10_kindOf 75 = .ok (.iconst 1, 1) := by decide +kernel
theorem dX10_kindOf_76 : decode cX10_kindOf 76 = .ok (.if_icmp .ne 7, 3) := by decide +kernel
theorem dX10_kindOf_79 : decode cX10_kindOf 79 = .ok (.iconst 1, 1) := by decide +kernel
theorem dX10_kindOf_80 : decode cX10_kindOf 80 = .ok (.goto 4, 3) := by decide +kernel
theorem dX10_kindOf_83 : decode cX10_kindOf 83 = .ok (.iconst 0, 1) := by decide +kernel
theorem dX10_kindOf_84 : decode cX10_kindOf 84 = .ok (.istore_n 3, 1) := by decide +kernel
theorem dX10_kindOf_85 : decode cX10_kindOf 85 = .ok (.iload_n 3, 1) := by decide +kernel
theorem dX10_kindOf_86 : decode cX10_kindOf 86 = .ok (.ifCond .eq 7, 3) := by decide +kernel
theorem dX10_kindOf_89 : decode cX10_kindOf 89 = .ok (.iconst 1, 1) := by decide +kernel
theorem dX10_kindOf_90 : decode cX10_kindOf 90 = .ok (.goto 36, 3) := by decide +kernel
theorem dX10_kindOf_93 : decode cX10_kindOf 93 = .ok (.aload_n 0, 1) := by decide +kernel
theorem dX10_kindOf_94 : decode cX10_kindOf 94 = .ok (.getfield 39, 3) := by decide +kernel
theorem dX10_kindOf_97 : decode cX10_kindOf 97 = .ok (.iload_n 1, 1) := by decide +kernel
theorem dX10_kindOf_98 : decode cX10_kindOf 98 = .ok (.iaload, 1) := by decide +kernel
theorem dX10_kindOf_99 : decode cX10_kindOf 99 = .ok (.aload_n 0, 1) := by decide +kernel
theorem dX10_kindOf_100 : decode cX10_kindOf 100 = .ok (.getfield 39, 3) := by decide +kernel
theorem dX10_kindOf_103 : decode cX10_kindOf 103 = .ok (.iload_n 2, 1) := by decide +kernel
theorem dX10_kindOf_104 : decode cX10_kindOf 104 = .ok (.iaload, 1) := by decide +kernel
theorem dX10_kindOf_105 : decode cX10_kindOf 105 = .ok (.if_icmp .ne 19, 3) := by decide +kernel
theorem dX10_kindOf_108 : decode cX10_kindOf 108 = .ok (.aload_n 0, 1) := by decide +kernel
theorem dX10_kindOf_109 : decode cX10_kindOf 109 = .ok (.getfield 39, 3) := by decide +kernel
theorem dX10_kindOf_112 : decode cX10_kindOf 112 = .ok (.iload_n 1, 1) := by decide +kernel
theorem dX10_kindOf_113 : decode cX10_kindOf 113 = .ok (.iaload, 1) := by decide +kernel
theorem dX10_kindOf_114 : decode cX10_kindOf 114 = .ok (.invokestatic 349, 3) := by decide +kernel
theorem dX10_kindOf_117 : decode cX10_kindOf 117 = .ok (.ifCond .eq 7, 3) := by decide +kernel
theorem dX10_kindOf_120 : decode cX10_kindOf 120 = .ok (.iconst 2, 1) := by decide +kernel
theorem dX10_kindOf_121 : decode cX10_kindOf 121 = .ok (.goto 5, 3) := by decide +kernel
theorem dX10_kindOf_124 : decode cX10_kindOf 124 = .ok (.bipush (-2), 2) := by decide +kernel
theorem dX10_kindOf_126 : decode cX10_kindOf 126 = .ok (.ireturn, 1) := by decide +kernel
theorem dX10_kindOf_127 : decode cX10_kindOf 127 = .ok (.aload_n 0, 1) := by decide +kernel
theorem dX10_kindOf_128 : decode cX10_kindOf 128 = .ok (.getfield 39, 3) := by decide +kernel
theorem dX10_kindOf_131 : decode cX10_kindOf 131 = .ok (.aload_n 0, 1) := by decide +kernel
theorem dX10_kindOf_132 : decode cX10_kindOf 132 = .ok (.getfield 42, 3) := by decide +kernel
theorem dX10_kindOf_135 : decode cX10_kindOf 135 = .ok (.iload_n 1, 1) := by decide +kernel
theorem dX10_kindOf_136 : decode cX10_kindOf 136 = .ok (.iaload, 1) := by decide +kernel
theorem dX10_kindOf_137 : decode cX10_kindOf 137 = .ok (.aload_n 0, 1) := by decide +kernel
theorem dX10_kindOf_138 : decode cX10_kindOf 138 = .ok (.getfield 42, 3) := by decide +kernel
theorem dX10_kindOf_141 : decode cX10_kindOf 141 = .ok (.iload_n 2, 1) := by decide +kernel
theorem dX10_kindOf_142 : decode cX10_kindOf 142 = .ok (.iaload, 1) := by decide +kernel
theorem dX10_kindOf_143 : decode cX10_kindOf 143 = .ok (.if_icmp .ge 7, 3) := by decide +kernel
theorem dX10_kindOf_146 : decode cX10_kindOf 146 = .ok (.iload_n 1, 1) := by decide +kernel
theorem dX10_kindOf_147 : decode cX10_kindOf 147 = .ok (.goto 4, 3) := by decide +kernel
theorem dX10_kindOf_150 : decode cX10_kindOf 150 = .ok (.iload_n 2, 1) := by decide +kernel
theorem dX10_kindOf_151 : decode cX10_kindOf 151 = .ok (.iaload, 1) := by decide +kernel
theorem dX10_kindOf_152 : decode cX10_kindOf 152 = .ok (.istore_n 3, 1) := by decide +kernel
theorem dX10_kindOf_153 : decode cX10_kindOf 153 = .ok (.iload_n 3, 1) := by decide +kernel
theorem dX10_kindOf_154 : decode cX10_kindOf 154 = .ok (.invokestatic 349, 3) := by decide +kernel
theorem dX10_kindOf_157 : decode cX10_kindOf 157 = .ok (.ifCond .ne 8, 3) := by decide +kernel
theorem dX10_kindOf_160 : decode cX10_kindOf 160 = .ok (.bipush (-2), 2) := by decide +kernel
theorem dX10_kindOf_162 : decode cX10_kindOf 162 = .ok (.goto 13, 3) := by decide +kernel
theorem dX10_kindOf_165 : decode cX10_kindOf 165 = .ok (.iload_n 3, 1) := by decide +kernel
theorem dX10_kindOf_166 : decode cX10_kindOf 166 = .ok (.iconst 3, 1) := by decide +kernel
theorem dX10_kindOf_167 : decode cX10_kindOf 167 = .ok (.if_icmp .ne 7, 3) := by decide +kernel
theorem dX10_kindOf_170 : decode cX10_kindOf 170 = .ok (.iconst 3, 1) := by decide +kernel
theorem dX10_kindOf_171 : decode cX10_kindOf 171 = .ok (.goto 4, 3) := by decide +kernel
theorem dX10_kindOf_174 : decode cX10_kindOf 174 = .ok (.iconst 4, 1) := by decide +kernel
theorem dX10_kindOf_175 : decode cX10_kindOf 175 = .ok (.ireturn, 1) := by decide +kernel
theorem dX10_moreBy_0 : decode cX10_moreBy 0 = .ok (.aload_n 0, 1) := by decide +kernel
theorem dX10_moreBy_1 : decode cX10_moreBy 1 = .ok (.getfield 39, 3) := by decide +kernel
theorem dX10_moreBy_4 : decode cX10_moreBy 4 = .ok (.iload_n 1, 1) := by decide +kernel
theorem dX10_moreBy_5 : decode cX10_moreBy 5 = .ok (.iaload, 1) := by decide +kernel
theorem dX10_moreBy_6 : decode cX10_moreBy 6 = .ok (.invokestatic 352, 3) := by decide +kernel
theorem dX10_moreBy_9 : decode cX10_moreBy 9 = .ok (.iconst 1, 1) := by decide +kernel
theorem dX10_moreBy_10 : decode cX10_moreBy 10 = .ok (.isub, 1) := by decide +kernel
theorem dX10_moreBy_11 : decode cX10_moreBy 11 = .ok (.istore 4, 2) := by decide +kernel
theorem dX10_moreBy_13 : decode cX10_moreBy 13 = .ok (.aload_n 0, 1) := by decide +kernel
theorem dX10_moreBy_14 : decode cX10_moreBy 14 = .ok (.getfield 39, 3) := by decide +kernel
theorem dX10_moreBy_17 : decode cX10_moreBy 17 = .ok (.iload_n 2, 1) := by decide +kernel
theorem dX10_moreBy_18 : decode cX10_moreBy 18 = .ok (.iaload, 1) := by decide +kernel
theorem dX10_moreBy_19 : decode cX10_moreBy 19 = .ok (.invokestatic 352, 3) := by decide +kernel
theorem dX10_moreBy_22 : decode cX10_moreBy 22 = .ok (.iconst 1, 1) := by decide +kernel
theorem dX10_moreBy_23 : decode cX10_moreBy 23 = .ok (.isub, 1) := by decide +kernel
theorem dX10_moreBy_24 : decode cX10_moreBy 24 = .ok (.istore 5, 2) := by decide +kernel
theorem dX10_moreBy_26 : decode cX10_moreBy 26 = .ok (.iload_n 3, 1) := by decide +kernel
theorem dX10_moreBy_27 : decode cX10_moreBy 27 = .ok (.iconst 5, 1) := by decide +kernel
theorem dX10_moreBy_28 : decode cX10_moreBy 28 = .ok (.if_icmp .ne 24, 3) := by decide +kernel
theorem dX10_moreBy_31 : decode cX10_moreBy 31 = .ok (.aload_n 0, 1) := by decide +kernel
theorem dX10_moreBy_32 : decode cX10_moreBy 32 = .ok (.getfield 39, 3) := by decide +kernel
theorem dX10_moreBy_35 : decode cX10_moreBy 35 = .ok (.iload_n 1, 1) := by decide +kernel
theorem dX10_moreBy_36 : decode cX10_moreBy 36 = .ok (.iaload, 1) := by decide +kernel
theorem dX10_moreBy_37 : decode cX10_moreBy 37 = .ok (.bipush 6, 2) := by decide +kernel
theorem dX10_moreBy_39 : decode cX10_moreBy 39 = .ok (.if_icmp .ne 8, 3) := by decide +kernel
theorem dX10_moreBy_42 : decode cX10_moreBy 42 = .ok (.iload 5, 2) := by decide +kernel
theorem dX10_moreBy_44 : decode cX10_moreBy 44 = .ok (.goto 5, 3) := by decide +kernel
theorem dX10_moreBy_47 : decode cX10_moreBy 47 = .ok (.iload 4, 2) := by decide +kernel
theorem dX10_moreBy_49 : decode cX10_moreBy 49 = .ok (.iconst 2, 1) := by decide +kernel
theorem dX10_moreBy_50 : decode cX10_moreBy 50 = .ok (.isub, 1) := by decide +kernel
theorem dX10_moreBy_51 : decode cX10_moreBy 51 = .ok (.ireturn, 1) := by decide +kernel
theorem dX10_moreBy_52 : decode cX10_moreBy 52 = .ok (.iload_n 3, 1) := by decide +kernel
theorem dX10_moreBy_53 : decode cX10_moreBy 53 = .ok (.iconst 3, 1) := by decide +kernel
theorem dX10_moreBy_54 : decode cX10_moreBy 54 = .ok (.if_icmp .ge 8, 3) := by decide +kernel
theorem dX10_moreBy_57 : decode cX10_moreBy 57 = .ok (.bipush (-2), 2) := by decide +kernel
theorem dX10_moreBy_59 : decode cX10_moreBy 59 = .ok (.goto 10, 3) := by decide +kernel
theorem dX10_moreBy_62 : decode cX10_moreBy 62 = .ok (.iload 4, 2) := by decide +kernel
theorem dX10_moreBy_64 : decode cX10_moreBy 64 = .ok (.iload 5, 2) := by decide +kernel
theorem dX10_moreBy_66 : decode cX10_moreBy 66 = .ok (.iadd, 1) := by decide +kernel
theorem dX10_moreBy_67 : decode cX10_moreBy 67 = .ok (.iconst 2, 1) := by decide +kernel
theorem dX10_moreBy_68 : decode cX10_moreBy 68 = .ok (.isub, 1) := by decide +kernel
theorem dX10_moreBy_69 : decode cX10_moreBy 69 = .ok (.ireturn, 1) := by decide +kernel
theorem dX10_goesAside_0 : decode cX10_goesAside 0 = .ok (.aload_n 0, 1) := by decide +kernel
theorem dX10_goesAside_1 : decode cX10_goesAside 1 = .ok (.getfield 39, 3) := by decide +kernel
theorem dX10_goesAside_4 : decode cX10_goesAside 4 = .ok (.iload_n 2, 1) := by decide +kernel
theorem dX10_goesAside_5 : decode cX10_goesAside 5 = .ok (.aload_n 0, 1) := by decide +kernel
theorem dX10_goesAside_6 : decode cX10_goesAside 6 = .ok (.getfield 39, 3) := by decide +kernel
theorem dX10_goesAside_9 : decode cX10_goesAside 9 = .ok (.iload_n 1, 1) := by decide +kernel
theorem dX10_goesAside_10 : decode cX10_goesAside 10 = .ok (.iaload, 1) := by decide +kernel
theorem dX10_goesAside_11 : decode cX10_goesAside 11 = .ok (.iastore, 1) := by decide +kernel
theorem dX10_goesAside_12 : decode cX10_goesAside 12 = .ok (.aload_n 0, 1) := by decide +kernel
theorem dX10_goesAside_13 : decode cX10_goesAside 13 = .ok (.getfield 42, 3) := by decide +kernel
theorem dX10_goesAside_16 : decode cX10_goesAside 16 = .ok (.iload_n 2, 1) := by decide +kernel
theorem dX10_goesAside_17 : decode cX10_goesAside 17 = .ok (.aload_n 0, 1) := by decide +kernel
theorem dX10_goesAside_18 : decode cX10_goesAside 18 = .ok (.getfield 42, 3) := by decide +kernel
theorem dX10_goesAside_21 : decode cX10_goesAside 21 = .ok (.iload_n 1, 1) := by decide +kernel
theorem dX10_goesAside_22 : decode cX10_goesAside 22 = .ok (.iaload, 1) := by decide +kernel
theorem dX10_goesAside_23 : decode cX10_goesAside 23 = .ok (.iastore, 1) := by decide +kernel
theorem dX10_goesAside_24 : decode cX10_goesAside 24 = .ok (.iconst 0, 1) := by decide +kernel
theorem dX10_goesAside_25 : decode cX10_goesAside 25 = .ok (.istore_n 3, 1) := by decide +kernel
theorem dX10_goesAside_26 : decode cX10_goesAside 26 = .ok (.iload_n 3, 1) := by decide +kernel
theorem dX10_goesAside_27 : decode cX10_goesAside 27 = .ok (.aload_n 0, 1) := by decide +kernel
theorem dX10_goesAside_28 : decode cX10_goesAside 28 = .ok (.getfield 39, 3) := by decide +kernel
theorem dX10_goesAside_31 : decode cX10_goesAside 31 = .ok (.iload_n 1, 1) := by decide +kernel
theorem dX10_goesAside_32 : decode cX10_goesAside 32 = .ok (.iaload, 1) := by decide +kernel
theorem dX10_goesAside_33 : decode cX10_goesAside 33 = .ok (.invokestatic 352, 3) := by decide +kernel
theorem dX10_goesAside_36 : decode cX10_goesAside 36 = .ok (.if_icmp .ge 61, 3) := by decide +kernel
theorem dX10_goesAside_39 : decode cX10_goesAside 39 = .ok (.aload_n 0, 1) := by decide +kernel
theorem dX10_goesAside_40 : decode cX10_goesAside 40 = .ok (.getfield 45, 3) := by decide +kernel
theorem dX10_goesAside_43 : decode cX10_goesAside 43 = .ok (.iconst 4, 1) := by decide +kernel
theorem dX10_goesAside_44 : decode cX10_goesAside 44 = .ok (.iload_n 1, 1) := by decide +kernel
theorem dX10_goesAside_45 : decode cX10_goesAside 45 = .ok (.imul, 1) := by decide +kernel
theorem dX10_goesAside_46 : decode cX10_goesAside 46 = .ok (.iload_n 3, 1) := by decide +kernel
theorem dX10_goesAside_47 : decode cX10_goesAside 47 = .ok (.iadd, 1) := by decide +kernel
theorem dX10_goesAside_48 : decode cX10_goesAside 48 = .ok (.iaload, 1) := by decide +kernel
theorem dX10_goesAside_49 : decode cX10_goesAside 49 = .ok (.istore 4, 2) := by decide +kernel
theorem dX10_goesAside_51 : decode cX10_goesAside 51 = .ok (.iload 4, 2) := by decide +kernel
theorem dX10_goesAside_53 : decode cX10_goesAside 53 = .ok (.iconst 4, 1) := by decide +kernel
theorem dX10_goesAside_54 : decode cX10_goesAside 54 = .ok (.idiv, 1) := by decide +kernel
theorem dX10_goesAside_55 : decode cX10_goesAside 55 = .ok (.iload_n 1, 1) := by decide +kernel
theorem dX10_goesAside_56 : decode cX10_goesAside 56 = .ok (.if_icmp .ne 24, 3) := by decide +kernel
theorem dX10_goesAside_59 : decode cX10_goesAside 59 = .ok (.aload_n 0, 1) := by decide +kernel
theorem dX10_goesAside_60 : decode cX10_goesAside 60 = .ok (.getfield 45, 3) := by decide +kernel
theorem dX10_goesAside_63 : decode cX10_goesAside 63 = .ok (.iconst 4, 1) := by decide +kernel
theorem dX10_goesAside_64 : decode cX10_goesAside 64 = .ok (.iload_n 2, 1) := by decide +kernel
theorem dX10_goesAside_65 : decode cX10_goesAside 65 = .ok (.imul, 1) := by decide +kernel
theorem dX10_goesAside_66 : decode cX10_goesAside 66 = .ok (.iload_n 3, 1) := by decide +kernel
theorem dX10_goesAside_67 : decode cX10_goesAside 67 = .ok (.iadd, 1) := by decide +kernel
theorem dX10_goesAside_68 : decode cX10_goesAside 68 = .ok (.iconst 4, 1) := by decide +kernel
theorem dX10_goesAside_69 : decode cX10_goesAside 69 = .ok (.iload_n 2, 1) := by decide +kernel
theorem dX10_goesAside_70 : decode cX10_goesAside 70 = .ok (.imul, 1) := by decide +kernel
theorem dX10_goesAside_71 : decode cX10_goesAside 71 = .ok (.iload 4, 2) := by decide +kernel
theorem dX10_goesAside_73 : decode cX10_goesAside 73 = .ok (.iconst 4, 1) := by decide +kernel
theorem dX10_goesAside_74 : decode cX10_goesAside 74 = .ok (.irem, 1) := by decide +kernel
theorem dX10_goesAside_75 : decode cX10_goesAside 75 = .ok (.iadd, 1) := by decide +kernel
theorem dX10_goesAside_76 : decode cX10_goesAside 76 = .ok (.iastore, 1) := by decide +kernel
theorem dX10_goesAside_77 : decode cX10_goesAside 77 = .ok (.goto 14, 3) := by decide +kernel
theorem dX10_goesAside_80 : decode cX10_goesAside 80 = .ok (.aload_n 0, 1) := by decide +kernel
theorem dX10_goesAside_81 : decode cX10_goesAside 81 = .ok (.iconst 4, 1) := by decide +kernel
theorem dX10_goesAside_82 : decode cX10_goesAside 82 = .ok (.iload_n 2, 1) := by decide +kernel
theorem dX10_goesAside_83 : decode cX10_goesAside 83 = .ok (.imul, 1) := by decide +kernel
theorem dX10_goesAside_84 : decode cX10_goesAside 84 = .ok (.iload_n 3, 1) := by decide +kernel
theorem dX10_goesAside_85 : decode cX10_goesAside 85 = .ok (.iadd, 1) := by decide +kernel
theorem dX10_goesAside_86 : decode cX10_goesAside 86 = .ok (.iload 4, 2) := by decide +kernel
theorem dX10_goesAside_88 : decode cX10_goesAside 88 = .ok (.invokevirtual 313, 3) := by decide +kernel
theorem dX10_goesAside_91 : decode cX10_goesAside 91 = .ok (.iinc 3 1, 3) := by decide +kernel
theorem dX10_goesAside_94 : decode cX10_goesAside 94 = .ok (.goto (-68), 3) := by decide +kernel
theorem dX10_goesAside_97 : decode cX10_goesAside 97 = .ok (.aload_n 0, 1) := by decide +kernel
theorem dX10_goesAside_98 : decode cX10_goesAside 98 = .ok (.getfield 39, 3) := by decide +kernel
theorem dX10_goesAside_101 : decode cX10_goesAside 101 = .ok (.iload_n 1, 1) := by decide +kernel
theorem dX10_goesAside_102 : decode cX10_goesAside 102 = .ok (.iconst (-1), 1) := by decide +kernel
theorem dX10_goesAside_103 : decode cX10_goesAside 103 = .ok (.iastore, 1) := by decide +kernel
theorem dX10_goesAside_104 : decode cX10_goesAside 104 = .ok (.aload_n 0, 1) := by decide +kernel
theorem dX10_goesAside_105 : decode cX10_goesAside 105 = .ok (.dup, 1) := by decide +kernel
theorem dX10_goesAside_106 : decode cX10_goesAside 106 = .ok (.getfield 281, 3) := by decide +kernel
theorem dX10_goesAside_109 : decode cX10_goesAside 109 = .ok (.iconst 1, 1) := by decide +kernel
theorem dX10_goesAside_110 : decode cX10_goesAside 110 = .ok (.isub, 1) := by decide +kernel
theorem dX10_goesAside_111 : decode cX10_goesAside 111 = .ok (.putfield 281, 3) := by decide +kernel
theorem dX10_goesAside_114 : decode cX10_goesAside 114 = .ok (.return_, 1) := by decide +kernel
theorem dX10_inPlaceOf_0 : decode cX10_inPlaceOf 0 = .ok (.aload_n 0, 1) := by decide +kernel
theorem dX10_inPlaceOf_1 : decode cX10_inPlaceOf 1 = .ok (.iload_n 2, 1) := by decide +kernel
theorem dX10_inPlaceOf_2 : decode cX10_inPlaceOf 2 = .ok (.aload_n 0, 1) := by decide +kernel
theorem dX10_inPlaceOf_3 : decode cX10_inPlaceOf 3 = .ok (.getfield 45, 3) := by decide +kernel
theorem dX10_inPlaceOf_6 : decode cX10_inPlaceOf 6 = .ok (.iload_n 1, 1) := by decide +kernel
theorem dX10_inPlaceOf_7 : decode cX10_inPlaceOf 7 = .ok (.iaload, 1) := by decide +kernel
theorem dX10_inPlaceOf_8 : decode cX10_inPlaceOf 8 = .ok (.invokevirtual 313, 3) := by decide +kernel
theorem dX10_inPlaceOf_11 : decode cX10_inPlaceOf 11 = .ok (.return_, 1) := by decide +kernel
theorem dX10_joins_0 : decode cX10_joins 0 = .ok (.aload_n 0, 1) := by decide +kernel
theorem dX10_joins_1 : decode cX10_joins 1 = .ok (.getfield 45, 3) := by decide +kernel
theorem dX10_joins_4 : decode cX10_joins 4 = .ok (.iload_n 1, 1) := by decide +kernel
theorem dX10_joins_5 : decode cX10_joins 5 = .ok (.iaload, 1) := by decide +kernel
theorem dX10_joins_6 : decode cX10_joins 6 = .ok (.istore_n 3, 1) := by decide +kernel
theorem dX10_joins_7 : decode cX10_joins 7 = .ok (.aload_n 0, 1) := by decide +kernel
theorem dX10_joins_8 : decode cX10_joins 8 = .ok (.getfield 45, 3) := by decide +kernel
theorem dX10_joins_11 : decode cX10_joins 11 = .ok (.iload_n 2, 1) := by decide +kernel
theorem dX10_joins_12 : decode cX10_joins 12 = .ok (.iaload, 1) := by decide +kernel
theorem dX10_joins_13 : decode cX10_joins 13 = .ok (.istore 4, 2) := by decide +kernel
theorem dX10_joins_15 : decode cX10_joins 15 = .ok (.aload_n 0, 1) := by decide +kernel
theorem dX10_joins_16 : decode cX10_joins 16 = .ok (.iload_n 3, 1) := by decide +kernel
theorem dX10_joins_17 : decode cX10_joins 17 = .ok (.iload 4, 2) := by decide +kernel
theorem dX10_joins_19 : decode cX10_joins 19 = .ok (.invokevirtual 313, 3) := by decide +kernel
theorem dX10_joins_22 : decode cX10_joins 22 = .ok (.return_, 1) := by decide +kernel
theorem dX10_erases_0 : decode cX10_erases 0 = .ok (.iconst 1, 1) := by decide +kernel
theorem dX10_erases_1 : decode cX10_erases 1 = .ok (.istore_n 2, 1) := by decide +kernel
theorem dX10_erases_2 : decode cX10_erases 2 = .ok (.iload_n 2, 1) := by decide +kernel
theorem dX10_erases_3 : decode cX10_erases 3 = .ok (.aload_n 0, 1) := by decide +kernel
theorem dX10_erases_4 : decode cX10_erases 4 = .ok (.getfield 39, 3) := by decide +kernel
theorem dX10_erases_7 : decode cX10_erases 7 = .ok (.iload_n 1, 1) := by decide +kernel
theorem dX10_erases_8 : decode cX10_erases 8 = .ok (.iaload, 1) := by decide +kernel
theorem dX10_erases_9 : decode cX10_erases 9 = .ok (.invokestatic 352, 3) := by decide +kernel
theorem dX10_erases_12 : decode cX10_erases 12 = .ok (.if_icmp .ge 27, 3) := by decide +kernel
theorem dX10_erases_15 : decode cX10_erases 15 = .ok (.aload_n 0, 1) := by decide +kernel
theorem dX10_erases_16 : decode cX10_erases 16 = .ok (.iconst 4, 1) := by decide +kernel
theorem dX10_erases_17 : decode cX10_erases 17 = .ok (.iload_n 1, 1) := by decide +kernel
theorem dX10_erases_18 : decode cX10_erases 18 = .ok (.imul, 1) := by decide +kernel
theorem dX10_erases_19 : decode cX10_erases 19 = .ok (.iload_n 2, 1) := by decide +kernel
theorem dX10_erases_20 : decode cX10_erases 20 = .ok (.iadd, 1) := by decide +kernel
theorem dX10_erases_21 : decode cX10_erases 21 = .ok (.iconst 4, 1) := by decide +kernel
theorem dX10_erases_22 : decode cX10_erases 22 = .ok (.aload_n 0, 1) := by decide +kernel
theorem dX10_erases_23 : decode cX10_erases 23 = .ok (.bipush 6, 2) := by decide +kernel
theorem dX10_erases_25 : decode cX10_erases 25 = .ok (.iconst 0, 1) := by decide +kernel
theorem dX10_erases_26 : decode cX10_erases 26 = .ok (.invokevirtual 307, 3) := by decide +kernel
theorem dX10_erases_29 : decode cX10_erases 29 = .ok (.imul, 1) := by decide +kernel
theorem dX10_erases_30 : decode cX10_erases 30 = .ok (.invokevirtual 355, 3) := by decide +kernel
theorem dX10_erases_33 : decode cX10_erases 33 = .ok (.iinc 2 1, 3) := by decide +kernel
theorem dX10_erases_36 : decode cX10_erases 36 = .ok (.goto (-34), 3) := by decide +kernel
theorem dX10_erases_39 : decode cX10_erases 39 = .ok (.return_, 1) := by decide +kernel
theorem dX10_goesThrough_0 : decode cX10_goesThrough 0 = .ok (.aload_n 0, 1) := by decide +kernel
theorem dX10_goesThrough_1 : decode cX10_goesThrough 1 = .ok (.getfield 39, 3) := by decide +kernel
theorem dX10_goesThrough_4 : decode cX10_goesThrough 4 = .ok (.iload_n 1, 1) := by decide +kernel
theorem dX10_goesThrough_5 : decode cX10_goesThrough 5 = .ok (.iaload, 1) := by decide +kernel
theorem dX10_goesThrough_6 : decode cX10_goesThrough 6 = .ok (.iconst 4, 1) := by decide +kernel
theorem dX10_goesThrough_7 : decode cX10_goesThrough 7 = .ok (.if_icmp .ne 7, 3) := by decide +kernel
theorem dX10_goesThrough_10 : decode cX10_goesThrough 10 = .ok (.iconst 1, 1) := by decide +kernel
theorem dX10_goesThrough_11 : decode cX10_goesThrough 11 = .ok (.goto 18, 3) := by decide +kernel
theorem dX10_goesThrough_14 : decode cX10_goesThrough 14 = .ok (.aload_n 0, 1) := by decide +kernel
theorem dX10_goesThrough_15 : decode cX10_goesThrough 15 = .ok (.getfield 39, 3) := by decide +kernel
theorem dX10_goesThrough_18 : decode cX10_goesThrough 18 = .ok (.iload_n 1, 1) := by decide +kernel
theorem dX10_goesThrough_19 : decode cX10_goesThrough 19 = .ok (.iaload, 1) := by decide +kernel
theorem dX10_goesThrough_20 : decode cX10_goesThrough 20 = .ok (.iconst 5, 1) := by decide +kernel
theorem dX10_goesThrough_21 : decode cX10_goesThrough 21 = .ok (.if_icmp .ne 7, 3) := by decide +kernel
theorem dX10_goesThrough_24 : decode cX10_goesThrough 24 = .ok (.iconst (-1), 1) := by decide +kernel
theorem dX10_goesThrough_25 : decode cX10_goesThrough 25 = .ok (.goto 4, 3) := by decide +kernel
theorem dX10_goesThrough_28 : decode cX10_goesThrough 28 = .ok (.iconst 0, 1) := by decide +kernel
theorem dX10_goesThrough_29 : decode cX10_goesThrough 29 = .ok (.istore_n 3, 1) := by decide +kernel
theorem dX10_goesThrough_30 : decode cX10_goesThrough 30 = .ok (.aload_n 0, 1) := by decide +kernel
theorem dX10_goesThrough_31 : decode cX10_goesThrough 31 = .ok (.getfield 39, 3) := by decide +kernel
theorem dX10_goesThrough_34 : decode cX10_goesThrough 34 = .ok (.iload_n 1, 1) := by decide +kernel
theorem dX10_goesThrough_35 : decode cX10_goesThrough 35 = .ok (.iaload, 1) := by decide +kernel
theorem dX10_goesThrough_36 : decode cX10_goesThrough 36 = .ok (.invokestatic 352, 3) := by decide +kernel
theorem dX10_goesThrough_39 : decode cX10_goesThrough 39 = .ok (.iconst 1, 1) := by decide +kernel
theorem dX10_goesThrough_40 : decode cX10_goesThrough 40 = .ok (.isub, 1) := by decide +kernel
theorem dX10_goesThrough_41 : decode cX10_goesThrough 41 = .ok (.istore 4, 2) := by decide +kernel
theorem dX10_goesThrough_43 : decode cX10_goesThrough 43 = .ok (.aload_n 0, 1) := by decide +kernel
theorem dX10_goesThrough_44 : decode cX10_goesThrough 44 = .ok (.getfield 39, 3) := by decide +kernel
theorem dX10_goesThrough_47 : decode cX10_goesThrough 47 = .ok (.iload_n 2, 1) := by decide +kernel
theorem dX10_goesThrough_48 : decode cX10_goesThrough 48 = .ok (.iaload, 1) := by decide +kernel
theorem dX10_goesThrough_49 : decode cX10_goesThrough 49 = .ok (.invokestatic 352, 3) := by decide +kernel
theorem dX10_goesThrough_52 : decode cX10_goesThrough 52 = .ok (.iconst 1, 1) := by decide +kernel
theorem dX10_goesThrough_53 : decode cX10_goesThrough 53 = .ok (.isub, 1) := by decide +kernel
theorem dX10_goesThrough_54 : decode cX10_goesThrough 54 = .ok (.istore 5, 2) := by decide +kernel
theorem dX10_goesThrough_56 : decode cX10_goesThrough 56 = .ok (.iconst 0, 1) := by decide +kernel
theorem dX10_goesThrough_57 : decode cX10_goesThrough 57 = .ok (.istore 6, 2) := by decide +kernel
theorem dX10_goesThrough_59 : decode cX10_goesThrough 59 = .ok (.iload 6, 2) := by decide +kernel
theorem dX10_goesThrough_61 : decode cX10_goesThrough 61 = .ok (.iload 4, 2) := by decide +kernel
theorem dX10_goesThrough_63 : decode cX10_goesThrough 63 = .ok (.if_icmp .ge 55, 3) := by decide +kernel
theorem dX10_goesThrough_66 : decode cX10_goesThrough 66 = .ok (.aload_n 0, 1) := by decide +kernel
theorem dX10_goesThrough_67 : decode cX10_goesThrough 67 = .ok (.getfield 66, 3) := by decide +kernel
theorem dX10_goesThrough_70 : decode cX10_goesThrough 70 = .ok (.iload 6, 2) := by decide +kernel
theorem dX10_goesThrough_72 : decode cX10_goesThrough 72 = .ok (.aload_n 0, 1) := by decide +kernel
theorem dX10_goesThrough_73 : decode cX10_goesThrough 73 = .ok (.aload_n 0, 1) := by decide +kernel
theorem dX10_goesThrough_74 : decode cX10_goesThrough 74 = .ok (.getfield 39, 3) := by decide +kernel
theorem dX10_goesThrough_77 : decode cX10_goesThrough 77 = .ok (.iload_n 2, 1) := by decide +kernel
theorem dX10_goesThrough_78 : decode cX10_goesThrough 78 = .ok (.iaload, 1) := by decide +kernel
theorem dX10_goesThrough_79 : decode cX10_goesThrough 79 = .ok (.aload_n 0, 1) := by decide +kernel
theorem dX10_goesThrough_80 : decode cX10_goesThrough 80 = .ok (.getfield 42, 3) := by decide +kernel
theorem dX10_goesThrough_83 : decode cX10_goesThrough 83 = .ok (.iload_n 2, 1) := by decide +kernel
theorem dX10_goesThrough_84 : decode cX10_goesThrough 84 = .ok (.iaload, 1) := by decide +kernel
theorem dX10_goesThrough_85 : decode cX10_goesThrough 85 = .ok (.iload_n 3, 1) := by decide +kernel
theorem dX10_goesThrough_86 : decode cX10_goesThrough 86 = .ok (.iadd, 1) := by decide +kernel
theorem dX10_goesThrough_87 : decode cX10_goesThrough 87 = .ok (.invokevirtual 307, 3) := by decide +kernel
theorem dX10_goesThrough_90 : decode cX10_goesThrough 90 = .ok (.iastore, 1) := by decide +kernel
theorem dX10_goesThrough_91 : decode cX10_goesThrough 91 = .ok (.aload_n 0, 1) := by decide +kernel
theorem dX10_goesThrough_92 : decode cX10_goesThrough 92 = .ok (.iconst 4, 1) := by decide +kernel
theorem dX10_goesThrough_93 : decode cX10_goesThrough 93 = .ok (.iload_n 1, 1) := by decide +kernel
theorem dX10_goesThrough_94 : decode cX10_goesThrough 94 = .ok (.imul, 1) := by decide +kernel
theorem dX10_goesThrough_95 : decode cX10_goesThrough 95 = .ok (.iload 6, 2) := by decide +kernel
theorem dX10_goesThrough_97 : decode cX10_goesThrough 97 = .ok (.iadd, 1) := by decide +kernel
theorem dX10_goesThrough_98 : decode cX10_goesThrough 98 = .ok (.iconst 1, 1) := by decide +kernel
theorem dX10_goesThrough_99 : decode cX10_goesThrough 99 = .ok (.iadd, 1) := by decide +kernel
theorem dX10_goesThrough_100 : decode cX10_goesThrough 100 = .ok (.iconst 4, 1) := by decide +kernel
theorem dX10_goesThrough_101 : decode cX10_goesThrough 101 = .ok (.aload_n 0, 1) := by decide +kernel
theorem dX10_goesThrough_102 : decode cX10_goesThrough 102 = .ok (.getfield 66, 3) := by decide +kernel
theorem dX10_goesThrough_105 : decode cX10_goesThrough 105 = .ok (.iload 6, 2) := by decide +kernel
theorem dX10_goesThrough_107 : decode cX10_goesThrough 107 = .ok (.iaload, 1) := by decide +kernel
theorem dX10_goesThrough_108 : decode cX10_goesThrough 108 = .ok (.imul, 1) := by decide +kernel
theorem dX10_goesThrough_109 : decode cX10_goesThrough 109 = .ok (.invokevirtual 355, 3) := by decide +kernel
theorem dX10_goesThrough_112 : decode cX10_goesThrough 112 = .ok (.iinc 6 1, 3) := by decide +kernel
theorem dX10_goesThrough_115 : decode cX10_goesThrough 115 = .ok (.goto (-56), 3) := by decide +kernel
theorem dX10_goesThrough_118 : decode cX10_goesThrough 118 = .ok (.iconst 0, 1) := by decide +kernel
theorem dX10_goesThrough_119 : decode cX10_goesThrough 119 = .ok (.istore 6, 2) := by decide +kernel
theorem dX10_goesThrough_121 : decode cX10_goesThrough 121 = .ok (.iload 6, 2) := by decide +kernel
theorem dX10_goesThrough_123 : decode cX10_goesThrough 123 = .ok (.iload 5, 2) := by decide +kernel
theorem dX10_goesThrough_125 : decode cX10_goesThrough 125 = .ok (.if_icmp .ge 53, 3) := by decide +kernel
theorem dX10_goesThrough_128 : decode cX10_goesThrough 128 = .ok (.aload_n 0, 1) := by decide +kernel
theorem dX10_goesThrough_129 : decode cX10_goesThrough 129 = .ok (.getfield 69, 3) := by decide +kernel
theorem dX10_goesThrough_132 : decode cX10_goesThrough 132 = .ok (.iload 6, 2) := by decide +kernel
theorem dX10_goesThrough_134 : decode cX10_goesThrough 134 = .ok (.aload_n 0, 1) := by decide +kernel
theorem dX10_goesThrough_135 : decode cX10_goesThrough 135 = .ok (.aload_n 0, 1) := by decide +kernel
theorem dX10_goesThrough_136 : decode cX10_goesThrough 136 = .ok (.getfield 39, 3) := by decide +kernel
theorem dX10_goesThrough_139 : decode cX10_goesThrough 139 = .ok (.iload_n 1, 1) := by decide +kernel
theorem dX10_goesThrough_140 : decode cX10_goesThrough 140 = .ok (.iaload, 1) := by decide +kernel
theorem dX10_goesThrough_141 : decode cX10_goesThrough 141 = .ok (.aload_n 0, 1) := by decide +kernel
theorem dX10_goesThrough_142 : decode cX10_goesThrough 142 = .ok (.getfield 42, 3) := by decide +kernel
theorem dX10_goesThrough_145 : decode cX10_goesThrough 145 = .ok (.iload_n 1, 1) := by decide +kernel
theorem dX10_goesThrough_146 : decode cX10_goesThrough 146 = .ok (.iaload, 1) := by decide +kernel
theorem dX10_goesThrough_147 : decode cX10_goesThrough 147 = .ok (.invokevirtual 307, 3) := by decide +kernel
theorem dX10_goesThrough_150 : decode cX10_goesThrough 150 = .ok (.iastore, 1) := by decide +kernel
theorem dX10_goesThrough_151 : decode cX10_goesThrough 151 = .ok (.aload_n 0, 1) := by decide +kernel
theorem dX10_goesThrough_152 : decode cX10_goesThrough 152 = .ok (.iconst 4, 1) := by decide +kernel
theorem dX10_goesThrough_153 : decode cX10_goesThrough 153 = .ok (.iload_n 2, 1) := by decide +kernel
theorem dX10_goesThrough_154 : decode cX10_goesThrough 154 = .ok (.imul, 1) := by decide +kernel
theorem dX10_goesThrough_155 : decode cX10_goesThrough 155 = .ok (.iload 6, 2) := by decide +kernel
theorem dX10_goesThrough_157 : decode cX10_goesThrough 157 = .ok (.iadd, 1) := by decide +kernel
theorem dX10_goesThrough_158 : decode cX10_goesThrough 158 = .ok (.iconst 1, 1) := by decide +kernel
theorem dX10_goesThrough_159 : decode cX10_goesThrough 159 = .ok (.iadd, 1) := by decide +kernel
theorem dX10_goesThrough_160 : decode cX10_goesThrough 160 = .ok (.iconst 4, 1) := by decide +kernel
theorem dX10_goesThrough_161 : decode cX10_goesThrough 161 = .ok (.aload_n 0, 1) := by decide +kernel
theorem dX10_goesThrough_162 : decode cX10_goesThrough 162 = .ok (.getfield 69, 3) := by decide +kernel
theorem dX10_goesThrough_165 : decode cX10_goesThrough 165 = .ok (.iload 6, 2) := by decide +kernel
theorem dX10_goesThrough_167 : decode cX10_goesThrough 167 = .ok (.iaload, 1) := by decide +kernel
theorem dX10_goesThrough_168 : decode cX10_goesThrough 168 = .ok (.imul, 1) := by decide +kernel
theorem dX10_goesThrough_169 : decode cX10_goesThrough 169 = .ok (.invokevirtual 355, 3) := by decide +kernel
theorem dX10_goesThrough_172 : decode cX10_goesThrough 172 = .ok (.iinc 6 1, 3) := by decide +kernel
theorem dX10_goesThrough_175 : decode cX10_goesThrough 175 = .ok (.goto (-54), 3) := by decide +kernel
theorem dX10_goesThrough_178 : decode cX10_goesThrough 178 = .ok (.iconst 0, 1) := by decide +kernel
theorem dX10_goesThrough_179 : decode cX10_goesThrough 179 = .ok (.istore 6, 2) := by decide +kernel
theorem dX10_goesThrough_181 : decode cX10_goesThrough 181 = .ok (.iload 6, 2) := by decide +kernel
theorem dX10_goesThrough_183 : decode cX10_goesThrough 183 = .ok (.iload 4, 2) := by decide +kernel
theorem dX10_goesThrough_185 : decode cX10_goesThrough 185 = .ok (.if_icmp .ge 57, 3) := by decide +kernel
theorem dX10_goesThrough_188 : decode cX10_goesThrough 188 = .ok (.iconst 0, 1) := by decide +kernel
theorem dX10_goesThrough_189 : decode cX10_goesThrough 189 = .ok (.istore 7, 2) := by decide +kernel
theorem dX10_goesThrough_191 : decode cX10_goesThrough 191 = .ok (.iload 7, 2) := by decide +kernel
theorem dX10_goesThrough_193 : decode cX10_goesThrough 193 = .ok (.iload 5, 2) := by decide +kernel
theorem dX10_goesThrough_195 : decode cX10_goesThrough 195 = .ok (.if_icmp .ge 41, 3) := by decide +kernel
theorem dX10_goesThrough_198 : decode cX10_goesThrough 198 = .ok (.aload_n 0, 1) := by decide +kernel
theorem dX10_goesThrough_199 : decode cX10_goesThrough 199 = .ok (.iconst 4, 1) := by decide +kernel
theorem dX10_goesThrough_200 : decode cX10_goesThrough 200 = .ok (.aload_n 0, 1) := by decide +kernel
theorem dX10_goesThrough_201 : decode cX10_goesThrough 201 = .ok (.getfield 66, 3) := by decide +kernel
theorem dX10_goesThrough_204 : decode cX10_goesThrough 204 = .ok (.iload 6, 2) := by decide +kernel
theorem dX10_goesThrough_206 : decode cX10_goesThrough 206 = .ok (.iaload, 1) := by decide +kernel
theorem dX10_goesThrough_207 : decode cX10_goesThrough 207 = .ok (.imul, 1) := by decide +kernel
theorem dX10_goesThrough_208 : decode cX10_goesThrough 208 = .ok (.iload 7, 2) := by decide +kernel
theorem dX10_goesThrough_210 : decode cX10_goesThrough 210 = .ok (.iadd, 1) := by decide +kernel
theorem dX10_goesThrough_211 : decode cX10_goesThrough 211 = .ok (.iconst 1, 1) := by decide +kernel
theorem dX10_goesThrough_212 : decode cX10_goesThrough 212 = .ok (.iadd, 1) := by decide +kernel
theorem dX10_goesThrough_213 : decode cX10_goesThrough 213 = .ok (.iconst 4, 1) := by decide +kernel
theorem dX10_goesThrough_214 : decode cX10_goesThrough 214 = .ok (.aload_n 0, 1) := by decide +kernel
theorem dX10_goesThrough_215 : decode cX10_goesThrough 215 = .ok (.getfield 69, 3) := by decide +kernel
theorem dX10_goesThrough_218 : decode cX10_goesThrough 218 = .ok (.iload 7, 2) := by decide +kernel
theorem dX10_goesThrough_220 : decode cX10_goesThrough 220 = .ok (.iaload, 1) := by decide +kernel
theorem dX10_goesThrough_221 : decode cX10_goesThrough 221 = .ok (.imul, 1) := by decide +kernel
theorem dX10_goesThrough_222 : decode cX10_goesThrough 222 = .ok (.iload 6, 2) := by decide +kernel
theorem dX10_goesThrough_224 : decode cX10_goesThrough 224 = .ok (.iadd, 1) := by decide +kernel
theorem dX10_goesThrough_225 : decode cX10_goesThrough 225 = .ok (.iconst 1, 1) := by decide +kernel
theorem dX10_goesThrough_226 : decode cX10_goesThrough 226 = .ok (.iadd, 1) := by decide +kernel
theorem dX10_goesThrough_227 : decode cX10_goesThrough 227 = .ok (.invokevirtual 313, 3) := by decide +kernel
theorem dX10_goesThrough_230 : decode cX10_goesThrough 230 = .ok (.iinc 7 1, 3) := by decide +kernel
theorem dX10_goesThrough_233 : decode cX10_goesThrough 233 = .ok (.goto (-42), 3) := by decide +kernel
theorem dX10_goesThrough_236 : decode cX10_goesThrough 236 = .ok (.iinc 6 1, 3) := by decide +kernel
theorem dX10_goesThrough_239 : decode cX10_goesThrough 239 = .ok (.goto (-58), 3) := by decide +kernel
theorem dX10_goesThrough_242 : decode cX10_goesThrough 242 = .ok (.return_, 1) := by decide +kernel
theorem dX10_works_0 : decode cX10_works 0 = .ok (.aload_n 0, 1) := by decide +kernel
theorem dX10_works_1 : decode cX10_works 1 = .ok (.getfield 45, 3) := by decide +kernel
theorem dX10_works_4 : decode cX10_works 4 = .ok (.iconst 4, 1) := by decide +kernel
theorem dX10_works_5 : decode cX10_works 5 = .ok (.iload_n 1, 1) := by decide +kernel
theorem dX10_works_6 : decode cX10_works 6 = .ok (.imul, 1) := by decide +kernel
theorem dX10_works_7 : decode cX10_works 7 = .ok (.iaload, 1) := by decide +kernel
theorem dX10_works_8 : decode cX10_works 8 = .ok (.iconst 4, 1) := by decide +kernel
theorem dX10_works_9 : decode cX10_works 9 = .ok (.idiv, 1) := by decide +kernel
theorem dX10_works_10 : decode cX10_works 10 = .ok (.istore_n 2, 1) := by decide +kernel
theorem dX10_works_11 : decode cX10_works 11 = .ok (.aload_n 0, 1) := by decide +kernel
theorem dX10_works_12 : decode cX10_works 12 = .ok (.iload_n 1, 1) := by decide +kernel
theorem dX10_works_13 : decode cX10_works 13 = .ok (.iload_n 2, 1) := by decide +kernel
theorem dX10_works_14 : decode cX10_works 14 = .ok (.invokevirtual 358, 3) := by decide +kernel
theorem dX10_works_17 : decode cX10_works 17 = .ok (.istore_n 3, 1) := by decide +kernel
theorem dX10_works_18 : decode cX10_works 18 = .ok (.iload_n 3, 1) := by decide +kernel
theorem dX10_works_19 : decode cX10_works 19 = .ok (.bipush (-2), 2) := by decide +kernel
theorem dX10_works_21 : decode cX10_works 21 = .ok (.if_icmp .ne 6, 3) := by decide +kernel
theorem dX10_works_24 : decode cX10_works 24 = .ok (.bipush (-2), 2) := by decide +kernel
theorem dX10_works_26 : decode cX10_works 26 = .ok (.ireturn, 1) := by decide +kernel
theorem dX10_works_27 : decode cX10_works 27 = .ok (.aload_n 0, 1) := by decide +kernel
theorem dX10_works_28 : decode cX10_works 28 = .ok (.getfield 281, 3) := by decide +kernel
theorem dX10_works_31 : decode cX10_works 31 = .ok (.aload_n 0, 1) := by decide +kernel
theorem dX10_works_32 : decode cX10_works 32 = .ok (.iload_n 1, 1) := by decide +kernel
theorem dX10_works_33 : decode cX10_works 33 = .ok (.iload_n 2, 1) := by decide +kernel
theorem dX10_works_34 : decode cX10_works 34 = .ok (.iload_n 3, 1) := by decide +kernel
theorem dX10_works_35 : decode cX10_works 35 = .ok (.invokevirtual 361, 3) := by decide +kernel
theorem dX10_works_38 : decode cX10_works 38 = .ok (.iadd, 1) := by decide +kernel
theorem dX10_works_39 : decode cX10_works 39 = .ok (.sipush 400, 3) := by decide +kernel
theorem dX10_works_42 : decode cX10_works 42 = .ok (.if_icmp .le 5, 3) := by decide +kernel
theorem dX10_works_45 : decode cX10_works 45 = .ok (.iconst (-1), 1) := by decide +kernel
theorem dX10_works_46 : decode cX10_works 46 = .ok (.ireturn, 1) := by decide +kernel
theorem dX10_works_47 : decode cX10_works 47 = .ok (.aload_n 0, 1) := by decide +kernel
theorem dX10_works_48 : decode cX10_works 48 = .ok (.iload_n 1, 1) := by decide +kernel
theorem dX10_works_49 : decode cX10_works 49 = .ok (.sipush 8000, 3) := by decide +kernel
theorem dX10_works_52 : decode cX10_works 52 = .ok (.invokevirtual 364, 3) := by decide +kernel
theorem dX10_works_55 : decode cX10_works 55 = .ok (.aload_n 0, 1) := by decide +kernel
theorem dX10_works_56 : decode cX10_works 56 = .ok (.iload_n 2, 1) := by decide +kernel
theorem dX10_works_57 : decode cX10_works 57 = .ok (.sipush 8001, 3) := by decide +kernel
theorem dX10_works_60 : decode cX10_works 60 = .ok (.invokevirtual 364, 3) := by decide +kernel
theorem dX10_works_63 : decode cX10_works 63 = .ok (.sipush 8000, 3) := by decide +kernel
theorem dX10_works_66 : decode cX10_works 66 = .ok (.istore 4, 2) := by decide +kernel
theorem dX10_works_68 : decode cX10_works 68 = .ok (.sipush 8001, 3) := by decide +kernel
theorem dX10_works_71 : decode cX10_works 71 = .ok (.istore 5, 2) := by decide +kernel
theorem dX10_works_73 : decode cX10_works 73 = .ok (.iload_n 3, 1) := by decide +kernel
theorem dX10_works_74 : decode cX10_works 74 = .ok (.tableswitch 129 1 5 #[84, 84, 129, 129, 34], 34) := by decide +kernel
theorem dX10_works_108 : decode cX10_works 108 = .ok (.aload_n 0, 1) := by decide +kernel
theorem dX10_works_109 : decode cX10_works 109 = .ok (.getfield 39, 3) := by decide +kernel
theorem dX10_works_112 : decode cX10_works 112 = .ok (.iload 4, 2) := by decide +kernel
theorem dX10_works_114 : decode cX10_works 114 = .ok (.iaload, 1) := by decide +kernel
theorem dX10_works_115 : decode cX10_works 115 = .ok (.bipush 6, 2) := by decide +kernel
theorem dX10_works_117 : decode cX10_works 117 = .ok (.if_icmp .ne 15, 3) := by decide +kernel
theorem dX10_works_120 : decode cX10_works 120 = .ok (.aload_n 0, 1) := by decide +kernel
theorem dX10_works_121 : decode cX10_works 121 = .ok (.getfield 39, 3) := by decide +kernel
theorem dX10_works_124 : decode cX10_works 124 = .ok (.iload 5, 2) := by decide +kernel
theorem dX10_works_126 : decode cX10_works 126 = .ok (.iaload, 1) := by decide +kernel
theorem dX10_works_127 : decode cX10_works 127 = .ok (.bipush 6, 2) := by decide +kernel
theorem dX10_works_129 : decode cX10_works 129 = .ok (.if_icmp .eq 126, 3) := by decide +kernel
theorem dX10_works_132 : decode cX10_works 132 = .ok (.aload_n 0, 1) := by decide +kernel
theorem dX10_works_133 : decode cX10_works 133 = .ok (.aload_n 0, 1) := by decide +kernel
theorem dX10_works_134 : decode cX10_works 134 = .ok (.getfield 39, 3) := by decide +kernel
theorem dX10_works_137 : decode cX10_works 137 = .ok (.iload 4, 2) := by decide +kernel
theorem dX10_works_139 : decode cX10_works 139 = .ok (.iaload, 1) := by decide +kernel
theorem dX10_works_140 : decode cX10_works 140 = .ok (.bipush 6, 2) := by decide +kernel
theorem dX10_works_142 : decode cX10_works 142 = .ok (.if_icmp .ne 8, 3) := by decide +kernel
theorem dX10_works_145 : decode cX10_works 145 = .ok (.iload 5, 2) := by decide +kernel
theorem dX10_works_147 : decode cX10_works 147 = .ok (.goto 5, 3) := by decide +kernel
theorem dX10_works_150 : decode cX10_works 150 = .ok (.iload 4, 2) := by decide +kernel
theorem dX10_works_152 : decode cX10_works 152 = .ok (.invokevirtual 367, 3) := by decide +kernel
theorem dX10_works_155 : decode cX10_works 155 = .ok (.goto 100, 3) := by decide +kernel
theorem dX10_works_158 : decode cX10_works 158 = .ok (.iconst 1, 1) := by decide +kernel
theorem dX10_works_159 : decode cX10_works 159 = .ok (.istore 6, 2) := by decide +kernel
theorem dX10_works_161 : decode cX10_works 161 = .ok (.iload 6, 2) := by decide +kernel
theorem dX10_works_163 : decode cX10_works 163 = .ok (.aload_n 0, 1) := by decide +kernel
theorem dX10_works_164 : decode cX10_works 164 = .ok (.getfield 39, 3) := by decide +kernel
theorem dX10_works_167 : decode cX10_works 167 = .ok (.iload 4, 2) := by decide +kernel
theorem dX10_works_169 : decode cX10_works 169 = .ok (.iaload, 1) := by decide +kernel
theorem dX10_works_170 : decode cX10_works 170 = .ok (.invokestatic 352, 3) := by decide +kernel
theorem dX10_works_173 : decode cX10_works 173 = .ok (.if_icmp .ge 27, 3) := by decide +kernel
theorem dX10_works_176 : decode cX10_works 176 = .ok (.aload_n 0, 1) := by decide +kernel
theorem dX10_works_177 : decode cX10_works 177 = .ok (.iconst 4, 1) := by decide +kernel
theorem dX10_works_178 : decode cX10_works 178 = .ok (.iload 4, 2) := by decide +kernel
theorem dX10_works_180 : decode cX10_works 180 = .ok (.imul, 1) := by decide +kernel
theorem dX10_works_181 : decode cX10_works 181 = .ok (.iload 6, 2) := by decide +kernel
theorem dX10_works_183 : decode cX10_works 183 = .ok (.iadd, 1) := by decide +kernel
theorem dX10_works_184 : decode cX10_works 184 = .ok (.iconst 4, 1) := by decide +kernel
theorem dX10_works_185 : decode cX10_works 185 = .ok (.iload 5, 2) := by decide +kernel
theorem dX10_works_187 : decode cX10_works 187 = .ok (.imul, 1) := by decide +kernel
theorem dX10_works_188 : decode cX10_works 188 = .ok (.iload 6, 2) := by decide +kernel
theorem dX10_works_190 : decode cX10_works 190 = .ok (.iadd, 1) := by decide +kernel
theorem dX10_works_191 : decode cX10_works 191 = .ok (.invokevirtual 370, 3) := by decide +kernel
theorem dX10_works_194 : decode cX10_works 194 = .ok (.iinc 6 1, 3) := by decide +kernel
theorem dX10_works_197 : decode cX10_works 197 = .ok (.goto (-36), 3) := by decide +kernel
theorem dX10_works_200 : decode cX10_works 200 = .ok (.goto 55, 3) := by decide +kernel
theorem dX10_works_203 : decode cX10_works 203 = .ok (.aload_n 0, 1) := by decide +kernel
theorem dX10_works_204 : decode cX10_works 204 = .ok (.aload_n 0, 1) := by decide +kernel
theorem dX10_works_205 : decode cX10_works 205 = .ok (.getfield 42, 3) := by decide +kernel
theorem dX10_works_208 : decode cX10_works 208 = .ok (.iload 4, 2) := by decide +kernel
theorem dX10_works_210 : decode cX10_works 210 = .ok (.iaload, 1) := by decide +kernel
theorem dX10_works_211 : decode cX10_works 211 = .ok (.aload_n 0, 1) := by decide +kernel
theorem dX10_works_212 : decode cX10_works 212 = .ok (.getfield 42, 3) := by decide +kernel
theorem dX10_works_215 : decode cX10_works 215 = .ok (.iload 5, 2) := by decide +kernel
theorem dX10_works_217 : decode cX10_works 217 = .ok (.iaload, 1) := by decide +kernel
theorem dX10_works_218 : decode cX10_works 218 = .ok (.if_icmp .ge 8, 3) := by decide +kernel
theorem dX10_works_221 : decode cX10_works 221 = .ok (.iload 4, 2) := by decide +kernel
theorem dX10_works_223 : decode cX10_works 223 = .ok (.goto 5, 3) := by decide +kernel
theorem dX10_works_226 : decode cX10_works 226 = .ok (.iload 5, 2) := by decide +kernel
theorem dX10_works_228 : decode cX10_works 228 = .ok (.aload_n 0, 1) := by decide +kernel
theorem dX10_works_229 : decode cX10_works 229 = .ok (.getfield 42, 3) := by decide +kernel
theorem dX10_works_232 : decode cX10_works 232 = .ok (.iload 4, 2) := by decide +kernel
theorem dX10_works_234 : decode cX10_works 234 = .ok (.iaload, 1) := by decide +kernel
theorem dX10_works_235 : decode cX10_works 235 = .ok (.aload_n 0, 1) := by decide +kernel
theorem dX10_works_236 : decode cX10_works 236 = .ok (.getfield 42, 3) := by decide +kernel
theorem dX10_works_239 : decode cX10_works 239 = .ok (.iload 5, 2) := by decide +kernel
theorem dX10_works_241 : decode cX10_works 241 = .ok (.iaload, 1) := by decide +kernel
theorem dX10_works_242 : decode cX10_works 242 = .ok (.if_icmp .ge 8, 3) := by decide +kernel
theorem dX10_works_245 : decode cX10_works 245 = .ok (.iload 5, 2) := by decide +kernel
theorem dX10_works_247 : decode cX10_works 247 = .ok (.goto 5, 3) := by decide +kernel
theorem dX10_works_250 : decode cX10_works 250 = .ok (.iload 4, 2) := by decide +kernel
theorem dX10_works_252 : decode cX10_works 252 = .ok (.invokevirtual 373, 3) := by decide +kernel
theorem dX10_works_255 : decode cX10_works 255 = .ok (.aload_n 0, 1) := by decide +kernel
theorem dX10_works_256 : decode cX10_works 256 = .ok (.aload_n 0, 1) := by decide +kernel
theorem dX10_works_257 : decode cX10_works 257 = .ok (.getfield 281, 3) := by decide +kernel
theorem dX10_works_260 : decode cX10_works 260 = .ok (.aload_n 0, 1) := by decide +kernel
theorem dX10_works_261 : decode cX10_works 261 = .ok (.getfield 316, 3) := by decide +kernel
theorem dX10_works_264 : decode cX10_works 264 = .ok (.if_icmp .le 10, 3) := by decide +kernel
theorem dX10_works_267 : decode cX10_works 267 = .ok (.aload_n 0, 1) := by decide +kernel
theorem dX10_works_268 : decode cX10_works 268 = .ok (.getfield 281, 3) := by decide +kernel
theorem dX10_works_271 : decode cX10_works 271 = .ok (.goto 7, 3) := by decide +kernel
theorem dX10_works_274 : decode cX10_works 274 = .ok (.aload_n 0, 1) := by decide +kernel
theorem dX10_works_275 : decode cX10_works 275 = .ok (.getfield 316, 3) := by decide +kernel
theorem dX10_works_278 : decode cX10_works 278 = .ok (.putfield 316, 3) := by decide +kernel
theorem dX10_works_281 : decode cX10_works 281 = .ok (.iload_n 3, 1) := by decide +kernel
theorem dX10_works_282 : decode cX10_works 282 = .ok (.ireturn, 1) := by decide +kernel
theorem dX10_steps_0 : decode cX10_steps 0 = .ok (.aload_n 0, 1) := by decide +kernel
theorem dX10_steps_1 : decode cX10_steps 1 = .ok (.iload_n 1, 1) := by decide +kernel
theorem dX10_steps_2 : decode cX10_steps 2 = .ok (.invokevirtual 376, 3) := by decide +kernel
theorem dX10_steps_5 : decode cX10_steps 5 = .ok (.istore_n 2, 1) := by decide +kernel
theorem dX10_steps_6 : decode cX10_steps 6 = .ok (.iload_n 2, 1) := by decide +kernel
theorem dX10_steps_7 : decode cX10_steps 7 = .ok (.iconst (-1), 1) := by decide +kernel
theorem dX10_steps_8 : decode cX10_steps 8 = .ok (.if_icmp .ne 5, 3) := by decide +kernel
theorem dX10_steps_11 : decode cX10_steps 11 = .ok (.iconst 0, 1) := by decide +kernel
theorem dX10_steps_12 : decode cX10_steps 12 = .ok (.ireturn, 1) := by decide +kernel
theorem dX10_steps_13 : decode cX10_steps 13 = .ok (.aload_n 0, 1) := by decide +kernel
theorem dX10_steps_14 : decode cX10_steps 14 = .ok (.iload_n 2, 1) := by decide +kernel
theorem dX10_steps_15 : decode cX10_steps 15 = .ok (.invokevirtual 379, 3) := by decide +kernel
theorem dX10_steps_18 : decode cX10_steps 18 = .ok (.istore_n 3, 1) := by decide +kernel
theorem dX10_steps_19 : decode cX10_steps 19 = .ok (.iload_n 3, 1) := by decide +kernel
theorem dX10_steps_20 : decode cX10_steps 20 = .ok (.ifCond .le 23, 3) := by decide +kernel
theorem dX10_steps_23 : decode cX10_steps 23 = .ok (.aload_n 0, 1) := by decide +kernel
theorem dX10_steps_24 : decode cX10_steps 24 = .ok (.getfield 51, 3) := by decide +kernel
theorem dX10_steps_27 : decode cX10_steps 27 = .ok (.iconst 0, 1) := by decide +kernel
theorem dX10_steps_28 : decode cX10_steps 28 = .ok (.dup2, 1) := by decide +kernel
theorem dX10_steps_29 : decode cX10_steps 29 = .ok (.iaload, 1) := by decide +kernel
theorem dX10_steps_30 : decode cX10_steps 30 = .ok (.iconst 1, 1) := by decide +kernel
theorem dX10_steps_31 : decode cX10_steps 31 = .ok (.iadd, 1) := by decide +kernel
theorem dX10_steps_32 : decode cX10_steps 32 = .ok (.iastore, 1) := by decide +kernel
theorem dX10_steps_33 : decode cX10_steps 33 = .ok (.aload_n 0, 1) := by decide +kernel
theorem dX10_steps_34 : decode cX10_steps 34 = .ok (.getfield 51, 3) := by decide +kernel
theorem dX10_steps_37 : decode cX10_steps 37 = .ok (.iload_n 3, 1) := by decide +kernel
theorem dX10_steps_38 : decode cX10_steps 38 = .ok (.dup2, 1) := by decide +kernel
theorem dX10_steps_39 : decode cX10_steps 39 = .ok (.iaload, 1) := by decide +kernel
theorem dX10_steps_40 : decode cX10_steps 40 = .ok (.iconst 1, 1) := by decide +kernel
theorem dX10_steps_41 : decode cX10_steps 41 = .ok (.iadd, 1) := by decide +kernel
theorem dX10_steps_42 : decode cX10_steps 42 = .ok (.iastore, 1) := by decide +kernel
theorem dX10_steps_43 : decode cX10_steps 43 = .ok (.iload_n 3, 1) := by decide +kernel
theorem dX10_steps_44 : decode cX10_steps 44 = .ok (.ireturn, 1) := by decide +kernel
theorem dX10_isWay_0 : decode cX10_isWay 0 = .ok (.iload_n 0, 1) := by decide +kernel
theorem dX10_isWay_1 : decode cX10_isWay 1 = .ok (.iconst 0, 1) := by decide +kernel
theorem dX10_isWay_2 : decode cX10_isWay 2 = .ok (.iconst 2, 1) := by decide +kernel
theorem dX10_isWay_3 : decode cX10_isWay 3 = .ok (.invokestatic 154, 3) := by decide +kernel
theorem dX10_isWay_6 : decode cX10_isWay 6 = .ok (.ireturn, 1) := by decide +kernel
theorem dX10_step_0 : decode cX10_step 0 = .ok (.aload_n 0, 1) := by decide +kernel
theorem dX10_step_1 : decode cX10_step 1 = .ok (.iconst 0, 1) := by decide +kernel
theorem dX10_step_2 : decode cX10_step 2 = .ok (.putfield 141, 3) := by decide +kernel
theorem dX10_step_5 : decode cX10_step 5 = .ok (.aload_n 0, 1) := by decide +kernel
theorem dX10_step_6 : decode cX10_step 6 = .ok (.iload_n 1, 1) := by decide +kernel
theorem dX10_step_7 : decode cX10_step 7 = .ok (.invokestatic 382, 3) := by decide +kernel
theorem dX10_step_10 : decode cX10_step 10 = .ok (.iconst 1, 1) := by decide +kernel
theorem dX10_step_11 : decode cX10_step 11 = .ok (.invokevirtual 269, 3) := by decide +kernel
theorem dX10_step_14 : decode cX10_step 14 = .ok (.ifCond .eq 11, 3) := by decide +kernel
theorem dX10_step_17 : decode cX10_step 17 = .ok (.aload_n 0, 1) := by decide +kernel
theorem dX10_step_18 : decode cX10_step 18 = .ok (.iload_n 1, 1) := by decide +kernel
theorem dX10_step_19 : decode cX10_step 19 = .ok (.invokevirtual 385, 3) := by decide +kernel
theorem dX10_step_22 : decode cX10_step 22 = .ok (.goto 4, 3) := by decide +kernel
theorem dX10_step_25 : decode cX10_step 25 = .ok (.iconst 0, 1) := by decide +kernel
theorem dX10_step_26 : decode cX10_step 26 = .ok (.ireturn, 1) := by decide +kernel
theorem dX10_run_0 : decode cX10_run 0 = .ok (.aload_n 0, 1) := by decide +kernel
theorem dX10_run_1 : decode cX10_run 1 = .ok (.iconst 0, 1) := by decide +kernel
theorem dX10_run_2 : decode cX10_run 2 = .ok (.putfield 141, 3) := by decide +kernel
theorem dX10_run_5 : decode cX10_run 5 = .ok (.aload_n 0, 1) := by decide +kernel
theorem dX10_run_6 : decode cX10_run 6 = .ok (.iload_n 1, 1) := by decide +kernel
theorem dX10_run_7 : decode cX10_run 7 = .ok (.invokestatic 382, 3) := by decide +kernel
theorem dX10_run_10 : decode cX10_run 10 = .ok (.ifCond .eq 17, 3) := by decide +kernel
theorem dX10_run_13 : decode cX10_run 13 = .ok (.iload_n 2, 1) := by decide +kernel
theorem dX10_run_14 : decode cX10_run 14 = .ok (.iconst 0, 1) := by decide +kernel
theorem dX10_run_15 : decode cX10_run 15 = .ok (.bipush 60, 2) := by decide +kernel
theorem dX10_run_17 : decode cX10_run 17 = .ok (.invokestatic 154, 3) := by decide +kernel
theorem dX10_run_20 : decode cX10_run 20 = .ok (.ifCond .eq 7, 3) := by decide +kernel
theorem dX10_run_23 : decode cX10_run 23 = .ok (.iconst 1, 1) := by decide +kernel
theorem dX10_run_24 : decode cX10_run 24 = .ok (.goto 4, 3) := by decide +kernel
theorem dX10_run_27 : decode cX10_run 27 = .ok (.iconst 0, 1) := by decide +kernel
theorem dX10_run_28 : decode cX10_run 28 = .ok (.iconst 1, 1) := by decide +kernel
theorem dX10_run_29 : decode cX10_run 29 = .ok (.invokevirtual 269, 3) := by decide +kernel
theorem dX10_run_32 : decode cX10_run 32 = .ok (.ifCond .ne 5, 3) := by decide +kernel
theorem dX10_run_35 : decode cX10_run 35 = .ok (.iconst 0, 1) := by decide +kernel
theorem dX10_run_36 : decode cX10_run 36 = .ok (.ireturn, 1) := by decide +kernel
theorem dX10_run_37 : decode cX10_run 37 = .ok (.iconst 0, 1) := by decide +kernel
theorem dX10_run_38 : decode cX10_run 38 = .ok (.istore_n 3, 1) := by decide +kernel
theorem dX10_run_39 : decode cX10_run 39 = .ok (.iload_n 3, 1) := by decide +kernel
theorem dX10_run_40 : decode cX10_run 40 = .ok (.iload_n 2, 1) := by decide +kernel
theorem dX10_run_41 : decode cX10_run 41 = .ok (.if_icmp .ge 17, 3) := by decide +kernel
theorem dX10_run_44 : decode cX10_run 44 = .ok (.aload_n 0, 1) := by decide +kernel
theorem dX10_run_45 : decode cX10_run 45 = .ok (.iload_n 1, 1) := by decide +kernel
theorem dX10_run_46 : decode cX10_run 46 = .ok (.invokevirtual 385, 3) := by decide +kernel
theorem dX10_run_49 : decode cX10_run 49 = .ok (.ifCond .le 9, 3) := by decide +kernel
theorem dX10_run_52 : decode cX10_run 52 = .ok (.iinc 3 1, 3) := by decide +kernel
theorem dX10_run_55 : decode cX10_run 55 = .ok (.goto (-16), 3) := by decide +kernel
theorem dX10_run_58 : decode cX10_run 58 = .ok (.iload_n 3, 1) := by decide +kernel
theorem dX10_run_59 : decode cX10_run 59 = .ok (.ireturn, 1) := by decide +kernel
theorem dX10_tries_0 : decode cX10_tries 0 = .ok (.aload_n 0, 1) := by decide +kernel
theorem dX10_tries_1 : decode cX10_tries 1 = .ok (.invokevirtual 325, 3) := by decide +kernel
theorem dX10_tries_4 : decode cX10_tries 4 = .ok (.aload_n 0, 1) := by decide +kernel
theorem dX10_tries_5 : decode cX10_tries 5 = .ok (.getfield 316, 3) := by decide +kernel
theorem dX10_tries_8 : decode cX10_tries 8 = .ok (.istore_n 2, 1) := by decide +kernel
theorem dX10_tries_9 : decode cX10_tries 9 = .ok (.aload_n 0, 1) := by decide +kernel
theorem dX10_tries_10 : decode cX10_tries 10 = .ok (.getfield 51, 3) := by decide +kernel
theorem dX10_tries_13 : decode cX10_tries 13 = .ok (.iconst 1, 1) := by decide +kernel
theorem dX10_tries_14 : decode cX10_tries 14 = .ok (.iaload, 1) := by decide +kernel
theorem dX10_tries_15 : decode cX10_tries 15 = .ok (.istore_n 3, 1) := by decide +kernel
theorem dX10_tries_16 : decode cX10_tries 16 = .ok (.aload_n 0, 1) := by decide +kernel
theorem dX10_tries_17 : decode cX10_tries 17 = .ok (.aload_n 0, 1) := by decide +kernel
theorem dX10_tries_18 : decode cX10_tries 18 = .ok (.getfield 281, 3) := by decide +kernel
theorem dX10_tries_21 : decode cX10_tries 21 = .ok (.putfield 316, 3) := by decide +kernel
theorem dX10_tries_24 : decode cX10_tries 24 = .ok (.iconst 0, 1) := by decide +kernel
theorem dX10_tries_25 : decode cX10_tries 25 = .ok (.istore 4, 2) := by decide +kernel
theorem dX10_tries_27 : decode cX10_tries 27 = .ok (.iconst 1, 1) := by decide +kernel
theorem dX10_tries_28 : decode cX10_tries 28 = .ok (.istore 5, 2) := by decide +kernel
theorem dX10_tries_30 : decode cX10_tries 30 = .ok (.iload 4, 2) := by decide +kernel
theorem dX10_tries_32 : decode cX10_tries 32 = .ok (.sipush 400, 3) := by decide +kernel
theorem dX10_tries_35 : decode cX10_tries 35 = .ok (.if_icmp .ge 65, 3) := by decide +kernel
theorem dX10_tries_38 : decode cX10_tries 38 = .ok (.iload 5, 2) := by decide +kernel
theorem dX10_tries_40 : decode cX10_tries 40 = .ok (.ifCond .le 60, 3) := by decide +kernel
theorem dX10_tries_43 : decode cX10_tries 43 = .ok (.aload_n 0, 1) := by decide +kernel
theorem dX10_tries_44 : decode cX10_tries 44 = .ok (.iload_n 1, 1) := by decide +kernel
theorem dX10_tries_45 : decode cX10_tries 45 = .ok (.invokevirtual 376, 3) := by decide +kernel
theorem dX10_tries_48 : decode cX10_tries 48 = .ok (.istore 6, 2) := by decide +kernel
theorem dX10_tries_50 : decode cX10_tries 50 = .ok (.iload 6, 2) := by decide +kernel
theorem dX10_tries_52 : decode cX10_tries 52 = .ok (.iconst (-1), 1) := by decide +kernel
theorem dX10_tries_53 : decode cX10_tries 53 = .ok (.if_icmp .ne 7, 3) := by decide +kernel
theorem dX10_tries_56 : decode cX10_tries 56 = .ok (.iconst 0, 1) := by decide +kernel
theorem dX10_tries_57 : decode cX10_tries 57 = .ok (.goto 9, 3) := by decide +kernel
theorem dX10_tries_60 : decode cX10_tries 60 = .ok (.aload_n 0, 1) := by decide +kernel
theorem dX10_tries_61 : decode cX10_tries 61 = .ok (.iload 6, 2) := by decide +kernel
theorem dX10_tries_63 : decode cX10_tries 63 = .ok (.invokevirtual 379, 3) := by decide +kernel
theorem dX10_tries_66 : decode cX10_tries 66 = .ok (.istore 5, 2) := by decide +kernel
theorem dX10_tries_68 : decode cX10_tries 68 = .ok (.iload_n 3, 1) := by decide +kernel
theorem dX10_tries_69 : decode cX10_tries 69 = .ok (.iload 5, 2) := by decide +kernel
theorem dX10_tries_71 : decode cX10_tries 71 = .ok (.iconst 1, 1) := by decide +kernel
theorem dX10_tries_72 : decode cX10_tries 72 = .ok (.if_icmp .ne 7, 3) := by decide +kernel
theorem dX10_tries_75 : decode cX10_tries 75 = .ok (.iconst 1, 1) := by decide +kernel
theorem dX10_tries_76 : decode cX10_tries 76 = .ok (.goto 4, 3) := by decide +kernel
theorem dX10_tries_79 : decode cX10_tries 79 = .ok (.iconst 0, 1) := by decide +kernel
theorem dX10_tries_80 : decode cX10_tries 80 = .ok (.iadd, 1) := by decide +kernel
theorem dX10_tries_81 : decode cX10_tries 81 = .ok (.istore_n 3, 1) := by decide +kernel
theorem dX10_tries_82 : decode cX10_tries 82 = .ok (.iload 4, 2) := by decide +kernel
theorem dX10_tries_84 : decode cX10_tries 84 = .ok (.iload 5, 2) := by decide +kernel
theorem dX10_tries_86 : decode cX10_tries 86 = .ok (.ifCond .le 7, 3) := by decide +kernel
theorem dX10_tries_89 : decode cX10_tries 89 = .ok (.iconst 1, 1) := by decide +kernel
theorem dX10_tries_90 : decode cX10_tries 90 = .ok (.goto 4, 3) := by decide +kernel
theorem dX10_tries_93 : decode cX10_tries 93 = .ok (.iconst 0, 1) := by decide +kernel
theorem dX10_tries_94 : decode cX10_tries 94 = .ok (.iadd, 1) := by decide +kernel
theorem dX10_tries_95 : decode cX10_tries 95 = .ok (.istore 4, 2) := by decide +kernel
theorem dX10_tries_97 : decode cX10_tries 97 = .ok (.goto (-67), 3) := by decide +kernel
theorem dX10_tries_100 : decode cX10_tries 100 = .ok (.aload_n 0, 1) := by decide +kernel
theorem dX10_tries_101 : decode cX10_tries 101 = .ok (.getfield 72, 3) := by decide +kernel
theorem dX10_tries_104 : decode cX10_tries 104 = .ok (.iconst 0, 1) := by decide +kernel
theorem dX10_tries_105 : decode cX10_tries 105 = .ok (.iload 4, 2) := by decide +kernel
theorem dX10_tries_107 : decode cX10_tries 107 = .ok (.iastore, 1) := by decide +kernel
theorem dX10_tries_108 : decode cX10_tries 108 = .ok (.aload_n 0, 1) := by decide +kernel
theorem dX10_tries_109 : decode cX10_tries 109 = .ok (.getfield 72, 3) := by decide +kernel
theorem dX10_tries_112 : decode cX10_tries 112 = .ok (.iconst 1, 1) := by decide +kernel
theorem dX10_tries_113 : decode cX10_tries 113 = .ok (.iload_n 3, 1) := by decide +kernel
theorem dX10_tries_114 : decode cX10_tries 114 = .ok (.aload_n 0, 1) := by decide +kernel
theorem dX10_tries_115 : decode cX10_tries 115 = .ok (.getfield 51, 3) := by decide +kernel
theorem dX10_tries_118 : decode cX10_tries 118 = .ok (.iconst 1, 1) := by decide +kernel
theorem dX10_tries_119 : decode cX10_tries 119 = .ok (.iaload, 1) := by decide +kernel
theorem dX10_tries_120 : decode cX10_tries 120 = .ok (.isub, 1) := by decide +kernel
theorem dX10_tries_121 : decode cX10_tries 121 = .ok (.iastore, 1) := by decide +kernel
theorem dX10_tries_122 : decode cX10_tries 122 = .ok (.aload_n 0, 1) := by decide +kernel
theorem dX10_tries_123 : decode cX10_tries 123 = .ok (.getfield 72, 3) := by decide +kernel
theorem dX10_tries_126 : decode cX10_tries 126 = .ok (.iconst 2, 1) := by decide +kernel
theorem dX10_tries_127 : decode cX10_tries 127 = .ok (.aload_n 0, 1) := by decide +kernel
theorem dX10_tries_128 : decode cX10_tries 128 = .ok (.getfield 316, 3) := by decide +kernel
theorem dX10_tries_131 : decode cX10_tries 131 = .ok (.iastore, 1) := by decide +kernel
theorem dX10_tries_132 : decode cX10_tries 132 = .ok (.aload_n 0, 1) := by decide +kernel
theorem dX10_tries_133 : decode cX10_tries 133 = .ok (.getfield 72, 3) := by decide +kernel
theorem dX10_tries_136 : decode cX10_tries 136 = .ok (.iconst 3, 1) := by decide +kernel
theorem dX10_tries_137 : decode cX10_tries 137 = .ok (.iload 5, 2) := by decide +kernel
theorem dX10_tries_139 : decode cX10_tries 139 = .ok (.ifCond .le 7, 3) := by decide +kernel
theorem dX10_tries_142 : decode cX10_tries 142 = .ok (.iconst 1, 1) := by decide +kernel
theorem dX10_tries_143 : decode cX10_tries 143 = .ok (.goto 5, 3) := by decide +kernel
theorem dX10_tries_146 : decode cX10_tries 146 = .ok (.iload 5, 2) := by decide +kernel
theorem dX10_tries_148 : decode cX10_tries 148 = .ok (.iastore, 1) := by decide +kernel
theorem dX10_tries_149 : decode cX10_tries 149 = .ok (.aload_n 0, 1) := by decide +kernel
theorem dX10_tries_150 : decode cX10_tries 150 = .ok (.iload_n 2, 1) := by decide +kernel
theorem dX10_tries_151 : decode cX10_tries 151 = .ok (.putfield 316, 3) := by decide +kernel
theorem dX10_tries_154 : decode cX10_tries 154 = .ok (.aload_n 0, 1) := by decide +kernel
theorem dX10_tries_155 : decode cX10_tries 155 = .ok (.invokevirtual 331, 3) := by decide +kernel
theorem dX10_tries_158 : decode cX10_tries 158 = .ok (.return_, 1) := by decide +kernel
theorem dX10_trial_0 : decode cX10_trial 0 = .ok (.aload_n 0, 1) := by decide +kernel
theorem dX10_trial_1 : decode cX10_trial 1 = .ok (.iconst 0, 1) := by decide +kernel
theorem dX10_trial_2 : decode cX10_trial 2 = .ok (.putfield 141, 3) := by decide +kernel
theorem dX10_trial_5 : decode cX10_trial 5 = .ok (.aload_n 0, 1) := by decide +kernel
theorem dX10_trial_6 : decode cX10_trial 6 = .ok (.iload_n 1, 1) := by decide +kernel
theorem dX10_trial_7 : decode cX10_trial 7 = .ok (.invokestatic 382, 3) := by decide +kernel
theorem dX10_trial_10 : decode cX10_trial 10 = .ok (.iconst 1, 1) := by decide +kernel
theorem dX10_trial_11 : decode cX10_trial 11 = .ok (.invokevirtual 269, 3) := by decide +kernel
theorem dX10_trial_14 : decode cX10_trial 14 = .ok (.ifCond .eq 17, 3) := by decide +kernel
theorem dX10_trial_17 : decode cX10_trial 17 = .ok (.aload_n 0, 1) := by decide +kernel
theorem dX10_trial_18 : decode cX10_trial 18 = .ok (.iload_n 2, 1) := by decide +kernel
theorem dX10_trial_19 : decode cX10_trial 19 = .ok (.iconst 0, 1) := by decide +kernel
theorem dX10_trial_20 : decode cX10_trial 20 = .ok (.iconst 3, 1) := by decide +kernel
theorem dX10_trial_21 : decode cX10_trial 21 = .ok (.invokestatic 154, 3) := by decide +kernel
theorem dX10_trial_24 : decode cX10_trial 24 = .ok (.iconst 2, 1) := by decide +kernel
theorem dX10_trial_25 : decode cX10_trial 25 = .ok (.invokevirtual 269, 3) := by decide +kernel
theorem dX10_trial_28 : decode cX10_trial 28 = .ok (.ifCond .ne 5, 3) := by decide +kernel
theorem dX10_trial_31 : decode cX10_trial 31 = .ok (.iconst 0, 1) := by decide +kernel
theorem dX10_trial_32 : decode cX10_trial 32 = .ok (.ireturn, 1) := by decide +kernel
theorem dX10_trial_33 : decode cX10_trial 33 = .ok (.aload_n 0, 1) := by decide +kernel
theorem dX10_trial_34 : decode cX10_trial 34 = .ok (.iload_n 1, 1) := by decide +kernel
theorem dX10_trial_35 : decode cX10_trial 35 = .ok (.invokevirtual 388, 3) := by decide +kernel
theorem dX10_trial_38 : decode cX10_trial 38 = .ok (.aload_n 0, 1) := by decide +kernel
theorem dX10_trial_39 : decode cX10_trial 39 = .ok (.getfield 72, 3) := by decide +kernel
theorem dX10_trial_42 : decode cX10_trial 42 = .ok (.iload_n 2, 1) := by decide +kernel
theorem dX10_trial_43 : decode cX10_trial 43 = .ok (.iaload, 1) := by decide +kernel
theorem dX10_trial_44 : decode cX10_trial 44 = .ok (.ireturn, 1) := by decide +kernel
theorem dX10_thing_0 : decode cX10_thing 0 = .ok (.iload_n 1, 1) := by decide +kernel
theorem dX10_thing_1 : decode cX10_thing 1 = .ok (.bipush 31, 2) := by decide +kernel
theorem dX10_thing_3 : decode cX10_thing 3 = .ok (.imul, 1) := by decide +kernel
theorem dX10_thing_4 : decode cX10_thing 4 = .ok (.iload_n 2, 1) := by decide +kernel
theorem dX10_thing_5 : decode cX10_thing 5 = .ok (.iadd, 1) := by decide +kernel
theorem dX10_thing_6 : decode cX10_thing 6 = .ok (.sipush 1009, 3) := by decide +kernel
theorem dX10_thing_9 : decode cX10_thing 9 = .ok (.imul, 1) := by decide +kernel
theorem dX10_thing_10 : decode cX10_thing 10 = .ok (.iload_n 3, 1) := by decide +kernel
theorem dX10_thing_11 : decode cX10_thing 11 = .ok (.iadd, 1) := by decide +kernel
theorem dX10_thing_12 : decode cX10_thing 12 = .ok (.sipush 16383, 3) := by decide +kernel
theorem dX10_thing_15 : decode cX10_thing 15 = .ok (.iand, 1) := by decide +kernel
theorem dX10_thing_16 : decode cX10_thing 16 = .ok (.istore 4, 2) := by decide +kernel
theorem dX10_thing_18 : decode cX10_thing 18 = .ok (.aload_n 0, 1) := by decide +kernel
theorem dX10_thing_19 : decode cX10_thing 19 = .ok (.getfield 87, 3) := by decide +kernel
theorem dX10_thing_22 : decode cX10_thing 22 = .ok (.iload 4, 2) := by decide +kernel
theorem dX10_thing_24 : decode cX10_thing 24 = .ok (.iaload, 1) := by decide +kernel
theorem dX10_thing_25 : decode cX10_thing 25 = .ok (.istore 5, 2) := by decide +kernel
theorem dX10_thing_27 : decode cX10_thing 27 = .ok (.iload 5, 2) := by decide +kernel
theorem dX10_thing_29 : decode cX10_thing 29 = .ok (.ifCond .eq 51, 3) := by decide +kernel
theorem dX10_thing_32 : decode cX10_thing 32 = .ok (.aload_n 0, 1) := by decide +kernel
theorem dX10_thing_33 : decode cX10_thing 33 = .ok (.getfield 75, 3) := by decide +kernel
theorem dX10_thing_36 : decode cX10_thing 36 = .ok (.iload 5, 2) := by decide +kernel
theorem dX10_thing_38 : decode cX10_thing 38 = .ok (.iaload, 1) := by decide +kernel
theorem dX10_thing_39 : decode cX10_thing 39 = .ok (.iload_n 1, 1) := by decide +kernel
theorem dX10_thing_40 : decode cX10_thing 40 = .ok (.if_icmp .ne 28, 3) := by decide +kernel
theorem dX10_thing_43 : decode cX10_thing 43 = .ok (.aload_n 0, 1) := by decide +kernel
theorem dX10_thing_44 : decode cX10_thing 44 = .ok (.getfield 78, 3) := by decide +kernel
theorem dX10_thing_47 : decode cX10_thing 47 = .ok (.iload 5, 2) := by decide +kernel
theorem dX10_thing_49 : decode cX10_thing 49 = .ok (.iaload, 1) := by decide +kernel
theorem dX10_thing_50 : decode cX10_thing 50 = .ok (.iload_n 2, 1) := by decide +kernel
theorem dX10_thing_51 : decode cX10_thing 51 = .ok (.if_icmp .ne 17, 3) := by decide +kernel
theorem dX10_thing_54 : decode cX10_thing 54 = .ok (.aload_n 0, 1) := by decide +kernel
theorem dX10_thing_55 : decode cX10_thing 55 = .ok (.getfield 81, 3) := by decide +kernel
theorem dX10_thing_58 : decode cX10_thing 58 = .ok (.iload 5, 2) := by decide +kernel
theorem dX10_thing_60 : decode cX10_thing 60 = .ok (.iaload, 1) := by decide +kernel
theorem dX10_thing_61 : decode cX10_thing 61 = .ok (.iload_n 3, 1) := by decide +kernel
theorem dX10_thing_62 : decode cX10_thing 62 = .ok (.if_icmp .ne 6, 3) := by decide +kernel
theorem dX10_thing_65 : decode cX10_thing 65 = .ok (.iload 5, 2) := by decide +kernel
theorem dX10_thing_67 : decode cX10_thing 67 = .ok (.ireturn, 1) := by decide +kernel
theorem dX10_thing_68 : decode cX10_thing 68 = .ok (.aload_n 0, 1) := by decide +kernel
theorem dX10_thing_69 : decode cX10_thing 69 = .ok (.getfield 84, 3) := by decide +kernel
theorem dX10_thing_72 : decode cX10_thing 72 = .ok (.iload 5, 2) := by decide +kernel
theorem dX10_thing_74 : decode cX10_thing 74 = .ok (.iaload, 1) := by decide +kernel
theorem dX10_thing_75 : decode cX10_thing 75 = .ok (.istore 5, 2) := by decide +kernel
theorem dX10_thing_77 : decode cX10_thing 77 = .ok (.goto (-50), 3) := by decide +kernel
theorem dX10_thing_80 : decode cX10_thing 80 = .ok (.aload_n 0, 1) := by decide +kernel
theorem dX10_thing_81 : decode cX10_thing 81 = .ok (.dup, 1) := by decide +kernel
theorem dX10_thing_82 : decode cX10_thing 82 = .ok (.getfield 391, 3) := by decide +kernel
theorem dX10_thing_85 : decode cX10_thing 85 = .ok (.iconst 1, 1) := by decide +kernel
theorem dX10_thing_86 : decode cX10_thing 86 = .ok (.iadd, 1) := by decide +kernel
theorem dX10_thing_87 : decode cX10_thing 87 = .ok (.putfield 391, 3) := by decide +kernel
theorem dX10_thing_90 : decode cX10_thing 90 = .ok (.aload_n 0, 1) := by decide +kernel
theorem dX10_thing_91 : decode cX10_thing 91 = .ok (.getfield 75, 3) := by decide +kernel
theorem dX10_thing_94 : decode cX10_thing 94 = .ok (.aload_n 0, 1) := by decide +kernel
theorem dX10_thing_95 : decode cX10_thing 95 = .ok (.getfield 391, 3) := by decide +kernel
theorem dX10_thing_98 : decode cX10_thing 98 = .ok (.iload_n 1, 1) := by decide +kernel
theorem dX10_thing_99 : decode cX10_thing 99 = .ok (.iastore, 1) := by decide +kernel
theorem dX10_thing_100 : decode cX10_thing 100 = .ok (.aload_n 0, 1) := by decide +kernel
theorem dX10_thing_101 : decode cX10_thing 101 = .ok (.getfield 78, 3) := by decide +kernel
theorem dX10_thing_104 : decode cX10_thing 104 = .ok (.aload_n 0, 1) := by decide +kernel
theorem dX10_thing_105 : decode cX10_thing 105 = .ok (.getfield 391, 3) := by decide +kernel
theorem dX10_thing_108 : decode cX10_thing 108 = .ok (.iload_n 2, 1) := by decide +kernel
theorem dX10_thing_109 : decode cX10_thing 109 = .ok (.iastore, 1) := by decide +kernel
theorem dX10_thing_110 : decode cX10_thing 110 = .ok (.aload_n 0, 1) := by decide +kernel
theorem dX10_thing_111 : decode cX10_thing 111 = .ok (.getfield 81, 3) := by decide +kernel
theorem dX10_thing_114 : decode cX10_thing 114 = .ok (.aload_n 0, 1) := by decide +kernel
theorem dX10_thing_115 : decode cX10_thing 115 = .ok (.getfield 391, 3) := by decide +kernel
theorem dX10_thing_118 : decode cX10_thing 118 = .ok (.iload_n 3, 1) := by decide +kernel
theorem dX10_thing_119 : decode cX10_thing 119 = .ok (.iastore, 1) := by decide +kernel
theorem dX10_thing_120 : decode cX10_thing 120 = .ok (.aload_n 0, 1) := by decide +kernel
theorem dX10_thing_121 : decode cX10_thing 121 = .ok (.getfield 84, 3) := by decide +kernel
theorem dX10_thing_124 : decode cX10_thing 124 = .ok (.aload_n 0, 1) := by decide +kernel
theorem dX10_thing_125 : decode cX10_thing 125 = .ok (.getfield 391, 3) := by decide +kernel
theorem dX10_thing_128 : decode cX10_thing 128 = .ok (.aload_n 0, 1) := by decide +kernel
theorem dX10_thing_129 : decode cX10_thing 129 = .ok (.getfield 87, 3) := by decide +kernel
theorem dX10_thing_132 : decode cX10_thing 132 = .ok (.iload 4, 2) := by decide +kernel
theorem dX10_thing_134 : decode cX10_thing 134 = .ok (.iaload, 1) := by decide +kernel
theorem dX10_thing_135 : decode cX10_thing 135 = .ok (.iastore, 1) := by decide +kernel
theorem dX10_thing_136 : decode cX10_thing 136 = .ok (.aload_n 0, 1) := by decide +kernel
theorem dX10_thing_137 : decode cX10_thing 137 = .ok (.getfield 87, 3) := by decide +kernel
theorem dX10_thing_140 : decode cX10_thing 140 = .ok (.iload 4, 2) := by decide +kernel
theorem dX10_thing_142 : decode cX10_thing 142 = .ok (.aload_n 0, 1) := by decide +kernel
theorem dX10_thing_143 : decode cX10_thing 143 = .ok (.getfield 391, 3) := by decide +kernel
theorem dX10_thing_146 : decode cX10_thing 146 = .ok (.iastore, 1) := by decide +kernel
theorem dX10_thing_147 : decode cX10_thing 147 = .ok (.aload_n 0, 1) := by decide +kernel
theorem dX10_thing_148 : decode cX10_thing 148 = .ok (.getfield 391, 3) := by decide +kernel
theorem dX10_thing_151 : decode cX10_thing 151 = .ok (.ireturn, 1) := by decide +kernel
theorem dX10_stackAt_0 : decode cX10_stackAt 0 = .ok (.iload_n 1, 1) := by decide +kernel
theorem dX10_stackAt_1 : decode cX10_stackAt 1 = .ok (.aload_n 0, 1) := by decide +kernel
theorem dX10_stackAt_2 : decode cX10_stackAt 2 = .ok (.getfield 394, 3) := by decide +kernel
theorem dX10_stackAt_5 : decode cX10_stackAt 5 = .ok (.if_icmp .ge 12, 3) := by decide +kernel
theorem dX10_stackAt_8 : decode cX10_stackAt 8 = .ok (.aload_n 0, 1) := by decide +kernel
theorem dX10_stackAt_9 : decode cX10_stackAt 9 = .ok (.getfield 90, 3) := by decide +kernel
theorem dX10_stackAt_12 : decode cX10_stackAt 12 = .ok (.iload_n 1, 1) := by decide +kernel
theorem dX10_stackAt_13 : decode cX10_stackAt 13 = .ok (.iaload, 1) := by decide +kernel
theorem dX10_stackAt_14 : decode cX10_stackAt 14 = .ok (.goto 4, 3) := by decide +kernel
theorem dX10_stackAt_17 : decode cX10_stackAt 17 = .ok (.iconst 0, 1) := by decide +kernel
theorem dX10_stackAt_18 : decode cX10_stackAt 18 = .ok (.ireturn, 1) := by decide +kernel
theorem dX10_setStack_0 : decode cX10_setStack 0 = .ok (.aload_n 0, 1) := by decide +kernel
theorem dX10_setStack_1 : decode cX10_setStack 1 = .ok (.getfield 394, 3) := by decide +kernel
theorem dX10_setStack_4 : decode cX10_setStack 4 = .ok (.iload_n 1, 1) := by decide +kernel
theorem dX10_setStack_5 : decode cX10_setStack 5 = .ok (.if_icmp .gt 26, 3) := by decide +kernel
theorem dX10_setStack_8 : decode cX10_setStack 8 = .ok (.aload_n 0, 1) := by decide +kernel
theorem dX10_setStack_9 : decode cX10_setStack 9 = .ok (.getfield 90, 3) := by decide +kernel
theorem dX10_setStack_12 : decode cX10_setStack 12 = .ok (.aload_n 0, 1) := by decide +kernel
theorem dX10_setStack_13 : decode cX10_setStack 13 = .ok (.getfield 394, 3) := by decide +kernel
theorem dX10_setStack_16 : decode cX10_setStack 16 = .ok (.iconst 0, 1) := by decide +kernel
theorem dX10_setStack_17 : decode cX10_setStack 17 = .ok (.iastore, 1) := by decide +kernel
theorem dX10_setStack_18 : decode cX10_setStack 18 = .ok (.aload_n 0, 1) := by decide +kernel
theorem dX10_setStack_19 : decode cX10_setStack 19 = .ok (.dup, 1) := by decide +kernel
theorem dX10_setStack_20 : decode cX10_setStack 20 = .ok (.getfield 394, 3) := by decide +kernel
theorem dX10_setStack_23 : decode cX10_setStack 23 = .ok (.iconst 1, 1) := by decide +kernel
theorem dX10_setStack_24 : decode cX10_setStack 24 = .ok (.iadd, 1) := by decide +kernel
theorem dX10_setStack_25 : decode cX10_setStack 25 = .ok (.putfield 394, 3) := by decide +kernel
theorem dX10_setStack_28 : decode cX10_setStack 28 = .ok (.goto (-28), 3) := by decide +kernel
theorem dX10_setStack_31 : decode cX10_setStack 31 = .ok (.aload_n 0, 1) := by decide +kernel
theorem dX10_setStack_32 : decode cX10_setStack 32 = .ok (.getfield 90, 3) := by decide +kernel
theorem dX10_setStack_35 : decode cX10_setStack 35 = .ok (.iload_n 1, 1) := by decide +kernel
theorem dX10_setStack_36 : decode cX10_setStack 36 = .ok (.iload_n 2, 1) := by decide +kernel
theorem dX10_setStack_37 : decode cX10_setStack 37 = .ok (.iastore, 1) := by decide +kernel
theorem dX10_setStack_38 : decode cX10_setStack 38 = .ok (.aload_n 0, 1) := by decide +kernel
theorem dX10_setStack_39 : decode cX10_setStack 39 = .ok (.getfield 394, 3) := by decide +kernel
theorem dX10_setStack_42 : decode cX10_setStack 42 = .ok (.ifCond .le 30, 3) := by decide +kernel
theorem dX10_setStack_45 : decode cX10_setStack 45 = .ok (.aload_n 0, 1) := by decide +kernel
theorem dX10_setStack_46 : decode cX10_setStack 46 = .ok (.getfield 90, 3) := by decide +kernel
theorem dX10_setStack_49 : decode cX10_setStack 49 = .ok (.aload_n 0, 1) := by decide +kernel
theorem dX10_setStack_50 : decode cX10_setStack 50 = .ok (.getfield 394, 3) := by decide +kernel
theorem dX10_setStack_53 : decode cX10_setStack 53 = .ok (.iconst 1, 1) := by decide +kernel
theorem dX10_setStack_54 : decode cX10_setStack 54 = .ok (.isub, 1) := by decide +kernel
theorem dX10_setStack_55 : decode cX10_setStack 55 = .ok (.iaload, 1) := by decide +kernel
theorem dX10_setStack_56 : decode cX10_setStack 56 = .ok (.ifCond .ne 16, 3) := by decide +kernel
theorem dX10_setStack_59 : decode cX10_setStack 59 = .ok (.aload_n 0, 1) := by decide +kernel
theorem dX10_setStack_60 : decode cX10_setStack 60 = .ok (.dup, 1) := by decide +kernel
theorem dX10_setStack_61 : decode cX10_setStack 61 = .ok (.getfield 394, 3) := by decide +kernel
theorem dX10_setStack_64 : decode cX10_setStack 64 = .ok (.iconst 1, 1) := by decide +kernel
theorem dX10_setStack_65 : decode cX10_setStack 65 = .ok (.isub, 1) := by decide +kernel
theorem dX10_setStack_66 : decode cX10_setStack 66 = .ok (.putfield 394, 3) := by decide +kernel
theorem dX10_setStack_69 : decode cX10_setStack 69 = .ok (.goto (-31), 3) := by decide +kernel
theorem dX10_setStack_72 : decode cX10_setStack 72 = .ok (.return_, 1) := by decide +kernel
theorem dX10_comesAt_0 : decode cX10_comesAt 0 = .ok (.iload_n 1, 1) := by decide +kernel
theorem dX10_comesAt_1 : decode cX10_comesAt 1 = .ok (.aload_n 0, 1) := by decide +kernel
theorem dX10_comesAt_2 : decode cX10_comesAt 2 = .ok (.getfield 394, 3) := by decide +kernel
theorem dX10_comesAt_5 : decode cX10_comesAt 5 = .ok (.if_icmp .lt 4, 3) := by decide +kernel
theorem dX10_comesAt_8 : decode cX10_comesAt 8 = .ok (.return_, 1) := by decide +kernel
theorem dX10_comesAt_9 : decode cX10_comesAt 9 = .ok (.aload_n 0, 1) := by decide +kernel
theorem dX10_comesAt_10 : decode cX10_comesAt 10 = .ok (.getfield 394, 3) := by decide +kernel
theorem dX10_comesAt_13 : decode cX10_comesAt 13 = .ok (.istore_n 2, 1) := by decide +kernel
theorem dX10_comesAt_14 : decode cX10_comesAt 14 = .ok (.iload_n 2, 1) := by decide +kernel
theorem dX10_comesAt_15 : decode cX10_comesAt 15 = .ok (.iload_n 1, 1) := by decide +kernel
theorem dX10_comesAt_16 : decode cX10_comesAt 16 = .ok (.if_icmp .le 23, 3) := by decide +kernel
theorem dX10_comesAt_19 : decode cX10_comesAt 19 = .ok (.aload_n 0, 1) := by decide +kernel
theorem dX10_comesAt_20 : decode cX10_comesAt 20 = .ok (.getfield 90, 3) := by decide +kernel
theorem dX10_comesAt_23 : decode cX10_comesAt 23 = .ok (.iload_n 2, 1) := by decide +kernel
theorem dX10_comesAt_24 : decode cX10_comesAt 24 = .ok (.aload_n 0, 1) := by decide +kernel
theorem dX10_comesAt_25 : decode cX10_comesAt 25 = .ok (.getfield 90, 3) := by decide +kernel
theorem dX10_comesAt_28 : decode cX10_comesAt 28 = .ok (.iload_n 2, 1) := by decide +kernel
theorem dX10_comesAt_29 : decode cX10_comesAt 29 = .ok (.iconst 1, 1) := by decide +kernel
theorem dX10_comesAt_30 : decode cX10_comesAt 30 = .ok (.isub, 1) := by decide +kernel
theorem dX10_comesAt_31 : decode cX10_comesAt 31 = .ok (.iaload, 1) := by decide +kernel
theorem dX10_comesAt_32 : decode cX10_comesAt 32 = .ok (.iastore, 1) := by decide +kernel
theorem dX10_comesAt_33 : decode cX10_comesAt 33 = .ok (.iinc 2 (-1), 3) := by decide +kernel
theorem dX10_comesAt_36 : decode cX10_comesAt 36 = .ok (.goto (-22), 3) := by decide +kernel
theorem dX10_comesAt_39 : decode cX10_comesAt 39 = .ok (.aload_n 0, 1) := by decide +kernel
theorem dX10_comesAt_40 : decode cX10_comesAt 40 = .ok (.getfield 90, 3) := by decide +kernel
theorem dX10_comesAt_43 : decode cX10_comesAt 43 = .ok (.iload_n 1, 1) := by decide +kernel
theorem dX10_comesAt_44 : decode cX10_comesAt 44 = .ok (.iconst 0, 1) := by decide +kernel
theorem dX10_comesAt_45 : decode cX10_comesAt 45 = .ok (.iastore, 1) := by decide +kernel
theorem dX10_comesAt_46 : decode cX10_comesAt 46 = .ok (.aload_n 0, 1) := by decide +kernel
theorem dX10_comesAt_47 : decode cX10_comesAt 47 = .ok (.dup, 1) := by decide +kernel
theorem dX10_comesAt_48 : decode cX10_comesAt 48 = .ok (.getfield 394, 3) := by decide +kernel
theorem dX10_comesAt_51 : decode cX10_comesAt 51 = .ok (.iconst 1, 1) := by decide +kernel
theorem dX10_comesAt_52 : decode cX10_comesAt 52 = .ok (.iadd, 1) := by decide +kernel
theorem dX10_comesAt_53 : decode cX10_comesAt 53 = .ok (.putfield 394, 3) := by decide +kernel
theorem dX10_comesAt_56 : decode cX10_comesAt 56 = .ok (.return_, 1) := by decide +kernel
theorem dX10_goesAt_0 : decode cX10_goesAt 0 = .ok (.iload_n 1, 1) := by decide +kernel
theorem dX10_goesAt_1 : decode cX10_goesAt 1 = .ok (.aload_n 0, 1) := by decide +kernel
theorem dX10_goesAt_2 : decode cX10_goesAt 2 = .ok (.getfield 394, 3) := by decide +kernel
theorem dX10_goesAt_5 : decode cX10_goesAt 5 = .ok (.if_icmp .lt 4, 3) := by decide +kernel
theorem dX10_goesAt_8 : decode cX10_goesAt 8 = .ok (.return_, 1) := by decide +kernel
theorem dX10_goesAt_9 : decode cX10_goesAt 9 = .ok (.iload_n 1, 1) := by decide +kernel
theorem dX10_goesAt_10 : decode cX10_goesAt 10 = .ok (.istore_n 2, 1) := by decide +kernel
theorem dX10_goesAt_11 : decode cX10_goesAt 11 = .ok (.iload_n 2, 1) := by decide +kernel
theorem dX10_goesAt_12 : decode cX10_goesAt 12 = .ok (.iconst 1, 1) := by decide +kernel
theorem dX10_goesAt_13 : decode cX10_goesAt 13 = .ok (.iadd, 1) := by decide +kernel
theorem dX10_goesAt_14 : decode cX10_goesAt 14 = .ok (.aload_n 0, 1) := by decide +kernel
theorem dX10_goesAt_15 : decode cX10_goesAt 15 = .ok (.getfield 394, 3) := by decide +kernel
theorem dX10_goesAt_18 : decode cX10_goesAt 18 = .ok (.if_icmp .ge 23, 3) := by decide +kernel
theorem dX10_goesAt_21 : decode cX10_goesAt 21 = .ok (.aload_n 0, 1) := by decide +kernel
theorem dX10_goesAt_22 : decode cX10_goesAt 22 = .ok (.getfield 90, 3) := by decide +kernel
theorem dX10_goesAt_25 : decode cX10_goesAt 25 = .ok (.iload_n 2, 1) := by decide +kernel
theorem dX10_goesAt_26 : decode cX10_goesAt 26 = .ok (.aload_n 0, 1) := by decide +kernel
theorem dX10_goesAt_27 : decode cX10_goesAt 27 = .ok (.getfield 90, 3) := by decide +kernel
theorem dX10_goesAt_30 : decode cX10_goesAt 30 = .ok (.iload_n 2, 1) := by decide +kernel
theorem dX10_goesAt_31 : decode cX10_goesAt 31 = .ok (.iconst 1, 1) := by decide +kernel
theorem dX10_goesAt_32 : decode cX10_goesAt 32 = .ok (.iadd, 1) := by decide +kernel
theorem dX10_goesAt_33 : decode cX10_goesAt 33 = .ok (.iaload, 1) := by decide +kernel
theorem dX10_goesAt_34 : decode cX10_goesAt 34 = .ok (.iastore, 1) := by decide +kernel
theorem dX10_goesAt_35 : decode cX10_goesAt 35 = .ok (.iinc 2 1, 3) := by decide +kernel
theorem dX10_goesAt_38 : decode cX10_goesAt 38 = .ok (.goto (-27), 3) := by decide +kernel
theorem dX10_goesAt_41 : decode cX10_goesAt 41 = .ok (.aload_n 0, 1) := by decide +kernel
theorem dX10_goesAt_42 : decode cX10_goesAt 42 = .ok (.dup, 1) := by decide +kernel
theorem dX10_goesAt_43 : decode cX10_goesAt 43 = .ok (.getfield 394, 3) := by decide +kernel
theorem dX10_goesAt_46 : decode cX10_goesAt 46 = .ok (.iconst 1, 1) := by decide +kernel
theorem dX10_goesAt_47 : decode cX10_goesAt 47 = .ok (.isub, 1) := by decide +kernel
theorem dX10_goesAt_48 : decode cX10_goesAt 48 = .ok (.putfield 394, 3) := by decide +kernel
theorem dX10_goesAt_51 : decode cX10_goesAt 51 = .ok (.return_, 1) := by decide +kernel
theorem dX10_waits_0 : decode cX10_waits 0 = .ok (.aload_n 0, 1) := by decide +kernel
theorem dX10_waits_1 : decode cX10_waits 1 = .ok (.getfield 397, 3) := by decide +kernel
theorem dX10_waits_4 : decode cX10_waits 4 = .ok (.ifCond .ne 7, 3) := by decide +kernel
theorem dX10_waits_7 : decode cX10_waits 7 = .ok (.iconst 0, 1) := by decide +kernel
theorem dX10_waits_8 : decode cX10_waits 8 = .ok (.goto 26, 3) := by decide +kernel
theorem dX10_waits_11 : decode cX10_waits 11 = .ok (.aload_n 0, 1) := by decide +kernel
theorem dX10_waits_12 : decode cX10_waits 12 = .ok (.getfield 99, 3) := by decide +kernel
theorem dX10_waits_15 : decode cX10_waits 15 = .ok (.aload_n 0, 1) := by decide +kernel
theorem dX10_waits_16 : decode cX10_waits 16 = .ok (.getfield 397, 3) := by decide +kernel
theorem dX10_waits_19 : decode cX10_waits 19 = .ok (.iconst 1, 1) := by decide +kernel
theorem dX10_waits_20 : decode cX10_waits 20 = .ok (.isub, 1) := by decide +kernel
theorem dX10_waits_21 : decode cX10_waits 21 = .ok (.iaload, 1) := by decide +kernel
theorem dX10_waits_22 : decode cX10_waits 22 = .ok (.aload_n 0, 1) := by decide +kernel
theorem dX10_waits_23 : decode cX10_waits 23 = .ok (.getfield 102, 3) := by decide +kernel
theorem dX10_waits_26 : decode cX10_waits 26 = .ok (.aload_n 0, 1) := by decide +kernel
theorem dX10_waits_27 : decode cX10_waits 27 = .ok (.getfield 397, 3) := by decide +kernel
theorem dX10_waits_30 : decode cX10_waits 30 = .ok (.iconst 1, 1) := by decide +kernel
theorem dX10_waits_31 : decode cX10_waits 31 = .ok (.isub, 1) := by decide +kernel
theorem dX10_waits_32 : decode cX10_waits 32 = .ok (.iaload, 1) := by decide +kernel
theorem dX10_waits_33 : decode cX10_waits 33 = .ok (.iadd, 1) := by decide +kernel
theorem dX10_waits_34 : decode cX10_waits 34 = .ok (.istore_n 2, 1) := by decide +kernel
theorem dX10_waits_35 : decode cX10_waits 35 = .ok (.aload_n 0, 1) := by decide +kernel
theorem dX10_waits_36 : decode cX10_waits 36 = .ok (.getfield 93, 3) := by decide +kernel
theorem dX10_waits_39 : decode cX10_waits 39 = .ok (.aload_n 0, 1) := by decide +kernel
theorem dX10_waits_40 : decode cX10_waits 40 = .ok (.getfield 397, 3) := by decide +kernel
theorem dX10_waits_43 : decode cX10_waits 43 = .ok (.iload_n 1, 1) := by decide +kernel
theorem dX10_waits_44 : decode cX10_waits 44 = .ok (.iastore, 1) := by decide +kernel
theorem dX10_waits_45 : decode cX10_waits 45 = .ok (.aload_n 0, 1) := by decide +kernel
theorem dX10_waits_46 : decode cX10_waits 46 = .ok (.getfield 96, 3) := by decide +kernel
theorem dX10_waits_49 : decode cX10_waits 49 = .ok (.aload_n 0, 1) := by decide +kernel
theorem dX10_waits_50 : decode cX10_waits 50 = .ok (.getfield 397, 3) := by decide +kernel
theorem dX10_waits_53 : decode cX10_waits 53 = .ok (.aload_n 0, 1) := by decide +kernel
theorem dX10_waits_54 : decode cX10_waits 54 = .ok (.getfield 400, 3) := by decide +kernel
theorem dX10_waits_57 : decode cX10_waits 57 = .ok (.iastore, 1) := by decide +kernel
theorem dX10_waits_58 : decode cX10_waits 58 = .ok (.aload_n 0, 1) := by decide +kernel
theorem dX10_waits_59 : decode cX10_waits 59 = .ok (.getfield 99, 3) := by decide +kernel
theorem dX10_waits_62 : decode cX10_waits 62 = .ok (.aload_n 0, 1) := by decide +kernel
theorem dX10_waits_63 : decode cX10_waits 63 = .ok (.getfield 397, 3) := by decide +kernel
theorem dX10_waits_66 : decode cX10_waits 66 = .ok (.iload_n 2, 1) := by decide +kernel
theorem dX10_waits_67 : decode cX10_waits 67 = .ok (.iastore, 1) := by decide +kernel
theorem dX10_waits_68 : decode cX10_waits 68 = .ok (.aload_n 0, 1) := by decide +kernel
theorem dX10_waits_69 : decode cX10_waits 69 = .ok (.getfield 102, 3) := by decide +kernel
theorem dX10_waits_72 : decode cX10_waits 72 = .ok (.aload_n 0, 1) := by decide +kernel
theorem dX10_waits_73 : decode cX10_waits 73 = .ok (.getfield 397, 3) := by decide +kernel
theorem dX10_waits_76 : decode cX10_waits 76 = .ok (.aload_n 0, 1) := by decide +kernel
theorem dX10_waits_77 : decode cX10_waits 77 = .ok (.getfield 394, 3) := by decide +kernel
theorem dX10_waits_80 : decode cX10_waits 80 = .ok (.iastore, 1) := by decide +kernel
theorem dX10_waits_81 : decode cX10_waits 81 = .ok (.iconst 0, 1) := by decide +kernel
theorem dX10_waits_82 : decode cX10_waits 82 = .ok (.istore_n 3, 1) := by decide +kernel
theorem dX10_waits_83 : decode cX10_waits 83 = .ok (.iload_n 3, 1) := by decide +kernel
theorem dX10_waits_84 : decode cX10_waits 84 = .ok (.aload_n 0, 1) := by decide +kernel
theorem dX10_waits_85 : decode cX10_waits 85 = .ok (.getfield 394, 3) := by decide +kernel
theorem dX10_waits_88 : decode cX10_waits 88 = .ok (.if_icmp .ge 23, 3) := by decide +kernel
theorem dX10_waits_91 : decode cX10_waits 91 = .ok (.aload_n 0, 1) := by decide +kernel
theorem dX10_waits_92 : decode cX10_waits 92 = .ok (.getfield 115, 3) := by decide +kernel
theorem dX10_waits_95 : decode cX10_waits 95 = .ok (.iload_n 2, 1) := by decide +kernel
theorem dX10_waits_96 : decode cX10_waits 96 = .ok (.iload_n 3, 1) := by decide +kernel
theorem dX10_waits_97 : decode cX10_waits 97 = .ok (.iadd, 1) := by decide +kernel
theorem dX10_waits_98 : decode cX10_waits 98 = .ok (.aload_n 0, 1) := by decide +kernel
theorem dX10_waits_99 : decode cX10_waits 99 = .ok (.getfield 90, 3) := by decide +kernel
theorem dX10_waits_102 : decode cX10_waits 102 = .ok (.iload_n 3, 1) := by decide +kernel
theorem dX10_waits_103 : decode cX10_waits 103 = .ok (.iaload, 1) := by decide +kernel
theorem dX10_waits_104 : decode cX10_waits 104 = .ok (.iastore, 1) := by decide +kernel
theorem dX10_waits_105 : decode cX10_waits 105 = .ok (.iinc 3 1, 3) := by decide +kernel
theorem dX10_waits_108 : decode cX10_waits 108 = .ok (.goto (-25), 3) := by decide +kernel
theorem dX10_waits_111 : decode cX10_waits 111 = .ok (.aload_n 0, 1) := by decide +kernel
theorem dX10_waits_112 : decode cX10_waits 112 = .ok (.dup, 1) := by decide +kernel
theorem dX10_waits_113 : decode cX10_waits 113 = .ok (.getfield 397, 3) := by decide +kernel
theorem dX10_waits_116 : decode cX10_waits 116 = .ok (.iconst 1, 1) := by decide +kernel
theorem dX10_waits_117 : decode cX10_waits 117 = .ok (.iadd, 1) := by decide +kernel
theorem dX10_waits_118 : decode cX10_waits 118 = .ok (.putfield 397, 3) := by decide +kernel
theorem dX10_waits_121 : decode cX10_waits 121 = .ok (.return_, 1) := by decide +kernel
theorem dX10_takesWaiting_0 : decode cX10_takesWaiting 0 = .ok (.aload_n 0, 1) := by decide +kernel
theorem dX10_takesWaiting_1 : decode cX10_takesWaiting 1 = .ok (.dup, 1) := by decide +kernel
theorem dX10_takesWaiting_2 : decode cX10_takesWaiting 2 = .ok (.getfield 397, 3) := by decide +kernel
theorem dX10_takesWaiting_5 : decode cX10_takesWaiting 5 = .ok (.iconst 1, 1) := by decide +kernel
theorem dX10_takesWaiting_6 : decode cX10_takesWaiting 6 = .ok (.isub, 1) := by decide +kernel
theorem dX10_takesWaiting_7 : decode cX10_takesWaiting 7 = .ok (.putfield 397, 3) := by decide +kernel
theorem dX10_takesWaiting_10 : decode cX10_takesWaiting 10 = .ok (.aload_n 0, 1) := by decide +kernel
theorem dX10_takesWaiting_11 : decode cX10_takesWaiting 11 = .ok (.aload_n 0, 1) := by decide +kernel
theorem dX10_takesWaiting_12 : decode cX10_takesWaiting 12 = .ok (.getfield 96, 3) := by decide +kernel
theorem dX10_takesWaiting_15 : decode cX10_takesWaiting 15 = .ok (.aload_n 0, 1) := by decide +kernel
theorem dX10_takesWaiting_16 : decode cX10_takesWaiting 16 = .ok (.getfield 397, 3) := by decide +kernel
theorem dX10_takesWaiting_19 : decode cX10_takesWaiting 19 = .ok (.iaload, 1) := by decide +kernel
theorem dX10_takesWaiting_20 : decode cX10_takesWaiting 20 = .ok (.putfield 400, 3) := by decide +kernel
theorem dX10_takesWaiting_23 : decode cX10_takesWaiting 23 = .ok (.aload_n 0, 1) := by decide +kernel
theorem dX10_takesWaiting_24 : decode cX10_takesWaiting 24 = .ok (.aload_n 0, 1) := by decide +kernel
theorem dX10_takesWaiting_25 : decode cX10_takesWaiting 25 = .ok (.getfield 102, 3) := by decide +kernel
theorem dX10_takesWaiting_28 : decode cX10_takesWaiting 28 = .ok (.aload_n 0, 1) := by decide +kernel
theorem dX10_takesWaiting_29 : decode cX10_takesWaiting 29 = .ok (.getfield 397, 3) := by decide +kernel
theorem dX10_takesWaiting_32 : decode cX10_takesWaiting 32 = .ok (.iaload, 1) := by decide +kernel
theorem dX10_takesWaiting_33 : decode cX10_takesWaiting 33 = .ok (.putfield 394, 3) := by decide +kernel
theorem dX10_takesWaiting_36 : decode cX10_takesWaiting 36 = .ok (.iconst 0, 1) := by decide +kernel
theorem dX10_takesWaiting_37 : decode cX10_takesWaiting 37 = .ok (.istore_n 1, 1) := by decide +kernel
theorem dX10_takesWaiting_38 : decode cX10_takesWaiting 38 = .ok (.iload_n 1, 1) := by decide +kernel
theorem dX10_takesWaiting_39 : decode cX10_takesWaiting 39 = .ok (.aload_n 0, 1) := by decide +kernel
theorem dX10_takesWaiting_40 : decode cX10_takesWaiting 40 = .ok (.getfield 394, 3) := by decide +kernel
theorem dX10_takesWaiting_43 : decode cX10_takesWaiting 43 = .ok (.if_icmp .ge 31, 3) := by decide +kernel
theorem dX10_takesWaiting_46 : decode cX10_takesWaiting 46 = .ok (.aload_n 0, 1) := by decide +kernel
theorem dX10_takesWaiting_47 : decode cX10_takesWaiting 47 = .ok (.getfield 90, 3) := by decide +kernel
theorem dX10_takesWaiting_50 : decode cX10_takesWaiting 50 = .ok (.iload_n 1, 1) := by decide +kernel
theorem dX10_takesWaiting_51 : decode cX10_takesWaiting 51 = .ok (.aload_n 0, 1) := by decide +kernel
theorem dX10_takesWaiting_52 : decode cX10_takesWaiting 52 = .ok (.getfield 115, 3) := by decide +kernel
theorem dX10_takesWaiting_55 : decode cX10_takesWaiting 55 = .ok (.aload_n 0, 1) := by decide +kernel
theorem dX10_takesWaiting_56 : decode cX10_takesWaiting 56 = .ok (.getfield 99, 3) := by decide +kernel
theorem dX10_takesWaiting_59 : decode cX10_takesWaiting 59 = .ok (.aload_n 0, 1) := by decide +kernel
theorem dX10_takesWaiting_60 : decode cX10_takesWaiting 60 = .ok (.getfield 397, 3) := by decide +kernel
theorem dX10_takesWaiting_63 : decode cX10_takesWaiting 63 = .ok (.iaload, 1) := by decide +kernel
theorem dX10_takesWaiting_64 : decode cX10_takesWaiting 64 = .ok (.iload_n 1, 1) := by decide +kernel
theorem dX10_takesWaiting_65 : decode cX10_takesWaiting 65 = .ok (.iadd, 1) := by decide +kernel
theorem dX10_takesWaiting_66 : decode cX10_takesWaiting 66 = .ok (.iaload, 1) := by decide +kernel
theorem dX10_takesWaiting_67 : decode cX10_takesWaiting 67 = .ok (.iastore, 1) := by decide +kernel
theorem dX10_takesWaiting_68 : decode cX10_takesWaiting 68 = .ok (.iinc 1 1, 3) := by decide +kernel
theorem dX10_takesWaiting_71 : decode cX10_takesWaiting 71 = .ok (.goto (-33), 3) := by decide +kernel
theorem dX10_takesWaiting_74 : decode cX10_takesWaiting 74 = .ok (.return_, 1) := by decide +kernel
theorem dX10_goesInto_0 : decode cX10_goesInto 0 = .ok (.aload_n 0, 1) := by decide +kernel
theorem dX10_goesInto_1 : decode cX10_goesInto 1 = .ok (.getfield 400, 3) := by decide +kernel
theorem dX10_goesInto_4 : decode cX10_goesInto 4 = .ok (.ifCond .ne 7, 3) := by decide +kernel
theorem dX10_goesInto_7 : decode cX10_goesInto 7 = .ok (.iconst 0, 1) := by decide +kernel
theorem dX10_goesInto_8 : decode cX10_goesInto 8 = .ok (.goto 26, 3) := by decide +kernel
theorem dX10_goesInto_11 : decode cX10_goesInto 11 = .ok (.aload_n 0, 1) := by decide +kernel
theorem dX10_goesInto_12 : decode cX10_goesInto 12 = .ok (.getfield 108, 3) := by decide +kernel
theorem dX10_goesInto_15 : decode cX10_goesInto 15 = .ok (.aload_n 0, 1) := by decide +kernel
theorem dX10_goesInto_16 : decode cX10_goesInto 16 = .ok (.getfield 400, 3) := by decide +kernel
theorem dX10_goesInto_19 : decode cX10_goesInto 19 = .ok (.iconst 1, 1) := by decide +kernel
theorem dX10_goesInto_20 : decode cX10_goesInto 20 = .ok (.isub, 1) := by decide +kernel
theorem dX10_goesInto_21 : decode cX10_goesInto 21 = .ok (.iaload, 1) := by decide +kernel
theorem dX10_goesInto_22 : decode cX10_goesInto 22 = .ok (.aload_n 0, 1) := by decide +kernel
theorem dX10_goesInto_23 : decode cX10_goesInto 23 = .ok (.getfield 111, 3) := by decide +kernel
theorem dX10_goesInto_26 : decode cX10_goesInto 26 = .ok (.aload_n 0, 1) := by decide +kernel
theorem dX10_goesInto_27 : decode cX10_goesInto 27 = .ok (.getfield 400, 3) := by decide +kernel
theorem dX10_goesInto_30 : decode cX10_goesInto 30 = .ok (.iconst 1, 1) := by decide +kernel
theorem dX10_goesInto_31 : decode cX10_goesInto 31 = .ok (.isub, 1) := by decide +kernel
theorem dX10_goesInto_32 : decode cX10_goesInto 32 = .ok (.iaload, 1) := by decide +kernel
theorem dX10_goesInto_33 : decode cX10_goesInto 33 = .ok (.iadd, 1) := by decide +kernel
theorem dX10_goesInto_34 : decode cX10_goesInto 34 = .ok (.istore_n 2, 1) := by decide +kernel
theorem dX10_goesInto_35 : decode cX10_goesInto 35 = .ok (.aload_n 0, 1) := by decide +kernel
theorem dX10_goesInto_36 : decode cX10_goesInto 36 = .ok (.getfield 42, 3) := by decide +kernel
theorem dX10_goesInto_39 : decode cX10_goesInto 39 = .ok (.iload_n 1, 1) := by decide +kernel
theorem dX10_goesInto_40 : decode cX10_goesInto 40 = .ok (.iaload, 1) := by decide +kernel
theorem dX10_goesInto_41 : decode cX10_goesInto 41 = .ok (.istore_n 3, 1) := by decide +kernel
theorem dX10_goesInto_42 : decode cX10_goesInto 42 = .ok (.aload_n 0, 1) := by decide +kernel
theorem dX10_goesInto_43 : decode cX10_goesInto 43 = .ok (.getfield 105, 3) := by decide +kernel
theorem dX10_goesInto_46 : decode cX10_goesInto 46 = .ok (.aload_n 0, 1) := by decide +kernel
theorem dX10_goesInto_47 : decode cX10_goesInto 47 = .ok (.getfield 400, 3) := by decide +kernel
theorem dX10_goesInto_50 : decode cX10_goesInto 50 = .ok (.iload_n 1, 1) := by decide +kernel
theorem dX10_goesInto_51 : decode cX10_goesInto 51 = .ok (.iastore, 1) := by decide +kernel
theorem dX10_goesInto_52 : decode cX10_goesInto 52 = .ok (.aload_n 0, 1) := by decide +kernel
theorem dX10_goesInto_53 : decode cX10_goesInto 53 = .ok (.getfield 108, 3) := by decide +kernel
theorem dX10_goesInto_56 : decode cX10_goesInto 56 = .ok (.aload_n 0, 1) := by decide +kernel
theorem dX10_goesInto_57 : decode cX10_goesInto 57 = .ok (.getfield 400, 3) := by decide +kernel
theorem dX10_goesInto_60 : decode cX10_goesInto 60 = .ok (.iload_n 2, 1) := by decide +kernel
theorem dX10_goesInto_61 : decode cX10_goesInto 61 = .ok (.iastore, 1) := by decide +kernel
theorem dX10_goesInto_62 : decode cX10_goesInto 62 = .ok (.aload_n 0, 1) := by decide +kernel
theorem dX10_goesInto_63 : decode cX10_goesInto 63 = .ok (.getfield 111, 3) := by decide +kernel
theorem dX10_goesInto_66 : decode cX10_goesInto 66 = .ok (.aload_n 0, 1) := by decide +kernel
theorem dX10_goesInto_67 : decode cX10_goesInto 67 = .ok (.getfield 400, 3) := by decide +kernel
theorem dX10_goesInto_70 : decode cX10_goesInto 70 = .ok (.iload_n 3, 1) := by decide +kernel
theorem dX10_goesInto_71 : decode cX10_goesInto 71 = .ok (.iastore, 1) := by decide +kernel
theorem dX10_goesInto_72 : decode cX10_goesInto 72 = .ok (.iconst 0, 1) := by decide +kernel
theorem dX10_goesInto_73 : decode cX10_goesInto 73 = .ok (.istore 4, 2) := by decide +kernel
theorem dX10_goesInto_75 : decode cX10_goesInto 75 = .ok (.iload 4, 2) := by decide +kernel
theorem dX10_goesInto_77 : decode cX10_goesInto 77 = .ok (.iload_n 3, 1) := by decide +kernel
theorem dX10_goesInto_78 : decode cX10_goesInto 78 = .ok (.if_icmp .ge 24, 3) := by decide +kernel
theorem dX10_goesInto_81 : decode cX10_goesInto 81 = .ok (.aload_n 0, 1) := by decide +kernel
theorem dX10_goesInto_82 : decode cX10_goesInto 82 = .ok (.getfield 119, 3) := by decide +kernel
theorem dX10_goesInto_85 : decode cX10_goesInto 85 = .ok (.iload_n 2, 1) := by decide +kernel
theorem dX10_goesInto_86 : decode cX10_goesInto 86 = .ok (.iload 4, 2) := by decide +kernel
theorem dX10_goesInto_88 : decode cX10_goesInto 88 = .ok (.iadd, 1) := by decide +kernel
theorem dX10_goesInto_89 : decode cX10_goesInto 89 = .ok (.aload_n 0, 1) := by decide +kernel
theorem dX10_goesInto_90 : decode cX10_goesInto 90 = .ok (.iload 4, 2) := by decide +kernel
theorem dX10_goesInto_92 : decode cX10_goesInto 92 = .ok (.invokevirtual 403, 3) := by decide +kernel
theorem dX10_goesInto_95 : decode cX10_goesInto 95 = .ok (.iastore, 1) := by decide +kernel
theorem dX10_goesInto_96 : decode cX10_goesInto 96 = .ok (.iinc 4 1, 3) := by decide +kernel
theorem dX10_goesInto_99 : decode cX10_goesInto 99 = .ok (.goto (-24), 3) := by decide +kernel
theorem dX10_goesInto_102 : decode cX10_goesInto 102 = .ok (.aload_n 0, 1) := by decide +kernel
theorem dX10_goesInto_103 : decode cX10_goesInto 103 = .ok (.dup, 1) := by decide +kernel
theorem dX10_goesInto_104 : decode cX10_goesInto 104 = .ok (.getfield 400, 3) := by decide +kernel
theorem dX10_goesInto_107 : decode cX10_goesInto 107 = .ok (.iconst 1, 1) := by decide +kernel
theorem dX10_goesInto_108 : decode cX10_goesInto 108 = .ok (.iadd, 1) := by decide +kernel
theorem dX10_goesInto_109 : decode cX10_goesInto 109 = .ok (.putfield 400, 3) := by decide +kernel
theorem dX10_goesInto_112 : decode cX10_goesInto 112 = .ok (.return_, 1) := by decide +kernel
theorem dX10_betweenTo_0 : decode cX10_betweenTo 0 = .ok (.aload_n 0, 1) := by decide +kernel
theorem dX10_betweenTo_1 : decode cX10_betweenTo 1 = .ok (.getfield 400, 3) := by decide +kernel
theorem dX10_betweenTo_4 : decode cX10_betweenTo 4 = .ok (.iconst 1, 1) := by decide +kernel
theorem dX10_betweenTo_5 : decode cX10_betweenTo 5 = .ok (.isub, 1) := by decide +kernel
theorem dX10_betweenTo_6 : decode cX10_betweenTo 6 = .ok (.istore_n 2, 1) := by decide +kernel
theorem dX10_betweenTo_7 : decode cX10_betweenTo 7 = .ok (.iload_n 2, 1) := by decide +kernel
theorem dX10_betweenTo_8 : decode cX10_betweenTo 8 = .ok (.ifCond .lt 36, 3) := by decide +kernel
theorem dX10_betweenTo_11 : decode cX10_betweenTo 11 = .ok (.aload_n 0, 1) := by decide +kernel
theorem dX10_betweenTo_12 : decode cX10_betweenTo 12 = .ok (.getfield 105, 3) := by decide +kernel
theorem dX10_betweenTo_15 : decode cX10_betweenTo 15 = .ok (.iload_n 2, 1) := by decide +kernel
theorem dX10_betweenTo_16 : decode cX10_betweenTo 16 = .ok (.iaload, 1) := by decide +kernel
theorem dX10_betweenTo_17 : decode cX10_betweenTo 17 = .ok (.iload_n 1, 1) := by decide +kernel
theorem dX10_betweenTo_18 : decode cX10_betweenTo 18 = .ok (.if_icmp .ne 20, 3) := by decide +kernel
theorem dX10_betweenTo_21 : decode cX10_betweenTo 21 = .ok (.aload_n 0, 1) := by decide +kernel
theorem dX10_betweenTo_22 : decode cX10_betweenTo 22 = .ok (.iload_n 2, 1) := by decide +kernel
theorem dX10_betweenTo_23 : decode cX10_betweenTo 23 = .ok (.invokevirtual 406, 3) := by decide +kernel
theorem dX10_betweenTo_26 : decode cX10_betweenTo 26 = .ok (.ifCond .eq 12, 3) := by decide +kernel
theorem dX10_betweenTo_29 : decode cX10_betweenTo 29 = .ok (.aload_n 0, 1) := by decide +kernel
theorem dX10_betweenTo_30 : decode cX10_betweenTo 30 = .ok (.getfield 400, 3) := by decide +kernel
theorem dX10_betweenTo_33 : decode cX10_betweenTo 33 = .ok (.iconst 1, 1) := by decide +kernel
theorem dX10_betweenTo_34 : decode cX10_betweenTo 34 = .ok (.isub, 1) := by decide +kernel
theorem dX10_betweenTo_35 : decode cX10_betweenTo 35 = .ok (.iload_n 2, 1) := by decide +kernel
theorem dX10_betweenTo_36 : decode cX10_betweenTo 36 = .ok (.isub, 1) := by decide +kernel
theorem dX10_betweenTo_37 : decode cX10_betweenTo 37 = .ok (.ireturn, 1) := by decide +kernel
theorem dX10_betweenTo_38 : decode cX10_betweenTo 38 = .ok (.iinc 2 (-1), 3) := by decide +kernel
theorem dX10_betweenTo_41 : decode cX10_betweenTo 41 = .ok (.goto (-34), 3) := by decide +kernel
theorem dX10_betweenTo_44 : decode cX10_betweenTo 44 = .ok (.iconst (-1), 1) := by decide +kernel
theorem dX10_betweenTo_45 : decode cX10_betweenTo 45 = .ok (.ireturn, 1) := by decide +kernel
theorem dX10_isAsAround_0 : decode cX10_isAsAround 0 = .ok (.iconst 0, 1) := by decide +kernel
theorem dX10_isAsAround_1 : decode cX10_isAsAround 1 = .ok (.istore_n 2, 1) := by decide +kernel
theorem dX10_isAsAround_2 : decode cX10_isAsAround 2 = .ok (.iload_n 2, 1) := by decide +kernel
theorem dX10_isAsAround_3 : decode cX10_isAsAround 3 = .ok (.aload_n 0, 1) := by decide +kernel
theorem dX10_isAsAround_4 : decode cX10_isAsAround 4 = .ok (.getfield 111, 3) := by decide +kernel
theorem dX10_isAsAround_7 : decode cX10_isAsAround 7 = .ok (.iload_n 1, 1) := by decide +kernel
theorem dX10_isAsAround_8 : decode cX10_isAsAround 8 = .ok (.iaload, 1) := by decide +kernel
theorem dX10_isAsAround_9 : decode cX10_isAsAround 9 = .ok (.if_icmp .ge 32, 3) := by decide +kernel
theorem dX10_isAsAround_12 : decode cX10_isAsAround 12 = .ok (.aload_n 0, 1) := by decide +kernel
theorem dX10_isAsAround_13 : decode cX10_isAsAround 13 = .ok (.getfield 119, 3) := by decide +kernel
theorem dX10_isAsAround_16 : decode cX10_isAsAround 16 = .ok (.aload_n 0, 1) := by decide +kernel
theorem dX10_isAsAround_17 : decode cX10_isAsAround 17 = .ok (.getfield 108, 3) := by decide +kernel
theorem dX10_isAsAround_20 : decode cX10_isAsAround 20 = .ok (.iload_n 1, 1) := by decide +kernel
theorem dX10_isAsAround_21 : decode cX10_isAsAround 21 = .ok (.iaload, 1) := by decide +kernel
theorem dX10_isAsAround_22 : decode cX10_isAsAround 22 = .ok (.iload_n 2, 1) := by decide +kernel
theorem dX10_isAsAround_23 : decode cX10_isAsAround 23 = .ok (.iadd, 1) := by decide +kernel
theorem dX10_isAsAround_24 : decode cX10_isAsAround 24 = .ok (.iaload, 1) := by decide +kernel
theorem dX10_isAsAround_25 : decode cX10_isAsAround 25 = .ok (.aload_n 0, 1) := by decide +kernel
theorem dX10_isAsAround_26 : decode cX10_isAsAround 26 = .ok (.iload_n 2, 1) := by decide +kernel
theorem dX10_isAsAround_27 : decode cX10_isAsAround 27 = .ok (.invokevirtual 403, 3) := by decide +kernel
theorem dX10_isAsAround_30 : decode cX10_isAsAround 30 = .ok (.if_icmp .eq 5, 3) := by decide +kernel
theorem dX10_isAsAround_33 : decode cX10_isAsAround 33 = .ok (.iconst 0, 1) := by decide +kernel
theorem dX10_isAsAround_34 : decode cX10_isAsAround 34 = .ok (.ireturn, 1) := by decide +kernel
theorem dX10_isAsAround_35 : decode cX10_isAsAround 35 = .ok (.iinc 2 1, 3) := by decide +kernel
theorem dX10_isAsAround_38 : decode cX10_isAsAround 38 = .ok (.goto (-36), 3) := by decide +kernel
theorem dX10_isAsAround_41 : decode cX10_isAsAround 41 = .ok (.iconst 1, 1) := by decide +kernel
theorem dX10_isAsAround_42 : decode cX10_isAsAround 42 = .ok (.ireturn, 1) := by decide +kernel
theorem dX10_reads_0 : decode cX10_reads 0 = .ok (.aload_n 0, 1) := by decide +kernel
theorem dX10_reads_1 : decode cX10_reads 1 = .ok (.getfield 13, 3) := by decide +kernel
theorem dX10_reads_4 : decode cX10_reads 4 = .ok (.iconst 0, 1) := by decide +kernel
theorem dX10_reads_5 : decode cX10_reads 5 = .ok (.iaload, 1) := by decide +kernel
theorem dX10_reads_6 : decode cX10_reads 6 = .ok (.sipush 400, 3) := by decide +kernel
theorem dX10_reads_9 : decode cX10_reads 9 = .ok (.if_icmp .ne 5, 3) := by decide +kernel
theorem dX10_reads_12 : decode cX10_reads 12 = .ok (.iconst 0, 1) := by decide +kernel
theorem dX10_reads_13 : decode cX10_reads 13 = .ok (.ireturn, 1) := by decide +kernel
theorem dX10_reads_14 : decode cX10_reads 14 = .ok (.aload_n 0, 1) := by decide +kernel
theorem dX10_reads_15 : decode cX10_reads 15 = .ok (.getfield 7, 3) := by decide +kernel
theorem dX10_reads_18 : decode cX10_reads 18 = .ok (.aload_n 0, 1) := by decide +kernel
theorem dX10_reads_19 : decode cX10_reads 19 = .ok (.getfield 13, 3) := by decide +kernel
theorem dX10_reads_22 : decode cX10_reads 22 = .ok (.iconst 0, 1) := by decide +kernel
theorem dX10_reads_23 : decode cX10_reads 23 = .ok (.iaload, 1) := by decide +kernel
theorem dX10_reads_24 : decode cX10_reads 24 = .ok (.iload_n 1, 1) := by decide +kernel
theorem dX10_reads_25 : decode cX10_reads 25 = .ok (.iastore, 1) := by decide +kernel
theorem dX10_reads_26 : decode cX10_reads 26 = .ok (.aload_n 0, 1) := by decide +kernel
theorem dX10_reads_27 : decode cX10_reads 27 = .ok (.getfield 13, 3) := by decide +kernel
theorem dX10_reads_30 : decode cX10_reads 30 = .ok (.iconst 0, 1) := by decide +kernel
theorem dX10_reads_31 : decode cX10_reads 31 = .ok (.dup2, 1) := by decide +kernel
theorem dX10_reads_32 : decode cX10_reads 32 = .ok (.iaload, 1) := by decide +kernel
theorem dX10_reads_33 : decode cX10_reads 33 = .ok (.iconst 1, 1) := by decide +kernel
theorem dX10_reads_34 : decode cX10_reads 34 = .ok (.iadd, 1) := by decide +kernel
theorem dX10_reads_35 : decode cX10_reads 35 = .ok (.iastore, 1) := by decide +kernel
theorem dX10_reads_36 : decode cX10_reads 36 = .ok (.iconst 1, 1) := by decide +kernel
theorem dX10_reads_37 : decode cX10_reads 37 = .ok (.ireturn, 1) := by decide +kernel
theorem dX10_walks_0 : decode cX10_walks 0 = .ok (.iconst 0, 1) := by decide +kernel
theorem dX10_walks_1 : decode cX10_walks 1 = .ok (.istore_n 1, 1) := by decide +kernel
theorem dX10_walks_2 : decode cX10_walks 2 = .ok (.iload_n 1, 1) := by decide +kernel
theorem dX10_walks_3 : decode cX10_walks 3 = .ok (.sipush 16384, 3) := by decide +kernel
theorem dX10_walks_6 : decode cX10_walks 6 = .ok (.if_icmp .ge 16, 3) := by decide +kernel
theorem dX10_walks_9 : decode cX10_walks 9 = .ok (.aload_n 0, 1) := by decide +kernel
theorem dX10_walks_10 : decode cX10_walks 10 = .ok (.getfield 87, 3) := by decide +kernel
theorem dX10_walks_13 : decode cX10_walks 13 = .ok (.iload_n 1, 1) := by decide +kernel
theorem dX10_walks_14 : decode cX10_walks 14 = .ok (.iconst 0, 1) := by decide +kernel
theorem dX10_walks_15 : decode cX10_walks 15 = .ok (.iastore, 1) := by decide +kernel
theorem dX10_walks_16 : decode cX10_walks 16 = .ok (.iinc 1 1, 3) := by decide +kernel
theorem dX10_walks_19 : decode cX10_walks 19 = .ok (.goto (-17), 3) := by decide +kernel
theorem dX10_walks_22 : decode cX10_walks 22 = .ok (.aload_n 0, 1) := by decide +kernel
theorem dX10_walks_23 : decode cX10_walks 23 = .ok (.iconst 0, 1) := by decide +kernel
theorem dX10_walks_24 : decode cX10_walks 24 = .ok (.putfield 391, 3) := by decide +kernel
theorem dX10_walks_27 : decode cX10_walks 27 = .ok (.aload_n 0, 1) := by decide +kernel
theorem dX10_walks_28 : decode cX10_walks 28 = .ok (.iconst 0, 1) := by decide +kernel
theorem dX10_walks_29 : decode cX10_walks 29 = .ok (.putfield 394, 3) := by decide +kernel
theorem dX10_walks_32 : decode cX10_walks 32 = .ok (.aload_n 0, 1) := by decide +kernel
theorem dX10_walks_33 : decode cX10_walks 33 = .ok (.iconst 0, 1) := by decide +kernel
theorem dX10_walks_34 : decode cX10_walks 34 = .ok (.putfield 397, 3) := by decide +kernel
theorem dX10_walks_37 : decode cX10_walks 37 = .ok (.aload_n 0, 1) := by decide +kernel
theorem dX10_walks_38 : decode cX10_walks 38 = .ok (.iconst 0, 1) := by decide +kernel
theorem dX10_walks_39 : decode cX10_walks 39 = .ok (.putfield 400, 3) := by decide +kernel
theorem dX10_walks_42 : decode cX10_walks 42 = .ok (.aload_n 0, 1) := by decide +kernel
theorem dX10_walks_43 : decode cX10_walks 43 = .ok (.iconst 0, 1) := by decide +kernel
theorem dX10_walks_44 : decode cX10_walks 44 = .ok (.putfield 409, 3) := by decide +kernel
theorem dX10_walks_47 : decode cX10_walks 47 = .ok (.aload_n 0, 1) := by decide +kernel
theorem dX10_walks_48 : decode cX10_walks 48 = .ok (.iconst (-1), 1) := by decide +kernel
theorem dX10_walks_49 : decode cX10_walks 49 = .ok (.putfield 346, 3) := by decide +kernel
theorem dX10_walks_52 : decode cX10_walks 52 = .ok (.aload_n 0, 1) := by decide +kernel
theorem dX10_walks_53 : decode cX10_walks 53 = .ok (.iconst 0, 1) := by decide +kernel
theorem dX10_walks_54 : decode cX10_walks 54 = .ok (.putfield 412, 3) := by decide +kernel
theorem dX10_walks_57 : decode cX10_walks 57 = .ok (.aload_n 0, 1) := by decide +kernel
theorem dX10_walks_58 : decode cX10_walks 58 = .ok (.getfield 13, 3) := by decide +kernel
theorem dX10_walks_61 : decode cX10_walks 61 = .ok (.iconst 0, 1) := by decide +kernel
theorem dX10_walks_62 : decode cX10_walks 62 = .ok (.iconst 0, 1) := by decide +kernel
theorem dX10_walks_63 : decode cX10_walks 63 = .ok (.iastore, 1) := by decide +kernel
theorem dX10_walks_64 : decode cX10_walks 64 = .ok (.iconst 0, 1) := by decide +kernel
theorem dX10_walks_65 : decode cX10_walks 65 = .ok (.istore_n 1, 1) := by decide +kernel
theorem dX10_walks_66 : decode cX10_walks 66 = .ok (.iload_n 1, 1) := by decide +kernel
theorem dX10_walks_67 : decode cX10_walks 67 = .ok (.ifCond .lt 106, 3) := by decide +kernel
theorem dX10_walks_70 : decode cX10_walks 70 = .ok (.aload_n 0, 1) := by decide +kernel
theorem dX10_walks_71 : decode cX10_walks 71 = .ok (.getfield 409, 3) := by decide +kernel
theorem dX10_walks_74 : decode cX10_walks 74 = .ok (.sipush 4000, 3) := by decide +kernel
theorem dX10_walks_77 : decode cX10_walks 77 = .ok (.if_icmp .ge 96, 3) := by decide +kernel
theorem dX10_walks_80 : decode cX10_walks 80 = .ok (.aload_n 0, 1) := by decide +kernel
theorem dX10_walks_81 : decode cX10_walks 81 = .ok (.dup, 1) := by decide +kernel
theorem dX10_walks_82 : decode cX10_walks 82 = .ok (.getfield 409, 3) := by decide +kernel
theorem dX10_walks_85 : decode cX10_walks 85 = .ok (.iconst 1, 1) := by decide +kernel
theorem dX10_walks_86 : decode cX10_walks 86 = .ok (.iadd, 1) := by decide +kernel
theorem dX10_walks_87 : decode cX10_walks 87 = .ok (.putfield 409, 3) := by decide +kernel
theorem dX10_walks_90 : decode cX10_walks 90 = .ok (.aload_n 0, 1) := by decide +kernel
theorem dX10_walks_91 : decode cX10_walks 91 = .ok (.getfield 45, 3) := by decide +kernel
theorem dX10_walks_94 : decode cX10_walks 94 = .ok (.iload_n 1, 1) := by decide +kernel
theorem dX10_walks_95 : decode cX10_walks 95 = .ok (.iaload, 1) := by decide +kernel
theorem dX10_walks_96 : decode cX10_walks 96 = .ok (.istore_n 2, 1) := by decide +kernel
theorem dX10_walks_97 : decode cX10_walks 97 = .ok (.aload_n 0, 1) := by decide +kernel
theorem dX10_walks_98 : decode cX10_walks 98 = .ok (.getfield 346, 3) := by decide +kernel
theorem dX10_walks_101 : decode cX10_walks 101 = .ok (.iconst (-1), 1) := by decide +kernel
theorem dX10_walks_102 : decode cX10_walks 102 = .ok (.if_icmp .ne 62, 3) := by decide +kernel
theorem dX10_walks_105 : decode cX10_walks 105 = .ok (.iload_n 1, 1) := by decide +kernel
theorem dX10_walks_106 : decode cX10_walks 106 = .ok (.iconst 4, 1) := by decide +kernel
theorem dX10_walks_107 : decode cX10_walks 107 = .ok (.irem, 1) := by decide +kernel
theorem dX10_walks_108 : decode cX10_walks 108 = .ok (.ifCond .ne 56, 3) := by decide +kernel
theorem dX10_walks_111 : decode cX10_walks 111 = .ok (.iload_n 1, 1) := by decide +kernel
theorem dX10_walks_112 : decode cX10_walks 112 = .ok (.iconst 4, 1) := by decide +kernel
theorem dX10_walks_113 : decode cX10_walks 113 = .ok (.idiv, 1) := by decide +kernel
theorem dX10_walks_114 : decode cX10_walks 114 = .ok (.ifCond .eq 50, 3) := by decide +kernel
theorem dX10_walks_117 : decode cX10_walks 117 = .ok (.iload_n 2, 1) := by decide +kernel
theorem dX10_walks_118 : decode cX10_walks 118 = .ok (.iconst 4, 1) := by decide +kernel
theorem dX10_walks_119 : decode cX10_walks 119 = .ok (.irem, 1) := by decide +kernel
theorem dX10_walks_120 : decode cX10_walks 120 = .ok (.ifCond .ne 44, 3) := by decide +kernel
theorem dX10_walks_123 : decode cX10_walks 123 = .ok (.aload_n 0, 1) := by decide +kernel
theorem dX10_walks_124 : decode cX10_walks 124 = .ok (.getfield 39, 3) := by decide +kernel
theorem dX10_walks_127 : decode cX10_walks 127 = .ok (.iload_n 2, 1) := by decide +kernel
theorem dX10_walks_128 : decode cX10_walks 128 = .ok (.iconst 4, 1) := by decide +kernel
theorem dX10_walks_129 : decode cX10_walks 129 = .ok (.idiv, 1) := by decide +kernel
theorem dX10_walks_130 : decode cX10_walks 130 = .ok (.iaload, 1) := by decide +kernel
theorem dX10_walks_131 : decode cX10_walks 131 = .ok (.ifCond .eq 33, 3) := by decide +kernel
theorem dX10_walks_134 : decode cX10_walks 134 = .ok (.aload_n 0, 1) := by decide +kernel
theorem dX10_walks_135 : decode cX10_walks 135 = .ok (.iload_n 1, 1) := by decide +kernel
theorem dX10_walks_136 : decode cX10_walks 136 = .ok (.iconst 4, 1) := by decide +kernel
theorem dX10_walks_137 : decode cX10_walks 137 = .ok (.idiv, 1) := by decide +kernel
theorem dX10_walks_138 : decode cX10_walks 138 = .ok (.iload_n 2, 1) := by decide +kernel
theorem dX10_walks_139 : decode cX10_walks 139 = .ok (.iconst 4, 1) := by decide +kernel
theorem dX10_walks_140 : decode cX10_walks 140 = .ok (.idiv, 1) := by decide +kernel
theorem dX10_walks_141 : decode cX10_walks 141 = .ok (.if_icmp .ge 9, 3) := by decide +kernel
theorem dX10_walks_144 : decode cX10_walks 144 = .ok (.iload_n 1, 1) := by decide +kernel
theorem dX10_walks_145 : decode cX10_walks 145 = .ok (.iconst 4, 1) := by decide +kernel
theorem dX10_walks_146 : decode cX10_walks 146 = .ok (.idiv, 1) := by decide +kernel
theorem dX10_walks_147 : decode cX10_walks 147 = .ok (.goto 6, 3) := by decide +kernel
theorem dX10_walks_150 : decode cX10_walks 150 = .ok (.iload_n 2, 1) := by decide +kernel
theorem dX10_walks_151 : decode cX10_walks 151 = .ok (.iconst 4, 1) := by decide +kernel
theorem dX10_walks_152 : decode cX10_walks 152 = .ok (.idiv, 1) := by decide +kernel
theorem dX10_walks_153 : decode cX10_walks 153 = .ok (.putfield 346, 3) := by decide +kernel
theorem dX10_walks_156 : decode cX10_walks 156 = .ok (.aload_n 0, 1) := by decide +kernel
theorem dX10_walks_157 : decode cX10_walks 157 = .ok (.aload_n 0, 1) := by decide +kernel
theorem dX10_walks_158 : decode cX10_walks 158 = .ok (.getfield 409, 3) := by decide +kernel
theorem dX10_walks_161 : decode cX10_walks 161 = .ok (.putfield 412, 3) := by decide +kernel
theorem dX10_walks_164 : decode cX10_walks 164 = .ok (.aload_n 0, 1) := by decide +kernel
theorem dX10_walks_165 : decode cX10_walks 165 = .ok (.iload_n 2, 1) := by decide +kernel
theorem dX10_walks_166 : decode cX10_walks 166 = .ok (.invokevirtual 415, 3) := by decide +kernel
theorem dX10_walks_169 : decode cX10_walks 169 = .ok (.istore_n 1, 1) := by decide +kernel
theorem dX10_walks_170 : decode cX10_walks 170 = .ok (.goto (-104), 3) := by decide +kernel
theorem dX10_walks_173 : decode cX10_walks 173 = .ok (.aload_n 0, 1) := by decide +kernel
theorem dX10_walks_174 : decode cX10_walks 174 = .ok (.iload_n 1, 1) := by decide +kernel
theorem dX10_walks_175 : decode cX10_walks 175 = .ok (.bipush (-2), 2) := by decide +kernel
theorem dX10_walks_177 : decode cX10_walks 177 = .ok (.if_icmp .ne 7, 3) := by decide +kernel
theorem dX10_walks_180 : decode cX10_walks 180 = .ok (.iconst 1, 1) := by decide +kernel
theorem dX10_walks_181 : decode cX10_walks 181 = .ok (.goto 4, 3) := by decide +kernel
theorem dX10_walks_184 : decode cX10_walks 184 = .ok (.iconst 0, 1) := by decide +kernel
theorem dX10_walks_185 : decode cX10_walks 185 = .ok (.putfield 418, 3) := by decide +kernel
theorem dX10_walks_188 : decode cX10_walks 188 = .ok (.aload_n 0, 1) := by decide +kernel
theorem dX10_walks_189 : decode cX10_walks 189 = .ok (.getfield 418, 3) := by decide +kernel
theorem dX10_walks_192 : decode cX10_walks 192 = .ok (.ifCond .ne 10, 3) := by decide +kernel
theorem dX10_walks_195 : decode cX10_walks 195 = .ok (.aload_n 0, 1) := by decide +kernel
theorem dX10_walks_196 : decode cX10_walks 196 = .ok (.getfield 13, 3) := by decide +kernel
theorem dX10_walks_199 : decode cX10_walks 199 = .ok (.iconst 0, 1) := by decide +kernel
theorem dX10_walks_200 : decode cX10_walks 200 = .ok (.iconst 0, 1) := by decide +kernel
theorem dX10_walks_201 : decode cX10_walks 201 = .ok (.iastore, 1) := by decide +kernel
theorem dX10_walks_202 : decode cX10_walks 202 = .ok (.return_, 1) := by decide +kernel
theorem dX10_comesTo_0 : decode cX10_comesTo 0 = .ok (.iload_n 1, 1) := by decide +kernel
theorem dX10_comesTo_1 : decode cX10_comesTo 1 = .ok (.iconst 4, 1) := by decide +kernel
theorem dX10_comesTo_2 : decode cX10_comesTo 2 = .ok (.idiv, 1) := by decide +kernel
theorem dX10_comesTo_3 : decode cX10_comesTo 3 = .ok (.istore_n 2, 1) := by decide +kernel
theorem dX10_comesTo_4 : decode cX10_comesTo 4 = .ok (.iload_n 1, 1) := by decide +kernel
theorem dX10_comesTo_5 : decode cX10_comesTo 5 = .ok (.iconst 4, 1) := by decide +kernel
theorem dX10_comesTo_6 : decode cX10_comesTo 6 = .ok (.irem, 1) := by decide +kernel
theorem dX10_comesTo_7 : decode cX10_comesTo 7 = .ok (.istore_n 3, 1) := by decide +kernel
theorem dX10_comesTo_8 : decode cX10_comesTo 8 = .ok (.aload_n 0, 1) := by decide +kernel
theorem dX10_comesTo_9 : decode cX10_comesTo 9 = .ok (.getfield 42, 3) := by decide +kernel
theorem dX10_comesTo_12 : decode cX10_comesTo 12 = .ok (.iload_n 2, 1) := by decide +kernel
theorem dX10_comesTo_13 : decode cX10_comesTo 13 = .ok (.iaload, 1) := by decide +kernel
theorem dX10_comesTo_14 : decode cX10_comesTo 14 = .ok (.sipush 200, 3) := by decide +kernel
theorem dX10_comesTo_17 : decode cX10_comesTo 17 = .ok (.if_icmp .le 5, 3) := by decide +kernel
theorem dX10_comesTo_20 : decode cX10_comesTo 20 = .ok (.iconst (-1), 1) := by decide +kernel
theorem dX10_comesTo_21 : decode cX10_comesTo 21 = .ok (.ireturn, 1) := by decide +kernel
theorem dX10_comesTo_22 : decode cX10_comesTo 22 = .ok (.aload_n 0, 1) := by decide +kernel
theorem dX10_comesTo_23 : decode cX10_comesTo 23 = .ok (.getfield 39, 3) := by decide +kernel
theorem dX10_comesTo_26 : decode cX10_comesTo 26 = .ok (.iload_n 2, 1) := by decide +kernel
theorem dX10_comesTo_27 : decode cX10_comesTo 27 = .ok (.iaload, 1) := by decide +kernel
theorem dX10_comesTo_28 : decode cX10_comesTo 28 = .ok (.tableswitch 88 1 5 #[36, 43, 67, 74, 81], 36) := by decide +kernel
theorem dX10_comesTo_64 : decode cX10_comesTo 64 = .ok (.aload_n 0, 1) := by decide +kernel
theorem dX10_comesTo_65 : decode cX10_comesTo 65 = .ok (.iload_n 2, 1) := by decide +kernel
theorem dX10_comesTo_66 : decode cX10_comesTo 66 = .ok (.iload_n 3, 1) := by decide +kernel
theorem dX10_comesTo_67 : decode cX10_comesTo 67 = .ok (.invokevirtual 422, 3) := by decide +kernel
theorem dX10_comesTo_70 : decode cX10_comesTo 70 = .ok (.ireturn, 1) := by decide +kernel
theorem dX10_comesTo_71 : decode cX10_comesTo 71 = .ok (.iload_n 3, 1) := by decide +kernel
theorem dX10_comesTo_72 : decode cX10_comesTo 72 = .ok (.iconst 1, 1) := by decide +kernel
theorem dX10_comesTo_73 : decode cX10_comesTo 73 = .ok (.if_icmp .ne 11, 3) := by decide +kernel
theorem dX10_comesTo_76 : decode cX10_comesTo 76 = .ok (.aload_n 0, 1) := by decide +kernel
theorem dX10_comesTo_77 : decode cX10_comesTo 77 = .ok (.iconst 0, 1) := by decide +kernel
theorem dX10_comesTo_78 : decode cX10_comesTo 78 = .ok (.invokevirtual 425, 3) := by decide +kernel
theorem dX10_comesTo_81 : decode cX10_comesTo 81 = .ok (.ifCond .ne 5, 3) := by decide +kernel
theorem dX10_comesTo_84 : decode cX10_comesTo 84 = .ok (.iconst (-1), 1) := by decide +kernel
theorem dX10_comesTo_85 : decode cX10_comesTo 85 = .ok (.ireturn, 1) := by decide +kernel
theorem dX10_comesTo_86 : decode cX10_comesTo 86 = .ok (.aload_n 0, 1) := by decide +kernel
theorem dX10_comesTo_87 : decode cX10_comesTo 87 = .ok (.iload_n 2, 1) := by decide +kernel
theorem dX10_comesTo_88 : decode cX10_comesTo 88 = .ok (.invokevirtual 428, 3) := by decide +kernel
theorem dX10_comesTo_91 : decode cX10_comesTo 91 = .ok (.iconst 4, 1) := by decide +kernel
theorem dX10_comesTo_92 : decode cX10_comesTo 92 = .ok (.iload_n 2, 1) := by decide +kernel
theorem dX10_comesTo_93 : decode cX10_comesTo 93 = .ok (.imul, 1) := by decide +kernel
theorem dX10_comesTo_94 : decode cX10_comesTo 94 = .ok (.ireturn, 1) := by decide +kernel
theorem dX10_comesTo_95 : decode cX10_comesTo 95 = .ok (.aload_n 0, 1) := by decide +kernel
theorem dX10_comesTo_96 : decode cX10_comesTo 96 = .ok (.iload_n 2, 1) := by decide +kernel
theorem dX10_comesTo_97 : decode cX10_comesTo 97 = .ok (.iload_n 3, 1) := by decide +kernel
theorem dX10_comesTo_98 : decode cX10_comesTo 98 = .ok (.invokevirtual 431, 3) := by decide +kernel
theorem dX10_comesTo_101 : decode cX10_comesTo 101 = .ok (.ireturn, 1) := by decide +kernel
theorem dX10_comesTo_102 : decode cX10_comesTo 102 = .ok (.aload_n 0, 1) := by decide +kernel
theorem dX10_comesTo_103 : decode cX10_comesTo 103 = .ok (.iload_n 2, 1) := by decide +kernel
theorem dX10_comesTo_104 : decode cX10_comesTo 104 = .ok (.iload_n 3, 1) := by decide +kernel
theorem dX10_comesTo_105 : decode cX10_comesTo 105 = .ok (.invokevirtual 434, 3) := by decide +kernel
theorem dX10_comesTo_108 : decode cX10_comesTo 108 = .ok (.ireturn, 1) := by decide +kernel
theorem dX10_comesTo_109 : decode cX10_comesTo 109 = .ok (.aload_n 0, 1) := by decide +kernel
theorem dX10_comesTo_110 : decode cX10_comesTo 110 = .ok (.iload_n 2, 1) := by decide +kernel
theorem dX10_comesTo_111 : decode cX10_comesTo 111 = .ok (.iload_n 3, 1) := by decide +kernel
theorem dX10_comesTo_112 : decode cX10_comesTo 112 = .ok (.invokevirtual 437, 3) := by decide +kernel
theorem dX10_comesTo_115 : decode cX10_comesTo 115 = .ok (.ireturn, 1) := by decide +kernel
theorem dX10_comesTo_116 : decode cX10_comesTo 116 = .ok (.iconst (-1), 1) := by decide +kernel
theorem dX10_comesTo_117 : decode cX10_comesTo 117 = .ok (.ireturn, 1) := by decide +kernel
theorem dX10_comesToFunction_0 : decode cX10_comesToFunction 0 = .ok (.iload_n 2, 1) := by decide +kernel
theorem dX10_comesToFunction_1 : decode cX10_comesToFunction 1 = .ok (.ifCond .ne 24, 3) := by decide +kernel
theorem dX10_comesToFunction_4 : decode cX10_comesToFunction 4 = .ok (.aload_n 0, 1) := by decide +kernel
theorem dX10_comesToFunction_5 : decode cX10_comesToFunction 5 = .ok (.iconst 1, 1) := by decide +kernel
theorem dX10_comesToFunction_6 : decode cX10_comesToFunction 6 = .ok (.invokevirtual 425, 3) := by decide +kernel
theorem dX10_comesToFunction_9 : decode cX10_comesToFunction 9 = .ok (.ifCond .ne 5, 3) := by decide +kernel
theorem dX10_comesToFunction_12 : decode cX10_comesToFunction 12 = .ok (.iconst (-1), 1) := by decide +kernel
theorem dX10_comesToFunction_13 : decode cX10_comesToFunction 13 = .ok (.ireturn, 1) := by decide +kernel
theorem dX10_comesToFunction_14 : decode cX10_comesToFunction 14 = .ok (.aload_n 0, 1) := by decide +kernel
theorem dX10_comesToFunction_15 : decode cX10_comesToFunction 15 = .ok (.iload_n 1, 1) := by decide +kernel
theorem dX10_comesToFunction_16 : decode cX10_comesToFunction 16 = .ok (.invokevirtual 440, 3) := by decide +kernel
theorem dX10_comesToFunction_19 : decode cX10_comesToFunction 19 = .ok (.iconst 4, 1) := by decide +kernel
theorem dX10_comesToFunction_20 : decode cX10_comesToFunction 20 = .ok (.iload_n 1, 1) := by decide +kernel
theorem dX10_comesToFunction_21 : decode cX10_comesToFunction 21 = .ok (.imul, 1) := by decide +kernel
theorem dX10_comesToFunction_22 : decode cX10_comesToFunction 22 = .ok (.iconst 1, 1) := by decide +kernel
theorem dX10_comesToFunction_23 : decode cX10_comesToFunction 23 = .ok (.iadd, 1) := by decide +kernel
theorem dX10_comesToFunction_24 : decode cX10_comesToFunction 24 = .ok (.ireturn, 1) := by decide +kernel
theorem dX10_comesToFunction_25 : decode cX10_comesToFunction 25 = .ok (.iload_n 2, 1) := by decide +kernel
theorem dX10_comesToFunction_26 : decode cX10_comesToFunction 26 = .ok (.iconst 2, 1) := by decide +kernel
theorem dX10_comesToFunction_27 : decode cX10_comesToFunction 27 = .ok (.if_icmp .ne 11, 3) := by decide +kernel
theorem dX10_comesToFunction_30 : decode cX10_comesToFunction 30 = .ok (.aload_n 0, 1) := by decide +kernel
theorem dX10_comesToFunction_31 : decode cX10_comesToFunction 31 = .ok (.iload_n 1, 1) := by decide +kernel
theorem dX10_comesToFunction_32 : decode cX10_comesToFunction 32 = .ok (.invokevirtual 443, 3) := by decide +kernel
theorem dX10_comesToFunction_35 : decode cX10_comesToFunction 35 = .ok (.goto 4, 3) := by decide +kernel
theorem dX10_comesToFunction_38 : decode cX10_comesToFunction 38 = .ok (.iconst (-1), 1) := by decide +kernel
theorem dX10_comesToFunction_39 : decode cX10_comesToFunction 39 = .ok (.istore_n 3, 1) := by decide +kernel
theorem dX10_comesToFunction_40 : decode cX10_comesToFunction 40 = .ok (.iload_n 3, 1) := by decide +kernel
theorem dX10_comesToFunction_41 : decode cX10_comesToFunction 41 = .ok (.iconst (-1), 1) := by decide +kernel
theorem dX10_comesToFunction_42 : decode cX10_comesToFunction 42 = .ok (.if_icmp .eq 13, 3) := by decide +kernel
theorem dX10_comesToFunction_45 : decode cX10_comesToFunction 45 = .ok (.aload_n 0, 1) := by decide +kernel
theorem dX10_comesToFunction_46 : decode cX10_comesToFunction 46 = .ok (.iconst 2, 1) := by decide +kernel
theorem dX10_comesToFunction_47 : decode cX10_comesToFunction 47 = .ok (.iload_n 3, 1) := by decide +kernel
theorem dX10_comesToFunction_48 : decode cX10_comesToFunction 48 = .ok (.iadd, 1) := by decide +kernel
theorem dX10_comesToFunction_49 : decode cX10_comesToFunction 49 = .ok (.invokevirtual 425, 3) := by decide +kernel
theorem dX10_comesToFunction_52 : decode cX10_comesToFunction 52 = .ok (.ifCond .ne 5, 3) := by decide +kernel
theorem dX10_comesToFunction_55 : decode cX10_comesToFunction 55 = .ok (.iconst (-1), 1) := by decide +kernel
theorem dX10_comesToFunction_56 : decode cX10_comesToFunction 56 = .ok (.ireturn, 1) := by decide +kernel
theorem dX10_comesToFunction_57 : decode cX10_comesToFunction 57 = .ok (.aload_n 0, 1) := by decide +kernel
theorem dX10_comesToFunction_58 : decode cX10_comesToFunction 58 = .ok (.getfield 397, 3) := by decide +kernel
theorem dX10_comesToFunction_61 : decode cX10_comesToFunction 61 = .ok (.ifCond .ne 6, 3) := by decide +kernel
theorem dX10_comesToFunction_64 : decode cX10_comesToFunction 64 = .ok (.bipush (-2), 2) := by decide +kernel
theorem dX10_comesToFunction_66 : decode cX10_comesToFunction 66 = .ok (.ireturn, 1) := by decide +kernel
theorem dX10_comesToFunction_67 : decode cX10_comesToFunction 67 = .ok (.aload_n 0, 1) := by decide +kernel
theorem dX10_comesToFunction_68 : decode cX10_comesToFunction 68 = .ok (.invokevirtual 446, 3) := by decide +kernel
theorem dX10_comesToFunction_71 : decode cX10_comesToFunction 71 = .ok (.iconst 4, 1) := by decide +kernel
theorem dX10_comesToFunction_72 : decode cX10_comesToFunction 72 = .ok (.aload_n 0, 1) := by decide +kernel
theorem dX10_comesToFunction_73 : decode cX10_comesToFunction 73 = .ok (.getfield 93, 3) := by decide +kernel
theorem dX10_comesToFunction_76 : decode cX10_comesToFunction 76 = .ok (.aload_n 0, 1) := by decide +kernel
theorem dX10_comesToFunction_77 : decode cX10_comesToFunction 77 = .ok (.getfield 397, 3) := by decide +kernel
theorem dX10_comesToFunction_80 : decode cX10_comesToFunction 80 = .ok (.iaload, 1) := by decide +kernel
theorem dX10_comesToFunction_81 : decode cX10_comesToFunction 81 = .ok (.imul, 1) := by decide +kernel
theorem dX10_comesToFunction_82 : decode cX10_comesToFunction 82 = .ok (.iconst 2, 1) := by decide +kernel
theorem dX10_comesToFunction_83 : decode cX10_comesToFunction 83 = .ok (.iadd, 1) := by decide +kernel
theorem dX10_comesToFunction_84 : decode cX10_comesToFunction 84 = .ok (.ireturn, 1) := by decide +kernel
theorem dX10_comesToFan_0 : decode cX10_comesToFan 0 = .ok (.aload_n 0, 1) := by decide +kernel
theorem dX10_comesToFan_1 : decode cX10_comesToFan 1 = .ok (.getfield 42, 3) := by decide +kernel
theorem dX10_comesToFan_4 : decode cX10_comesToFan 4 = .ok (.iload_n 1, 1) := by decide +kernel
theorem dX10_comesToFan_5 : decode cX10_comesToFan 5 = .ok (.iaload, 1) := by decide +kernel
theorem dX10_comesToFan_6 : decode cX10_comesToFan 6 = .ok (.istore_n 3, 1) := by decide +kernel
theorem dX10_comesToFan_7 : decode cX10_comesToFan 7 = .ok (.iload_n 2, 1) := by decide +kernel
theorem dX10_comesToFan_8 : decode cX10_comesToFan 8 = .ok (.ifCond .le 23, 3) := by decide +kernel
theorem dX10_comesToFan_11 : decode cX10_comesToFan 11 = .ok (.aload_n 0, 1) := by decide +kernel
theorem dX10_comesToFan_12 : decode cX10_comesToFan 12 = .ok (.iload_n 3, 1) := by decide +kernel
theorem dX10_comesToFan_13 : decode cX10_comesToFan 13 = .ok (.aload_n 0, 1) := by decide +kernel
theorem dX10_comesToFan_14 : decode cX10_comesToFan 14 = .ok (.iload_n 2, 1) := by decide +kernel
theorem dX10_comesToFan_15 : decode cX10_comesToFan 15 = .ok (.aload_n 0, 1) := by decide +kernel
theorem dX10_comesToFan_16 : decode cX10_comesToFan 16 = .ok (.iload_n 3, 1) := by decide +kernel
theorem dX10_comesToFan_17 : decode cX10_comesToFan 17 = .ok (.invokevirtual 403, 3) := by decide +kernel
theorem dX10_comesToFan_20 : decode cX10_comesToFan 20 = .ok (.iconst 0, 1) := by decide +kernel
theorem dX10_comesToFan_21 : decode cX10_comesToFan 21 = .ok (.invokevirtual 449, 3) := by decide +kernel
theorem dX10_comesToFan_24 : decode cX10_comesToFan 24 = .ok (.invokevirtual 452, 3) := by decide +kernel
theorem dX10_comesToFan_27 : decode cX10_comesToFan 27 = .ok (.iconst 4, 1) := by decide +kernel
theorem dX10_comesToFan_28 : decode cX10_comesToFan 28 = .ok (.iload_n 1, 1) := by decide +kernel
theorem dX10_comesToFan_29 : decode cX10_comesToFan 29 = .ok (.imul, 1) := by decide +kernel
theorem dX10_comesToFan_30 : decode cX10_comesToFan 30 = .ok (.ireturn, 1) := by decide +kernel
theorem dX10_comesToFan_31 : decode cX10_comesToFan 31 = .ok (.aload_n 0, 1) := by decide +kernel
theorem dX10_comesToFan_32 : decode cX10_comesToFan 32 = .ok (.iload_n 3, 1) := by decide +kernel
theorem dX10_comesToFan_33 : decode cX10_comesToFan 33 = .ok (.invokevirtual 403, 3) := by decide +kernel
theorem dX10_comesToFan_36 : decode cX10_comesToFan 36 = .ok (.istore 4, 2) := by decide +kernel
theorem dX10_comesToFan_38 : decode cX10_comesToFan 38 = .ok (.iload 4, 2) := by decide +kernel
theorem dX10_comesToFan_40 : decode cX10_comesToFan 40 = .ok (.ifCond .eq 14, 3) := by decide +kernel
theorem dX10_comesToFan_43 : decode cX10_comesToFan 43 = .ok (.aload_n 0, 1) := by decide +kernel
theorem dX10_comesToFan_44 : decode cX10_comesToFan 44 = .ok (.getfield 75, 3) := by decide +kernel
theorem dX10_comesToFan_47 : decode cX10_comesToFan 47 = .ok (.iload 4, 2) := by decide +kernel
theorem dX10_comesToFan_49 : decode cX10_comesToFan 49 = .ok (.iaload, 1) := by decide +kernel
theorem dX10_comesToFan_50 : decode cX10_comesToFan 50 = .ok (.iconst 3, 1) := by decide +kernel
theorem dX10_comesToFan_51 : decode cX10_comesToFan 51 = .ok (.if_icmp .ne 5, 3) := by decide +kernel
theorem dX10_comesToFan_54 : decode cX10_comesToFan 54 = .ok (.iconst (-1), 1) := by decide +kernel
theorem dX10_comesToFan_55 : decode cX10_comesToFan 55 = .ok (.ireturn, 1) := by decide +kernel
theorem dX10_comesToFan_56 : decode cX10_comesToFan 56 = .ok (.aload_n 0, 1) := by decide +kernel
theorem dX10_comesToFan_57 : decode cX10_comesToFan 57 = .ok (.iload_n 3, 1) := by decide +kernel
theorem dX10_comesToFan_58 : decode cX10_comesToFan 58 = .ok (.aload_n 0, 1) := by decide +kernel
theorem dX10_comesToFan_59 : decode cX10_comesToFan 59 = .ok (.getfield 78, 3) := by decide +kernel
theorem dX10_comesToFan_62 : decode cX10_comesToFan 62 = .ok (.iload 4, 2) := by decide +kernel
theorem dX10_comesToFan_64 : decode cX10_comesToFan 64 = .ok (.iaload, 1) := by decide +kernel
theorem dX10_comesToFan_65 : decode cX10_comesToFan 65 = .ok (.invokevirtual 452, 3) := by decide +kernel
theorem dX10_comesToFan_68 : decode cX10_comesToFan 68 = .ok (.iconst 4, 1) := by decide +kernel
theorem dX10_comesToFan_69 : decode cX10_comesToFan 69 = .ok (.iload_n 1, 1) := by decide +kernel
theorem dX10_comesToFan_70 : decode cX10_comesToFan 70 = .ok (.imul, 1) := by decide +kernel
theorem dX10_comesToFan_71 : decode cX10_comesToFan 71 = .ok (.aload_n 0, 1) := by decide +kernel
theorem dX10_comesToFan_72 : decode cX10_comesToFan 72 = .ok (.getfield 75, 3) := by decide +kernel
theorem dX10_comesToFan_75 : decode cX10_comesToFan 75 = .ok (.iload 4, 2) := by decide +kernel
theorem dX10_comesToFan_77 : decode cX10_comesToFan 77 = .ok (.iaload, 1) := by decide +kernel
theorem dX10_comesToFan_78 : decode cX10_comesToFan 78 = .ok (.iadd, 1) := by decide +kernel
theorem dX10_comesToFan_79 : decode cX10_comesToFan 79 = .ok (.ireturn, 1) := by decide +kernel
theorem dX10_comesToBracket_0 : decode cX10_comesToBracket 0 = .ok (.aload_n 0, 1) := by decide +kernel
theorem dX10_comesToBracket_1 : decode cX10_comesToBracket 1 = .ok (.getfield 42, 3) := by decide +kernel
theorem dX10_comesToBracket_4 : decode cX10_comesToBracket 4 = .ok (.iload_n 1, 1) := by decide +kernel
theorem dX10_comesToBracket_5 : decode cX10_comesToBracket 5 = .ok (.iaload, 1) := by decide +kernel
theorem dX10_comesToBracket_6 : decode cX10_comesToBracket 6 = .ok (.istore_n 3, 1) := by decide +kernel
theorem dX10_comesToBracket_7 : decode cX10_comesToBracket 7 = .ok (.iload_n 2, 1) := by decide +kernel
theorem dX10_comesToBracket_8 : decode cX10_comesToBracket 8 = .ok (.iconst 1, 1) := by decide +kernel
theorem dX10_comesToBracket_9 : decode cX10_comesToBracket 9 = .ok (.if_icmp .ne 40, 3) := by decide +kernel
theorem dX10_comesToBracket_12 : decode cX10_comesToBracket 12 = .ok (.aload_n 0, 1) := by decide +kernel
theorem dX10_comesToBracket_13 : decode cX10_comesToBracket 13 = .ok (.iconst 3, 1) := by decide +kernel
theorem dX10_comesToBracket_14 : decode cX10_comesToBracket 14 = .ok (.aload_n 0, 1) := by decide +kernel
theorem dX10_comesToBracket_15 : decode cX10_comesToBracket 15 = .ok (.iload_n 3, 1) := by decide +kernel
theorem dX10_comesToBracket_16 : decode cX10_comesToBracket 16 = .ok (.invokevirtual 403, 3) := by decide +kernel
theorem dX10_comesToBracket_19 : decode cX10_comesToBracket 19 = .ok (.aload_n 0, 1) := by decide +kernel
theorem dX10_comesToBracket_20 : decode cX10_comesToBracket 20 = .ok (.iload_n 3, 1) := by decide +kernel
theorem dX10_comesToBracket_21 : decode cX10_comesToBracket 21 = .ok (.iconst 1, 1) := by decide +kernel
theorem dX10_comesToBracket_22 : decode cX10_comesToBracket 22 = .ok (.iadd, 1) := by decide +kernel
theorem dX10_comesToBracket_23 : decode cX10_comesToBracket 23 = .ok (.invokevirtual 403, 3) := by decide +kernel
theorem dX10_comesToBracket_26 : decode cX10_comesToBracket 26 = .ok (.invokevirtual 449, 3) := by decide +kernel
theorem dX10_comesToBracket_29 : decode cX10_comesToBracket 29 = .ok (.istore 4, 2) := by decide +kernel
theorem dX10_comesToBracket_31 : decode cX10_comesToBracket 31 = .ok (.aload_n 0, 1) := by decide +kernel
theorem dX10_comesToBracket_32 : decode cX10_comesToBracket 32 = .ok (.iload_n 3, 1) := by decide +kernel
theorem dX10_comesToBracket_33 : decode cX10_comesToBracket 33 = .ok (.iconst 1, 1) := by decide +kernel
theorem dX10_comesToBracket_34 : decode cX10_comesToBracket 34 = .ok (.iadd, 1) := by decide +kernel
theorem dX10_comesToBracket_35 : decode cX10_comesToBracket 35 = .ok (.invokevirtual 455, 3) := by decide +kernel
theorem dX10_comesToBracket_38 : decode cX10_comesToBracket 38 = .ok (.aload_n 0, 1) := by decide +kernel
theorem dX10_comesToBracket_39 : decode cX10_comesToBracket 39 = .ok (.iload_n 3, 1) := by decide +kernel
theorem dX10_comesToBracket_40 : decode cX10_comesToBracket 40 = .ok (.iload 4, 2) := by decide +kernel
theorem dX10_comesToBracket_42 : decode cX10_comesToBracket 42 = .ok (.invokevirtual 452, 3) := by decide +kernel
theorem dX10_comesToBracket_45 : decode cX10_comesToBracket 45 = .ok (.iconst 4, 1) := by decide +kernel
theorem dX10_comesToBracket_46 : decode cX10_comesToBracket 46 = .ok (.iload_n 1, 1) := by decide +kernel
theorem dX10_comesToBracket_47 : decode cX10_comesToBracket 47 = .ok (.imul, 1) := by decide +kernel
theorem dX10_comesToBracket_48 : decode cX10_comesToBracket 48 = .ok (.ireturn, 1) := by decide +kernel
theorem dX10_comesToBracket_49 : decode cX10_comesToBracket 49 = .ok (.aload_n 0, 1) := by decide +kernel
theorem dX10_comesToBracket_50 : decode cX10_comesToBracket 50 = .ok (.iload_n 3, 1) := by decide +kernel
theorem dX10_comesToBracket_51 : decode cX10_comesToBracket 51 = .ok (.invokevirtual 403, 3) := by decide +kernel
theorem dX10_comesToBracket_54 : decode cX10_comesToBracket 54 = .ok (.istore 4, 2) := by decide +kernel
theorem dX10_comesToBracket_56 : decode cX10_comesToBracket 56 = .ok (.iload 4, 2) := by decide +kernel
theorem dX10_comesToBracket_58 : decode cX10_comesToBracket 58 = .ok (.ifCond .eq 14, 3) := by decide +kernel
theorem dX10_comesToBracket_61 : decode cX10_comesToBracket 61 = .ok (.aload_n 0, 1) := by decide +kernel
theorem dX10_comesToBracket_62 : decode cX10_comesToBracket 62 = .ok (.getfield 75, 3) := by decide +kernel
theorem dX10_comesToBracket_65 : decode cX10_comesToBracket 65 = .ok (.iload 4, 2) := by decide +kernel
theorem dX10_comesToBracket_67 : decode cX10_comesToBracket 67 = .ok (.iaload, 1) := by decide +kernel
theorem dX10_comesToBracket_68 : decode cX10_comesToBracket 68 = .ok (.iconst 3, 1) := by decide +kernel
theorem dX10_comesToBracket_69 : decode cX10_comesToBracket 69 = .ok (.if_icmp .eq 5, 3) := by decide +kernel
theorem dX10_comesToBracket_72 : decode cX10_comesToBracket 72 = .ok (.iconst (-1), 1) := by decide +kernel
theorem dX10_comesToBracket_73 : decode cX10_comesToBracket 73 = .ok (.ireturn, 1) := by decide +kernel
theorem dX10_comesToBracket_74 : decode cX10_comesToBracket 74 = .ok (.aload_n 0, 1) := by decide +kernel
theorem dX10_comesToBracket_75 : decode cX10_comesToBracket 75 = .ok (.iload_n 3, 1) := by decide +kernel
theorem dX10_comesToBracket_76 : decode cX10_comesToBracket 76 = .ok (.iconst 1, 1) := by decide +kernel
theorem dX10_comesToBracket_77 : decode cX10_comesToBracket 77 = .ok (.iadd, 1) := by decide +kernel
theorem dX10_comesToBracket_78 : decode cX10_comesToBracket 78 = .ok (.invokevirtual 458, 3) := by decide +kernel
theorem dX10_comesToBracket_81 : decode cX10_comesToBracket 81 = .ok (.aload_n 0, 1) := by decide +kernel
theorem dX10_comesToBracket_82 : decode cX10_comesToBracket 82 = .ok (.iload_n 3, 1) := by decide +kernel
theorem dX10_comesToBracket_83 : decode cX10_comesToBracket 83 = .ok (.aload_n 0, 1) := by decide +kernel
theorem dX10_comesToBracket_84 : decode cX10_comesToBracket 84 = .ok (.getfield 78, 3) := by decide +kernel
theorem dX10_comesToBracket_87 : decode cX10_comesToBracket 87 = .ok (.iload 4, 2) := by decide +kernel
theorem dX10_comesToBracket_89 : decode cX10_comesToBracket 89 = .ok (.iaload, 1) := by decide +kernel
theorem dX10_comesToBracket_90 : decode cX10_comesToBracket 90 = .ok (.invokevirtual 452, 3) := by decide +kernel
theorem dX10_comesToBracket_93 : decode cX10_comesToBracket 93 = .ok (.aload_n 0, 1) := by decide +kernel
theorem dX10_comesToBracket_94 : decode cX10_comesToBracket 94 = .ok (.iload_n 3, 1) := by decide +kernel
theorem dX10_comesToBracket_95 : decode cX10_comesToBracket 95 = .ok (.iconst 1, 1) := by decide +kernel
theorem dX10_comesToBracket_96 : decode cX10_comesToBracket 96 = .ok (.iadd, 1) := by decide +kernel
theorem dX10_comesToBracket_97 : decode cX10_comesToBracket 97 = .ok (.aload_n 0, 1) := by decide +kernel
theorem dX10_comesToBracket_98 : decode cX10_comesToBracket 98 = .ok (.getfield 81, 3) := by decide +kernel
theorem dX10_comesToBracket_101 : decode cX10_comesToBracket 101 = .ok (.iload 4, 2) := by decide +kernel
theorem dX10_comesToBracket_103 : decode cX10_comesToBracket 103 = .ok (.iaload, 1) := by decide +kernel
theorem dX10_comesToBracket_104 : decode cX10_comesToBracket 104 = .ok (.invokevirtual 452, 3) := by decide +kernel
theorem dX10_comesToBracket_107 : decode cX10_comesToBracket 107 = .ok (.iconst 4, 1) := by decide +kernel
theorem dX10_comesToBracket_108 : decode cX10_comesToBracket 108 = .ok (.iload_n 1, 1) := by decide +kernel
theorem dX10_comesToBracket_109 : decode cX10_comesToBracket 109 = .ok (.imul, 1) := by decide +kernel
theorem dX10_comesToBracket_110 : decode cX10_comesToBracket 110 = .ok (.iconst 1, 1) := by decide +kernel
theorem dX10_comesToBracket_111 : decode cX10_comesToBracket 111 = .ok (.iadd, 1) := by decide +kernel
theorem dX10_comesToBracket_112 : decode cX10_comesToBracket 112 = .ok (.ireturn, 1) := by decide +kernel
theorem dX10_comesToCurl_0 : decode cX10_comesToCurl 0 = .ok (.aload_n 0, 1) := by decide +kernel
theorem dX10_comesToCurl_1 : decode cX10_comesToCurl 1 = .ok (.getfield 42, 3) := by decide +kernel
theorem dX10_comesToCurl_4 : decode cX10_comesToCurl 4 = .ok (.iload_n 1, 1) := by decide +kernel
theorem dX10_comesToCurl_5 : decode cX10_comesToCurl 5 = .ok (.iaload, 1) := by decide +kernel
theorem dX10_comesToCurl_6 : decode cX10_comesToCurl 6 = .ok (.istore_n 3, 1) := by decide +kernel
theorem dX10_comesToCurl_7 : decode cX10_comesToCurl 7 = .ok (.iload_n 2, 1) := by decide +kernel
theorem dX10_comesToCurl_8 : decode cX10_comesToCurl 8 = .ok (.iconst 1, 1) := by decide +kernel
theorem dX10_comesToCurl_9 : decode cX10_comesToCurl 9 = .ok (.if_icmp .ne 12, 3) := by decide +kernel
theorem dX10_comesToCurl_12 : decode cX10_comesToCurl 12 = .ok (.aload_n 0, 1) := by decide +kernel
theorem dX10_comesToCurl_13 : decode cX10_comesToCurl 13 = .ok (.iload_n 3, 1) := by decide +kernel
theorem dX10_comesToCurl_14 : decode cX10_comesToCurl 14 = .ok (.invokevirtual 458, 3) := by decide +kernel
theorem dX10_comesToCurl_17 : decode cX10_comesToCurl 17 = .ok (.iconst 4, 1) := by decide +kernel
theorem dX10_comesToCurl_18 : decode cX10_comesToCurl 18 = .ok (.iload_n 1, 1) := by decide +kernel
theorem dX10_comesToCurl_19 : decode cX10_comesToCurl 19 = .ok (.imul, 1) := by decide +kernel
theorem dX10_comesToCurl_20 : decode cX10_comesToCurl 20 = .ok (.ireturn, 1) := by decide +kernel
theorem dX10_comesToCurl_21 : decode cX10_comesToCurl 21 = .ok (.aload_n 0, 1) := by decide +kernel
theorem dX10_comesToCurl_22 : decode cX10_comesToCurl 22 = .ok (.iload_n 3, 1) := by decide +kernel
theorem dX10_comesToCurl_23 : decode cX10_comesToCurl 23 = .ok (.invokevirtual 403, 3) := by decide +kernel
theorem dX10_comesToCurl_26 : decode cX10_comesToCurl 26 = .ok (.ifCond .eq 5, 3) := by decide +kernel
theorem dX10_comesToCurl_29 : decode cX10_comesToCurl 29 = .ok (.iconst (-1), 1) := by decide +kernel
theorem dX10_comesToCurl_30 : decode cX10_comesToCurl 30 = .ok (.ireturn, 1) := by decide +kernel
theorem dX10_comesToCurl_31 : decode cX10_comesToCurl 31 = .ok (.aload_n 0, 1) := by decide +kernel
theorem dX10_comesToCurl_32 : decode cX10_comesToCurl 32 = .ok (.iload_n 3, 1) := by decide +kernel
theorem dX10_comesToCurl_33 : decode cX10_comesToCurl 33 = .ok (.invokevirtual 455, 3) := by decide +kernel
theorem dX10_comesToCurl_36 : decode cX10_comesToCurl 36 = .ok (.iconst 4, 1) := by decide +kernel
theorem dX10_comesToCurl_37 : decode cX10_comesToCurl 37 = .ok (.iload_n 1, 1) := by decide +kernel
theorem dX10_comesToCurl_38 : decode cX10_comesToCurl 38 = .ok (.imul, 1) := by decide +kernel
theorem dX10_comesToCurl_39 : decode cX10_comesToCurl 39 = .ok (.iconst 1, 1) := by decide +kernel
theorem dX10_comesToCurl_40 : decode cX10_comesToCurl 40 = .ok (.iadd, 1) := by decide +kernel
theorem dX10_comesToCurl_41 : decode cX10_comesToCurl 41 = .ok (.ireturn, 1) := by decide +kernel
theorem dX10_makes_0 : decode cX10_makes 0 = .ok (.aload_n 0, 1) := by decide +kernel
theorem dX10_makes_1 : decode cX10_makes 1 = .ok (.getfield 461, 3) := by decide +kernel
theorem dX10_makes_4 : decode cX10_makes 4 = .ok (.sipush 2600, 3) := by decide +kernel
theorem dX10_makes_7 : decode cX10_makes 7 = .ok (.if_icmp .ge 13, 3) := by decide +kernel
theorem dX10_makes_10 : decode cX10_makes 10 = .ok (.aload_n 0, 1) := by decide +kernel
theorem dX10_makes_11 : decode cX10_makes 11 = .ok (.getfield 122, 3) := by decide +kernel
theorem dX10_makes_14 : decode cX10_makes 14 = .ok (.aload_n 0, 1) := by decide +kernel
theorem dX10_makes_15 : decode cX10_makes 15 = .ok (.getfield 461, 3) := by decide +kernel
theorem dX10_makes_18 : decode cX10_makes 18 = .ok (.iload_n 1, 1) := by decide +kernel
theorem dX10_makes_19 : decode cX10_makes 19 = .ok (.iastore, 1) := by decide +kernel
theorem dX10_makes_20 : decode cX10_makes 20 = .ok (.aload_n 0, 1) := by decide +kernel
theorem dX10_makes_21 : decode cX10_makes 21 = .ok (.dup, 1) := by decide +kernel
theorem dX10_makes_22 : decode cX10_makes 22 = .ok (.getfield 461, 3) := by decide +kernel
theorem dX10_makes_25 : decode cX10_makes 25 = .ok (.iconst 1, 1) := by decide +kernel
theorem dX10_makes_26 : decode cX10_makes 26 = .ok (.iadd, 1) := by decide +kernel
theorem dX10_makes_27 : decode cX10_makes 27 = .ok (.putfield 461, 3) := by decide +kernel
theorem dX10_makes_30 : decode cX10_makes 30 = .ok (.return_, 1) := by decide +kernel
theorem dX10_makesArgument_0 : decode cX10_makesArgument 0 = .ok (.iconst 0, 1) := by decide +kernel
theorem dX10_makesArgument_1 : decode cX10_makesArgument 1 = .ok (.istore 5, 2) := by decide +kernel
theorem dX10_makesArgument_3 : decode cX10_makesArgument 3 = .ok (.iconst 0, 1) := by decide +kernel
theorem dX10_makesArgument_4 : decode cX10_makesArgument 4 = .ok (.istore 6, 2) := by decide +kernel
theorem dX10_makesArgument_6 : decode cX10_makesArgument 6 = .ok (.iload_n 2, 1) := by decide +kernel
theorem dX10_makesArgument_7 : decode cX10_makesArgument 7 = .ok (.istore 7, 2) := by decide +kernel
theorem dX10_makesArgument_9 : decode cX10_makesArgument 9 = .ok (.iload 7, 2) := by decide +kernel
theorem dX10_makesArgument_11 : decode cX10_makesArgument 11 = .ok (.iload_n 3, 1) := by decide +kernel
theorem dX10_makesArgument_12 : decode cX10_makesArgument 12 = .ok (.if_icmp .ge 101, 3) := by decide +kernel
theorem dX10_makesArgument_15 : decode cX10_makesArgument 15 = .ok (.iload 6, 2) := by decide +kernel
theorem dX10_makesArgument_17 : decode cX10_makesArgument 17 = .ok (.ifCond .le 23, 3) := by decide +kernel
theorem dX10_makesArgument_20 : decode cX10_makesArgument 20 = .ok (.aload_n 0, 1) := by decide +kernel
theorem dX10_makesArgument_21 : decode cX10_makesArgument 21 = .ok (.getfield 125, 3) := by decide +kernel
theorem dX10_makesArgument_24 : decode cX10_makesArgument 24 = .ok (.iload 6, 2) := by decide +kernel
theorem dX10_makesArgument_26 : decode cX10_makesArgument 26 = .ok (.iconst 1, 1) := by decide +kernel
theorem dX10_makesArgument_27 : decode cX10_makesArgument 27 = .ok (.isub, 1) := by decide +kernel
theorem dX10_makesArgument_28 : decode cX10_makesArgument 28 = .ok (.iaload, 1) := by decide +kernel
theorem dX10_makesArgument_29 : decode cX10_makesArgument 29 = .ok (.iload 7, 2) := by decide +kernel
theorem dX10_makesArgument_31 : decode cX10_makesArgument 31 = .ok (.if_icmp .ne 9, 3) := by decide +kernel
theorem dX10_makesArgument_34 : decode cX10_makesArgument 34 = .ok (.iinc 6 (-1), 3) := by decide +kernel
theorem dX10_makesArgument_37 : decode cX10_makesArgument 37 = .ok (.goto (-22), 3) := by decide +kernel
theorem dX10_makesArgument_40 : decode cX10_makesArgument 40 = .ok (.iload 6, 2) := by decide +kernel
theorem dX10_makesArgument_42 : decode cX10_makesArgument 42 = .ok (.istore 5, 2) := by decide +kernel
theorem dX10_makesArgument_44 : decode cX10_makesArgument 44 = .ok (.aload_n 0, 1) := by decide +kernel
theorem dX10_makesArgument_45 : decode cX10_makesArgument 45 = .ok (.getfield 7, 3) := by decide +kernel
theorem dX10_makesArgument_48 : decode cX10_makesArgument 48 = .ok (.iload_n 1, 1) := by decide +kernel
theorem dX10_makesArgument_49 : decode cX10_makesArgument 49 = .ok (.iload 7, 2) := by decide +kernel
theorem dX10_makesArgument_51 : decode cX10_makesArgument 51 = .ok (.iadd, 1) := by decide +kernel
theorem dX10_makesArgument_52 : decode cX10_makesArgument 52 = .ok (.iaload, 1) := by decide +kernel
theorem dX10_makesArgument_53 : decode cX10_makesArgument 53 = .ok (.istore 8, 2) := by decide +kernel
theorem dX10_makesArgument_55 : decode cX10_makesArgument 55 = .ok (.aload_n 0, 1) := by decide +kernel
theorem dX10_makesArgument_56 : decode cX10_makesArgument 56 = .ok (.iload 8, 2) := by decide +kernel
theorem dX10_makesArgument_58 : decode cX10_makesArgument 58 = .ok (.iconst 2, 1) := by decide +kernel
theorem dX10_makesArgument_59 : decode cX10_makesArgument 59 = .ok (.if_icmp .lt 20, 3) := by decide +kernel
theorem dX10_makesArgument_62 : decode cX10_makesArgument 62 = .ok (.iload 8, 2) := by decide +kernel
theorem dX10_makesArgument_64 : decode cX10_makesArgument 64 = .ok (.iconst 2, 1) := by decide +kernel
theorem dX10_makesArgument_65 : decode cX10_makesArgument 65 = .ok (.isub, 1) := by decide +kernel
theorem dX10_makesArgument_66 : decode cX10_makesArgument 66 = .ok (.iload 5, 2) := by decide +kernel
theorem dX10_makesArgument_68 : decode cX10_makesArgument 68 = .ok (.if_icmp .lt 11, 3) := by decide +kernel
theorem dX10_makesArgument_71 : decode cX10_makesArgument 71 = .ok (.iload 8, 2) := by decide +kernel
theorem dX10_makesArgument_73 : decode cX10_makesArgument 73 = .ok (.iload 4, 2) := by decide +kernel
theorem dX10_makesArgument_75 : decode cX10_makesArgument 75 = .ok (.iadd, 1) := by decide +kernel
theorem dX10_makesArgument_76 : decode cX10_makesArgument 76 = .ok (.goto 5, 3) := by decide +kernel
theorem dX10_makesArgument_79 : decode cX10_makesArgument 79 = .ok (.iload 8, 2) := by decide +kernel
theorem dX10_makesArgument_81 : decode cX10_makesArgument 81 = .ok (.invokevirtual 464, 3) := by decide +kernel
theorem dX10_makesArgument_84 : decode cX10_makesArgument 84 = .ok (.iload 8, 2) := by decide +kernel
theorem dX10_makesArgument_86 : decode cX10_makesArgument 86 = .ok (.iconst 1, 1) := by decide +kernel
theorem dX10_makesArgument_87 : decode cX10_makesArgument 87 = .ok (.if_icmp .ne 20, 3) := by decide +kernel
theorem dX10_makesArgument_90 : decode cX10_makesArgument 90 = .ok (.aload_n 0, 1) := by decide +kernel
theorem dX10_makesArgument_91 : decode cX10_makesArgument 91 = .ok (.getfield 125, 3) := by decide +kernel
theorem dX10_makesArgument_94 : decode cX10_makesArgument 94 = .ok (.iload 6, 2) := by decide +kernel
theorem dX10_makesArgument_96 : decode cX10_makesArgument 96 = .ok (.aload_n 0, 1) := by decide +kernel
theorem dX10_makesArgument_97 : decode cX10_makesArgument 97 = .ok (.iload_n 1, 1) := by decide +kernel
theorem dX10_makesArgument_98 : decode cX10_makesArgument 98 = .ok (.iload 7, 2) := by decide +kernel
theorem dX10_makesArgument_100 : decode cX10_makesArgument 100 = .ok (.invokevirtual 467, 3) := by decide +kernel
theorem dX10_makesArgument_103 : decode cX10_makesArgument 103 = .ok (.iastore, 1) := by decide +kernel
theorem dX10_makesArgument_104 : decode cX10_makesArgument 104 = .ok (.iinc 6 1, 3) := by decide +kernel
theorem dX10_makesArgument_107 : decode cX10_makesArgument 107 = .ok (.iinc 7 1, 3) := by decide +kernel
theorem dX10_makesArgument_110 : decode cX10_makesArgument 110 = .ok (.goto (-101), 3) := by decide +kernel
theorem dX10_makesArgument_113 : decode cX10_makesArgument 113 = .ok (.return_, 1) := by decide +kernel
theorem dX10_firstRedex_0 : decode cX10_firstRedex 0 = .ok (.iconst 0, 1) := by decide +kernel
theorem dX10_firstRedex_1 : decode cX10_firstRedex 1 = .ok (.istore_n 3, 1) := by decide +kernel
theorem dX10_firstRedex_2 : decode cX10_firstRedex 2 = .ok (.iload_n 3, 1) := by decide +kernel
theorem dX10_firstRedex_3 : decode cX10_firstRedex 3 = .ok (.iconst 1, 1) := by decide +kernel
theorem dX10_firstRedex_4 : decode cX10_firstRedex 4 = .ok (.iadd, 1) := by decide +kernel
theorem dX10_firstRedex_5 : decode cX10_firstRedex 5 = .ok (.iload_n 2, 1) := by decide +kernel
theorem dX10_firstRedex_6 : decode cX10_firstRedex 6 = .ok (.if_icmp .ge 36, 3) := by decide +kernel
theorem dX10_firstRedex_9 : decode cX10_firstRedex 9 = .ok (.aload_n 0, 1) := by decide +kernel
theorem dX10_firstRedex_10 : decode cX10_firstRedex 10 = .ok (.getfield 7, 3) := by decide +kernel
theorem dX10_firstRedex_13 : decode cX10_firstRedex 13 = .ok (.iload_n 1, 1) := by decide +kernel
theorem dX10_firstRedex_14 : decode cX10_firstRedex 14 = .ok (.iload_n 3, 1) := by decide +kernel
theorem dX10_firstRedex_15 : decode cX10_firstRedex 15 = .ok (.iadd, 1) := by decide +kernel
theorem dX10_firstRedex_16 : decode cX10_firstRedex 16 = .ok (.iaload, 1) := by decide +kernel
theorem dX10_firstRedex_17 : decode cX10_firstRedex 17 = .ok (.ifCond .ne 19, 3) := by decide +kernel
theorem dX10_firstRedex_20 : decode cX10_firstRedex 20 = .ok (.aload_n 0, 1) := by decide +kernel
theorem dX10_firstRedex_21 : decode cX10_firstRedex 21 = .ok (.getfield 7, 3) := by decide +kernel
theorem dX10_firstRedex_24 : decode cX10_firstRedex 24 = .ok (.iload_n 1, 1) := by decide +kernel
theorem dX10_firstRedex_25 : decode cX10_firstRedex 25 = .ok (.iload_n 3, 1) := by decide +kernel
theorem dX10_firstRedex_26 : decode cX10_firstRedex 26 = .ok (.iadd, 1) := by decide +kernel
theorem dX10_firstRedex_27 : decode cX10_firstRedex 27 = .ok (.iconst 1, 1) := by decide +kernel
theorem dX10_firstRedex_28 : decode cX10_firstRedex 28 = .ok (.iadd, 1) := by decide +kernel
theorem dX10_firstRedex_29 : decode cX10_firstRedex 29 = .ok (.iaload, 1) := by decide +kernel
theorem dX10_firstRedex_30 : decode cX10_firstRedex 30 = .ok (.iconst 1, 1) := by decide +kernel
theorem dX10_firstRedex_31 : decode cX10_firstRedex 31 = .ok (.if_icmp .ne 5, 3) := by decide +kernel
theorem dX10_firstRedex_34 : decode cX10_firstRedex 34 = .ok (.iload_n 3, 1) := by decide +kernel
theorem dX10_firstRedex_35 : decode cX10_firstRedex 35 = .ok (.ireturn, 1) := by decide +kernel
theorem dX10_firstRedex_36 : decode cX10_firstRedex 36 = .ok (.iinc 3 1, 3) := by decide +kernel
theorem dX10_firstRedex_39 : decode cX10_firstRedex 39 = .ok (.goto (-37), 3) := by decide +kernel
theorem dX10_firstRedex_42 : decode cX10_firstRedex 42 = .ok (.iconst (-1), 1) := by decide +kernel
theorem dX10_firstRedex_43 : decode cX10_firstRedex 43 = .ok (.ireturn, 1) := by decide +kernel
theorem dX10_worksOff_0 : decode cX10_worksOff 0 = .ok (.aload_n 0, 1) := by decide +kernel
theorem dX10_worksOff_1 : decode cX10_worksOff 1 = .ok (.getfield 13, 3) := by decide +kernel
theorem dX10_worksOff_4 : decode cX10_worksOff 4 = .ok (.iconst 1, 1) := by decide +kernel
theorem dX10_worksOff_5 : decode cX10_worksOff 5 = .ok (.iaload, 1) := by decide +kernel
theorem dX10_worksOff_6 : decode cX10_worksOff 6 = .ok (.istore_n 3, 1) := by decide +kernel
theorem dX10_worksOff_7 : decode cX10_worksOff 7 = .ok (.iload_n 2, 1) := by decide +kernel
theorem dX10_worksOff_8 : decode cX10_worksOff 8 = .ok (.iconst 2, 1) := by decide +kernel
theorem dX10_worksOff_9 : decode cX10_worksOff 9 = .ok (.iadd, 1) := by decide +kernel
theorem dX10_worksOff_10 : decode cX10_worksOff 10 = .ok (.istore 4, 2) := by decide +kernel
theorem dX10_worksOff_12 : decode cX10_worksOff 12 = .ok (.aload_n 0, 1) := by decide +kernel
theorem dX10_worksOff_13 : decode cX10_worksOff 13 = .ok (.iload_n 1, 1) := by decide +kernel
theorem dX10_worksOff_14 : decode cX10_worksOff 14 = .ok (.iload_n 2, 1) := by decide +kernel
theorem dX10_worksOff_15 : decode cX10_worksOff 15 = .ok (.iconst 1, 1) := by decide +kernel
theorem dX10_worksOff_16 : decode cX10_worksOff 16 = .ok (.iadd, 1) := by decide +kernel
theorem dX10_worksOff_17 : decode cX10_worksOff 17 = .ok (.invokevirtual 467, 3) := by decide +kernel
theorem dX10_worksOff_20 : decode cX10_worksOff 20 = .ok (.istore 5, 2) := by decide +kernel
theorem dX10_worksOff_22 : decode cX10_worksOff 22 = .ok (.aload_n 0, 1) := by decide +kernel
theorem dX10_worksOff_23 : decode cX10_worksOff 23 = .ok (.iload_n 1, 1) := by decide +kernel
theorem dX10_worksOff_24 : decode cX10_worksOff 24 = .ok (.iload 5, 2) := by decide +kernel
theorem dX10_worksOff_26 : decode cX10_worksOff 26 = .ok (.invokevirtual 467, 3) := by decide +kernel
theorem dX10_worksOff_29 : decode cX10_worksOff 29 = .ok (.istore 6, 2) := by decide +kernel
theorem dX10_worksOff_31 : decode cX10_worksOff 31 = .ok (.aload_n 0, 1) := by decide +kernel
theorem dX10_worksOff_32 : decode cX10_worksOff 32 = .ok (.iconst 0, 1) := by decide +kernel
theorem dX10_worksOff_33 : decode cX10_worksOff 33 = .ok (.putfield 461, 3) := by decide +kernel
theorem dX10_worksOff_36 : decode cX10_worksOff 36 = .ok (.iconst 0, 1) := by decide +kernel
theorem dX10_worksOff_37 : decode cX10_worksOff 37 = .ok (.istore 7, 2) := by decide +kernel
theorem dX10_worksOff_39 : decode cX10_worksOff 39 = .ok (.iload 7, 2) := by decide +kernel
theorem dX10_worksOff_41 : decode cX10_worksOff 41 = .ok (.iload_n 2, 1) := by decide +kernel
theorem dX10_worksOff_42 : decode cX10_worksOff 42 = .ok (.if_icmp .ge 22, 3) := by decide +kernel
theorem dX10_worksOff_45 : decode cX10_worksOff 45 = .ok (.aload_n 0, 1) := by decide +kernel
theorem dX10_worksOff_46 : decode cX10_worksOff 46 = .ok (.aload_n 0, 1) := by decide +kernel
theorem dX10_worksOff_47 : decode cX10_worksOff 47 = .ok (.getfield 7, 3) := by decide +kernel
theorem dX10_worksOff_50 : decode cX10_worksOff 50 = .ok (.iload_n 1, 1) := by decide +kernel
theorem dX10_worksOff_51 : decode cX10_worksOff 51 = .ok (.iload 7, 2) := by decide +kernel
theorem dX10_worksOff_53 : decode cX10_worksOff 53 = .ok (.iadd, 1) := by decide +kernel
theorem dX10_worksOff_54 : decode cX10_worksOff 54 = .ok (.iaload, 1) := by decide +kernel
theorem dX10_worksOff_55 : decode cX10_worksOff 55 = .ok (.invokevirtual 464, 3) := by decide +kernel
theorem dX10_worksOff_58 : decode cX10_worksOff 58 = .ok (.iinc 7 1, 3) := by decide +kernel
theorem dX10_worksOff_61 : decode cX10_worksOff 61 = .ok (.goto (-22), 3) := by decide +kernel
theorem dX10_worksOff_64 : decode cX10_worksOff 64 = .ok (.iconst 0, 1) := by decide +kernel
theorem dX10_worksOff_65 : decode cX10_worksOff 65 = .ok (.istore 7, 2) := by decide +kernel
theorem dX10_worksOff_67 : decode cX10_worksOff 67 = .ok (.iload 4, 2) := by decide +kernel
theorem dX10_worksOff_69 : decode cX10_worksOff 69 = .ok (.istore 8, 2) := by decide +kernel
theorem dX10_worksOff_71 : decode cX10_worksOff 71 = .ok (.iload 8, 2) := by decide +kernel
theorem dX10_worksOff_73 : decode cX10_worksOff 73 = .ok (.iload 5, 2) := by decide +kernel
theorem dX10_worksOff_75 : decode cX10_worksOff 75 = .ok (.if_icmp .ge 140, 3) := by decide +kernel
theorem dX10_worksOff_78 : decode cX10_worksOff 78 = .ok (.aload_n 0, 1) := by decide +kernel
theorem dX10_worksOff_79 : decode cX10_worksOff 79 = .ok (.getfield 461, 3) := by decide +kernel
theorem dX10_worksOff_82 : decode cX10_worksOff 82 = .ok (.sipush 1000, 3) := by decide +kernel
theorem dX10_worksOff_85 : decode cX10_worksOff 85 = .ok (.if_icmp .gt 130, 3) := by decide +kernel
theorem dX10_worksOff_88 : decode cX10_worksOff 88 = .ok (.iload 7, 2) := by decide +kernel
theorem dX10_worksOff_90 : decode cX10_worksOff 90 = .ok (.ifCond .le 23, 3) := by decide +kernel
theorem dX10_worksOff_93 : decode cX10_worksOff 93 = .ok (.aload_n 0, 1) := by decide +kernel
theorem dX10_worksOff_94 : decode cX10_worksOff 94 = .ok (.getfield 128, 3) := by decide +kernel
theorem dX10_worksOff_97 : decode cX10_worksOff 97 = .ok (.iload 7, 2) := by decide +kernel
theorem dX10_worksOff_99 : decode cX10_worksOff 99 = .ok (.iconst 1, 1) := by decide +kernel
theorem dX10_worksOff_100 : decode cX10_worksOff 100 = .ok (.isub, 1) := by decide +kernel
theorem dX10_worksOff_101 : decode cX10_worksOff 101 = .ok (.iaload, 1) := by decide +kernel
theorem dX10_worksOff_102 : decode cX10_worksOff 102 = .ok (.iload 8, 2) := by decide +kernel
theorem dX10_worksOff_104 : decode cX10_worksOff 104 = .ok (.if_icmp .ne 9, 3) := by decide +kernel
theorem dX10_worksOff_107 : decode cX10_worksOff 107 = .ok (.iinc 7 (-1), 3) := by decide +kernel
theorem dX10_worksOff_110 : decode cX10_worksOff 110 = .ok (.goto (-22), 3) := by decide +kernel
theorem dX10_worksOff_113 : decode cX10_worksOff 113 = .ok (.aload_n 0, 1) := by decide +kernel
theorem dX10_worksOff_114 : decode cX10_worksOff 114 = .ok (.getfield 7, 3) := by decide +kernel
theorem dX10_worksOff_117 : decode cX10_worksOff 117 = .ok (.iload_n 1, 1) := by decide +kernel
theorem dX10_worksOff_118 : decode cX10_worksOff 118 = .ok (.iload 8, 2) := by decide +kernel
theorem dX10_worksOff_120 : decode cX10_worksOff 120 = .ok (.iadd, 1) := by decide +kernel
theorem dX10_worksOff_121 : decode cX10_worksOff 121 = .ok (.iaload, 1) := by decide +kernel
theorem dX10_worksOff_122 : decode cX10_worksOff 122 = .ok (.istore 9, 2) := by decide +kernel
theorem dX10_worksOff_124 : decode cX10_worksOff 124 = .ok (.iload 9, 2) := by decide +kernel
theorem dX10_worksOff_126 : decode cX10_worksOff 126 = .ok (.iconst 1, 1) := by decide +kernel
theorem dX10_worksOff_127 : decode cX10_worksOff 127 = .ok (.if_icmp .ne 28, 3) := by decide +kernel
theorem dX10_worksOff_130 : decode cX10_worksOff 130 = .ok (.aload_n 0, 1) := by decide +kernel
theorem dX10_worksOff_131 : decode cX10_worksOff 131 = .ok (.iconst 1, 1) := by decide +kernel
theorem dX10_worksOff_132 : decode cX10_worksOff 132 = .ok (.invokevirtual 464, 3) := by decide +kernel
theorem dX10_worksOff_135 : decode cX10_worksOff 135 = .ok (.aload_n 0, 1) := by decide +kernel
theorem dX10_worksOff_136 : decode cX10_worksOff 136 = .ok (.getfield 128, 3) := by decide +kernel
theorem dX10_worksOff_139 : decode cX10_worksOff 139 = .ok (.iload 7, 2) := by decide +kernel
theorem dX10_worksOff_141 : decode cX10_worksOff 141 = .ok (.aload_n 0, 1) := by decide +kernel
theorem dX10_worksOff_142 : decode cX10_worksOff 142 = .ok (.iload_n 1, 1) := by decide +kernel
theorem dX10_worksOff_143 : decode cX10_worksOff 143 = .ok (.iload 8, 2) := by decide +kernel
theorem dX10_worksOff_145 : decode cX10_worksOff 145 = .ok (.invokevirtual 467, 3) := by decide +kernel
theorem dX10_worksOff_148 : decode cX10_worksOff 148 = .ok (.iastore, 1) := by decide +kernel
theorem dX10_worksOff_149 : decode cX10_worksOff 149 = .ok (.iinc 7 1, 3) := by decide +kernel
theorem dX10_worksOff_152 : decode cX10_worksOff 152 = .ok (.goto 57, 3) := by decide +kernel
theorem dX10_worksOff_155 : decode cX10_worksOff 155 = .ok (.iload 9, 2) := by decide +kernel
theorem dX10_worksOff_157 : decode cX10_worksOff 157 = .ok (.ifCond .eq 12, 3) := by decide +kernel
theorem dX10_worksOff_160 : decode cX10_worksOff 160 = .ok (.iload 9, 2) := by decide +kernel
theorem dX10_worksOff_162 : decode cX10_worksOff 162 = .ok (.iconst 2, 1) := by decide +kernel
theorem dX10_worksOff_163 : decode cX10_worksOff 163 = .ok (.isub, 1) := by decide +kernel
theorem dX10_worksOff_164 : decode cX10_worksOff 164 = .ok (.iload 7, 2) := by decide +kernel
theorem dX10_worksOff_166 : decode cX10_worksOff 166 = .ok (.if_icmp .ge 12, 3) := by decide +kernel
theorem dX10_worksOff_169 : decode cX10_worksOff 169 = .ok (.aload_n 0, 1) := by decide +kernel
theorem dX10_worksOff_170 : decode cX10_worksOff 170 = .ok (.iload 9, 2) := by decide +kernel
theorem dX10_worksOff_172 : decode cX10_worksOff 172 = .ok (.invokevirtual 464, 3) := by decide +kernel
theorem dX10_worksOff_175 : decode cX10_worksOff 175 = .ok (.goto 34, 3) := by decide +kernel
theorem dX10_worksOff_178 : decode cX10_worksOff 178 = .ok (.iload 9, 2) := by decide +kernel
theorem dX10_worksOff_180 : decode cX10_worksOff 180 = .ok (.iconst 2, 1) := by decide +kernel
theorem dX10_worksOff_181 : decode cX10_worksOff 181 = .ok (.isub, 1) := by decide +kernel
theorem dX10_worksOff_182 : decode cX10_worksOff 182 = .ok (.iload 7, 2) := by decide +kernel
theorem dX10_worksOff_184 : decode cX10_worksOff 184 = .ok (.if_icmp .ne 17, 3) := by decide +kernel
theorem dX10_worksOff_187 : decode cX10_worksOff 187 = .ok (.aload_n 0, 1) := by decide +kernel
theorem dX10_worksOff_188 : decode cX10_worksOff 188 = .ok (.iload_n 1, 1) := by decide +kernel
theorem dX10_worksOff_189 : decode cX10_worksOff 189 = .ok (.iload 5, 2) := by decide +kernel
theorem dX10_worksOff_191 : decode cX10_worksOff 191 = .ok (.iload 6, 2) := by decide +kernel
theorem dX10_worksOff_193 : decode cX10_worksOff 193 = .ok (.iload 7, 2) := by decide +kernel
theorem dX10_worksOff_195 : decode cX10_worksOff 195 = .ok (.invokevirtual 470, 3) := by decide +kernel
theorem dX10_worksOff_198 : decode cX10_worksOff 198 = .ok (.goto 11, 3) := by decide +kernel
theorem dX10_worksOff_201 : decode cX10_worksOff 201 = .ok (.aload_n 0, 1) := by decide +kernel
theorem dX10_worksOff_202 : decode cX10_worksOff 202 = .ok (.iload 9, 2) := by decide +kernel
theorem dX10_worksOff_204 : decode cX10_worksOff 204 = .ok (.iconst 1, 1) := by decide +kernel
theorem dX10_worksOff_205 : decode cX10_worksOff 205 = .ok (.isub, 1) := by decide +kernel
theorem dX10_worksOff_206 : decode cX10_worksOff 206 = .ok (.invokevirtual 464, 3) := by decide +kernel
theorem dX10_worksOff_209 : decode cX10_worksOff 209 = .ok (.iinc 8 1, 3) := by decide +kernel
theorem dX10_worksOff_212 : decode cX10_worksOff 212 = .ok (.goto (-141), 3) := by decide +kernel
theorem dX10_worksOff_215 : decode cX10_worksOff 215 = .ok (.iload 6, 2) := by decide +kernel
theorem dX10_worksOff_217 : decode cX10_worksOff 217 = .ok (.istore 8, 2) := by decide +kernel
theorem dX10_worksOff_219 : decode cX10_worksOff 219 = .ok (.iload 8, 2) := by decide +kernel
theorem dX10_worksOff_221 : decode cX10_worksOff 221 = .ok (.iload_n 3, 1) := by decide +kernel
theorem dX10_worksOff_222 : decode cX10_worksOff 222 = .ok (.if_icmp .ge 32, 3) := by decide +kernel
theorem dX10_worksOff_225 : decode cX10_worksOff 225 = .ok (.aload_n 0, 1) := by decide +kernel
theorem dX10_worksOff_226 : decode cX10_worksOff 226 = .ok (.getfield 461, 3) := by decide +kernel
theorem dX10_worksOff_229 : decode cX10_worksOff 229 = .ok (.sipush 1000, 3) := by decide +kernel
theorem dX10_worksOff_232 : decode cX10_worksOff 232 = .ok (.if_icmp .gt 22, 3) := by decide +kernel
theorem dX10_worksOff_235 : decode cX10_worksOff 235 = .ok (.aload_n 0, 1) := by decide +kernel
theorem dX10_worksOff_236 : decode cX10_worksOff 236 = .ok (.aload_n 0, 1) := by decide +kernel
theorem dX10_worksOff_237 : decode cX10_worksOff 237 = .ok (.getfield 7, 3) := by decide +kernel
theorem dX10_worksOff_240 : decode cX10_worksOff 240 = .ok (.iload_n 1, 1) := by decide +kernel
theorem dX10_worksOff_241 : decode cX10_worksOff 241 = .ok (.iload 8, 2) := by decide +kernel
theorem dX10_worksOff_243 : decode cX10_worksOff 243 = .ok (.iadd, 1) := by decide +kernel
theorem dX10_worksOff_244 : decode cX10_worksOff 244 = .ok (.iaload, 1) := by decide +kernel
theorem dX10_worksOff_245 : decode cX10_worksOff 245 = .ok (.invokevirtual 464, 3) := by decide +kernel
theorem dX10_worksOff_248 : decode cX10_worksOff 248 = .ok (.iinc 8 1, 3) := by decide +kernel
theorem dX10_worksOff_251 : decode cX10_worksOff 251 = .ok (.goto (-32), 3) := by decide +kernel
theorem dX10_worksOff_254 : decode cX10_worksOff 254 = .ok (.aload_n 0, 1) := by decide +kernel
theorem dX10_worksOff_255 : decode cX10_worksOff 255 = .ok (.getfield 461, 3) := by decide +kernel
theorem dX10_worksOff_258 : decode cX10_worksOff 258 = .ok (.sipush 1000, 3) := by decide +kernel
theorem dX10_worksOff_261 : decode cX10_worksOff 261 = .ok (.if_icmp .le 5, 3) := by decide +kernel
theorem dX10_worksOff_264 : decode cX10_worksOff 264 = .ok (.iconst 0, 1) := by decide +kernel
theorem dX10_worksOff_265 : decode cX10_worksOff 265 = .ok (.ireturn, 1) := by decide +kernel
theorem dX10_worksOff_266 : decode cX10_worksOff 266 = .ok (.iconst 0, 1) := by decide +kernel
theorem dX10_worksOff_267 : decode cX10_worksOff 267 = .ok (.istore 8, 2) := by decide +kernel
theorem dX10_worksOff_269 : decode cX10_worksOff 269 = .ok (.iload 8, 2) := by decide +kernel
theorem dX10_worksOff_271 : decode cX10_worksOff 271 = .ok (.aload_n 0, 1) := by decide +kernel
theorem dX10_worksOff_272 : decode cX10_worksOff 272 = .ok (.getfield 461, 3) := by decide +kernel
theorem dX10_worksOff_275 : decode cX10_worksOff 275 = .ok (.if_icmp .ge 25, 3) := by decide +kernel
theorem dX10_worksOff_278 : decode cX10_worksOff 278 = .ok (.aload_n 0, 1) := by decide +kernel
theorem dX10_worksOff_279 : decode cX10_worksOff 279 = .ok (.getfield 7, 3) := by decide +kernel
theorem dX10_worksOff_282 : decode cX10_worksOff 282 = .ok (.iload_n 1, 1) := by decide +kernel
theorem dX10_worksOff_283 : decode cX10_worksOff 283 = .ok (.iload 8, 2) := by decide +kernel
theorem dX10_worksOff_285 : decode cX10_worksOff 285 = .ok (.iadd, 1) := by decide +kernel
theorem dX10_worksOff_286 : decode cX10_worksOff 286 = .ok (.aload_n 0, 1) := by decide +kernel
theorem dX10_worksOff_287 : decode cX10_worksOff 287 = .ok (.getfield 122, 3) := by decide +kernel
theorem dX10_worksOff_290 : decode cX10_worksOff 290 = .ok (.iload 8, 2) := by decide +kernel
theorem dX10_worksOff_292 : decode cX10_worksOff 292 = .ok (.iaload, 1) := by decide +kernel
theorem dX10_worksOff_293 : decode cX10_worksOff 293 = .ok (.iastore, 1) := by decide +kernel
theorem dX10_worksOff_294 : decode cX10_worksOff 294 = .ok (.iinc 8 1, 3) := by decide +kernel
theorem dX10_worksOff_297 : decode cX10_worksOff 297 = .ok (.goto (-28), 3) := by decide +kernel
theorem dX10_worksOff_300 : decode cX10_worksOff 300 = .ok (.aload_n 0, 1) := by decide +kernel
theorem dX10_worksOff_301 : decode cX10_worksOff 301 = .ok (.getfield 13, 3) := by decide +kernel
theorem dX10_worksOff_304 : decode cX10_worksOff 304 = .ok (.iconst 1, 1) := by decide +kernel
theorem dX10_worksOff_305 : decode cX10_worksOff 305 = .ok (.aload_n 0, 1) := by decide +kernel
theorem dX10_worksOff_306 : decode cX10_worksOff 306 = .ok (.getfield 461, 3) := by decide +kernel
theorem dX10_worksOff_309 : decode cX10_worksOff 309 = .ok (.iastore, 1) := by decide +kernel
theorem dX10_worksOff_310 : decode cX10_worksOff 310 = .ok (.iconst 1, 1) := by decide +kernel
theorem dX10_worksOff_311 : decode cX10_worksOff 311 = .ok (.ireturn, 1) := by decide +kernel
theorem dX10_goesPlain_0 : decode cX10_goesPlain 0 = .ok (.iconst 0, 1) := by decide +kernel
theorem dX10_goesPlain_1 : decode cX10_goesPlain 1 = .ok (.istore_n 2, 1) := by decide +kernel
theorem dX10_goesPlain_2 : decode cX10_goesPlain 2 = .ok (.iload_n 2, 1) := by decide +kernel
theorem dX10_goesPlain_3 : decode cX10_goesPlain 3 = .ok (.aload_n 0, 1) := by decide +kernel
theorem dX10_goesPlain_4 : decode cX10_goesPlain 4 = .ok (.getfield 13, 3) := by decide +kernel
theorem dX10_goesPlain_7 : decode cX10_goesPlain 7 = .ok (.iconst 2, 1) := by decide +kernel
theorem dX10_goesPlain_8 : decode cX10_goesPlain 8 = .ok (.iaload, 1) := by decide +kernel
theorem dX10_goesPlain_9 : decode cX10_goesPlain 9 = .ok (.if_icmp .ge 29, 3) := by decide +kernel
theorem dX10_goesPlain_12 : decode cX10_goesPlain 12 = .ok (.aload_n 0, 1) := by decide +kernel
theorem dX10_goesPlain_13 : decode cX10_goesPlain 13 = .ok (.getfield 7, 3) := by decide +kernel
theorem dX10_goesPlain_16 : decode cX10_goesPlain 16 = .ok (.sipush 1300, 3) := by decide +kernel
theorem dX10_goesPlain_19 : decode cX10_goesPlain 19 = .ok (.iload_n 2, 1) := by decide +kernel
theorem dX10_goesPlain_20 : decode cX10_goesPlain 20 = .ok (.iadd, 1) := by decide +kernel
theorem dX10_goesPlain_21 : decode cX10_goesPlain 21 = .ok (.aload_n 0, 1) := by decide +kernel
theorem dX10_goesPlain_22 : decode cX10_goesPlain 22 = .ok (.getfield 7, 3) := by decide +kernel
theorem dX10_goesPlain_25 : decode cX10_goesPlain 25 = .ok (.sipush 2600, 3) := by decide +kernel
theorem dX10_goesPlain_28 : decode cX10_goesPlain 28 = .ok (.iload_n 2, 1) := by decide +kernel
theorem dX10_goesPlain_29 : decode cX10_goesPlain 29 = .ok (.iadd, 1) := by decide +kernel
theorem dX10_goesPlain_30 : decode cX10_goesPlain 30 = .ok (.iaload, 1) := by decide +kernel
theorem dX10_goesPlain_31 : decode cX10_goesPlain 31 = .ok (.iastore, 1) := by decide +kernel
theorem dX10_goesPlain_32 : decode cX10_goesPlain 32 = .ok (.iinc 2 1, 3) := by decide +kernel
theorem dX10_goesPlain_35 : decode cX10_goesPlain 35 = .ok (.goto (-33), 3) := by decide +kernel
theorem dX10_goesPlain_38 : decode cX10_goesPlain 38 = .ok (.aload_n 0, 1) := by decide +kernel
theorem dX10_goesPlain_39 : decode cX10_goesPlain 39 = .ok (.getfield 13, 3) := by decide +kernel
theorem dX10_goesPlain_42 : decode cX10_goesPlain 42 = .ok (.iconst 1, 1) := by decide +kernel
theorem dX10_goesPlain_43 : decode cX10_goesPlain 43 = .ok (.aload_n 0, 1) := by decide +kernel
theorem dX10_goesPlain_44 : decode cX10_goesPlain 44 = .ok (.getfield 13, 3) := by decide +kernel
theorem dX10_goesPlain_47 : decode cX10_goesPlain 47 = .ok (.iconst 2, 1) := by decide +kernel
theorem dX10_goesPlain_48 : decode cX10_goesPlain 48 = .ok (.iaload, 1) := by decide +kernel
theorem dX10_goesPlain_49 : decode cX10_goesPlain 49 = .ok (.iastore, 1) := by decide +kernel
theorem dX10_goesPlain_50 : decode cX10_goesPlain 50 = .ok (.aload_n 0, 1) := by decide +kernel
theorem dX10_goesPlain_51 : decode cX10_goesPlain 51 = .ok (.iconst 0, 1) := by decide +kernel
theorem dX10_goesPlain_52 : decode cX10_goesPlain 52 = .ok (.putfield 474, 3) := by decide +kernel
theorem dX10_goesPlain_55 : decode cX10_goesPlain 55 = .ok (.aload_n 0, 1) := by decide +kernel
theorem dX10_goesPlain_56 : decode cX10_goesPlain 56 = .ok (.iconst 0, 1) := by decide +kernel
theorem dX10_goesPlain_57 : decode cX10_goesPlain 57 = .ok (.putfield 477, 3) := by decide +kernel
theorem dX10_goesPlain_60 : decode cX10_goesPlain 60 = .ok (.aload_n 0, 1) := by decide +kernel
theorem dX10_goesPlain_61 : decode cX10_goesPlain 61 = .ok (.getfield 474, 3) := by decide +kernel
theorem dX10_goesPlain_64 : decode cX10_goesPlain 64 = .ok (.iload_n 1, 1) := by decide +kernel
theorem dX10_goesPlain_65 : decode cX10_goesPlain 65 = .ok (.if_icmp .ge 55, 3) := by decide +kernel
theorem dX10_goesPlain_68 : decode cX10_goesPlain 68 = .ok (.aload_n 0, 1) := by decide +kernel
theorem dX10_goesPlain_69 : decode cX10_goesPlain 69 = .ok (.sipush 1300, 3) := by decide +kernel
theorem dX10_goesPlain_72 : decode cX10_goesPlain 72 = .ok (.aload_n 0, 1) := by decide +kernel
theorem dX10_goesPlain_73 : decode cX10_goesPlain 73 = .ok (.getfield 13, 3) := by decide +kernel
theorem dX10_goesPlain_76 : decode cX10_goesPlain 76 = .ok (.iconst 1, 1) := by decide +kernel
theorem dX10_goesPlain_77 : decode cX10_goesPlain 77 = .ok (.iaload, 1) := by decide +kernel
theorem dX10_goesPlain_78 : decode cX10_goesPlain 78 = .ok (.invokevirtual 480, 3) := by decide +kernel
theorem dX10_goesPlain_81 : decode cX10_goesPlain 81 = .ok (.istore_n 2, 1) := by decide +kernel
theorem dX10_goesPlain_82 : decode cX10_goesPlain 82 = .ok (.iload_n 2, 1) := by decide +kernel
theorem dX10_goesPlain_83 : decode cX10_goesPlain 83 = .ok (.iconst (-1), 1) := by decide +kernel
theorem dX10_goesPlain_84 : decode cX10_goesPlain 84 = .ok (.if_icmp .ne 10, 3) := by decide +kernel
theorem dX10_goesPlain_87 : decode cX10_goesPlain 87 = .ok (.aload_n 0, 1) := by decide +kernel
theorem dX10_goesPlain_88 : decode cX10_goesPlain 88 = .ok (.iconst 1, 1) := by decide +kernel
theorem dX10_goesPlain_89 : decode cX10_goesPlain 89 = .ok (.putfield 477, 3) := by decide +kernel
theorem dX10_goesPlain_92 : decode cX10_goesPlain 92 = .ok (.iconst 1, 1) := by decide +kernel
theorem dX10_goesPlain_93 : decode cX10_goesPlain 93 = .ok (.ireturn, 1) := by decide +kernel
theorem dX10_goesPlain_94 : decode cX10_goesPlain 94 = .ok (.aload_n 0, 1) := by decide +kernel
theorem dX10_goesPlain_95 : decode cX10_goesPlain 95 = .ok (.sipush 1300, 3) := by decide +kernel
theorem dX10_goesPlain_98 : decode cX10_goesPlain 98 = .ok (.iload_n 2, 1) := by decide +kernel
theorem dX10_goesPlain_99 : decode cX10_goesPlain 99 = .ok (.invokevirtual 483, 3) := by decide +kernel
theorem dX10_goesPlain_102 : decode cX10_goesPlain 102 = .ok (.ifCond .ne 5, 3) := by decide +kernel
theorem dX10_goesPlain_105 : decode cX10_goesPlain 105 = .ok (.iconst 0, 1) := by decide +kernel
theorem dX10_goesPlain_106 : decode cX10_goesPlain 106 = .ok (.ireturn, 1) := by decide +kernel
theorem dX10_goesPlain_107 : decode cX10_goesPlain 107 = .ok (.aload_n 0, 1) := by decide +kernel
theorem dX10_goesPlain_108 : decode cX10_goesPlain 108 = .ok (.dup, 1) := by decide +kernel
theorem dX10_goesPlain_109 : decode cX10_goesPlain 109 = .ok (.getfield 474, 3) := by decide +kernel
theorem dX10_goesPlain_112 : decode cX10_goesPlain 112 = .ok (.iconst 1, 1) := by decide +kernel
theorem dX10_goesPlain_113 : decode cX10_goesPlain 113 = .ok (.iadd, 1) := by decide +kernel
theorem dX10_goesPlain_114 : decode cX10_goesPlain 114 = .ok (.putfield 474, 3) := by decide +kernel
theorem dX10_goesPlain_117 : decode cX10_goesPlain 117 = .ok (.goto (-57), 3) := by decide +kernel
theorem dX10_goesPlain_120 : decode cX10_goesPlain 120 = .ok (.aload_n 0, 1) := by decide +kernel
theorem dX10_goesPlain_121 : decode cX10_goesPlain 121 = .ok (.aload_n 0, 1) := by decide +kernel
theorem dX10_goesPlain_122 : decode cX10_goesPlain 122 = .ok (.sipush 1300, 3) := by decide +kernel
theorem dX10_goesPlain_125 : decode cX10_goesPlain 125 = .ok (.aload_n 0, 1) := by decide +kernel
theorem dX10_goesPlain_126 : decode cX10_goesPlain 126 = .ok (.getfield 13, 3) := by decide +kernel
theorem dX10_goesPlain_129 : decode cX10_goesPlain 129 = .ok (.iconst 1, 1) := by decide +kernel
theorem dX10_goesPlain_130 : decode cX10_goesPlain 130 = .ok (.iaload, 1) := by decide +kernel
theorem dX10_goesPlain_131 : decode cX10_goesPlain 131 = .ok (.invokevirtual 480, 3) := by decide +kernel
theorem dX10_goesPlain_134 : decode cX10_goesPlain 134 = .ok (.iconst (-1), 1) := by decide +kernel
theorem dX10_goesPlain_135 : decode cX10_goesPlain 135 = .ok (.if_icmp .ne 7, 3) := by decide +kernel
theorem dX10_goesPlain_138 : decode cX10_goesPlain 138 = .ok (.iconst 1, 1) := by decide +kernel
theorem dX10_goesPlain_139 : decode cX10_goesPlain 139 = .ok (.goto 4, 3) := by decide +kernel
theorem dX10_goesPlain_142 : decode cX10_goesPlain 142 = .ok (.iconst 0, 1) := by decide +kernel
theorem dX10_goesPlain_143 : decode cX10_goesPlain 143 = .ok (.putfield 477, 3) := by decide +kernel
theorem dX10_goesPlain_146 : decode cX10_goesPlain 146 = .ok (.iconst 1, 1) := by decide +kernel
theorem dX10_goesPlain_147 : decode cX10_goesPlain 147 = .ok (.ireturn, 1) := by decide +kernel
theorem dX10_isTerm_0 : decode cX10_isTerm 0 = .ok (.iload_n 1, 1) := by decide +kernel
theorem dX10_isTerm_1 : decode cX10_isTerm 1 = .ok (.ifCond .ne 12, 3) := by decide +kernel
theorem dX10_isTerm_4 : decode cX10_isTerm 4 = .ok (.aload_n 0, 1) := by decide +kernel
theorem dX10_isTerm_5 : decode cX10_isTerm 5 = .ok (.invokevirtual 343, 3) := by decide +kernel
theorem dX10_isTerm_8 : decode cX10_isTerm 8 = .ok (.aload_n 0, 1) := by decide +kernel
theorem dX10_isTerm_9 : decode cX10_isTerm 9 = .ok (.getfield 418, 3) := by decide +kernel
theorem dX10_isTerm_12 : decode cX10_isTerm 12 = .ok (.ireturn, 1) := by decide +kernel
theorem dX10_isTerm_13 : decode cX10_isTerm 13 = .ok (.iload_n 1, 1) := by decide +kernel
theorem dX10_isTerm_14 : decode cX10_isTerm 14 = .ok (.iconst 2, 1) := by decide +kernel
theorem dX10_isTerm_15 : decode cX10_isTerm 15 = .ok (.if_icmp .eq 20, 3) := by decide +kernel
theorem dX10_isTerm_18 : decode cX10_isTerm 18 = .ok (.aload_n 0, 1) := by decide +kernel
theorem dX10_isTerm_19 : decode cX10_isTerm 19 = .ok (.sipush 200, 3) := by decide +kernel
theorem dX10_isTerm_22 : decode cX10_isTerm 22 = .ok (.invokevirtual 487, 3) := by decide +kernel
theorem dX10_isTerm_25 : decode cX10_isTerm 25 = .ok (.ifCond .eq 14, 3) := by decide +kernel
theorem dX10_isTerm_28 : decode cX10_isTerm 28 = .ok (.aload_n 0, 1) := by decide +kernel
theorem dX10_isTerm_29 : decode cX10_isTerm 29 = .ok (.getfield 477, 3) := by decide +kernel
theorem dX10_isTerm_32 : decode cX10_isTerm 32 = .ok (.ifCond .eq 7, 3) := by decide +kernel
theorem dX10_isTerm_35 : decode cX10_isTerm 35 = .ok (.iconst 1, 1) := by decide +kernel
theorem dX10_isTerm_36 : decode cX10_isTerm 36 = .ok (.goto 4, 3) := by decide +kernel
theorem dX10_isTerm_39 : decode cX10_isTerm 39 = .ok (.iconst 0, 1) := by decide +kernel
theorem dX10_isTerm_40 : decode cX10_isTerm 40 = .ok (.ireturn, 1) := by decide +kernel
theorem dX10_greatestLevel_0 : decode cX10_greatestLevel 0 = .ok (.iconst 0, 1) := by decide +kernel
theorem dX10_greatestLevel_1 : decode cX10_greatestLevel 1 = .ok (.istore_n 1, 1) := by decide +kernel
theorem dX10_greatestLevel_2 : decode cX10_greatestLevel 2 = .ok (.iconst 0, 1) := by decide +kernel
theorem dX10_greatestLevel_3 : decode cX10_greatestLevel 3 = .ok (.istore_n 2, 1) := by decide +kernel
theorem dX10_greatestLevel_4 : decode cX10_greatestLevel 4 = .ok (.iload_n 2, 1) := by decide +kernel
theorem dX10_greatestLevel_5 : decode cX10_greatestLevel 5 = .ok (.aload_n 0, 1) := by decide +kernel
theorem dX10_greatestLevel_6 : decode cX10_greatestLevel 6 = .ok (.getfield 290, 3) := by decide +kernel
theorem dX10_greatestLevel_9 : decode cX10_greatestLevel 9 = .ok (.if_icmp .ge 38, 3) := by decide +kernel
theorem dX10_greatestLevel_12 : decode cX10_greatestLevel 12 = .ok (.aload_n 0, 1) := by decide +kernel
theorem dX10_greatestLevel_13 : decode cX10_greatestLevel 13 = .ok (.iload_n 2, 1) := by decide +kernel
theorem dX10_greatestLevel_14 : decode cX10_greatestLevel 14 = .ok (.invokevirtual 334, 3) := by decide +kernel
theorem dX10_greatestLevel_17 : decode cX10_greatestLevel 17 = .ok (.ifCond .eq 22, 3) := by decide +kernel
theorem dX10_greatestLevel_20 : decode cX10_greatestLevel 20 = .ok (.aload_n 0, 1) := by decide +kernel
theorem dX10_greatestLevel_21 : decode cX10_greatestLevel 21 = .ok (.getfield 42, 3) := by decide +kernel
theorem dX10_greatestLevel_24 : decode cX10_greatestLevel 24 = .ok (.iload_n 2, 1) := by decide +kernel
theorem dX10_greatestLevel_25 : decode cX10_greatestLevel 25 = .ok (.iaload, 1) := by decide +kernel
theorem dX10_greatestLevel_26 : decode cX10_greatestLevel 26 = .ok (.iload_n 1, 1) := by decide +kernel
theorem dX10_greatestLevel_27 : decode cX10_greatestLevel 27 = .ok (.if_icmp .le 12, 3) := by decide +kernel
theorem dX10_greatestLevel_30 : decode cX10_greatestLevel 30 = .ok (.aload_n 0, 1) := by decide +kernel
theorem dX10_greatestLevel_31 : decode cX10_greatestLevel 31 = .ok (.getfield 42, 3) := by decide +kernel
theorem dX10_greatestLevel_34 : decode cX10_greatestLevel 34 = .ok (.iload_n 2, 1) := by decide +kernel
theorem dX10_greatestLevel_35 : decode cX10_greatestLevel 35 = .ok (.iaload, 1) := by decide +kernel
theorem dX10_greatestLevel_36 : decode cX10_greatestLevel 36 = .ok (.goto 4, 3) := by decide +kernel
theorem dX10_greatestLevel_39 : decode cX10_greatestLevel 39 = .ok (.iload_n 1, 1) := by decide +kernel
theorem dX10_greatestLevel_40 : decode cX10_greatestLevel 40 = .ok (.istore_n 1, 1) := by decide +kernel
theorem dX10_greatestLevel_41 : decode cX10_greatestLevel 41 = .ok (.iinc 2 1, 3) := by decide +kernel
theorem dX10_greatestLevel_44 : decode cX10_greatestLevel 44 = .ok (.goto (-40), 3) := by decide +kernel
theorem dX10_greatestLevel_47 : decode cX10_greatestLevel 47 = .ok (.iload_n 1, 1) := by decide +kernel
theorem dX10_greatestLevel_48 : decode cX10_greatestLevel 48 = .ok (.ireturn, 1) := by decide +kernel
theorem dX10_ofKind_0 : decode cX10_ofKind 0 = .ok (.iconst 0, 1) := by decide +kernel
theorem dX10_ofKind_1 : decode cX10_ofKind 1 = .ok (.istore_n 2, 1) := by decide +kernel
theorem dX10_ofKind_2 : decode cX10_ofKind 2 = .ok (.iconst 0, 1) := by decide +kernel
theorem dX10_ofKind_3 : decode cX10_ofKind 3 = .ok (.istore_n 3, 1) := by decide +kernel
theorem dX10_ofKind_4 : decode cX10_ofKind 4 = .ok (.iload_n 3, 1) := by decide +kernel
theorem dX10_ofKind_5 : decode cX10_ofKind 5 = .ok (.aload_n 0, 1) := by decide +kernel
theorem dX10_ofKind_6 : decode cX10_ofKind 6 = .ok (.getfield 290, 3) := by decide +kernel
theorem dX10_ofKind_9 : decode cX10_ofKind 9 = .ok (.if_icmp .ge 35, 3) := by decide +kernel
theorem dX10_ofKind_12 : decode cX10_ofKind 12 = .ok (.iload_n 2, 1) := by decide +kernel
theorem dX10_ofKind_13 : decode cX10_ofKind 13 = .ok (.aload_n 0, 1) := by decide +kernel
theorem dX10_ofKind_14 : decode cX10_ofKind 14 = .ok (.iload_n 3, 1) := by decide +kernel
theorem dX10_ofKind_15 : decode cX10_ofKind 15 = .ok (.invokevirtual 334, 3) := by decide +kernel
theorem dX10_ofKind_18 : decode cX10_ofKind 18 = .ok (.ifCond .eq 17, 3) := by decide +kernel
theorem dX10_ofKind_21 : decode cX10_ofKind 21 = .ok (.aload_n 0, 1) := by decide +kernel
theorem dX10_ofKind_22 : decode cX10_ofKind 22 = .ok (.getfield 39, 3) := by decide +kernel
theorem dX10_ofKind_25 : decode cX10_ofKind 25 = .ok (.iload_n 3, 1) := by decide +kernel
theorem dX10_ofKind_26 : decode cX10_ofKind 26 = .ok (.iaload, 1) := by decide +kernel
theorem dX10_ofKind_27 : decode cX10_ofKind 27 = .ok (.iload_n 1, 1) := by decide +kernel
theorem dX10_ofKind_28 : decode cX10_ofKind 28 = .ok (.if_icmp .ne 7, 3) := by decide +kernel
theorem dX10_ofKind_31 : decode cX10_ofKind 31 = .ok (.iconst 1, 1) := by decide +kernel
theorem dX10_ofKind_32 : decode cX10_ofKind 32 = .ok (.goto 4, 3) := by decide +kernel
theorem dX10_ofKind_35 : decode cX10_ofKind 35 = .ok (.iconst 0, 1) := by decide +kernel
theorem dX10_ofKind_36 : decode cX10_ofKind 36 = .ok (.iadd, 1) := by decide +kernel
theorem dX10_ofKind_37 : decode cX10_ofKind 37 = .ok (.istore_n 2, 1) := by decide +kernel
theorem dX10_ofKind_38 : decode cX10_ofKind 38 = .ok (.iinc 3 1, 3) := by decide +kernel
theorem dX10_ofKind_41 : decode cX10_ofKind 41 = .ok (.goto (-37), 3) := by decide +kernel
theorem dX10_ofKind_44 : decode cX10_ofKind 44 = .ok (.iload_n 2, 1) := by decide +kernel
theorem dX10_ofKind_45 : decode cX10_ofKind 45 = .ok (.ireturn, 1) := by decide +kernel
theorem dX10_readCount_0 : decode cX10_readCount 0 = .ok (.aload_n 0, 1) := by decide +kernel
theorem dX10_readCount_1 : decode cX10_readCount 1 = .ok (.invokevirtual 343, 3) := by decide +kernel
theorem dX10_readCount_4 : decode cX10_readCount 4 = .ok (.iload_n 1, 1) := by decide +kernel
theorem dX10_readCount_5 : decode cX10_readCount 5 = .ok (.lookupswitch 66 #[(10, 27), (11, 45)], 27) := by decide +kernel
theorem dX10_readCount_32 : decode cX10_readCount 32 = .ok (.aload_n 0, 1) := by decide +kernel
theorem dX10_readCount_33 : decode cX10_readCount 33 = .ok (.getfield 418, 3) := by decide +kernel
theorem dX10_readCount_36 : decode cX10_readCount 36 = .ok (.ifCond .eq 12, 3) := by decide +kernel
theorem dX10_readCount_39 : decode cX10_readCount 39 = .ok (.aload_n 0, 1) := by decide +kernel
theorem dX10_readCount_40 : decode cX10_readCount 40 = .ok (.getfield 13, 3) := by decide +kernel
theorem dX10_readCount_43 : decode cX10_readCount 43 = .ok (.iconst 0, 1) := by decide +kernel
theorem dX10_readCount_44 : decode cX10_readCount 44 = .ok (.iaload, 1) := by decide +kernel
theorem dX10_readCount_45 : decode cX10_readCount 45 = .ok (.goto 4, 3) := by decide +kernel
theorem dX10_readCount_48 : decode cX10_readCount 48 = .ok (.iconst (-1), 1) := by decide +kernel
theorem dX10_readCount_49 : decode cX10_readCount 49 = .ok (.ireturn, 1) := by decide +kernel
theorem dX10_readCount_50 : decode cX10_readCount 50 = .ok (.aload_n 0, 1) := by decide +kernel
theorem dX10_readCount_51 : decode cX10_readCount 51 = .ok (.getfield 418, 3) := by decide +kernel
theorem dX10_readCount_54 : decode cX10_readCount 54 = .ok (.ifCond .eq 15, 3) := by decide +kernel
theorem dX10_readCount_57 : decode cX10_readCount 57 = .ok (.aload_n 0, 1) := by decide +kernel
theorem dX10_readCount_58 : decode cX10_readCount 58 = .ok (.getfield 346, 3) := by decide +kernel
theorem dX10_readCount_61 : decode cX10_readCount 61 = .ok (.iconst (-1), 1) := by decide +kernel
theorem dX10_readCount_62 : decode cX10_readCount 62 = .ok (.if_icmp .ne 7, 3) := by decide +kernel
theorem dX10_readCount_65 : decode cX10_readCount 65 = .ok (.iconst 1, 1) := by decide +kernel
theorem dX10_readCount_66 : decode cX10_readCount 66 = .ok (.goto 4, 3) := by decide +kernel
theorem dX10_readCount_69 : decode cX10_readCount 69 = .ok (.iconst 0, 1) := by decide +kernel
theorem dX10_readCount_70 : decode cX10_readCount 70 = .ok (.ireturn, 1) := by decide +kernel
theorem dX10_readCount_71 : decode cX10_readCount 71 = .ok (.aload_n 0, 1) := by decide +kernel
theorem dX10_readCount_72 : decode cX10_readCount 72 = .ok (.getfield 409, 3) := by decide +kernel
theorem dX10_readCount_75 : decode cX10_readCount 75 = .ok (.ireturn, 1) := by decide +kernel
theorem dX10_count_0 : decode cX10_count 0 = .ok (.aload_n 0, 1) := by decide +kernel
theorem dX10_count_1 : decode cX10_count 1 = .ok (.iconst 0, 1) := by decide +kernel
theorem dX10_count_2 : decode cX10_count 2 = .ok (.putfield 141, 3) := by decide +kernel
theorem dX10_count_5 : decode cX10_count 5 = .ok (.aload_n 0, 1) := by decide +kernel
theorem dX10_count_6 : decode cX10_count 6 = .ok (.iload_n 1, 1) := by decide +kernel
theorem dX10_count_7 : decode cX10_count 7 = .ok (.iconst 0, 1) := by decide +kernel
theorem dX10_count_8 : decode cX10_count 8 = .ok (.bipush 23, 2) := by decide +kernel
theorem dX10_count_10 : decode cX10_count 10 = .ok (.invokestatic 154, 3) := by decide +kernel
theorem dX10_count_13 : decode cX10_count 13 = .ok (.iconst 1, 1) := by decide +kernel
theorem dX10_count_14 : decode cX10_count 14 = .ok (.invokevirtual 269, 3) := by decide +kernel
theorem dX10_count_17 : decode cX10_count 17 = .ok (.ifCond .ne 5, 3) := by decide +kernel
theorem dX10_count_20 : decode cX10_count 20 = .ok (.iconst 0, 1) := by decide +kernel
theorem dX10_count_21 : decode cX10_count 21 = .ok (.ireturn, 1) := by decide +kernel
theorem dX10_count_22 : decode cX10_count 22 = .ok (.iload_n 1, 1) := by decide +kernel
theorem dX10_count_23 : decode cX10_count 23 = .ok (.tableswitch 192 0 23 #[109, 114, 119, 124, 124, 124, 124, 124, 124, 133, 138, 138, 144, 161, 180, 187, 192, 192, 192, 192, 192, 192, 192, 138], 109) := by decide +kernel
theorem dX10_count_132 : decode cX10_count 132 = .ok (.aload_n 0, 1) := by decide +kernel
theorem dX10_count_133 : decode cX10_count 133 = .ok (.getfield 281, 3) := by decide +kernel
theorem dX10_count_136 : decode cX10_count 136 = .ok (.ireturn, 1) := by decide +kernel
theorem dX10_count_137 : decode cX10_count 137 = .ok (.aload_n 0, 1) := by decide +kernel
theorem dX10_count_138 : decode cX10_count 138 = .ok (.invokevirtual 490, 3) := by decide +kernel
theorem dX10_count_141 : decode cX10_count 141 = .ok (.ireturn, 1) := by decide +kernel
theorem dX10_count_142 : decode cX10_count 142 = .ok (.aload_n 0, 1) := by decide +kernel
theorem dX10_count_143 : decode cX10_count 143 = .ok (.invokevirtual 494, 3) := by decide +kernel
theorem dX10_count_146 : decode cX10_count 146 = .ok (.ireturn, 1) := by decide +kernel
theorem dX10_count_147 : decode cX10_count 147 = .ok (.aload_n 0, 1) := by decide +kernel
theorem dX10_count_148 : decode cX10_count 148 = .ok (.getfield 51, 3) := by decide +kernel
theorem dX10_count_151 : decode cX10_count 151 = .ok (.iload_n 1, 1) := by decide +kernel
theorem dX10_count_152 : decode cX10_count 152 = .ok (.iconst 3, 1) := by decide +kernel
theorem dX10_count_153 : decode cX10_count 153 = .ok (.isub, 1) := by decide +kernel
theorem dX10_count_154 : decode cX10_count 154 = .ok (.iaload, 1) := by decide +kernel
theorem dX10_count_155 : decode cX10_count 155 = .ok (.ireturn, 1) := by decide +kernel
theorem dX10_count_156 : decode cX10_count 156 = .ok (.aload_n 0, 1) := by decide +kernel
theorem dX10_count_157 : decode cX10_count 157 = .ok (.getfield 316, 3) := by decide +kernel
theorem dX10_count_160 : decode cX10_count 160 = .ok (.ireturn, 1) := by decide +kernel
theorem dX10_count_161 : decode cX10_count 161 = .ok (.aload_n 0, 1) := by decide +kernel
theorem dX10_count_162 : decode cX10_count 162 = .ok (.iload_n 1, 1) := by decide +kernel
theorem dX10_count_163 : decode cX10_count 163 = .ok (.invokevirtual 497, 3) := by decide +kernel
theorem dX10_count_166 : decode cX10_count 166 = .ok (.ireturn, 1) := by decide +kernel
theorem dX10_count_167 : decode cX10_count 167 = .ok (.aload_n 0, 1) := by decide +kernel
theorem dX10_count_168 : decode cX10_count 168 = .ok (.iconst 1, 1) := by decide +kernel
theorem dX10_count_169 : decode cX10_count 169 = .ok (.invokevirtual 500, 3) := by decide +kernel
theorem dX10_count_172 : decode cX10_count 172 = .ok (.ifCond .eq 10, 3) := by decide +kernel
theorem dX10_count_175 : decode cX10_count 175 = .ok (.aload_n 0, 1) := by decide +kernel
theorem dX10_count_176 : decode cX10_count 176 = .ok (.getfield 474, 3) := by decide +kernel
theorem dX10_count_179 : decode cX10_count 179 = .ok (.goto 4, 3) := by decide +kernel
theorem dX10_count_182 : decode cX10_count 182 = .ok (.iconst (-1), 1) := by decide +kernel
theorem dX10_count_183 : decode cX10_count 183 = .ok (.ireturn, 1) := by decide +kernel
theorem dX10_count_184 : decode cX10_count 184 = .ok (.aload_n 0, 1) := by decide +kernel
theorem dX10_count_185 : decode cX10_count 185 = .ok (.iconst 1, 1) := by decide +kernel
theorem dX10_count_186 : decode cX10_count 186 = .ok (.invokevirtual 500, 3) := by decide +kernel
theorem dX10_count_189 : decode cX10_count 189 = .ok (.ifCond .eq 12, 3) := by decide +kernel
theorem dX10_count_192 : decode cX10_count 192 = .ok (.aload_n 0, 1) := by decide +kernel
theorem dX10_count_193 : decode cX10_count 193 = .ok (.getfield 13, 3) := by decide +kernel
theorem dX10_count_196 : decode cX10_count 196 = .ok (.iconst 1, 1) := by decide +kernel
theorem dX10_count_197 : decode cX10_count 197 = .ok (.iaload, 1) := by decide +kernel
theorem dX10_count_198 : decode cX10_count 198 = .ok (.goto 4, 3) := by decide +kernel
theorem dX10_count_201 : decode cX10_count 201 = .ok (.iconst (-1), 1) := by decide +kernel
theorem dX10_count_202 : decode cX10_count 202 = .ok (.ireturn, 1) := by decide +kernel
theorem dX10_count_203 : decode cX10_count 203 = .ok (.aload_n 0, 1) := by decide +kernel
theorem dX10_count_204 : decode cX10_count 204 = .ok (.getfield 13, 3) := by decide +kernel
theorem dX10_count_207 : decode cX10_count 207 = .ok (.iconst 2, 1) := by decide +kernel
theorem dX10_count_208 : decode cX10_count 208 = .ok (.iaload, 1) := by decide +kernel
theorem dX10_count_209 : decode cX10_count 209 = .ok (.ireturn, 1) := by decide +kernel
theorem dX10_count_210 : decode cX10_count 210 = .ok (.aload_n 0, 1) := by decide +kernel
theorem dX10_count_211 : decode cX10_count 211 = .ok (.getfield 144, 3) := by decide +kernel
theorem dX10_count_214 : decode cX10_count 214 = .ok (.ireturn, 1) := by decide +kernel
theorem dX10_count_215 : decode cX10_count 215 = .ok (.aload_n 0, 1) := by decide +kernel
theorem dX10_count_216 : decode cX10_count 216 = .ok (.iload_n 1, 1) := by decide +kernel
theorem dX10_count_217 : decode cX10_count 217 = .ok (.bipush 16, 2) := by decide +kernel
theorem dX10_count_219 : decode cX10_count 219 = .ok (.isub, 1) := by decide +kernel
theorem dX10_count_220 : decode cX10_count 220 = .ok (.invokevirtual 503, 3) := by decide +kernel
theorem dX10_count_223 : decode cX10_count 223 = .ok (.ireturn, 1) := by decide +kernel
theorem dX10_node_0 : decode cX10_node 0 = .ok (.aload_n 0, 1) := by decide +kernel
theorem dX10_node_1 : decode cX10_node 1 = .ok (.iconst 0, 1) := by decide +kernel
theorem dX10_node_2 : decode cX10_node 2 = .ok (.putfield 141, 3) := by decide +kernel
