theorem dX0_finishFunction_1 : decode cX0_finishFunction 1 = .ok (.getfield 23, 3) := by decide +kernel
theorem dX0_finishFunction_4 : decode cX0_finishFunction 4 = .ok (.invokevirtual 88, 3) := by decide +kernel
theorem dX0_finishFunction_7 : decode cX0_finishFunction 7 = .ok (.istore_n 2, 1) := by decide +kernel
theorem dX0_finishFunction_8 : decode cX0_finishFunction 8 = .ok (.iload_n 2, 1) := by decide +kernel
theorem dX0_finishFunction_9 : decode cX0_finishFunction 9 = .ok (.iconst (-1), 1) := by decide +kernel
theorem dX0_finishFunction_10 : decode cX0_finishFunction 10 = .ok (.if_icmp .ne 18, 3) := by decide +kernel
theorem dX0_finishFunction_13 : decode cX0_finishFunction 13 = .ok (.iconst 4, 1) := by decide +kernel
theorem dX0_finishFunction_14 : decode cX0_finishFunction 14 = .ok (.aload_n 0, 1) := by decide +kernel
theorem dX0_finishFunction_15 : decode cX0_finishFunction 15 = .ok (.getfield 30, 3) := by decide +kernel
theorem dX0_finishFunction_18 : decode cX0_finishFunction 18 = .ok (.bipush 6, 2) := by decide +kernel
theorem dX0_finishFunction_20 : decode cX0_finishFunction 20 = .ok (.iconst 0, 1) := by decide +kernel
theorem dX0_finishFunction_21 : decode cX0_finishFunction 21 = .ok (.invokevirtual 43, 3) := by decide +kernel
theorem dX0_finishFunction_24 : decode cX0_finishFunction 24 = .ok (.imul, 1) := by decide +kernel
theorem dX0_finishFunction_25 : decode cX0_finishFunction 25 = .ok (.goto 13, 3) := by decide +kernel
theorem dX0_finishFunction_28 : decode cX0_finishFunction 28 = .ok (.aload_n 0, 1) := by decide +kernel
theorem dX0_finishFunction_29 : decode cX0_finishFunction 29 = .ok (.getfield 20, 3) := by decide +kernel
theorem dX0_finishFunction_32 : decode cX0_finishFunction 32 = .ok (.iconst 3, 1) := by decide +kernel
theorem dX0_finishFunction_33 : decode cX0_finishFunction 33 = .ok (.iload_n 2, 1) := by decide +kernel
theorem dX0_finishFunction_34 : decode cX0_finishFunction 34 = .ok (.imul, 1) := by decide +kernel
theorem dX0_finishFunction_35 : decode cX0_finishFunction 35 = .ok (.invokevirtual 55, 3) := by decide +kernel
theorem dX0_finishFunction_38 : decode cX0_finishFunction 38 = .ok (.istore_n 3, 1) := by decide +kernel
theorem dX0_finishFunction_39 : decode cX0_finishFunction 39 = .ok (.aload_n 0, 1) := by decide +kernel
theorem dX0_finishFunction_40 : decode cX0_finishFunction 40 = .ok (.getfield 30, 3) := by decide +kernel
theorem dX0_finishFunction_43 : decode cX0_finishFunction 43 = .ok (.iload_n 3, 1) := by decide +kernel
theorem dX0_finishFunction_44 : decode cX0_finishFunction 44 = .ok (.iconst 4, 1) := by decide +kernel
theorem dX0_finishFunction_45 : decode cX0_finishFunction 45 = .ok (.iload_n 1, 1) := by decide +kernel
theorem dX0_finishFunction_46 : decode cX0_finishFunction 46 = .ok (.imul, 1) := by decide +kernel
theorem dX0_finishFunction_47 : decode cX0_finishFunction 47 = .ok (.iconst 2, 1) := by decide +kernel
theorem dX0_finishFunction_48 : decode cX0_finishFunction 48 = .ok (.iadd, 1) := by decide +kernel
theorem dX0_finishFunction_49 : decode cX0_finishFunction 49 = .ok (.invokevirtual 76, 3) := by decide +kernel
theorem dX0_finishFunction_52 : decode cX0_finishFunction 52 = .ok (.return_, 1) := by decide +kernel
set_option maxRecDepth 20000 in
theorem ggX0_bracketEnds_X3_size : GoodIn wsX0_bracketEnds wsX3_size := goodIn_r _ [9, 10, 47, 48, 49] (by decide +kernel) (by decide +kernel)
set_option maxRecDepth 20000 in
theorem gX0_bracketEnds_X3_size : GoodIn wsX0_bracketEnds (wsV RX0 47 RX3 yX3_size wsX3_size) := goodIn_app (goodIn_of _ (by decide +kernel)) ggX0_bracketEnds_X3_size
set_option maxRecDepth 20000 in
theorem ggX0_bracketEnds_X3_get : GoodIn wsX0_bracketEnds wsX3_get := goodIn_r _ [14, 10, 15, 47, 48, 49] (by decide +kernel) (by decide +kernel)
set_option maxRecDepth 20000 in
theorem gX0_bracketEnds_X3_get : GoodIn wsX0_bracketEnds (wsV RX0 55 RX3 yX3_get wsX3_get) := goodIn_app (goodIn_of _ (by decide +kernel)) ggX0_bracketEnds_X3_get
set_option maxRecDepth 20000 in
theorem ggX0_bracketEnds_X1_make : GoodIn wsX0_bracketEnds wsX1_make := goodIn_r _ [20, 21, 22, 23, 24, 25, 26, 27, 28, 29, 30, 31, 12, 13, 8, 14, 10, 15, 32, 33, 34, 35, 50, 51, 52, 53, 54, 55, 56, 57, 47, 48, 49] (by decide +kernel) (by decide +kernel)
set_option maxRecDepth 20000 in
theorem gX0_bracketEnds_X1_make : GoodIn wsX0_bracketEnds (wsV RX0 43 RX1 yX1_make wsX1_make) := goodIn_app (goodIn_of _ (by decide +kernel)) ggX0_bracketEnds_X1_make
set_option maxRecDepth 20000 in
theorem ggX0_bracketEnds_X1_link : GoodIn wsX0_bracketEnds wsX1_link := goodIn_r _ [39, 40, 32, 33, 34, 8, 35, 10, 15, 50, 51, 52, 53, 54, 55, 56, 57, 47, 48, 49] (by decide +kernel) (by decide +kernel)
set_option maxRecDepth 20000 in
theorem gX0_bracketEnds_X1_link : GoodIn wsX0_bracketEnds (wsV RX0 76 RX1 yX1_link wsX1_link) := goodIn_app (goodIn_of _ (by decide +kernel)) ggX0_bracketEnds_X1_link
set_option maxRecDepth 20000 in
theorem ggX0_bracketEnds_X3_set : GoodIn wsX0_bracketEnds wsX3_set := goodIn_r _ [35, 10, 15, 47, 48, 49] (by decide +kernel) (by decide +kernel)
set_option maxRecDepth 20000 in
theorem gX0_bracketEnds_X3_set : GoodIn wsX0_bracketEnds (wsV RX0 73 RX3 yX3_set wsX3_set) := goodIn_app (goodIn_of _ (by decide +kernel)) ggX0_bracketEnds_X3_set
theorem dX0_bracketEnds_0 : decode cX0_bracketEnds 0 = .ok (.iconst 0, 1) := by decide +kernel
theorem dX0_bracketEnds_1 : decode cX0_bracketEnds 1 = .ok (.istore_n 2, 1) := by decide +kernel
theorem dX0_bracketEnds_2 : decode cX0_bracketEnds 2 = .ok (.iload_n 2, 1) := by decide +kernel
theorem dX0_bracketEnds_3 : decode cX0_bracketEnds 3 = .ok (.aload_n 0, 1) := by decide +kernel
theorem dX0_bracketEnds_4 : decode cX0_bracketEnds 4 = .ok (.getfield 23, 3) := by decide +kernel
theorem dX0_bracketEnds_7 : decode cX0_bracketEnds 7 = .ok (.invokevirtual 47, 3) := by decide +kernel
theorem dX0_bracketEnds_10 : decode cX0_bracketEnds 10 = .ok (.if_icmp .ge 90, 3) := by decide +kernel
theorem dX0_bracketEnds_13 : decode cX0_bracketEnds 13 = .ok (.aload_n 0, 1) := by decide +kernel
theorem dX0_bracketEnds_14 : decode cX0_bracketEnds 14 = .ok (.getfield 23, 3) := by decide +kernel
theorem dX0_bracketEnds_17 : decode cX0_bracketEnds 17 = .ok (.iload_n 2, 1) := by decide +kernel
theorem dX0_bracketEnds_18 : decode cX0_bracketEnds 18 = .ok (.invokevirtual 55, 3) := by decide +kernel
theorem dX0_bracketEnds_21 : decode cX0_bracketEnds 21 = .ok (.istore_n 3, 1) := by decide +kernel
theorem dX0_bracketEnds_22 : decode cX0_bracketEnds 22 = .ok (.iload_n 3, 1) := by decide +kernel
theorem dX0_bracketEnds_23 : decode cX0_bracketEnds 23 = .ok (.iconst (-1), 1) := by decide +kernel
theorem dX0_bracketEnds_24 : decode cX0_bracketEnds 24 = .ok (.if_icmp .eq 70, 3) := by decide +kernel
theorem dX0_bracketEnds_27 : decode cX0_bracketEnds 27 = .ok (.aload_n 0, 1) := by decide +kernel
theorem dX0_bracketEnds_28 : decode cX0_bracketEnds 28 = .ok (.getfield 20, 3) := by decide +kernel
theorem dX0_bracketEnds_31 : decode cX0_bracketEnds 31 = .ok (.iconst 3, 1) := by decide +kernel
theorem dX0_bracketEnds_32 : decode cX0_bracketEnds 32 = .ok (.iload_n 3, 1) := by decide +kernel
theorem dX0_bracketEnds_33 : decode cX0_bracketEnds 33 = .ok (.imul, 1) := by decide +kernel
theorem dX0_bracketEnds_34 : decode cX0_bracketEnds 34 = .ok (.iconst 1, 1) := by decide +kernel
theorem dX0_bracketEnds_35 : decode cX0_bracketEnds 35 = .ok (.iadd, 1) := by decide +kernel
theorem dX0_bracketEnds_36 : decode cX0_bracketEnds 36 = .ok (.invokevirtual 55, 3) := by decide +kernel
theorem dX0_bracketEnds_39 : decode cX0_bracketEnds 39 = .ok (.iload_n 1, 1) := by decide +kernel
theorem dX0_bracketEnds_40 : decode cX0_bracketEnds 40 = .ok (.if_icmp .lt 54, 3) := by decide +kernel
theorem dX0_bracketEnds_43 : decode cX0_bracketEnds 43 = .ok (.aload_n 0, 1) := by decide +kernel
theorem dX0_bracketEnds_44 : decode cX0_bracketEnds 44 = .ok (.getfield 30, 3) := by decide +kernel
theorem dX0_bracketEnds_47 : decode cX0_bracketEnds 47 = .ok (.iconst 4, 1) := by decide +kernel
theorem dX0_bracketEnds_48 : decode cX0_bracketEnds 48 = .ok (.aload_n 0, 1) := by decide +kernel
theorem dX0_bracketEnds_49 : decode cX0_bracketEnds 49 = .ok (.getfield 26, 3) := by decide +kernel
theorem dX0_bracketEnds_52 : decode cX0_bracketEnds 52 = .ok (.invokevirtual 43, 3) := by decide +kernel
theorem dX0_bracketEnds_55 : decode cX0_bracketEnds 55 = .ok (.istore 4, 2) := by decide +kernel
theorem dX0_bracketEnds_57 : decode cX0_bracketEnds 57 = .ok (.aload_n 0, 1) := by decide +kernel
theorem dX0_bracketEnds_58 : decode cX0_bracketEnds 58 = .ok (.getfield 30, 3) := by decide +kernel
theorem dX0_bracketEnds_61 : decode cX0_bracketEnds 61 = .ok (.iconst 4, 1) := by decide +kernel
theorem dX0_bracketEnds_62 : decode cX0_bracketEnds 62 = .ok (.iload 4, 2) := by decide +kernel
theorem dX0_bracketEnds_64 : decode cX0_bracketEnds 64 = .ok (.imul, 1) := by decide +kernel
theorem dX0_bracketEnds_65 : decode cX0_bracketEnds 65 = .ok (.iconst 1, 1) := by decide +kernel
theorem dX0_bracketEnds_66 : decode cX0_bracketEnds 66 = .ok (.iadd, 1) := by decide +kernel
theorem dX0_bracketEnds_67 : decode cX0_bracketEnds 67 = .ok (.aload_n 0, 1) := by decide +kernel
theorem dX0_bracketEnds_68 : decode cX0_bracketEnds 68 = .ok (.getfield 20, 3) := by decide +kernel
theorem dX0_bracketEnds_71 : decode cX0_bracketEnds 71 = .ok (.iconst 3, 1) := by decide +kernel
theorem dX0_bracketEnds_72 : decode cX0_bracketEnds 72 = .ok (.iload_n 3, 1) := by decide +kernel
theorem dX0_bracketEnds_73 : decode cX0_bracketEnds 73 = .ok (.imul, 1) := by decide +kernel
theorem dX0_bracketEnds_74 : decode cX0_bracketEnds 74 = .ok (.invokevirtual 55, 3) := by decide +kernel
theorem dX0_bracketEnds_77 : decode cX0_bracketEnds 77 = .ok (.invokevirtual 76, 3) := by decide +kernel
theorem dX0_bracketEnds_80 : decode cX0_bracketEnds 80 = .ok (.aload_n 0, 1) := by decide +kernel
theorem dX0_bracketEnds_81 : decode cX0_bracketEnds 81 = .ok (.getfield 20, 3) := by decide +kernel
theorem dX0_bracketEnds_84 : decode cX0_bracketEnds 84 = .ok (.iconst 3, 1) := by decide +kernel
theorem dX0_bracketEnds_85 : decode cX0_bracketEnds 85 = .ok (.iload_n 3, 1) := by decide +kernel
theorem dX0_bracketEnds_86 : decode cX0_bracketEnds 86 = .ok (.imul, 1) := by decide +kernel
theorem dX0_bracketEnds_87 : decode cX0_bracketEnds 87 = .ok (.iconst 4, 1) := by decide +kernel
theorem dX0_bracketEnds_88 : decode cX0_bracketEnds 88 = .ok (.iload 4, 2) := by decide +kernel
theorem dX0_bracketEnds_90 : decode cX0_bracketEnds 90 = .ok (.imul, 1) := by decide +kernel
theorem dX0_bracketEnds_91 : decode cX0_bracketEnds 91 = .ok (.invokevirtual 73, 3) := by decide +kernel
theorem dX0_bracketEnds_94 : decode cX0_bracketEnds 94 = .ok (.iinc 2 1, 3) := by decide +kernel
theorem dX0_bracketEnds_97 : decode cX0_bracketEnds 97 = .ok (.goto (-95), 3) := by decide +kernel
theorem dX0_bracketEnds_100 : decode cX0_bracketEnds 100 = .ok (.return_, 1) := by decide +kernel
set_option maxRecDepth 20000 in
theorem ggX0_fanEnds_X3_size : GoodIn wsX0_fanEnds wsX3_size := goodIn_r _ [9, 10, 47, 48, 49] (by decide +kernel) (by decide +kernel)
set_option maxRecDepth 20000 in
theorem gX0_fanEnds_X3_size : GoodIn wsX0_fanEnds (wsV RX0 47 RX3 yX3_size wsX3_size) := goodIn_app (goodIn_of _ (by decide +kernel)) ggX0_fanEnds_X3_size
set_option maxRecDepth 20000 in
theorem ggX0_fanEnds_X3_get : GoodIn wsX0_fanEnds wsX3_get := goodIn_r _ [14, 10, 15, 47, 48, 49] (by decide +kernel) (by decide +kernel)
set_option maxRecDepth 20000 in
theorem gX0_fanEnds_X3_get : GoodIn wsX0_fanEnds (wsV RX0 55 RX3 yX3_get wsX3_get) := goodIn_app (goodIn_of _ (by decide +kernel)) ggX0_fanEnds_X3_get
set_option maxRecDepth 20000 in
theorem ggX0_fanEnds_X1_make : GoodIn wsX0_fanEnds wsX1_make := goodIn_r _ [20, 21, 22, 23, 24, 25, 26, 27, 28, 29, 30, 31, 12, 13, 8, 14, 10, 15, 32, 33, 34, 35, 50, 51, 52, 53, 54, 55, 56, 57, 47, 48, 49] (by decide +kernel) (by decide +kernel)
set_option maxRecDepth 20000 in
theorem gX0_fanEnds_X1_make : GoodIn wsX0_fanEnds (wsV RX0 43 RX1 yX1_make wsX1_make) := goodIn_app (goodIn_of _ (by decide +kernel)) ggX0_fanEnds_X1_make
set_option maxRecDepth 20000 in
theorem ggX0_fanEnds_X1_link : GoodIn wsX0_fanEnds wsX1_link := goodIn_r _ [39, 40, 32, 33, 34, 8, 35, 10, 15, 50, 51, 52, 53, 54, 55, 56, 57, 47, 48, 49] (by decide +kernel) (by decide +kernel)
set_option maxRecDepth 20000 in
theorem gX0_fanEnds_X1_link : GoodIn wsX0_fanEnds (wsV RX0 76 RX1 yX1_link wsX1_link) := goodIn_app (goodIn_of _ (by decide +kernel)) ggX0_fanEnds_X1_link
set_option maxRecDepth 20000 in
theorem ggX0_fanEnds_X3_set : GoodIn wsX0_fanEnds wsX3_set := goodIn_r _ [35, 10, 15, 47, 48, 49] (by decide +kernel) (by decide +kernel)
set_option maxRecDepth 20000 in
theorem gX0_fanEnds_X3_set : GoodIn wsX0_fanEnds (wsV RX0 73 RX3 yX3_set wsX3_set) := goodIn_app (goodIn_of _ (by decide +kernel)) ggX0_fanEnds_X3_set
theorem dX0_fanEnds_0 : decode cX0_fanEnds 0 = .ok (.iconst 0, 1) := by decide +kernel
theorem dX0_fanEnds_1 : decode cX0_fanEnds 1 = .ok (.istore_n 3, 1) := by decide +kernel
theorem dX0_fanEnds_2 : decode cX0_fanEnds 2 = .ok (.iload_n 3, 1) := by decide +kernel
theorem dX0_fanEnds_3 : decode cX0_fanEnds 3 = .ok (.aload_n 0, 1) := by decide +kernel
theorem dX0_fanEnds_4 : decode cX0_fanEnds 4 = .ok (.getfield 23, 3) := by decide +kernel
theorem dX0_fanEnds_7 : decode cX0_fanEnds 7 = .ok (.invokevirtual 47, 3) := by decide +kernel
theorem dX0_fanEnds_10 : decode cX0_fanEnds 10 = .ok (.if_icmp .ge 170, 3) := by decide +kernel
theorem dX0_fanEnds_13 : decode cX0_fanEnds 13 = .ok (.aload_n 0, 1) := by decide +kernel
theorem dX0_fanEnds_14 : decode cX0_fanEnds 14 = .ok (.getfield 23, 3) := by decide +kernel
theorem dX0_fanEnds_17 : decode cX0_fanEnds 17 = .ok (.iload_n 3, 1) := by decide +kernel
theorem dX0_fanEnds_18 : decode cX0_fanEnds 18 = .ok (.invokevirtual 55, 3) := by decide +kernel
theorem dX0_fanEnds_21 : decode cX0_fanEnds 21 = .ok (.istore 4, 2) := by decide +kernel
theorem dX0_fanEnds_23 : decode cX0_fanEnds 23 = .ok (.iload 4, 2) := by decide +kernel
theorem dX0_fanEnds_25 : decode cX0_fanEnds 25 = .ok (.iconst (-1), 1) := by decide +kernel
theorem dX0_fanEnds_26 : decode cX0_fanEnds 26 = .ok (.if_icmp .eq 148, 3) := by decide +kernel
theorem dX0_fanEnds_29 : decode cX0_fanEnds 29 = .ok (.aload_n 0, 1) := by decide +kernel
theorem dX0_fanEnds_30 : decode cX0_fanEnds 30 = .ok (.getfield 20, 3) := by decide +kernel
theorem dX0_fanEnds_33 : decode cX0_fanEnds 33 = .ok (.iconst 3, 1) := by decide +kernel
theorem dX0_fanEnds_34 : decode cX0_fanEnds 34 = .ok (.iload 4, 2) := by decide +kernel
theorem dX0_fanEnds_36 : decode cX0_fanEnds 36 = .ok (.imul, 1) := by decide +kernel
theorem dX0_fanEnds_37 : decode cX0_fanEnds 37 = .ok (.iconst 1, 1) := by decide +kernel
theorem dX0_fanEnds_38 : decode cX0_fanEnds 38 = .ok (.iadd, 1) := by decide +kernel
theorem dX0_fanEnds_39 : decode cX0_fanEnds 39 = .ok (.invokevirtual 55, 3) := by decide +kernel
theorem dX0_fanEnds_42 : decode cX0_fanEnds 42 = .ok (.iload_n 2, 1) := by decide +kernel
theorem dX0_fanEnds_43 : decode cX0_fanEnds 43 = .ok (.if_icmp .ge 6, 3) := by decide +kernel
theorem dX0_fanEnds_46 : decode cX0_fanEnds 46 = .ok (.goto 128, 3) := by decide +kernel
theorem dX0_fanEnds_49 : decode cX0_fanEnds 49 = .ok (.aload_n 0, 1) := by decide +kernel
theorem dX0_fanEnds_50 : decode cX0_fanEnds 50 = .ok (.getfield 20, 3) := by decide +kernel
theorem dX0_fanEnds_53 : decode cX0_fanEnds 53 = .ok (.iconst 3, 1) := by decide +kernel
theorem dX0_fanEnds_54 : decode cX0_fanEnds 54 = .ok (.iload 4, 2) := by decide +kernel
theorem dX0_fanEnds_56 : decode cX0_fanEnds 56 = .ok (.imul, 1) := by decide +kernel
theorem dX0_fanEnds_57 : decode cX0_fanEnds 57 = .ok (.iconst 2, 1) := by decide +kernel
theorem dX0_fanEnds_58 : decode cX0_fanEnds 58 = .ok (.iadd, 1) := by decide +kernel
theorem dX0_fanEnds_59 : decode cX0_fanEnds 59 = .ok (.invokevirtual 55, 3) := by decide +kernel
theorem dX0_fanEnds_62 : decode cX0_fanEnds 62 = .ok (.istore 5, 2) := by decide +kernel
theorem dX0_fanEnds_64 : decode cX0_fanEnds 64 = .ok (.iload 5, 2) := by decide +kernel
theorem dX0_fanEnds_66 : decode cX0_fanEnds 66 = .ok (.iconst (-1), 1) := by decide +kernel
theorem dX0_fanEnds_67 : decode cX0_fanEnds 67 = .ok (.if_icmp .eq 107, 3) := by decide +kernel
theorem dX0_fanEnds_70 : decode cX0_fanEnds 70 = .ok (.aload_n 0, 1) := by decide +kernel
theorem dX0_fanEnds_71 : decode cX0_fanEnds 71 = .ok (.getfield 20, 3) := by decide +kernel
theorem dX0_fanEnds_74 : decode cX0_fanEnds 74 = .ok (.iconst 3, 1) := by decide +kernel
theorem dX0_fanEnds_75 : decode cX0_fanEnds 75 = .ok (.iload 5, 2) := by decide +kernel
theorem dX0_fanEnds_77 : decode cX0_fanEnds 77 = .ok (.imul, 1) := by decide +kernel
theorem dX0_fanEnds_78 : decode cX0_fanEnds 78 = .ok (.iconst 1, 1) := by decide +kernel
theorem dX0_fanEnds_79 : decode cX0_fanEnds 79 = .ok (.iadd, 1) := by decide +kernel
theorem dX0_fanEnds_80 : decode cX0_fanEnds 80 = .ok (.invokevirtual 55, 3) := by decide +kernel
theorem dX0_fanEnds_83 : decode cX0_fanEnds 83 = .ok (.iload_n 1, 1) := by decide +kernel
theorem dX0_fanEnds_84 : decode cX0_fanEnds 84 = .ok (.if_icmp .le 90, 3) := by decide +kernel
theorem dX0_fanEnds_87 : decode cX0_fanEnds 87 = .ok (.aload_n 0, 1) := by decide +kernel
theorem dX0_fanEnds_88 : decode cX0_fanEnds 88 = .ok (.getfield 30, 3) := by decide +kernel
theorem dX0_fanEnds_91 : decode cX0_fanEnds 91 = .ok (.iconst 3, 1) := by decide +kernel
theorem dX0_fanEnds_92 : decode cX0_fanEnds 92 = .ok (.aload_n 0, 1) := by decide +kernel
theorem dX0_fanEnds_93 : decode cX0_fanEnds 93 = .ok (.getfield 26, 3) := by decide +kernel
theorem dX0_fanEnds_96 : decode cX0_fanEnds 96 = .ok (.invokevirtual 43, 3) := by decide +kernel
theorem dX0_fanEnds_99 : decode cX0_fanEnds 99 = .ok (.istore 6, 2) := by decide +kernel
theorem dX0_fanEnds_101 : decode cX0_fanEnds 101 = .ok (.aload_n 0, 1) := by decide +kernel
theorem dX0_fanEnds_102 : decode cX0_fanEnds 102 = .ok (.getfield 30, 3) := by decide +kernel
theorem dX0_fanEnds_105 : decode cX0_fanEnds 105 = .ok (.iconst 4, 1) := by decide +kernel
theorem dX0_fanEnds_106 : decode cX0_fanEnds 106 = .ok (.iload 6, 2) := by decide +kernel
theorem dX0_fanEnds_108 : decode cX0_fanEnds 108 = .ok (.imul, 1) := by decide +kernel
theorem dX0_fanEnds_109 : decode cX0_fanEnds 109 = .ok (.iconst 1, 1) := by decide +kernel
theorem dX0_fanEnds_110 : decode cX0_fanEnds 110 = .ok (.iadd, 1) := by decide +kernel
theorem dX0_fanEnds_111 : decode cX0_fanEnds 111 = .ok (.aload_n 0, 1) := by decide +kernel
theorem dX0_fanEnds_112 : decode cX0_fanEnds 112 = .ok (.getfield 20, 3) := by decide +kernel
theorem dX0_fanEnds_115 : decode cX0_fanEnds 115 = .ok (.iconst 3, 1) := by decide +kernel
theorem dX0_fanEnds_116 : decode cX0_fanEnds 116 = .ok (.iload 5, 2) := by decide +kernel
theorem dX0_fanEnds_118 : decode cX0_fanEnds 118 = .ok (.imul, 1) := by decide +kernel
theorem dX0_fanEnds_119 : decode cX0_fanEnds 119 = .ok (.invokevirtual 55, 3) := by decide +kernel
theorem dX0_fanEnds_122 : decode cX0_fanEnds 122 = .ok (.invokevirtual 76, 3) := by decide +kernel
theorem dX0_fanEnds_125 : decode cX0_fanEnds 125 = .ok (.aload_n 0, 1) := by decide +kernel
theorem dX0_fanEnds_126 : decode cX0_fanEnds 126 = .ok (.getfield 30, 3) := by decide +kernel
theorem dX0_fanEnds_129 : decode cX0_fanEnds 129 = .ok (.iconst 4, 1) := by decide +kernel
theorem dX0_fanEnds_130 : decode cX0_fanEnds 130 = .ok (.iload 6, 2) := by decide +kernel
theorem dX0_fanEnds_132 : decode cX0_fanEnds 132 = .ok (.imul, 1) := by decide +kernel
theorem dX0_fanEnds_133 : decode cX0_fanEnds 133 = .ok (.iconst 2, 1) := by decide +kernel
theorem dX0_fanEnds_134 : decode cX0_fanEnds 134 = .ok (.iadd, 1) := by decide +kernel
theorem dX0_fanEnds_135 : decode cX0_fanEnds 135 = .ok (.aload_n 0, 1) := by decide +kernel
theorem dX0_fanEnds_136 : decode cX0_fanEnds 136 = .ok (.getfield 20, 3) := by decide +kernel
theorem dX0_fanEnds_139 : decode cX0_fanEnds 139 = .ok (.iconst 3, 1) := by decide +kernel
theorem dX0_fanEnds_140 : decode cX0_fanEnds 140 = .ok (.iload 4, 2) := by decide +kernel
theorem dX0_fanEnds_142 : decode cX0_fanEnds 142 = .ok (.imul, 1) := by decide +kernel
theorem dX0_fanEnds_143 : decode cX0_fanEnds 143 = .ok (.invokevirtual 55, 3) := by decide +kernel
theorem dX0_fanEnds_146 : decode cX0_fanEnds 146 = .ok (.invokevirtual 76, 3) := by decide +kernel
theorem dX0_fanEnds_149 : decode cX0_fanEnds 149 = .ok (.aload_n 0, 1) := by decide +kernel
theorem dX0_fanEnds_150 : decode cX0_fanEnds 150 = .ok (.getfield 20, 3) := by decide +kernel
theorem dX0_fanEnds_153 : decode cX0_fanEnds 153 = .ok (.iconst 3, 1) := by decide +kernel
theorem dX0_fanEnds_154 : decode cX0_fanEnds 154 = .ok (.iload 5, 2) := by decide +kernel
theorem dX0_fanEnds_156 : decode cX0_fanEnds 156 = .ok (.imul, 1) := by decide +kernel
theorem dX0_fanEnds_157 : decode cX0_fanEnds 157 = .ok (.iconst 4, 1) := by decide +kernel
theorem dX0_fanEnds_158 : decode cX0_fanEnds 158 = .ok (.iload 6, 2) := by decide +kernel
theorem dX0_fanEnds_160 : decode cX0_fanEnds 160 = .ok (.imul, 1) := by decide +kernel
theorem dX0_fanEnds_161 : decode cX0_fanEnds 161 = .ok (.invokevirtual 73, 3) := by decide +kernel
theorem dX0_fanEnds_164 : decode cX0_fanEnds 164 = .ok (.aload_n 0, 1) := by decide +kernel
theorem dX0_fanEnds_165 : decode cX0_fanEnds 165 = .ok (.getfield 23, 3) := by decide +kernel
theorem dX0_fanEnds_168 : decode cX0_fanEnds 168 = .ok (.iload_n 3, 1) := by decide +kernel
theorem dX0_fanEnds_169 : decode cX0_fanEnds 169 = .ok (.iload 5, 2) := by decide +kernel
theorem dX0_fanEnds_171 : decode cX0_fanEnds 171 = .ok (.invokevirtual 73, 3) := by decide +kernel
theorem dX0_fanEnds_174 : decode cX0_fanEnds 174 = .ok (.iinc 3 1, 3) := by decide +kernel
theorem dX0_fanEnds_177 : decode cX0_fanEnds 177 = .ok (.goto (-175), 3) := by decide +kernel
theorem dX0_fanEnds_180 : decode cX0_fanEnds 180 = .ok (.return_, 1) := by decide +kernel
set_option maxRecDepth 20000 in
theorem ggX1_init_X3_init : GoodIn wsX1_init wsX3_init := goodIn_r _ [17, 18, 2, 3, 19, 20, 21, 22, 23, 24, 25, 26, 27, 28, 29, 34, 35, 36] (by decide +kernel) (by decide +kernel)
set_option maxRecDepth 20000 in
theorem gX1_init_X3_init : GoodIn wsX1_init (wsX3_init) := ggX1_init_X3_init
set_option maxRecDepth 20000 in
theorem ggX1_init_X3_fill : GoodIn wsX1_init wsX3_fill := goodIn_r _ [33, 29, 28, 34, 35, 36] (by decide +kernel) (by decide +kernel)
set_option maxRecDepth 20000 in
theorem gX1_init_X3_fill : GoodIn wsX1_init (wsV RX1 43 RX3 yX3_fill wsX3_fill) := goodIn_app (goodIn_of _ (by decide +kernel)) ggX1_init_X3_fill
theorem dX1_init_0 : decode cX1_init 0 = .ok (.aload_n 0, 1) := by decide +kernel
theorem dX1_init_1 : decode cX1_init 1 = .ok (.invokespecial 3, 3) := by decide +kernel
theorem dX1_init_4 : decode cX1_init 4 = .ok (.aload_n 0, 1) := by decide +kernel
theorem dX1_init_5 : decode cX1_init 5 = .ok (.new 9, 3) := by decide +kernel
theorem dX1_init_8 : decode cX1_init 8 = .ok (.dup, 1) := by decide +kernel
theorem dX1_init_9 : decode cX1_init 9 = .ok (.sipush 402, 3) := by decide +kernel
theorem dX1_init_12 : decode cX1_init 12 = .ok (.sipush 402, 3) := by decide +kernel
theorem dX1_init_15 : decode cX1_init 15 = .ok (.invokespecial 13, 3) := by decide +kernel
theorem dX1_init_18 : decode cX1_init 18 = .ok (.putfield 16, 3) := by decide +kernel
theorem dX1_init_21 : decode cX1_init 21 = .ok (.aload_n 0, 1) := by decide +kernel
theorem dX1_init_22 : decode cX1_init 22 = .ok (.new 9, 3) := by decide +kernel
theorem dX1_init_25 : decode cX1_init 25 = .ok (.dup, 1) := by decide +kernel
theorem dX1_init_26 : decode cX1_init 26 = .ok (.sipush 402, 3) := by decide +kernel
theorem dX1_init_29 : decode cX1_init 29 = .ok (.sipush 402, 3) := by decide +kernel
theorem dX1_init_32 : decode cX1_init 32 = .ok (.invokespecial 13, 3) := by decide +kernel
theorem dX1_init_35 : decode cX1_init 35 = .ok (.putfield 20, 3) := by decide +kernel
theorem dX1_init_38 : decode cX1_init 38 = .ok (.aload_n 0, 1) := by decide +kernel
theorem dX1_init_39 : decode cX1_init 39 = .ok (.new 9, 3) := by decide +kernel
theorem dX1_init_42 : decode cX1_init 42 = .ok (.dup, 1) := by decide +kernel
theorem dX1_init_43 : decode cX1_init 43 = .ok (.sipush 1608, 3) := by decide +kernel
theorem dX1_init_46 : decode cX1_init 46 = .ok (.sipush 1608, 3) := by decide +kernel
theorem dX1_init_49 : decode cX1_init 49 = .ok (.invokespecial 13, 3) := by decide +kernel
theorem dX1_init_52 : decode cX1_init 52 = .ok (.putfield 23, 3) := by decide +kernel
theorem dX1_init_55 : decode cX1_init 55 = .ok (.aload_n 0, 1) := by decide +kernel
theorem dX1_init_56 : decode cX1_init 56 = .ok (.new 9, 3) := by decide +kernel
theorem dX1_init_59 : decode cX1_init 59 = .ok (.dup, 1) := by decide +kernel
theorem dX1_init_60 : decode cX1_init 60 = .ok (.iconst 2, 1) := by decide +kernel
theorem dX1_init_61 : decode cX1_init 61 = .ok (.iconst 2, 1) := by decide +kernel
theorem dX1_init_62 : decode cX1_init 62 = .ok (.invokespecial 13, 3) := by decide +kernel
theorem dX1_init_65 : decode cX1_init 65 = .ok (.putfield 26, 3) := by decide +kernel
theorem dX1_init_68 : decode cX1_init 68 = .ok (.aload_n 0, 1) := by decide +kernel
theorem dX1_init_69 : decode cX1_init 69 = .ok (.iconst 0, 1) := by decide +kernel
theorem dX1_init_70 : decode cX1_init 70 = .ok (.putfield 29, 3) := by decide +kernel
theorem dX1_init_73 : decode cX1_init 73 = .ok (.aload_n 0, 1) := by decide +kernel
theorem dX1_init_74 : decode cX1_init 74 = .ok (.iconst 0, 1) := by decide +kernel
theorem dX1_init_75 : decode cX1_init 75 = .ok (.putfield 33, 3) := by decide +kernel
theorem dX1_init_78 : decode cX1_init 78 = .ok (.aload_n 0, 1) := by decide +kernel
theorem dX1_init_79 : decode cX1_init 79 = .ok (.iconst 0, 1) := by decide +kernel
theorem dX1_init_80 : decode cX1_init 80 = .ok (.putfield 36, 3) := by decide +kernel
theorem dX1_init_83 : decode cX1_init 83 = .ok (.aload_n 0, 1) := by decide +kernel
theorem dX1_init_84 : decode cX1_init 84 = .ok (.iconst 0, 1) := by decide +kernel
theorem dX1_init_85 : decode cX1_init 85 = .ok (.putfield 39, 3) := by decide +kernel
theorem dX1_init_88 : decode cX1_init 88 = .ok (.aload_n 0, 1) := by decide +kernel
theorem dX1_init_89 : decode cX1_init 89 = .ok (.getfield 16, 3) := by decide +kernel
theorem dX1_init_92 : decode cX1_init 92 = .ok (.sipush 402, 3) := by decide +kernel
theorem dX1_init_95 : decode cX1_init 95 = .ok (.iconst (-1), 1) := by decide +kernel
theorem dX1_init_96 : decode cX1_init 96 = .ok (.invokevirtual 43, 3) := by decide +kernel
theorem dX1_init_99 : decode cX1_init 99 = .ok (.aload_n 0, 1) := by decide +kernel
theorem dX1_init_100 : decode cX1_init 100 = .ok (.getfield 20, 3) := by decide +kernel
theorem dX1_init_103 : decode cX1_init 103 = .ok (.sipush 402, 3) := by decide +kernel
theorem dX1_init_106 : decode cX1_init 106 = .ok (.iconst 0, 1) := by decide +kernel
theorem dX1_init_107 : decode cX1_init 107 = .ok (.invokevirtual 43, 3) := by decide +kernel
theorem dX1_init_110 : decode cX1_init 110 = .ok (.aload_n 0, 1) := by decide +kernel
theorem dX1_init_111 : decode cX1_init 111 = .ok (.getfield 23, 3) := by decide +kernel
theorem dX1_init_114 : decode cX1_init 114 = .ok (.sipush 1608, 3) := by decide +kernel
theorem dX1_init_117 : decode cX1_init 117 = .ok (.iconst 0, 1) := by decide +kernel
theorem dX1_init_118 : decode cX1_init 118 = .ok (.invokevirtual 43, 3) := by decide +kernel
theorem dX1_init_121 : decode cX1_init 121 = .ok (.return_, 1) := by decide +kernel
set_option maxRecDepth 20000 in
theorem ggX1_clear_X3_fill : GoodIn wsX1_clear wsX3_fill := goodIn_r _ [10, 11, 12, 21, 22, 23] (by decide +kernel) (by decide +kernel)
set_option maxRecDepth 20000 in
theorem gX1_clear_X3_fill : GoodIn wsX1_clear (wsV RX1 43 RX3 yX3_fill wsX3_fill) := goodIn_app (goodIn_of _ (by decide +kernel)) ggX1_clear_X3_fill
theorem dX1_clear_0 : decode cX1_clear 0 = .ok (.aload_n 0, 1) := by decide +kernel
theorem dX1_clear_1 : decode cX1_clear 1 = .ok (.getfield 16, 3) := by decide +kernel
theorem dX1_clear_4 : decode cX1_clear 4 = .ok (.sipush 402, 3) := by decide +kernel
theorem dX1_clear_7 : decode cX1_clear 7 = .ok (.iconst (-1), 1) := by decide +kernel
theorem dX1_clear_8 : decode cX1_clear 8 = .ok (.invokevirtual 43, 3) := by decide +kernel
theorem dX1_clear_11 : decode cX1_clear 11 = .ok (.aload_n 0, 1) := by decide +kernel
theorem dX1_clear_12 : decode cX1_clear 12 = .ok (.iconst 0, 1) := by decide +kernel
theorem dX1_clear_13 : decode cX1_clear 13 = .ok (.putfield 29, 3) := by decide +kernel
theorem dX1_clear_16 : decode cX1_clear 16 = .ok (.aload_n 0, 1) := by decide +kernel
theorem dX1_clear_17 : decode cX1_clear 17 = .ok (.iconst 0, 1) := by decide +kernel
theorem dX1_clear_18 : decode cX1_clear 18 = .ok (.putfield 33, 3) := by decide +kernel
theorem dX1_clear_21 : decode cX1_clear 21 = .ok (.aload_n 0, 1) := by decide +kernel
theorem dX1_clear_22 : decode cX1_clear 22 = .ok (.iconst 0, 1) := by decide +kernel
theorem dX1_clear_23 : decode cX1_clear 23 = .ok (.putfield 36, 3) := by decide +kernel
theorem dX1_clear_26 : decode cX1_clear 26 = .ok (.aload_n 0, 1) := by decide +kernel
theorem dX1_clear_27 : decode cX1_clear 27 = .ok (.iconst 0, 1) := by decide +kernel
theorem dX1_clear_28 : decode cX1_clear 28 = .ok (.putfield 39, 3) := by decide +kernel
theorem dX1_clear_31 : decode cX1_clear 31 = .ok (.return_, 1) := by decide +kernel
set_option maxRecDepth 20000 in
theorem ggX1_copy_X3_copy : GoodIn wsX1_copy wsX3_copy := goodIn_r _ [12, 13, 14, 15, 16, 17, 18, 19, 20, 21, 22, 23, 24, 25, 26, 27, 28, 29, 30, 31, 32, 33, 34, 35, 36, 37, 38, 39, 48, 49, 50] (by decide +kernel) (by decide +kernel)
set_option maxRecDepth 20000 in
theorem gX1_copy_X3_copy : GoodIn wsX1_copy (wsV RX1 46 RX3 yX3_copy wsX3_copy) := goodIn_app (goodIn_of _ (by decide +kernel)) ggX1_copy_X3_copy
theorem dX1_copy_0 : decode cX1_copy 0 = .ok (.aload_n 0, 1) := by decide +kernel
theorem dX1_copy_1 : decode cX1_copy 1 = .ok (.getfield 16, 3) := by decide +kernel
theorem dX1_copy_4 : decode cX1_copy 4 = .ok (.aload_n 1, 1) := by decide +kernel
theorem dX1_copy_5 : decode cX1_copy 5 = .ok (.getfield 16, 3) := by decide +kernel
theorem dX1_copy_8 : decode cX1_copy 8 = .ok (.invokevirtual 46, 3) := by decide +kernel
theorem dX1_copy_11 : decode cX1_copy 11 = .ok (.aload_n 0, 1) := by decide +kernel
theorem dX1_copy_12 : decode cX1_copy 12 = .ok (.getfield 20, 3) := by decide +kernel
theorem dX1_copy_15 : decode cX1_copy 15 = .ok (.aload_n 1, 1) := by decide +kernel
theorem dX1_copy_16 : decode cX1_copy 16 = .ok (.getfield 20, 3) := by decide +kernel
theorem dX1_copy_19 : decode cX1_copy 19 = .ok (.invokevirtual 46, 3) := by decide +kernel
theorem dX1_copy_22 : decode cX1_copy 22 = .ok (.aload_n 0, 1) := by decide +kernel
theorem dX1_copy_23 : decode cX1_copy 23 = .ok (.getfield 23, 3) := by decide +kernel
theorem dX1_copy_26 : decode cX1_copy 26 = .ok (.aload_n 1, 1) := by decide +kernel
theorem dX1_copy_27 : decode cX1_copy 27 = .ok (.getfield 23, 3) := by decide +kernel
theorem dX1_copy_30 : decode cX1_copy 30 = .ok (.invokevirtual 46, 3) := by decide +kernel
theorem dX1_copy_33 : decode cX1_copy 33 = .ok (.aload_n 0, 1) := by decide +kernel
theorem dX1_copy_34 : decode cX1_copy 34 = .ok (.aload_n 1, 1) := by decide +kernel
theorem dX1_copy_35 : decode cX1_copy 35 = .ok (.getfield 29, 3) := by decide +kernel
theorem dX1_copy_38 : decode cX1_copy 38 = .ok (.putfield 29, 3) := by decide +kernel
theorem dX1_copy_41 : decode cX1_copy 41 = .ok (.aload_n 0, 1) := by decide +kernel
theorem dX1_copy_42 : decode cX1_copy 42 = .ok (.aload_n 1, 1) := by decide +kernel
theorem dX1_copy_43 : decode cX1_copy 43 = .ok (.getfield 33, 3) := by decide +kernel
theorem dX1_copy_46 : decode cX1_copy 46 = .ok (.putfield 33, 3) := by decide +kernel
theorem dX1_copy_49 : decode cX1_copy 49 = .ok (.aload_n 0, 1) := by decide +kernel
theorem dX1_copy_50 : decode cX1_copy 50 = .ok (.aload_n 1, 1) := by decide +kernel
theorem dX1_copy_51 : decode cX1_copy 51 = .ok (.getfield 36, 3) := by decide +kernel
theorem dX1_copy_54 : decode cX1_copy 54 = .ok (.putfield 36, 3) := by decide +kernel
theorem dX1_copy_57 : decode cX1_copy 57 = .ok (.aload_n 0, 1) := by decide +kernel
theorem dX1_copy_58 : decode cX1_copy 58 = .ok (.aload_n 1, 1) := by decide +kernel
theorem dX1_copy_59 : decode cX1_copy 59 = .ok (.getfield 39, 3) := by decide +kernel
theorem dX1_copy_62 : decode cX1_copy 62 = .ok (.putfield 39, 3) := by decide +kernel
theorem dX1_copy_65 : decode cX1_copy 65 = .ok (.return_, 1) := by decide +kernel
theorem dX1_size_0 : decode cX1_size 0 = .ok (.aload_n 0, 1) := by decide +kernel
theorem dX1_size_1 : decode cX1_size 1 = .ok (.getfield 29, 3) := by decide +kernel
theorem dX1_size_4 : decode cX1_size 4 = .ok (.ireturn, 1) := by decide +kernel
theorem dX1_isOverfull_0 : decode cX1_isOverfull 0 = .ok (.aload_n 0, 1) := by decide +kernel
theorem dX1_isOverfull_1 : decode cX1_isOverfull 1 = .ok (.getfield 39, 3) := by decide +kernel
theorem dX1_isOverfull_4 : decode cX1_isOverfull 4 = .ok (.ireturn, 1) := by decide +kernel
set_option maxRecDepth 20000 in
theorem ggX1_has_X3_get : GoodIn wsX1_has wsX3_get := goodIn_r _ [6, 7, 8, 17, 18, 19] (by decide +kernel) (by decide +kernel)
set_option maxRecDepth 20000 in
theorem gX1_has_X3_get : GoodIn wsX1_has (wsV RX1 50 RX3 yX3_get wsX3_get) := goodIn_app (goodIn_of _ (by decide +kernel)) ggX1_has_X3_get
theorem dX1_has_0 : decode cX1_has 0 = .ok (.iload_n 1, 1) := by decide +kernel
theorem dX1_has_1 : decode cX1_has 1 = .ok (.ifCond .lt 26, 3) := by decide +kernel
theorem dX1_has_4 : decode cX1_has 4 = .ok (.iload_n 1, 1) := by decide +kernel
theorem dX1_has_5 : decode cX1_has 5 = .ok (.sipush 400, 3) := by decide +kernel
theorem dX1_has_8 : decode cX1_has 8 = .ok (.if_icmp .ge 19, 3) := by decide +kernel
theorem dX1_has_11 : decode cX1_has 11 = .ok (.aload_n 0, 1) := by decide +kernel
theorem dX1_has_12 : decode cX1_has 12 = .ok (.getfield 16, 3) := by decide +kernel
theorem dX1_has_15 : decode cX1_has 15 = .ok (.iload_n 1, 1) := by decide +kernel
theorem dX1_has_16 : decode cX1_has 16 = .ok (.invokevirtual 50, 3) := by decide +kernel
theorem dX1_has_19 : decode cX1_has 19 = .ok (.iconst (-1), 1) := by decide +kernel
theorem dX1_has_20 : decode cX1_has 20 = .ok (.if_icmp .eq 7, 3) := by decide +kernel
theorem dX1_has_23 : decode cX1_has 23 = .ok (.iconst 1, 1) := by decide +kernel
theorem dX1_has_24 : decode cX1_has 24 = .ok (.goto 4, 3) := by decide +kernel
theorem dX1_has_27 : decode cX1_has 27 = .ok (.iconst 0, 1) := by decide +kernel
theorem dX1_has_28 : decode cX1_has 28 = .ok (.ireturn, 1) := by decide +kernel
set_option maxRecDepth 20000 in
theorem ggX1_kind_X3_get : GoodIn wsX1_kind wsX3_get := goodIn_r _ [6, 7, 8, 17, 18, 19] (by decide +kernel) (by decide +kernel)
set_option maxRecDepth 20000 in
theorem gX1_kind_X3_get : GoodIn wsX1_kind (wsV RX1 50 RX3 yX3_get wsX3_get) := goodIn_app (goodIn_of _ (by decide +kernel)) ggX1_kind_X3_get
theorem dX1_kind_0 : decode cX1_kind 0 = .ok (.aload_n 0, 1) := by decide +kernel
theorem dX1_kind_1 : decode cX1_kind 1 = .ok (.getfield 16, 3) := by decide +kernel
theorem dX1_kind_4 : decode cX1_kind 4 = .ok (.iload_n 1, 1) := by decide +kernel
theorem dX1_kind_5 : decode cX1_kind 5 = .ok (.invokevirtual 50, 3) := by decide +kernel
theorem dX1_kind_8 : decode cX1_kind 8 = .ok (.ireturn, 1) := by decide +kernel
set_option maxRecDepth 20000 in
theorem ggX1_level_X3_get : GoodIn wsX1_level wsX3_get := goodIn_r _ [6, 7, 8, 17, 18, 19] (by decide +kernel) (by decide +kernel)
set_option maxRecDepth 20000 in
theorem gX1_level_X3_get : GoodIn wsX1_level (wsV RX1 50 RX3 yX3_get wsX3_get) := goodIn_app (goodIn_of _ (by decide +kernel)) ggX1_level_X3_get
theorem dX1_level_0 : decode cX1_level 0 = .ok (.aload_n 0, 1) := by decide +kernel
theorem dX1_level_1 : decode cX1_level 1 = .ok (.getfield 20, 3) := by decide +kernel
theorem dX1_level_4 : decode cX1_level 4 = .ok (.iload_n 1, 1) := by decide +kernel
theorem dX1_level_5 : decode cX1_level 5 = .ok (.invokevirtual 50, 3) := by decide +kernel
theorem dX1_level_8 : decode cX1_level 8 = .ok (.ireturn, 1) := by decide +kernel
set_option maxRecDepth 20000 in
theorem ggX1_ports_X3_get : GoodIn wsX1_ports wsX3_get := goodIn_r _ [6, 7, 8, 17, 18, 19] (by decide +kernel) (by decide +kernel)
set_option maxRecDepth 20000 in
theorem gX1_ports_X3_get : GoodIn wsX1_ports (wsV RX1 50 RX3 yX3_get wsX3_get) := goodIn_app (goodIn_of _ (by decide +kernel)) ggX1_ports_X3_get
theorem dX1_ports_0 : decode cX1_ports 0 = .ok (.aload_n 0, 1) := by decide +kernel
theorem dX1_ports_1 : decode cX1_ports 1 = .ok (.getfield 16, 3) := by decide +kernel
theorem dX1_ports_4 : decode cX1_ports 4 = .ok (.iload_n 1, 1) := by decide +kernel
theorem dX1_ports_5 : decode cX1_ports 5 = .ok (.invokevirtual 50, 3) := by decide +kernel
theorem dX1_ports_8 : decode cX1_ports 8 = .ok (.istore_n 2, 1) := by decide +kernel
theorem dX1_ports_9 : decode cX1_ports 9 = .ok (.iload_n 2, 1) := by decide +kernel
theorem dX1_ports_10 : decode cX1_ports 10 = .ok (.ifCond .lt 19, 3) := by decide +kernel
theorem dX1_ports_13 : decode cX1_ports 13 = .ok (.iload_n 2, 1) := by decide +kernel
theorem dX1_ports_14 : decode cX1_ports 14 = .ok (.getstatic 54, 3) := by decide +kernel
theorem dX1_ports_17 : decode cX1_ports 17 = .ok (.arraylength, 1) := by decide +kernel
theorem dX1_ports_18 : decode cX1_ports 18 = .ok (.if_icmp .ge 11, 3) := by decide +kernel
theorem dX1_ports_21 : decode cX1_ports 21 = .ok (.getstatic 54, 3) := by decide +kernel
theorem dX1_ports_24 : decode cX1_ports 24 = .ok (.iload_n 2, 1) := by decide +kernel
theorem dX1_ports_25 : decode cX1_ports 25 = .ok (.iaload, 1) := by decide +kernel
theorem dX1_ports_26 : decode cX1_ports 26 = .ok (.goto 4, 3) := by decide +kernel
theorem dX1_ports_29 : decode cX1_ports 29 = .ok (.iconst 0, 1) := by decide +kernel
theorem dX1_ports_30 : decode cX1_ports 30 = .ok (.ireturn, 1) := by decide +kernel
set_option maxRecDepth 20000 in
theorem ggX1_wire_X3_get : GoodIn wsX1_wire wsX3_get := goodIn_r _ [6, 7, 8, 17, 18, 19] (by decide +kernel) (by decide +kernel)
set_option maxRecDepth 20000 in
theorem gX1_wire_X3_get : GoodIn wsX1_wire (wsV RX1 50 RX3 yX3_get wsX3_get) := goodIn_app (goodIn_of _ (by decide +kernel)) ggX1_wire_X3_get
theorem dX1_wire_0 : decode cX1_wire 0 = .ok (.aload_n 0, 1) := by decide +kernel
theorem dX1_wire_1 : decode cX1_wire 1 = .ok (.getfield 23, 3) := by decide +kernel
theorem dX1_wire_4 : decode cX1_wire 4 = .ok (.iload_n 1, 1) := by decide +kernel
theorem dX1_wire_5 : decode cX1_wire 5 = .ok (.invokevirtual 50, 3) := by decide +kernel
theorem dX1_wire_8 : decode cX1_wire 8 = .ok (.ireturn, 1) := by decide +kernel
set_option maxRecDepth 20000 in
theorem ggX1_make_X3_get : GoodIn wsX1_make wsX3_get := goodIn_r _ [15, 16, 17, 30, 31, 32] (by decide +kernel) (by decide +kernel)
set_option maxRecDepth 20000 in
theorem gX1_make_X3_get : GoodIn wsX1_make (wsV RX1 50 RX3 yX3_get wsX3_get) := goodIn_app (goodIn_of _ (by decide +kernel)) ggX1_make_X3_get
set_option maxRecDepth 20000 in
theorem ggX1_make_X3_set : GoodIn wsX1_make wsX3_set := goodIn_r _ [21, 16, 17, 30, 31, 32] (by decide +kernel) (by decide +kernel)
set_option maxRecDepth 20000 in
theorem gX1_make_X3_set : GoodIn wsX1_make (wsV RX1 58 RX3 yX3_set wsX3_set) := goodIn_app (goodIn_of _ (by decide +kernel)) ggX1_make_X3_set
theorem dX1_make_0 : decode cX1_make 0 = .ok (.aload_n 0, 1) := by decide +kernel
theorem dX1_make_1 : decode cX1_make 1 = .ok (.getfield 33, 3) := by decide +kernel
theorem dX1_make_4 : decode cX1_make 4 = .ok (.istore_n 3, 1) := by decide +kernel
theorem dX1_make_5 : decode cX1_make 5 = .ok (.iload_n 3, 1) := by decide +kernel
theorem dX1_make_6 : decode cX1_make 6 = .ok (.sipush 400, 3) := by decide +kernel
theorem dX1_make_9 : decode cX1_make 9 = .ok (.if_icmp .ge 72, 3) := by decide +kernel
theorem dX1_make_12 : decode cX1_make 12 = .ok (.aload_n 0, 1) := by decide +kernel
theorem dX1_make_13 : decode cX1_make 13 = .ok (.getfield 16, 3) := by decide +kernel
theorem dX1_make_16 : decode cX1_make 16 = .ok (.iload_n 3, 1) := by decide +kernel
theorem dX1_make_17 : decode cX1_make 17 = .ok (.invokevirtual 50, 3) := by decide +kernel
theorem dX1_make_20 : decode cX1_make 20 = .ok (.iconst (-1), 1) := by decide +kernel
theorem dX1_make_21 : decode cX1_make 21 = .ok (.if_icmp .ne 54, 3) := by decide +kernel
theorem dX1_make_24 : decode cX1_make 24 = .ok (.aload_n 0, 1) := by decide +kernel
theorem dX1_make_25 : decode cX1_make 25 = .ok (.getfield 16, 3) := by decide +kernel
theorem dX1_make_28 : decode cX1_make 28 = .ok (.iload_n 3, 1) := by decide +kernel
theorem dX1_make_29 : decode cX1_make 29 = .ok (.iload_n 1, 1) := by decide +kernel
theorem dX1_make_30 : decode cX1_make 30 = .ok (.invokevirtual 58, 3) := by decide +kernel
theorem dX1_make_33 : decode cX1_make 33 = .ok (.aload_n 0, 1) := by decide +kernel
theorem dX1_make_34 : decode cX1_make 34 = .ok (.getfield 20, 3) := by decide +kernel
theorem dX1_make_37 : decode cX1_make 37 = .ok (.iload_n 3, 1) := by decide +kernel
theorem dX1_make_38 : decode cX1_make 38 = .ok (.iload_n 2, 1) := by decide +kernel
theorem dX1_make_39 : decode cX1_make 39 = .ok (.invokevirtual 58, 3) := by decide +kernel
theorem dX1_make_42 : decode cX1_make 42 = .ok (.aload_n 0, 1) := by decide +kernel
theorem dX1_make_43 : decode cX1_make 43 = .ok (.dup, 1) := by decide +kernel
theorem dX1_make_44 : decode cX1_make 44 = .ok (.getfield 29, 3) := by decide +kernel
theorem dX1_make_47 : decode cX1_make 47 = .ok (.iconst 1, 1) := by decide +kernel
theorem dX1_make_48 : decode cX1_make 48 = .ok (.iadd, 1) := by decide +kernel
theorem dX1_make_49 : decode cX1_make 49 = .ok (.putfield 29, 3) := by decide +kernel
theorem dX1_make_52 : decode cX1_make 52 = .ok (.aload_n 0, 1) := by decide +kernel
theorem dX1_make_53 : decode cX1_make 53 = .ok (.iload_n 3, 1) := by decide +kernel
theorem dX1_make_54 : decode cX1_make 54 = .ok (.iconst 1, 1) := by decide +kernel
theorem dX1_make_55 : decode cX1_make 55 = .ok (.iadd, 1) := by decide +kernel
theorem dX1_make_56 : decode cX1_make 56 = .ok (.putfield 33, 3) := by decide +kernel
theorem dX1_make_59 : decode cX1_make 59 = .ok (.aload_n 0, 1) := by decide +kernel
theorem dX1_make_60 : decode cX1_make 60 = .ok (.aload_n 0, 1) := by decide +kernel
theorem dX1_make_61 : decode cX1_make 61 = .ok (.getfield 36, 3) := by decide +kernel
theorem dX1_make_64 : decode cX1_make 64 = .ok (.iload_n 3, 1) := by decide +kernel
theorem dX1_make_65 : decode cX1_make 65 = .ok (.iconst 1, 1) := by decide +kernel
theorem dX1_make_66 : decode cX1_make 66 = .ok (.iadd, 1) := by decide +kernel
theorem dX1_make_67 : decode cX1_make 67 = .ok (.invokestatic 61, 3) := by decide +kernel
theorem dX1_make_70 : decode cX1_make 70 = .ok (.putfield 36, 3) := by decide +kernel
theorem dX1_make_73 : decode cX1_make 73 = .ok (.iload_n 3, 1) := by decide +kernel
theorem dX1_make_74 : decode cX1_make 74 = .ok (.ireturn, 1) := by decide +kernel
theorem dX1_make_75 : decode cX1_make 75 = .ok (.iinc 3 1, 3) := by decide +kernel
theorem dX1_make_78 : decode cX1_make 78 = .ok (.goto (-73), 3) := by decide +kernel
theorem dX1_make_81 : decode cX1_make 81 = .ok (.aload_n 0, 1) := by decide +kernel
theorem dX1_make_82 : decode cX1_make 82 = .ok (.iconst 1, 1) := by decide +kernel
theorem dX1_make_83 : decode cX1_make 83 = .ok (.putfield 39, 3) := by decide +kernel
theorem dX1_make_86 : decode cX1_make 86 = .ok (.iconst (-1), 1) := by decide +kernel
theorem dX1_make_87 : decode cX1_make 87 = .ok (.ireturn, 1) := by decide +kernel
set_option maxRecDepth 20000 in
theorem ggX1_link_X3_set : GoodIn wsX1_link wsX3_set := goodIn_r _ [6, 7, 8, 17, 18, 19] (by decide +kernel) (by decide +kernel)
set_option maxRecDepth 20000 in
theorem gX1_link_X3_set : GoodIn wsX1_link (wsV RX1 58 RX3 yX3_set wsX3_set) := goodIn_app (goodIn_of _ (by decide +kernel)) ggX1_link_X3_set
theorem dX1_link_0 : decode cX1_link 0 = .ok (.aload_n 0, 1) := by decide +kernel
theorem dX1_link_1 : decode cX1_link 1 = .ok (.getfield 23, 3) := by decide +kernel
theorem dX1_link_4 : decode cX1_link 4 = .ok (.iload_n 1, 1) := by decide +kernel
theorem dX1_link_5 : decode cX1_link 5 = .ok (.iload_n 2, 1) := by decide +kernel
theorem dX1_link_6 : decode cX1_link 6 = .ok (.invokevirtual 58, 3) := by decide +kernel
theorem dX1_link_9 : decode cX1_link 9 = .ok (.aload_n 0, 1) := by decide +kernel
theorem dX1_link_10 : decode cX1_link 10 = .ok (.getfield 23, 3) := by decide +kernel
theorem dX1_link_13 : decode cX1_link 13 = .ok (.iload_n 2, 1) := by decide +kernel
theorem dX1_link_14 : decode cX1_link 14 = .ok (.iload_n 1, 1) := by decide +kernel
theorem dX1_link_15 : decode cX1_link 15 = .ok (.invokevirtual 58, 3) := by decide +kernel
theorem dX1_link_18 : decode cX1_link 18 = .ok (.return_, 1) := by decide +kernel
set_option maxRecDepth 20000 in
theorem ggX1_sizeOfKind_X3_get : GoodIn wsX1_sizeOfKind wsX3_get := goodIn_r _ [7, 8, 9, 18, 19, 20] (by decide +kernel) (by decide +kernel)
set_option maxRecDepth 20000 in
theorem gX1_sizeOfKind_X3_get : GoodIn wsX1_sizeOfKind (wsV RX1 50 RX3 yX3_get wsX3_get) := goodIn_app (goodIn_of _ (by decide +kernel)) ggX1_sizeOfKind_X3_get
theorem dX1_sizeOfKind_0 : decode cX1_sizeOfKind 0 = .ok (.iconst 0, 1) := by decide +kernel
theorem dX1_sizeOfKind_1 : decode cX1_sizeOfKind 1 = .ok (.istore_n 2, 1) := by decide +kernel
theorem dX1_sizeOfKind_2 : decode cX1_sizeOfKind 2 = .ok (.iconst 0, 1) := by decide +kernel
theorem dX1_sizeOfKind_3 : decode cX1_sizeOfKind 3 = .ok (.istore_n 3, 1) := by decide +kernel
theorem dX1_sizeOfKind_4 : decode cX1_sizeOfKind 4 = .ok (.iload_n 3, 1) := by decide +kernel
theorem dX1_sizeOfKind_5 : decode cX1_sizeOfKind 5 = .ok (.aload_n 0, 1) := by decide +kernel
theorem dX1_sizeOfKind_6 : decode cX1_sizeOfKind 6 = .ok (.getfield 36, 3) := by decide +kernel
theorem dX1_sizeOfKind_9 : decode cX1_sizeOfKind 9 = .ok (.if_icmp .ge 24, 3) := by decide +kernel
theorem dX1_sizeOfKind_12 : decode cX1_sizeOfKind 12 = .ok (.aload_n 0, 1) := by decide +kernel
theorem dX1_sizeOfKind_13 : decode cX1_sizeOfKind 13 = .ok (.getfield 16, 3) := by decide +kernel
theorem dX1_sizeOfKind_16 : decode cX1_sizeOfKind 16 = .ok (.iload_n 3, 1) := by decide +kernel
theorem dX1_sizeOfKind_17 : decode cX1_sizeOfKind 17 = .ok (.invokevirtual 50, 3) := by decide +kernel
theorem dX1_sizeOfKind_20 : decode cX1_sizeOfKind 20 = .ok (.iload_n 1, 1) := by decide +kernel
theorem dX1_sizeOfKind_21 : decode cX1_sizeOfKind 21 = .ok (.if_icmp .ne 6, 3) := by decide +kernel
theorem dX1_sizeOfKind_24 : decode cX1_sizeOfKind 24 = .ok (.iinc 2 1, 3) := by decide +kernel
theorem dX1_sizeOfKind_27 : decode cX1_sizeOfKind 27 = .ok (.iinc 3 1, 3) := by decide +kernel
theorem dX1_sizeOfKind_30 : decode cX1_sizeOfKind 30 = .ok (.goto (-26), 3) := by decide +kernel
theorem dX1_sizeOfKind_33 : decode cX1_sizeOfKind 33 = .ok (.iload_n 2, 1) := by decide +kernel
theorem dX1_sizeOfKind_34 : decode cX1_sizeOfKind 34 = .ok (.ireturn, 1) := by decide +kernel
set_option maxRecDepth 20000 in
theorem ggX1_greatestLevel_X3_get : GoodIn wsX1_greatestLevel wsX3_get := goodIn_r _ [12, 13, 14, 23, 24, 25] (by decide +kernel) (by decide +kernel)
set_option maxRecDepth 20000 in
theorem gX1_greatestLevel_X3_get : GoodIn wsX1_greatestLevel (wsV RX1 50 RX3 yX3_get wsX3_get) := goodIn_app (goodIn_of _ (by decide +kernel)) ggX1_greatestLevel_X3_get
theorem dX1_greatestLevel_0 : decode cX1_greatestLevel 0 = .ok (.iconst 0, 1) := by decide +kernel
theorem dX1_greatestLevel_1 : decode cX1_greatestLevel 1 = .ok (.istore_n 1, 1) := by decide +kernel
theorem dX1_greatestLevel_2 : decode cX1_greatestLevel 2 = .ok (.iconst 0, 1) := by decide +kernel
theorem dX1_greatestLevel_3 : decode cX1_greatestLevel 3 = .ok (.istore_n 2, 1) := by decide +kernel
theorem dX1_greatestLevel_4 : decode cX1_greatestLevel 4 = .ok (.iload_n 2, 1) := by decide +kernel
theorem dX1_greatestLevel_5 : decode cX1_greatestLevel 5 = .ok (.aload_n 0, 1) := by decide +kernel
theorem dX1_greatestLevel_6 : decode cX1_greatestLevel 6 = .ok (.getfield 36, 3) := by decide +kernel
theorem dX1_greatestLevel_9 : decode cX1_greatestLevel 9 = .ok (.if_icmp .ge 34, 3) := by decide +kernel
theorem dX1_greatestLevel_12 : decode cX1_greatestLevel 12 = .ok (.aload_n 0, 1) := by decide +kernel
theorem dX1_greatestLevel_13 : decode cX1_greatestLevel 13 = .ok (.getfield 16, 3) := by decide +kernel
theorem dX1_greatestLevel_16 : decode cX1_greatestLevel 16 = .ok (.iload_n 2, 1) := by decide +kernel
theorem dX1_greatestLevel_17 : decode cX1_greatestLevel 17 = .ok (.invokevirtual 50, 3) := by decide +kernel
theorem dX1_greatestLevel_20 : decode cX1_greatestLevel 20 = .ok (.iconst (-1), 1) := by decide +kernel
theorem dX1_greatestLevel_21 : decode cX1_greatestLevel 21 = .ok (.if_icmp .eq 16, 3) := by decide +kernel
theorem dX1_greatestLevel_24 : decode cX1_greatestLevel 24 = .ok (.iload_n 1, 1) := by decide +kernel
theorem dX1_greatestLevel_25 : decode cX1_greatestLevel 25 = .ok (.aload_n 0, 1) := by decide +kernel
theorem dX1_greatestLevel_26 : decode cX1_greatestLevel 26 = .ok (.getfield 20, 3) := by decide +kernel
theorem dX1_greatestLevel_29 : decode cX1_greatestLevel 29 = .ok (.iload_n 2, 1) := by decide +kernel
theorem dX1_greatestLevel_30 : decode cX1_greatestLevel 30 = .ok (.invokevirtual 50, 3) := by decide +kernel
theorem dX1_greatestLevel_33 : decode cX1_greatestLevel 33 = .ok (.invokestatic 61, 3) := by decide +kernel
theorem dX1_greatestLevel_36 : decode cX1_greatestLevel 36 = .ok (.istore_n 1, 1) := by decide +kernel
theorem dX1_greatestLevel_37 : decode cX1_greatestLevel 37 = .ok (.iinc 2 1, 3) := by decide +kernel
theorem dX1_greatestLevel_40 : decode cX1_greatestLevel 40 = .ok (.goto (-36), 3) := by decide +kernel
theorem dX1_greatestLevel_43 : decode cX1_greatestLevel 43 = .ok (.iload_n 1, 1) := by decide +kernel
theorem dX1_greatestLevel_44 : decode cX1_greatestLevel 44 = .ok (.ireturn, 1) := by decide +kernel
set_option maxRecDepth 20000 in
theorem ggX1_activeWires_X1_isLesserOfActive : GoodIn wsX1_activeWires wsX1_isLesserOfActive := goodIn_r _ [6, 7, 8, 9, 10, 11, 12, 13, 14, 15, 16, 17, 18, 19, 20, 21, 22, 23, 24, 25, 26] (by decide +kernel) (by decide +kernel)
set_option maxRecDepth 20000 in
theorem gX1_activeWires_X1_isLesserOfActive : GoodIn wsX1_activeWires (wsV RX1 67 RX1 yX1_isLesserOfActive wsX1_isLesserOfActive) := goodIn_app (goodIn_of _ (by decide +kernel)) ggX1_activeWires_X1_isLesserOfActive
theorem dX1_activeWires_0 : decode cX1_activeWires 0 = .ok (.iconst 0, 1) := by decide +kernel
theorem dX1_activeWires_1 : decode cX1_activeWires 1 = .ok (.istore_n 1, 1) := by decide +kernel
theorem dX1_activeWires_2 : decode cX1_activeWires 2 = .ok (.iconst 0, 1) := by decide +kernel
theorem dX1_activeWires_3 : decode cX1_activeWires 3 = .ok (.istore_n 2, 1) := by decide +kernel
theorem dX1_activeWires_4 : decode cX1_activeWires 4 = .ok (.iload_n 2, 1) := by decide +kernel
theorem dX1_activeWires_5 : decode cX1_activeWires 5 = .ok (.aload_n 0, 1) := by decide +kernel
theorem dX1_activeWires_6 : decode cX1_activeWires 6 = .ok (.getfield 36, 3) := by decide +kernel
theorem dX1_activeWires_9 : decode cX1_activeWires 9 = .ok (.if_icmp .ge 20, 3) := by decide +kernel
theorem dX1_activeWires_12 : decode cX1_activeWires 12 = .ok (.aload_n 0, 1) := by decide +kernel
theorem dX1_activeWires_13 : decode cX1_activeWires 13 = .ok (.iload_n 2, 1) := by decide +kernel
theorem dX1_activeWires_14 : decode cX1_activeWires 14 = .ok (.invokevirtual 67, 3) := by decide +kernel
theorem dX1_activeWires_17 : decode cX1_activeWires 17 = .ok (.ifCond .eq 6, 3) := by decide +kernel
theorem dX1_activeWires_20 : decode cX1_activeWires 20 = .ok (.iinc 1 1, 3) := by decide +kernel
theorem dX1_activeWires_23 : decode cX1_activeWires 23 = .ok (.iinc 2 1, 3) := by decide +kernel
theorem dX1_activeWires_26 : decode cX1_activeWires 26 = .ok (.goto (-22), 3) := by decide +kernel
theorem dX1_activeWires_29 : decode cX1_activeWires 29 = .ok (.iload_n 1, 1) := by decide +kernel
theorem dX1_activeWires_30 : decode cX1_activeWires 30 = .ok (.ireturn, 1) := by decide +kernel
set_option maxRecDepth 20000 in
theorem ggX1_leastActive_X1_activeNode : GoodIn wsX1_leastActive wsX1_activeNode := goodIn_r _ [5, 6, 7, 8, 9, 4, 10, 11, 12, 13, 14, 15, 16, 17, 18, 19, 20, 21, 22, 23, 24, 25, 26, 27, 28, 29, 30] (by decide +kernel) (by decide +kernel)
set_option maxRecDepth 20000 in
theorem gX1_leastActive_X1_activeNode : GoodIn wsX1_leastActive (wsV RX1 71 RX1 yX1_activeNode wsX1_activeNode) := goodIn_app (goodIn_of _ (by decide +kernel)) ggX1_leastActive_X1_activeNode
theorem dX1_leastActive_0 : decode cX1_leastActive 0 = .ok (.aload_n 0, 1) := by decide +kernel
theorem dX1_leastActive_1 : decode cX1_leastActive 1 = .ok (.iconst 0, 1) := by decide +kernel
theorem dX1_leastActive_2 : decode cX1_leastActive 2 = .ok (.invokevirtual 71, 3) := by decide +kernel
theorem dX1_leastActive_5 : decode cX1_leastActive 5 = .ok (.ireturn, 1) := by decide +kernel
set_option maxRecDepth 20000 in
theorem ggX1_greatestActive_X1_isLesserOfActive : GoodIn wsX1_greatestActive wsX1_isLesserOfActive := goodIn_r _ [6, 7, 8, 9, 10, 11, 12, 13, 14, 15, 16, 17, 18, 19, 20, 21, 22, 23, 24, 25, 26] (by decide +kernel) (by decide +kernel)
set_option maxRecDepth 20000 in
theorem gX1_greatestActive_X1_isLesserOfActive : GoodIn wsX1_greatestActive (wsV RX1 67 RX1 yX1_isLesserOfActive wsX1_isLesserOfActive) := goodIn_app (goodIn_of _ (by decide +kernel)) ggX1_greatestActive_X1_isLesserOfActive
theorem dX1_greatestActive_0 : decode cX1_greatestActive 0 = .ok (.aload_n 0, 1) := by decide +kernel
theorem dX1_greatestActive_1 : decode cX1_greatestActive 1 = .ok (.getfield 36, 3) := by decide +kernel
theorem dX1_greatestActive_4 : decode cX1_greatestActive 4 = .ok (.iconst 1, 1) := by decide +kernel
theorem dX1_greatestActive_5 : decode cX1_greatestActive 5 = .ok (.isub, 1) := by decide +kernel
theorem dX1_greatestActive_6 : decode cX1_greatestActive 6 = .ok (.istore_n 1, 1) := by decide +kernel
theorem dX1_greatestActive_7 : decode cX1_greatestActive 7 = .ok (.iload_n 1, 1) := by decide +kernel
theorem dX1_greatestActive_8 : decode cX1_greatestActive 8 = .ok (.ifCond .lt 19, 3) := by decide +kernel
theorem dX1_greatestActive_11 : decode cX1_greatestActive 11 = .ok (.aload_n 0, 1) := by decide +kernel
theorem dX1_greatestActive_12 : decode cX1_greatestActive 12 = .ok (.iload_n 1, 1) := by decide +kernel
theorem dX1_greatestActive_13 : decode cX1_greatestActive 13 = .ok (.invokevirtual 67, 3) := by decide +kernel
theorem dX1_greatestActive_16 : decode cX1_greatestActive 16 = .ok (.ifCond .eq 5, 3) := by decide +kernel
theorem dX1_greatestActive_19 : decode cX1_greatestActive 19 = .ok (.iload_n 1, 1) := by decide +kernel
theorem dX1_greatestActive_20 : decode cX1_greatestActive 20 = .ok (.ireturn, 1) := by decide +kernel
theorem dX1_greatestActive_21 : decode cX1_greatestActive 21 = .ok (.iinc 1 (-1), 3) := by decide +kernel
theorem dX1_greatestActive_24 : decode cX1_greatestActive 24 = .ok (.goto (-17), 3) := by decide +kernel
theorem dX1_greatestActive_27 : decode cX1_greatestActive 27 = .ok (.iconst (-1), 1) := by decide +kernel
theorem dX1_greatestActive_28 : decode cX1_greatestActive 28 = .ok (.ireturn, 1) := by decide +kernel
set_option maxRecDepth 20000 in
theorem ggX1_activeNode_X1_isLesserOfActive : GoodIn wsX1_activeNode wsX1_isLesserOfActive := goodIn_r _ [6, 7, 8, 9, 10, 11, 12, 13, 14, 15, 16, 17, 18, 19, 20, 21, 22, 23, 24, 25, 26] (by decide +kernel) (by decide +kernel)
set_option maxRecDepth 20000 in
theorem gX1_activeNode_X1_isLesserOfActive : GoodIn wsX1_activeNode (wsV RX1 67 RX1 yX1_isLesserOfActive wsX1_isLesserOfActive) := goodIn_app (goodIn_of _ (by decide +kernel)) ggX1_activeNode_X1_isLesserOfActive
theorem dX1_activeNode_0 : decode cX1_activeNode 0 = .ok (.iload_n 1, 1) := by decide +kernel
theorem dX1_activeNode_1 : decode cX1_activeNode 1 = .ok (.istore_n 2, 1) := by decide +kernel
theorem dX1_activeNode_2 : decode cX1_activeNode 2 = .ok (.iconst 0, 1) := by decide +kernel
theorem dX1_activeNode_3 : decode cX1_activeNode 3 = .ok (.istore_n 3, 1) := by decide +kernel
theorem dX1_activeNode_4 : decode cX1_activeNode 4 = .ok (.iload_n 3, 1) := by decide +kernel
theorem dX1_activeNode_5 : decode cX1_activeNode 5 = .ok (.aload_n 0, 1) := by decide +kernel
theorem dX1_activeNode_6 : decode cX1_activeNode 6 = .ok (.getfield 36, 3) := by decide +kernel
theorem dX1_activeNode_9 : decode cX1_activeNode 9 = .ok (.if_icmp .ge 26, 3) := by decide +kernel
theorem dX1_activeNode_12 : decode cX1_activeNode 12 = .ok (.aload_n 0, 1) := by decide +kernel
theorem dX1_activeNode_13 : decode cX1_activeNode 13 = .ok (.iload_n 3, 1) := by decide +kernel
theorem dX1_activeNode_14 : decode cX1_activeNode 14 = .ok (.invokevirtual 67, 3) := by decide +kernel
theorem dX1_activeNode_17 : decode cX1_activeNode 17 = .ok (.ifCond .eq 12, 3) := by decide +kernel
theorem dX1_activeNode_20 : decode cX1_activeNode 20 = .ok (.iload_n 2, 1) := by decide +kernel
theorem dX1_activeNode_21 : decode cX1_activeNode 21 = .ok (.ifCond .ne 5, 3) := by decide +kernel
theorem dX1_activeNode_24 : decode cX1_activeNode 24 = .ok (.iload_n 3, 1) := by decide +kernel
theorem dX1_activeNode_25 : decode cX1_activeNode 25 = .ok (.ireturn, 1) := by decide +kernel
theorem dX1_activeNode_26 : decode cX1_activeNode 26 = .ok (.iinc 2 (-1), 3) := by decide +kernel
theorem dX1_activeNode_29 : decode cX1_activeNode 29 = .ok (.iinc 3 1, 3) := by decide +kernel
theorem dX1_activeNode_32 : decode cX1_activeNode 32 = .ok (.goto (-28), 3) := by decide +kernel
theorem dX1_activeNode_35 : decode cX1_activeNode 35 = .ok (.iconst (-1), 1) := by decide +kernel
theorem dX1_activeNode_36 : decode cX1_activeNode 36 = .ok (.ireturn, 1) := by decide +kernel
set_option maxRecDepth 20000 in
theorem ggX1_isLesserOfActive_X3_get : GoodIn wsX1_isLesserOfActive wsX3_get := goodIn_r _ [7, 8, 9, 18, 19, 20] (by decide +kernel) (by decide +kernel)
set_option maxRecDepth 20000 in
theorem gX1_isLesserOfActive_X3_get : GoodIn wsX1_isLesserOfActive (wsV RX1 50 RX3 yX3_get wsX3_get) := goodIn_app (goodIn_of _ (by decide +kernel)) ggX1_isLesserOfActive_X3_get
theorem dX1_isLesserOfActive_0 : decode cX1_isLesserOfActive 0 = .ok (.iload_n 1, 1) := by decide +kernel
theorem dX1_isLesserOfActive_1 : decode cX1_isLesserOfActive 1 = .ok (.ifCond .eq 15, 3) := by decide +kernel
theorem dX1_isLesserOfActive_4 : decode cX1_isLesserOfActive 4 = .ok (.aload_n 0, 1) := by decide +kernel
theorem dX1_isLesserOfActive_5 : decode cX1_isLesserOfActive 5 = .ok (.getfield 16, 3) := by decide +kernel
theorem dX1_isLesserOfActive_8 : decode cX1_isLesserOfActive 8 = .ok (.iload_n 1, 1) := by decide +kernel
theorem dX1_isLesserOfActive_9 : decode cX1_isLesserOfActive 9 = .ok (.invokevirtual 50, 3) := by decide +kernel
theorem dX1_isLesserOfActive_12 : decode cX1_isLesserOfActive 12 = .ok (.iconst (-1), 1) := by decide +kernel
theorem dX1_isLesserOfActive_13 : decode cX1_isLesserOfActive 13 = .ok (.if_icmp .ne 5, 3) := by decide +kernel
theorem dX1_isLesserOfActive_16 : decode cX1_isLesserOfActive 16 = .ok (.iconst 0, 1) := by decide +kernel
theorem dX1_isLesserOfActive_17 : decode cX1_isLesserOfActive 17 = .ok (.ireturn, 1) := by decide +kernel
theorem dX1_isLesserOfActive_18 : decode cX1_isLesserOfActive 18 = .ok (.aload_n 0, 1) := by decide +kernel
theorem dX1_isLesserOfActive_19 : decode cX1_isLesserOfActive 19 = .ok (.getfield 23, 3) := by decide +kernel
theorem dX1_isLesserOfActive_22 : decode cX1_isLesserOfActive 22 = .ok (.iconst 4, 1) := by decide +kernel
theorem dX1_isLesserOfActive_23 : decode cX1_isLesserOfActive 23 = .ok (.iload_n 1, 1) := by decide +kernel
theorem dX1_isLesserOfActive_24 : decode cX1_isLesserOfActive 24 = .ok (.imul, 1) := by decide +kernel
theorem dX1_isLesserOfActive_25 : decode cX1_isLesserOfActive 25 = .ok (.invokevirtual 50, 3) := by decide +kernel
theorem dX1_isLesserOfActive_28 : decode cX1_isLesserOfActive 28 = .ok (.istore_n 2, 1) := by decide +kernel
theorem dX1_isLesserOfActive_29 : decode cX1_isLesserOfActive 29 = .ok (.iload_n 2, 1) := by decide +kernel
theorem dX1_isLesserOfActive_30 : decode cX1_isLesserOfActive 30 = .ok (.iconst 4, 1) := by decide +kernel
theorem dX1_isLesserOfActive_31 : decode cX1_isLesserOfActive 31 = .ok (.irem, 1) := by decide +kernel
theorem dX1_isLesserOfActive_32 : decode cX1_isLesserOfActive 32 = .ok (.ifCond .ne 14, 3) := by decide +kernel
theorem dX1_isLesserOfActive_35 : decode cX1_isLesserOfActive 35 = .ok (.iload_n 2, 1) := by decide +kernel
theorem dX1_isLesserOfActive_36 : decode cX1_isLesserOfActive 36 = .ok (.iconst 4, 1) := by decide +kernel
theorem dX1_isLesserOfActive_37 : decode cX1_isLesserOfActive 37 = .ok (.idiv, 1) := by decide +kernel
theorem dX1_isLesserOfActive_38 : decode cX1_isLesserOfActive 38 = .ok (.iload_n 1, 1) := by decide +kernel
theorem dX1_isLesserOfActive_39 : decode cX1_isLesserOfActive 39 = .ok (.if_icmp .le 7, 3) := by decide +kernel
theorem dX1_isLesserOfActive_42 : decode cX1_isLesserOfActive 42 = .ok (.iconst 1, 1) := by decide +kernel
theorem dX1_isLesserOfActive_43 : decode cX1_isLesserOfActive 43 = .ok (.goto 4, 3) := by decide +kernel
theorem dX1_isLesserOfActive_46 : decode cX1_isLesserOfActive 46 = .ok (.iconst 0, 1) := by decide +kernel
theorem dX1_isLesserOfActive_47 : decode cX1_isLesserOfActive 47 = .ok (.ireturn, 1) := by decide +kernel
set_option maxRecDepth 20000 in
theorem ggX1_stepKind_X3_get : GoodIn wsX1_stepKind wsX3_get := goodIn_r _ [14, 15, 16, 29, 30, 31] (by decide +kernel) (by decide +kernel)
set_option maxRecDepth 20000 in
theorem gX1_stepKind_X3_get : GoodIn wsX1_stepKind (wsV RX1 50 RX3 yX3_get wsX3_get) := goodIn_app (goodIn_of _ (by decide +kernel)) ggX1_stepKind_X3_get
set_option maxRecDepth 20000 in
theorem ggX1_stepKind_X1_isMover : GoodIn wsX1_stepKind wsX1_isMover := goodIn_r _ [20] (by decide +kernel) (by decide +kernel)
set_option maxRecDepth 20000 in
theorem gX1_stepKind_X1_isMover : GoodIn wsX1_stepKind (va_wsS RX1 74 yX1_isMover wsX1_isMover) := goodIn_app (goodIn_of _ (by decide +kernel)) ggX1_stepKind_X1_isMover
theorem dX1_stepKind_0 : decode cX1_stepKind 0 = .ok (.aload_n 0, 1) := by decide +kernel
theorem dX1_stepKind_1 : decode cX1_stepKind 1 = .ok (.getfield 16, 3) := by decide +kernel
theorem dX1_stepKind_4 : decode cX1_stepKind 4 = .ok (.iload_n 1, 1) := by decide +kernel
theorem dX1_stepKind_5 : decode cX1_stepKind 5 = .ok (.invokevirtual 50, 3) := by decide +kernel
theorem dX1_stepKind_8 : decode cX1_stepKind 8 = .ok (.istore_n 3, 1) := by decide +kernel
theorem dX1_stepKind_9 : decode cX1_stepKind 9 = .ok (.aload_n 0, 1) := by decide +kernel
theorem dX1_stepKind_10 : decode cX1_stepKind 10 = .ok (.getfield 16, 3) := by decide +kernel
theorem dX1_stepKind_13 : decode cX1_stepKind 13 = .ok (.iload_n 2, 1) := by decide +kernel
theorem dX1_stepKind_14 : decode cX1_stepKind 14 = .ok (.invokevirtual 50, 3) := by decide +kernel
theorem dX1_stepKind_17 : decode cX1_stepKind 17 = .ok (.istore 4, 2) := by decide +kernel
theorem dX1_stepKind_19 : decode cX1_stepKind 19 = .ok (.iload_n 3, 1) := by decide +kernel
theorem dX1_stepKind_20 : decode cX1_stepKind 20 = .ok (.bipush 6, 2) := by decide +kernel
theorem dX1_stepKind_22 : decode cX1_stepKind 22 = .ok (.if_icmp .eq 10, 3) := by decide +kernel
theorem dX1_stepKind_25 : decode cX1_stepKind 25 = .ok (.iload 4, 2) := by decide +kernel
theorem dX1_stepKind_27 : decode cX1_stepKind 27 = .ok (.bipush 6, 2) := by decide +kernel
theorem dX1_stepKind_29 : decode cX1_stepKind 29 = .ok (.if_icmp .ne 5, 3) := by decide +kernel
theorem dX1_stepKind_32 : decode cX1_stepKind 32 = .ok (.iconst 5, 1) := by decide +kernel
theorem dX1_stepKind_33 : decode cX1_stepKind 33 = .ok (.ireturn, 1) := by decide +kernel
theorem dX1_stepKind_34 : decode cX1_stepKind 34 = .ok (.aload_n 0, 1) := by decide +kernel
theorem dX1_stepKind_35 : decode cX1_stepKind 35 = .ok (.getfield 20, 3) := by decide +kernel
theorem dX1_stepKind_38 : decode cX1_stepKind 38 = .ok (.iload_n 1, 1) := by decide +kernel
theorem dX1_stepKind_39 : decode cX1_stepKind 39 = .ok (.invokevirtual 50, 3) := by decide +kernel
theorem dX1_stepKind_42 : decode cX1_stepKind 42 = .ok (.aload_n 0, 1) := by decide +kernel
theorem dX1_stepKind_43 : decode cX1_stepKind 43 = .ok (.getfield 20, 3) := by decide +kernel
theorem dX1_stepKind_46 : decode cX1_stepKind 46 = .ok (.iload_n 2, 1) := by decide +kernel
theorem dX1_stepKind_47 : decode cX1_stepKind 47 = .ok (.invokevirtual 50, 3) := by decide +kernel
theorem dX1_stepKind_50 : decode cX1_stepKind 50 = .ok (.isub, 1) := by decide +kernel
theorem dX1_stepKind_51 : decode cX1_stepKind 51 = .ok (.istore 5, 2) := by decide +kernel
theorem dX1_stepKind_53 : decode cX1_stepKind 53 = .ok (.iload 5, 2) := by decide +kernel
theorem dX1_stepKind_55 : decode cX1_stepKind 55 = .ok (.ifCond .ne 50, 3) := by decide +kernel
theorem dX1_stepKind_58 : decode cX1_stepKind 58 = .ok (.iload_n 3, 1) := by decide +kernel
theorem dX1_stepKind_59 : decode cX1_stepKind 59 = .ok (.iload 4, 2) := by decide +kernel
theorem dX1_stepKind_61 : decode cX1_stepKind 61 = .ok (.if_icmp .ne 17, 3) := by decide +kernel
theorem dX1_stepKind_64 : decode cX1_stepKind 64 = .ok (.iload_n 3, 1) := by decide +kernel
theorem dX1_stepKind_65 : decode cX1_stepKind 65 = .ok (.invokestatic 74, 3) := by decide +kernel
theorem dX1_stepKind_68 : decode cX1_stepKind 68 = .ok (.ifCond .eq 7, 3) := by decide +kernel
theorem dX1_stepKind_71 : decode cX1_stepKind 71 = .ok (.iconst 2, 1) := by decide +kernel
theorem dX1_stepKind_72 : decode cX1_stepKind 72 = .ok (.goto 5, 3) := by decide +kernel
theorem dX1_stepKind_75 : decode cX1_stepKind 75 = .ok (.bipush (-2), 2) := by decide +kernel
theorem dX1_stepKind_77 : decode cX1_stepKind 77 = .ok (.ireturn, 1) := by decide +kernel
theorem dX1_stepKind_78 : decode cX1_stepKind 78 = .ok (.iload_n 3, 1) := by decide +kernel
theorem dX1_stepKind_79 : decode cX1_stepKind 79 = .ok (.iload 4, 2) := by decide +kernel
theorem dX1_stepKind_81 : decode cX1_stepKind 81 = .ok (.invokestatic 77, 3) := by decide +kernel
theorem dX1_stepKind_84 : decode cX1_stepKind 84 = .ok (.iconst 1, 1) := by decide +kernel
theorem dX1_stepKind_85 : decode cX1_stepKind 85 = .ok (.if_icmp .ne 17, 3) := by decide +kernel
theorem dX1_stepKind_88 : decode cX1_stepKind 88 = .ok (.iload_n 3, 1) := by decide +kernel
theorem dX1_stepKind_89 : decode cX1_stepKind 89 = .ok (.iload 4, 2) := by decide +kernel
theorem dX1_stepKind_91 : decode cX1_stepKind 91 = .ok (.invokestatic 61, 3) := by decide +kernel
theorem dX1_stepKind_94 : decode cX1_stepKind 94 = .ok (.iconst 2, 1) := by decide +kernel
theorem dX1_stepKind_95 : decode cX1_stepKind 95 = .ok (.if_icmp .ne 7, 3) := by decide +kernel
theorem dX1_stepKind_98 : decode cX1_stepKind 98 = .ok (.iconst 1, 1) := by decide +kernel
theorem dX1_stepKind_99 : decode cX1_stepKind 99 = .ok (.goto 5, 3) := by decide +kernel
theorem dX1_stepKind_102 : decode cX1_stepKind 102 = .ok (.bipush (-2), 2) := by decide +kernel
theorem dX1_stepKind_104 : decode cX1_stepKind 104 = .ok (.ireturn, 1) := by decide +kernel
theorem dX1_stepKind_105 : decode cX1_stepKind 105 = .ok (.iload 5, 2) := by decide +kernel
theorem dX1_stepKind_107 : decode cX1_stepKind 107 = .ok (.ifCond .ge 7, 3) := by decide +kernel
theorem dX1_stepKind_110 : decode cX1_stepKind 110 = .ok (.iload_n 3, 1) := by decide +kernel
theorem dX1_stepKind_111 : decode cX1_stepKind 111 = .ok (.goto 5, 3) := by decide +kernel
theorem dX1_stepKind_114 : decode cX1_stepKind 114 = .ok (.iload 4, 2) := by decide +kernel
theorem dX1_stepKind_116 : decode cX1_stepKind 116 = .ok (.istore 6, 2) := by decide +kernel
theorem dX1_stepKind_118 : decode cX1_stepKind 118 = .ok (.iload 6, 2) := by decide +kernel
theorem dX1_stepKind_120 : decode cX1_stepKind 120 = .ok (.invokestatic 74, 3) := by decide +kernel
theorem dX1_stepKind_123 : decode cX1_stepKind 123 = .ok (.ifCond .ne 6, 3) := by decide +kernel
theorem dX1_stepKind_126 : decode cX1_stepKind 126 = .ok (.bipush (-2), 2) := by decide +kernel
theorem dX1_stepKind_128 : decode cX1_stepKind 128 = .ok (.ireturn, 1) := by decide +kernel
theorem dX1_stepKind_129 : decode cX1_stepKind 129 = .ok (.iload 6, 2) := by decide +kernel
theorem dX1_stepKind_131 : decode cX1_stepKind 131 = .ok (.iconst 3, 1) := by decide +kernel
theorem dX1_stepKind_132 : decode cX1_stepKind 132 = .ok (.if_icmp .ne 7, 3) := by decide +kernel
theorem dX1_stepKind_135 : decode cX1_stepKind 135 = .ok (.iconst 3, 1) := by decide +kernel
theorem dX1_stepKind_136 : decode cX1_stepKind 136 = .ok (.goto 4, 3) := by decide +kernel
theorem dX1_stepKind_139 : decode cX1_stepKind 139 = .ok (.iconst 4, 1) := by decide +kernel
theorem dX1_stepKind_140 : decode cX1_stepKind 140 = .ok (.ireturn, 1) := by decide +kernel
theorem dX1_isMover_0 : decode cX1_isMover 0 = .ok (.iload_n 0, 1) := by decide +kernel
theorem dX1_isMover_1 : decode cX1_isMover 1 = .ok (.iconst 3, 1) := by decide +kernel
theorem dX1_isMover_2 : decode cX1_isMover 2 = .ok (.if_icmp .eq 13, 3) := by decide +kernel
theorem dX1_isMover_5 : decode cX1_isMover 5 = .ok (.iload_n 0, 1) := by decide +kernel
theorem dX1_isMover_6 : decode cX1_isMover 6 = .ok (.iconst 4, 1) := by decide +kernel
theorem dX1_isMover_7 : decode cX1_isMover 7 = .ok (.if_icmp .eq 8, 3) := by decide +kernel
theorem dX1_isMover_10 : decode cX1_isMover 10 = .ok (.iload_n 0, 1) := by decide +kernel
theorem dX1_isMover_11 : decode cX1_isMover 11 = .ok (.iconst 5, 1) := by decide +kernel
theorem dX1_isMover_12 : decode cX1_isMover 12 = .ok (.if_icmp .ne 7, 3) := by decide +kernel
theorem dX1_isMover_15 : decode cX1_isMover 15 = .ok (.iconst 1, 1) := by decide +kernel
theorem dX1_isMover_16 : decode cX1_isMover 16 = .ok (.goto 4, 3) := by decide +kernel
theorem dX1_isMover_19 : decode cX1_isMover 19 = .ok (.iconst 0, 1) := by decide +kernel
theorem dX1_isMover_20 : decode cX1_isMover 20 = .ok (.ireturn, 1) := by decide +kernel
set_option maxRecDepth 20000 in
theorem ggX1_workOff_X3_get : GoodIn wsX1_workOff wsX3_get := goodIn_r _ [7, 8, 9, 105, 106, 107] (by decide +kernel) (by decide +kernel)
set_option maxRecDepth 20000 in
theorem gX1_workOff_X3_get : GoodIn wsX1_workOff (wsV RX1 50 RX3 yX3_get wsX3_get) := goodIn_app (goodIn_of _ (by decide +kernel)) ggX1_workOff_X3_get
set_option maxRecDepth 20000 in
theorem ggX1_workOff_X1_stepKind : GoodIn wsX1_workOff wsX1_stepKind := goodIn_r _ [14, 15, 16, 17, 18, 19, 20, 21, 22, 23, 3, 4, 5, 6, 7, 8, 9, 24, 25, 13, 26, 97, 98, 99, 100, 101, 102, 103, 104, 105, 106, 107] (by decide +kernel) (by decide +kernel)
set_option maxRecDepth 20000 in
theorem gX1_workOff_X1_stepKind : GoodIn wsX1_workOff (wsV RX1 80 RX1 yX1_stepKind wsX1_stepKind) := goodIn_app (goodIn_of _ (by decide +kernel)) ggX1_workOff_X1_stepKind
set_option maxRecDepth 20000 in
theorem ggX1_workOff_X1_leads : GoodIn wsX1_workOff wsX1_leads := goodIn_r _ [30, 15, 16, 3, 4, 5, 6, 7, 8, 9, 97, 98, 99, 100, 101, 102, 103, 104, 105, 106, 107] (by decide +kernel) (by decide +kernel)
set_option maxRecDepth 20000 in
theorem gX1_workOff_X1_leads : GoodIn wsX1_workOff (wsV RX1 83 RX1 yX1_leads wsX1_leads) := goodIn_app (goodIn_of _ (by decide +kernel)) ggX1_workOff_X1_leads
set_option maxRecDepth 20000 in
theorem ggX1_workOff_X1_newNodes : GoodIn wsX1_workOff wsX1_newNodes := goodIn_r _ [34, 35, 36, 37, 13, 38, 15, 3, 4, 5, 6, 7, 8, 9, 97, 98, 99, 100, 101, 102, 103, 104, 105, 106, 107] (by decide +kernel) (by decide +kernel)
set_option maxRecDepth 20000 in
theorem gX1_workOff_X1_newNodes : GoodIn wsX1_workOff (wsV RX1 87 RX1 yX1_newNodes wsX1_newNodes) := goodIn_app (goodIn_of _ (by decide +kernel)) ggX1_workOff_X1_newNodes
set_option maxRecDepth 20000 in
theorem ggX1_workOff_X1_lift : GoodIn wsX1_workOff wsX1_lift := goodIn_r _ [42, 15, 16, 1, 2, 43, 17, 18, 19, 20, 3, 4, 5, 6, 7, 8, 9, 44, 45, 46, 47, 35, 36, 37, 13, 38, 48, 49, 50, 51, 97, 98, 99, 100, 101, 102, 103, 104, 105, 106, 107] (by decide +kernel) (by decide +kernel)
set_option maxRecDepth 20000 in
theorem gX1_workOff_X1_lift : GoodIn wsX1_workOff (wsV RX1 91 RX1 yX1_lift wsX1_lift) := goodIn_app (goodIn_of _ (by decide +kernel)) ggX1_workOff_X1_lift
set_option maxRecDepth 20000 in
theorem ggX1_workOff_X1_erase : GoodIn wsX1_workOff wsX1_erase := goodIn_r _ [55, 1, 35, 36, 37, 13, 38, 15, 3, 4, 5, 6, 7, 8, 9, 56, 57, 58, 59, 43, 16, 2, 60, 21, 22, 19, 23, 61, 44, 45, 46, 47, 48, 49, 50, 51, 97, 98, 99, 100, 101, 102, 103, 104, 105, 106, 107] (by decide +kernel) (by decide +kernel)
set_option maxRecDepth 20000 in
theorem gX1_workOff_X1_erase : GoodIn wsX1_workOff (wsV RX1 94 RX1 yX1_erase wsX1_erase) := goodIn_app (goodIn_of _ (by decide +kernel)) ggX1_workOff_X1_erase
set_option maxRecDepth 20000 in
theorem ggX1_workOff_X1_joinPorts : GoodIn wsX1_workOff wsX1_joinPorts := goodIn_r _ [65, 1, 35, 36, 37, 13, 38, 15, 3, 4, 5, 6, 7, 8, 9, 48, 49, 50, 51, 44, 45, 46, 47, 97, 98, 99, 100, 101, 102, 103, 104, 105, 106, 107] (by decide +kernel) (by decide +kernel)
set_option maxRecDepth 20000 in
theorem gX1_workOff_X1_joinPorts : GoodIn wsX1_workOff (wsV RX1 97 RX1 yX1_joinPorts wsX1_joinPorts) := goodIn_app (goodIn_of _ (by decide +kernel)) ggX1_workOff_X1_joinPorts
set_option maxRecDepth 20000 in
theorem ggX1_workOff_X1_goThrough : GoodIn wsX1_workOff wsX1_goThrough := goodIn_r _ [69, 15, 70, 16, 1, 3, 4, 5, 6, 7, 8, 9, 71, 72, 73, 74, 35, 36, 37, 13, 38, 56, 57, 58, 59, 43, 2, 60, 21, 22, 19, 23, 61, 44, 45, 46, 47, 75, 76, 77, 78, 79, 80, 18, 20, 81, 82, 83, 84, 85, 86, 87, 88, 89, 90, 91, 92, 93, 94, 95, 96, 48, 49, 50, 51, 97, 98, 99, 100, 101, 102, 103, 104, 105, 106, 107] (by decide +kernel) (by decide +kernel)
set_option maxRecDepth 20000 in
theorem gX1_workOff_X1_goThrough : GoodIn wsX1_workOff (wsV RX1 100 RX1 yX1_goThrough wsX1_goThrough) := goodIn_app (goodIn_of _ (by decide +kernel)) ggX1_workOff_X1_goThrough
theorem dX1_workOff_0 : decode cX1_workOff 0 = .ok (.aload_n 0, 1) := by decide +kernel
theorem dX1_workOff_1 : decode cX1_workOff 1 = .ok (.getfield 23, 3) := by decide +kernel
theorem dX1_workOff_4 : decode cX1_workOff 4 = .ok (.iconst 4, 1) := by decide +kernel
theorem dX1_workOff_5 : decode cX1_workOff 5 = .ok (.iload_n 1, 1) := by decide +kernel
theorem dX1_workOff_6 : decode cX1_workOff 6 = .ok (.imul, 1) := by decide +kernel
theorem dX1_workOff_7 : decode cX1_workOff 7 = .ok (.invokevirtual 50, 3) := by decide +kernel
theorem dX1_workOff_10 : decode cX1_workOff 10 = .ok (.iconst 4, 1) := by decide +kernel
theorem dX1_workOff_11 : decode cX1_workOff 11 = .ok (.idiv, 1) := by decide +kernel
theorem dX1_workOff_12 : decode cX1_workOff 12 = .ok (.istore_n 2, 1) := by decide +kernel
theorem dX1_workOff_13 : decode cX1_workOff 13 = .ok (.aload_n 0, 1) := by decide +kernel
theorem dX1_workOff_14 : decode cX1_workOff 14 = .ok (.iload_n 1, 1) := by decide +kernel
theorem dX1_workOff_15 : decode cX1_workOff 15 = .ok (.iload_n 2, 1) := by decide +kernel
theorem dX1_workOff_16 : decode cX1_workOff 16 = .ok (.invokevirtual 80, 3) := by decide +kernel
theorem dX1_workOff_19 : decode cX1_workOff 19 = .ok (.istore_n 3, 1) := by decide +kernel
theorem dX1_workOff_20 : decode cX1_workOff 20 = .ok (.iload_n 3, 1) := by decide +kernel
theorem dX1_workOff_21 : decode cX1_workOff 21 = .ok (.bipush (-2), 2) := by decide +kernel
theorem dX1_workOff_23 : decode cX1_workOff 23 = .ok (.if_icmp .ne 6, 3) := by decide +kernel
theorem dX1_workOff_26 : decode cX1_workOff 26 = .ok (.bipush (-2), 2) := by decide +kernel
theorem dX1_workOff_28 : decode cX1_workOff 28 = .ok (.ireturn, 1) := by decide +kernel
theorem dX1_workOff_29 : decode cX1_workOff 29 = .ok (.aload_n 0, 1) := by decide +kernel
theorem dX1_workOff_30 : decode cX1_workOff 30 = .ok (.iload_n 1, 1) := by decide +kernel
theorem dX1_workOff_31 : decode cX1_workOff 31 = .ok (.iload_n 2, 1) := by decide +kernel
theorem dX1_workOff_32 : decode cX1_workOff 32 = .ok (.invokevirtual 83, 3) := by decide +kernel
theorem dX1_workOff_35 : decode cX1_workOff 35 = .ok (.istore 4, 2) := by decide +kernel
theorem dX1_workOff_37 : decode cX1_workOff 37 = .ok (.iload 4, 2) := by decide +kernel
theorem dX1_workOff_39 : decode cX1_workOff 39 = .ok (.ifCond .eq 7, 3) := by decide +kernel
theorem dX1_workOff_42 : decode cX1_workOff 42 = .ok (.iload_n 1, 1) := by decide +kernel
theorem dX1_workOff_43 : decode cX1_workOff 43 = .ok (.goto 4, 3) := by decide +kernel
theorem dX1_workOff_46 : decode cX1_workOff 46 = .ok (.iload_n 2, 1) := by decide +kernel
theorem dX1_workOff_47 : decode cX1_workOff 47 = .ok (.istore 5, 2) := by decide +kernel
theorem dX1_workOff_49 : decode cX1_workOff 49 = .ok (.iload 4, 2) := by decide +kernel
theorem dX1_workOff_51 : decode cX1_workOff 51 = .ok (.ifCond .eq 7, 3) := by decide +kernel
theorem dX1_workOff_54 : decode cX1_workOff 54 = .ok (.iload_n 2, 1) := by decide +kernel
theorem dX1_workOff_55 : decode cX1_workOff 55 = .ok (.goto 4, 3) := by decide +kernel
theorem dX1_workOff_58 : decode cX1_workOff 58 = .ok (.iload_n 1, 1) := by decide +kernel
theorem dX1_workOff_59 : decode cX1_workOff 59 = .ok (.istore 6, 2) := by decide +kernel
theorem dX1_workOff_61 : decode cX1_workOff 61 = .ok (.aload_n 0, 1) := by decide +kernel
theorem dX1_workOff_62 : decode cX1_workOff 62 = .ok (.getfield 29, 3) := by decide +kernel
theorem dX1_workOff_65 : decode cX1_workOff 65 = .ok (.iconst 2, 1) := by decide +kernel
theorem dX1_workOff_66 : decode cX1_workOff 66 = .ok (.isub, 1) := by decide +kernel
theorem dX1_workOff_67 : decode cX1_workOff 67 = .ok (.aload_n 0, 1) := by decide +kernel
theorem dX1_workOff_68 : decode cX1_workOff 68 = .ok (.iload_n 3, 1) := by decide +kernel
theorem dX1_workOff_69 : decode cX1_workOff 69 = .ok (.iload 5, 2) := by decide +kernel
theorem dX1_workOff_71 : decode cX1_workOff 71 = .ok (.iload 6, 2) := by decide +kernel
theorem dX1_workOff_73 : decode cX1_workOff 73 = .ok (.invokevirtual 87, 3) := by decide +kernel
theorem dX1_workOff_76 : decode cX1_workOff 76 = .ok (.iadd, 1) := by decide +kernel
theorem dX1_workOff_77 : decode cX1_workOff 77 = .ok (.sipush 400, 3) := by decide +kernel
theorem dX1_workOff_80 : decode cX1_workOff 80 = .ok (.if_icmp .le 5, 3) := by decide +kernel
theorem dX1_workOff_83 : decode cX1_workOff 83 = .ok (.iconst (-1), 1) := by decide +kernel
theorem dX1_workOff_84 : decode cX1_workOff 84 = .ok (.ireturn, 1) := by decide +kernel
theorem dX1_workOff_85 : decode cX1_workOff 85 = .ok (.aload_n 0, 1) := by decide +kernel
theorem dX1_workOff_86 : decode cX1_workOff 86 = .ok (.iload 5, 2) := by decide +kernel
theorem dX1_workOff_88 : decode cX1_workOff 88 = .ok (.sipush 400, 3) := by decide +kernel
theorem dX1_workOff_91 : decode cX1_workOff 91 = .ok (.invokevirtual 91, 3) := by decide +kernel
theorem dX1_workOff_94 : decode cX1_workOff 94 = .ok (.aload_n 0, 1) := by decide +kernel
theorem dX1_workOff_95 : decode cX1_workOff 95 = .ok (.iload 6, 2) := by decide +kernel
theorem dX1_workOff_97 : decode cX1_workOff 97 = .ok (.sipush 401, 3) := by decide +kernel
theorem dX1_workOff_100 : decode cX1_workOff 100 = .ok (.invokevirtual 91, 3) := by decide +kernel
theorem dX1_workOff_103 : decode cX1_workOff 103 = .ok (.iload_n 3, 1) := by decide +kernel
theorem dX1_workOff_104 : decode cX1_workOff 104 = .ok (.tableswitch 50 1 5 #[43, 43, 50, 50, 36], 36) := by decide +kernel
theorem dX1_workOff_140 : decode cX1_workOff 140 = .ok (.aload_n 0, 1) := by decide +kernel
theorem dX1_workOff_141 : decode cX1_workOff 141 = .ok (.invokevirtual 94, 3) := by decide +kernel
theorem dX1_workOff_144 : decode cX1_workOff 144 = .ok (.goto 14, 3) := by decide +kernel
theorem dX1_workOff_147 : decode cX1_workOff 147 = .ok (.aload_n 0, 1) := by decide +kernel
theorem dX1_workOff_148 : decode cX1_workOff 148 = .ok (.invokevirtual 97, 3) := by decide +kernel
theorem dX1_workOff_151 : decode cX1_workOff 151 = .ok (.goto 7, 3) := by decide +kernel
theorem dX1_workOff_154 : decode cX1_workOff 154 = .ok (.aload_n 0, 1) := by decide +kernel
theorem dX1_workOff_155 : decode cX1_workOff 155 = .ok (.invokevirtual 100, 3) := by decide +kernel
theorem dX1_workOff_158 : decode cX1_workOff 158 = .ok (.iload_n 3, 1) := by decide +kernel
theorem dX1_workOff_159 : decode cX1_workOff 159 = .ok (.ireturn, 1) := by decide +kernel
set_option maxRecDepth 20000 in
theorem ggX1_leads_X3_get : GoodIn wsX1_leads wsX3_get := goodIn_r _ [7, 8, 9, 18, 19, 20] (by decide +kernel) (by decide +kernel)
set_option maxRecDepth 20000 in
theorem gX1_leads_X3_get : GoodIn wsX1_leads (wsV RX1 50 RX3 yX3_get wsX3_get) := goodIn_app (goodIn_of _ (by decide +kernel)) ggX1_leads_X3_get
theorem dX1_leads_0 : decode cX1_leads 0 = .ok (.aload_n 0, 1) := by decide +kernel
theorem dX1_leads_1 : decode cX1_leads 1 = .ok (.getfield 16, 3) := by decide +kernel
theorem dX1_leads_4 : decode cX1_leads 4 = .ok (.iload_n 1, 1) := by decide +kernel
theorem dX1_leads_5 : decode cX1_leads 5 = .ok (.invokevirtual 50, 3) := by decide +kernel
theorem dX1_leads_8 : decode cX1_leads 8 = .ok (.bipush 6, 2) := by decide +kernel
theorem dX1_leads_10 : decode cX1_leads 10 = .ok (.if_icmp .eq 16, 3) := by decide +kernel
theorem dX1_leads_13 : decode cX1_leads 13 = .ok (.aload_n 0, 1) := by decide +kernel
theorem dX1_leads_14 : decode cX1_leads 14 = .ok (.getfield 16, 3) := by decide +kernel
theorem dX1_leads_17 : decode cX1_leads 17 = .ok (.iload_n 2, 1) := by decide +kernel
theorem dX1_leads_18 : decode cX1_leads 18 = .ok (.invokevirtual 50, 3) := by decide +kernel
theorem dX1_leads_21 : decode cX1_leads 21 = .ok (.bipush 6, 2) := by decide +kernel
theorem dX1_leads_23 : decode cX1_leads 23 = .ok (.if_icmp .ne 22, 3) := by decide +kernel
theorem dX1_leads_26 : decode cX1_leads 26 = .ok (.aload_n 0, 1) := by decide +kernel
theorem dX1_leads_27 : decode cX1_leads 27 = .ok (.getfield 16, 3) := by decide +kernel
theorem dX1_leads_30 : decode cX1_leads 30 = .ok (.iload_n 1, 1) := by decide +kernel
theorem dX1_leads_31 : decode cX1_leads 31 = .ok (.invokevirtual 50, 3) := by decide +kernel
theorem dX1_leads_34 : decode cX1_leads 34 = .ok (.bipush 6, 2) := by decide +kernel
theorem dX1_leads_36 : decode cX1_leads 36 = .ok (.if_icmp .ne 7, 3) := by decide +kernel
theorem dX1_leads_39 : decode cX1_leads 39 = .ok (.iconst 1, 1) := by decide +kernel
theorem dX1_leads_40 : decode cX1_leads 40 = .ok (.goto 4, 3) := by decide +kernel
theorem dX1_leads_43 : decode cX1_leads 43 = .ok (.iconst 0, 1) := by decide +kernel
theorem dX1_leads_44 : decode cX1_leads 44 = .ok (.ireturn, 1) := by decide +kernel
theorem dX1_leads_45 : decode cX1_leads 45 = .ok (.aload_n 0, 1) := by decide +kernel
theorem dX1_leads_46 : decode cX1_leads 46 = .ok (.getfield 20, 3) := by decide +kernel
theorem dX1_leads_49 : decode cX1_leads 49 = .ok (.iload_n 1, 1) := by decide +kernel
theorem dX1_leads_50 : decode cX1_leads 50 = .ok (.invokevirtual 50, 3) := by decide +kernel
theorem dX1_leads_53 : decode cX1_leads 53 = .ok (.aload_n 0, 1) := by decide +kernel
theorem dX1_leads_54 : decode cX1_leads 54 = .ok (.getfield 20, 3) := by decide +kernel
theorem dX1_leads_57 : decode cX1_leads 57 = .ok (.iload_n 2, 1) := by decide +kernel
theorem dX1_leads_58 : decode cX1_leads 58 = .ok (.invokevirtual 50, 3) := by decide +kernel
theorem dX1_leads_61 : decode cX1_leads 61 = .ok (.if_icmp .ge 7, 3) := by decide +kernel
theorem dX1_leads_64 : decode cX1_leads 64 = .ok (.iconst 1, 1) := by decide +kernel
theorem dX1_leads_65 : decode cX1_leads 65 = .ok (.goto 4, 3) := by decide +kernel
theorem dX1_leads_68 : decode cX1_leads 68 = .ok (.iconst 0, 1) := by decide +kernel
theorem dX1_leads_69 : decode cX1_leads 69 = .ok (.ireturn, 1) := by decide +kernel
set_option maxRecDepth 20000 in
theorem ggX1_newNodes_X1_ports : GoodIn wsX1_newNodes wsX1_ports := goodIn_r _ [5, 6, 7, 8, 9, 10, 11, 12, 13, 14, 15, 16, 17, 18, 19, 20, 21, 22, 23, 24] (by decide +kernel) (by decide +kernel)
set_option maxRecDepth 20000 in
theorem gX1_newNodes_X1_ports : GoodIn wsX1_newNodes (wsV RX1 103 RX1 yX1_ports wsX1_ports) := goodIn_app (goodIn_of _ (by decide +kernel)) ggX1_newNodes_X1_ports
theorem dX1_newNodes_0 : decode cX1_newNodes 0 = .ok (.iload_n 1, 1) := by decide +kernel
theorem dX1_newNodes_1 : decode cX1_newNodes 1 = .ok (.iconst 1, 1) := by decide +kernel
theorem dX1_newNodes_2 : decode cX1_newNodes 2 = .ok (.if_icmp .eq 8, 3) := by decide +kernel
theorem dX1_newNodes_5 : decode cX1_newNodes 5 = .ok (.iload_n 1, 1) := by decide +kernel
theorem dX1_newNodes_6 : decode cX1_newNodes 6 = .ok (.iconst 2, 1) := by decide +kernel
theorem dX1_newNodes_7 : decode cX1_newNodes 7 = .ok (.if_icmp .ne 5, 3) := by decide +kernel
theorem dX1_newNodes_10 : decode cX1_newNodes 10 = .ok (.iconst 0, 1) := by decide +kernel
theorem dX1_newNodes_11 : decode cX1_newNodes 11 = .ok (.ireturn, 1) := by decide +kernel
theorem dX1_newNodes_12 : decode cX1_newNodes 12 = .ok (.aload_n 0, 1) := by decide +kernel
theorem dX1_newNodes_13 : decode cX1_newNodes 13 = .ok (.iload_n 2, 1) := by decide +kernel
theorem dX1_newNodes_14 : decode cX1_newNodes 14 = .ok (.invokevirtual 103, 3) := by decide +kernel
theorem dX1_newNodes_17 : decode cX1_newNodes 17 = .ok (.iconst 1, 1) := by decide +kernel
theorem dX1_newNodes_18 : decode cX1_newNodes 18 = .ok (.isub, 1) := by decide +kernel
theorem dX1_newNodes_19 : decode cX1_newNodes 19 = .ok (.aload_n 0, 1) := by decide +kernel
theorem dX1_newNodes_20 : decode cX1_newNodes 20 = .ok (.iload_n 3, 1) := by decide +kernel
theorem dX1_newNodes_21 : decode cX1_newNodes 21 = .ok (.invokevirtual 103, 3) := by decide +kernel
theorem dX1_newNodes_24 : decode cX1_newNodes 24 = .ok (.iadd, 1) := by decide +kernel
theorem dX1_newNodes_25 : decode cX1_newNodes 25 = .ok (.iconst 1, 1) := by decide +kernel
theorem dX1_newNodes_26 : decode cX1_newNodes 26 = .ok (.isub, 1) := by decide +kernel
theorem dX1_newNodes_27 : decode cX1_newNodes 27 = .ok (.ireturn, 1) := by decide +kernel
set_option maxRecDepth 20000 in
theorem ggX1_lift_X3_get : GoodIn wsX1_lift wsX3_get := goodIn_r _ [14, 15, 16, 38, 39, 40] (by decide +kernel) (by decide +kernel)
set_option maxRecDepth 20000 in
theorem gX1_lift_X3_get : GoodIn wsX1_lift (wsV RX1 50 RX3 yX3_get wsX3_get) := goodIn_app (goodIn_of _ (by decide +kernel)) ggX1_lift_X3_get
set_option maxRecDepth 20000 in
theorem ggX1_lift_X3_set : GoodIn wsX1_lift wsX3_set := goodIn_r _ [20, 15, 16, 38, 39, 40] (by decide +kernel) (by decide +kernel)
set_option maxRecDepth 20000 in
theorem gX1_lift_X3_set : GoodIn wsX1_lift (wsV RX1 58 RX3 yX3_set wsX3_set) := goodIn_app (goodIn_of _ (by decide +kernel)) ggX1_lift_X3_set
set_option maxRecDepth 20000 in
theorem ggX1_lift_X1_ports : GoodIn wsX1_lift wsX1_ports := goodIn_r _ [25, 1, 10, 11, 12, 13, 14, 15, 16, 30, 31, 32, 33, 34, 35, 36, 37, 38, 39, 40] (by decide +kernel) (by decide +kernel)
set_option maxRecDepth 20000 in
theorem gX1_lift_X1_ports : GoodIn wsX1_lift (wsV RX1 103 RX1 yX1_ports wsX1_ports) := goodIn_app (goodIn_of _ (by decide +kernel)) ggX1_lift_X1_ports
set_option maxRecDepth 20000 in
theorem ggX1_lift_X1_link : GoodIn wsX1_lift wsX1_link := goodIn_r _ [29, 3, 17, 18, 19, 13, 20, 15, 16, 30, 31, 32, 33, 34, 35, 36, 37, 38, 39, 40] (by decide +kernel) (by decide +kernel)
set_option maxRecDepth 20000 in
theorem gX1_lift_X1_link : GoodIn wsX1_lift (wsV RX1 106 RX1 yX1_link wsX1_link) := goodIn_app (goodIn_of _ (by decide +kernel)) ggX1_lift_X1_link
theorem dX1_lift_0 : decode cX1_lift 0 = .ok (.aload_n 0, 1) := by decide +kernel
theorem dX1_lift_1 : decode cX1_lift 1 = .ok (.getfield 16, 3) := by decide +kernel
theorem dX1_lift_4 : decode cX1_lift 4 = .ok (.iload_n 2, 1) := by decide +kernel
theorem dX1_lift_5 : decode cX1_lift 5 = .ok (.aload_n 0, 1) := by decide +kernel
theorem dX1_lift_6 : decode cX1_lift 6 = .ok (.getfield 16, 3) := by decide +kernel
theorem dX1_lift_9 : decode cX1_lift 9 = .ok (.iload_n 1, 1) := by decide +kernel
theorem dX1_lift_10 : decode cX1_lift 10 = .ok (.invokevirtual 50, 3) := by decide +kernel
theorem dX1_lift_13 : decode cX1_lift 13 = .ok (.invokevirtual 58, 3) := by decide +kernel
theorem dX1_lift_16 : decode cX1_lift 16 = .ok (.aload_n 0, 1) := by decide +kernel
theorem dX1_lift_17 : decode cX1_lift 17 = .ok (.getfield 20, 3) := by decide +kernel
theorem dX1_lift_20 : decode cX1_lift 20 = .ok (.iload_n 2, 1) := by decide +kernel
theorem dX1_lift_21 : decode cX1_lift 21 = .ok (.aload_n 0, 1) := by decide +kernel
theorem dX1_lift_22 : decode cX1_lift 22 = .ok (.getfield 20, 3) := by decide +kernel
theorem dX1_lift_25 : decode cX1_lift 25 = .ok (.iload_n 1, 1) := by decide +kernel
theorem dX1_lift_26 : decode cX1_lift 26 = .ok (.invokevirtual 50, 3) := by decide +kernel
theorem dX1_lift_29 : decode cX1_lift 29 = .ok (.invokevirtual 58, 3) := by decide +kernel
theorem dX1_lift_32 : decode cX1_lift 32 = .ok (.iconst 0, 1) := by decide +kernel
theorem dX1_lift_33 : decode cX1_lift 33 = .ok (.istore_n 3, 1) := by decide +kernel
theorem dX1_lift_34 : decode cX1_lift 34 = .ok (.iload_n 3, 1) := by decide +kernel
theorem dX1_lift_35 : decode cX1_lift 35 = .ok (.aload_n 0, 1) := by decide +kernel
theorem dX1_lift_36 : decode cX1_lift 36 = .ok (.iload_n 2, 1) := by decide +kernel
theorem dX1_lift_37 : decode cX1_lift 37 = .ok (.invokevirtual 103, 3) := by decide +kernel
theorem dX1_lift_40 : decode cX1_lift 40 = .ok (.if_icmp .ge 30, 3) := by decide +kernel
theorem dX1_lift_43 : decode cX1_lift 43 = .ok (.aload_n 0, 1) := by decide +kernel
theorem dX1_lift_44 : decode cX1_lift 44 = .ok (.iconst 4, 1) := by decide +kernel
theorem dX1_lift_45 : decode cX1_lift 45 = .ok (.iload_n 2, 1) := by decide +kernel
theorem dX1_lift_46 : decode cX1_lift 46 = .ok (.imul, 1) := by decide +kernel
theorem dX1_lift_47 : decode cX1_lift 47 = .ok (.iload_n 3, 1) := by decide +kernel
theorem dX1_lift_48 : decode cX1_lift 48 = .ok (.iadd, 1) := by decide +kernel
theorem dX1_lift_49 : decode cX1_lift 49 = .ok (.aload_n 0, 1) := by decide +kernel
theorem dX1_lift_50 : decode cX1_lift 50 = .ok (.getfield 23, 3) := by decide +kernel
theorem dX1_lift_53 : decode cX1_lift 53 = .ok (.iconst 4, 1) := by decide +kernel
theorem dX1_lift_54 : decode cX1_lift 54 = .ok (.iload_n 1, 1) := by decide +kernel
theorem dX1_lift_55 : decode cX1_lift 55 = .ok (.imul, 1) := by decide +kernel
theorem dX1_lift_56 : decode cX1_lift 56 = .ok (.iload_n 3, 1) := by decide +kernel
theorem dX1_lift_57 : decode cX1_lift 57 = .ok (.iadd, 1) := by decide +kernel
theorem dX1_lift_58 : decode cX1_lift 58 = .ok (.invokevirtual 50, 3) := by decide +kernel
theorem dX1_lift_61 : decode cX1_lift 61 = .ok (.invokevirtual 106, 3) := by decide +kernel
theorem dX1_lift_64 : decode cX1_lift 64 = .ok (.iinc 3 1, 3) := by decide +kernel
theorem dX1_lift_67 : decode cX1_lift 67 = .ok (.goto (-33), 3) := by decide +kernel
theorem dX1_lift_70 : decode cX1_lift 70 = .ok (.aload_n 0, 1) := by decide +kernel
theorem dX1_lift_71 : decode cX1_lift 71 = .ok (.getfield 16, 3) := by decide +kernel
theorem dX1_lift_74 : decode cX1_lift 74 = .ok (.iload_n 1, 1) := by decide +kernel
theorem dX1_lift_75 : decode cX1_lift 75 = .ok (.iconst (-1), 1) := by decide +kernel
theorem dX1_lift_76 : decode cX1_lift 76 = .ok (.invokevirtual 58, 3) := by decide +kernel
theorem dX1_lift_79 : decode cX1_lift 79 = .ok (.aload_n 0, 1) := by decide +kernel
theorem dX1_lift_80 : decode cX1_lift 80 = .ok (.dup, 1) := by decide +kernel
theorem dX1_lift_81 : decode cX1_lift 81 = .ok (.getfield 29, 3) := by decide +kernel
theorem dX1_lift_84 : decode cX1_lift 84 = .ok (.iconst 1, 1) := by decide +kernel
theorem dX1_lift_85 : decode cX1_lift 85 = .ok (.isub, 1) := by decide +kernel
theorem dX1_lift_86 : decode cX1_lift 86 = .ok (.putfield 29, 3) := by decide +kernel
theorem dX1_lift_89 : decode cX1_lift 89 = .ok (.aload_n 0, 1) := by decide +kernel
theorem dX1_lift_90 : decode cX1_lift 90 = .ok (.aload_n 0, 1) := by decide +kernel
theorem dX1_lift_91 : decode cX1_lift 91 = .ok (.getfield 33, 3) := by decide +kernel
theorem dX1_lift_94 : decode cX1_lift 94 = .ok (.iload_n 1, 1) := by decide +kernel
theorem dX1_lift_95 : decode cX1_lift 95 = .ok (.invokestatic 77, 3) := by decide +kernel
theorem dX1_lift_98 : decode cX1_lift 98 = .ok (.putfield 33, 3) := by decide +kernel
theorem dX1_lift_101 : decode cX1_lift 101 = .ok (.return_, 1) := by decide +kernel
set_option maxRecDepth 20000 in
theorem ggX1_joinPorts_X1_ports : GoodIn wsX1_joinPorts wsX1_ports := goodIn_r _ [6, 7, 8, 9, 10, 11, 12, 13, 14, 23, 24, 25, 26, 27, 28, 29, 30, 31, 32, 33] (by decide +kernel) (by decide +kernel)
set_option maxRecDepth 20000 in
theorem gX1_joinPorts_X1_ports : GoodIn wsX1_joinPorts (wsV RX1 103 RX1 yX1_ports wsX1_ports) := goodIn_app (goodIn_of _ (by decide +kernel)) ggX1_joinPorts_X1_ports
set_option maxRecDepth 20000 in
theorem ggX1_joinPorts_X3_get : GoodIn wsX1_joinPorts wsX3_get := goodIn_r _ [12, 13, 14, 31, 32, 33] (by decide +kernel) (by decide +kernel)
set_option maxRecDepth 20000 in
theorem gX1_joinPorts_X3_get : GoodIn wsX1_joinPorts (wsV RX1 50 RX3 yX3_get wsX3_get) := goodIn_app (goodIn_of _ (by decide +kernel)) ggX1_joinPorts_X3_get
set_option maxRecDepth 20000 in
theorem ggX1_joinPorts_X1_link : GoodIn wsX1_joinPorts wsX1_link := goodIn_r _ [18, 1, 19, 20, 21, 11, 22, 13, 14, 23, 24, 25, 26, 27, 28, 29, 30, 31, 32, 33] (by decide +kernel) (by decide +kernel)
set_option maxRecDepth 20000 in
theorem gX1_joinPorts_X1_link : GoodIn wsX1_joinPorts (wsV RX1 106 RX1 yX1_link wsX1_link) := goodIn_app (goodIn_of _ (by decide +kernel)) ggX1_joinPorts_X1_link
theorem dX1_joinPorts_0 : decode cX1_joinPorts 0 = .ok (.iconst 1, 1) := by decide +kernel
theorem dX1_joinPorts_1 : decode cX1_joinPorts 1 = .ok (.istore_n 1, 1) := by decide +kernel
theorem dX1_joinPorts_2 : decode cX1_joinPorts 2 = .ok (.iload_n 1, 1) := by decide +kernel
theorem dX1_joinPorts_3 : decode cX1_joinPorts 3 = .ok (.aload_n 0, 1) := by decide +kernel
theorem dX1_joinPorts_4 : decode cX1_joinPorts 4 = .ok (.sipush 400, 3) := by decide +kernel
theorem dX1_joinPorts_7 : decode cX1_joinPorts 7 = .ok (.invokevirtual 103, 3) := by decide +kernel
theorem dX1_joinPorts_10 : decode cX1_joinPorts 10 = .ok (.if_icmp .ge 53, 3) := by decide +kernel
theorem dX1_joinPorts_13 : decode cX1_joinPorts 13 = .ok (.sipush 1600, 3) := by decide +kernel
theorem dX1_joinPorts_16 : decode cX1_joinPorts 16 = .ok (.iload_n 1, 1) := by decide +kernel
theorem dX1_joinPorts_17 : decode cX1_joinPorts 17 = .ok (.iadd, 1) := by decide +kernel
theorem dX1_joinPorts_18 : decode cX1_joinPorts 18 = .ok (.istore_n 2, 1) := by decide +kernel
theorem dX1_joinPorts_19 : decode cX1_joinPorts 19 = .ok (.sipush 1604, 3) := by decide +kernel
theorem dX1_joinPorts_22 : decode cX1_joinPorts 22 = .ok (.iload_n 1, 1) := by decide +kernel
theorem dX1_joinPorts_23 : decode cX1_joinPorts 23 = .ok (.iadd, 1) := by decide +kernel
theorem dX1_joinPorts_24 : decode cX1_joinPorts 24 = .ok (.istore_n 3, 1) := by decide +kernel
theorem dX1_joinPorts_25 : decode cX1_joinPorts 25 = .ok (.aload_n 0, 1) := by decide +kernel
theorem dX1_joinPorts_26 : decode cX1_joinPorts 26 = .ok (.getfield 23, 3) := by decide +kernel
theorem dX1_joinPorts_29 : decode cX1_joinPorts 29 = .ok (.iload_n 2, 1) := by decide +kernel
theorem dX1_joinPorts_30 : decode cX1_joinPorts 30 = .ok (.invokevirtual 50, 3) := by decide +kernel
theorem dX1_joinPorts_33 : decode cX1_joinPorts 33 = .ok (.iload_n 3, 1) := by decide +kernel
theorem dX1_joinPorts_34 : decode cX1_joinPorts 34 = .ok (.if_icmp .eq 23, 3) := by decide +kernel
theorem dX1_joinPorts_37 : decode cX1_joinPorts 37 = .ok (.aload_n 0, 1) := by decide +kernel
theorem dX1_joinPorts_38 : decode cX1_joinPorts 38 = .ok (.aload_n 0, 1) := by decide +kernel
theorem dX1_joinPorts_39 : decode cX1_joinPorts 39 = .ok (.getfield 23, 3) := by decide +kernel
theorem dX1_joinPorts_42 : decode cX1_joinPorts 42 = .ok (.iload_n 2, 1) := by decide +kernel
theorem dX1_joinPorts_43 : decode cX1_joinPorts 43 = .ok (.invokevirtual 50, 3) := by decide +kernel
theorem dX1_joinPorts_46 : decode cX1_joinPorts 46 = .ok (.aload_n 0, 1) := by decide +kernel
theorem dX1_joinPorts_47 : decode cX1_joinPorts 47 = .ok (.getfield 23, 3) := by decide +kernel
theorem dX1_joinPorts_50 : decode cX1_joinPorts 50 = .ok (.iload_n 3, 1) := by decide +kernel
theorem dX1_joinPorts_51 : decode cX1_joinPorts 51 = .ok (.invokevirtual 50, 3) := by decide +kernel
theorem dX1_joinPorts_54 : decode cX1_joinPorts 54 = .ok (.invokevirtual 106, 3) := by decide +kernel
theorem dX1_joinPorts_57 : decode cX1_joinPorts 57 = .ok (.iinc 1 1, 3) := by decide +kernel
theorem dX1_joinPorts_60 : decode cX1_joinPorts 60 = .ok (.goto (-58), 3) := by decide +kernel
theorem dX1_joinPorts_63 : decode cX1_joinPorts 63 = .ok (.return_, 1) := by decide +kernel
set_option maxRecDepth 20000 in
theorem ggX1_erase_X1_ports : GoodIn wsX1_erase wsX1_ports := goodIn_r _ [6, 7, 8, 9, 10, 11, 12, 13, 14, 36, 37, 38, 39, 40, 41, 42, 43, 44, 45, 46] (by decide +kernel) (by decide +kernel)
set_option maxRecDepth 20000 in
theorem gX1_erase_X1_ports : GoodIn wsX1_erase (wsV RX1 103 RX1 yX1_ports wsX1_ports) := goodIn_app (goodIn_of _ (by decide +kernel)) ggX1_erase_X1_ports
set_option maxRecDepth 20000 in
theorem ggX1_erase_X1_make : GoodIn wsX1_erase wsX1_make := goodIn_r _ [18, 19, 7, 20, 21, 22, 23, 24, 25, 26, 27, 8, 9, 10, 11, 12, 13, 14, 28, 29, 30, 31, 36, 37, 38, 39, 40, 41, 42, 43, 44, 45, 46] (by decide +kernel) (by decide +kernel)
set_option maxRecDepth 20000 in
theorem gX1_erase_X1_make : GoodIn wsX1_erase (wsV RX1 109 RX1 yX1_make wsX1_make) := goodIn_app (goodIn_of _ (by decide +kernel)) ggX1_erase_X1_make
set_option maxRecDepth 20000 in
theorem ggX1_erase_X3_get : GoodIn wsX1_erase wsX3_get := goodIn_r _ [12, 13, 14, 44, 45, 46] (by decide +kernel) (by decide +kernel)
set_option maxRecDepth 20000 in
theorem gX1_erase_X3_get : GoodIn wsX1_erase (wsV RX1 50 RX3 yX3_get wsX3_get) := goodIn_app (goodIn_of _ (by decide +kernel)) ggX1_erase_X3_get
set_option maxRecDepth 20000 in
theorem ggX1_erase_X1_link : GoodIn wsX1_erase wsX1_link := goodIn_r _ [35, 1, 28, 29, 30, 11, 31, 13, 14, 36, 37, 38, 39, 40, 41, 42, 43, 44, 45, 46] (by decide +kernel) (by decide +kernel)
set_option maxRecDepth 20000 in
theorem gX1_erase_X1_link : GoodIn wsX1_erase (wsV RX1 106 RX1 yX1_link wsX1_link) := goodIn_app (goodIn_of _ (by decide +kernel)) ggX1_erase_X1_link
theorem dX1_erase_0 : decode cX1_erase 0 = .ok (.iconst 1, 1) := by decide +kernel
theorem dX1_erase_1 : decode cX1_erase 1 = .ok (.istore_n 1, 1) := by decide +kernel
theorem dX1_erase_2 : decode cX1_erase 2 = .ok (.iload_n 1, 1) := by decide +kernel
theorem dX1_erase_3 : decode cX1_erase 3 = .ok (.aload_n 0, 1) := by decide +kernel
theorem dX1_erase_4 : decode cX1_erase 4 = .ok (.sipush 401, 3) := by decide +kernel
theorem dX1_erase_7 : decode cX1_erase 7 = .ok (.invokevirtual 103, 3) := by decide +kernel
theorem dX1_erase_10 : decode cX1_erase 10 = .ok (.if_icmp .ge 36, 3) := by decide +kernel
theorem dX1_erase_13 : decode cX1_erase 13 = .ok (.aload_n 0, 1) := by decide +kernel
theorem dX1_erase_14 : decode cX1_erase 14 = .ok (.bipush 6, 2) := by decide +kernel
theorem dX1_erase_16 : decode cX1_erase 16 = .ok (.iconst 0, 1) := by decide +kernel
theorem dX1_erase_17 : decode cX1_erase 17 = .ok (.invokevirtual 109, 3) := by decide +kernel
theorem dX1_erase_20 : decode cX1_erase 20 = .ok (.istore_n 2, 1) := by decide +kernel
theorem dX1_erase_21 : decode cX1_erase 21 = .ok (.aload_n 0, 1) := by decide +kernel
theorem dX1_erase_22 : decode cX1_erase 22 = .ok (.iconst 4, 1) := by decide +kernel
theorem dX1_erase_23 : decode cX1_erase 23 = .ok (.iload_n 2, 1) := by decide +kernel
theorem dX1_erase_24 : decode cX1_erase 24 = .ok (.imul, 1) := by decide +kernel
theorem dX1_erase_25 : decode cX1_erase 25 = .ok (.aload_n 0, 1) := by decide +kernel
theorem dX1_erase_26 : decode cX1_erase 26 = .ok (.getfield 23, 3) := by decide +kernel
theorem dX1_erase_29 : decode cX1_erase 29 = .ok (.sipush 1604, 3) := by decide +kernel
theorem dX1_erase_32 : decode cX1_erase 32 = .ok (.iload_n 1, 1) := by decide +kernel
theorem dX1_erase_33 : decode cX1_erase 33 = .ok (.iadd, 1) := by decide +kernel
theorem dX1_erase_34 : decode cX1_erase 34 = .ok (.invokevirtual 50, 3) := by decide +kernel
theorem dX1_erase_37 : decode cX1_erase 37 = .ok (.invokevirtual 106, 3) := by decide +kernel
theorem dX1_erase_40 : decode cX1_erase 40 = .ok (.iinc 1 1, 3) := by decide +kernel
theorem dX1_erase_43 : decode cX1_erase 43 = .ok (.goto (-41), 3) := by decide +kernel
theorem dX1_erase_46 : decode cX1_erase 46 = .ok (.return_, 1) := by decide +kernel
set_option maxRecDepth 20000 in
theorem ggX1_goThrough_X3_get : GoodIn wsX1_goThrough wsX3_get := goodIn_r _ [9, 10, 11, 73, 74, 75] (by decide +kernel) (by decide +kernel)
set_option maxRecDepth 20000 in
theorem gX1_goThrough_X3_get : GoodIn wsX1_goThrough (wsV RX1 50 RX3 yX3_get wsX3_get) := goodIn_app (goodIn_of _ (by decide +kernel)) ggX1_goThrough_X3_get
set_option maxRecDepth 20000 in
theorem ggX1_goThrough_X3_cut : GoodIn wsX1_goThrough wsX3_cut := goodIn_r _ [15, 10, 73, 74, 75] (by decide +kernel) (by decide +kernel)
set_option maxRecDepth 20000 in
theorem gX1_goThrough_X3_cut : GoodIn wsX1_goThrough (wsV RX1 112 RX3 yX3_cut wsX3_cut) := goodIn_app (goodIn_of _ (by decide +kernel)) ggX1_goThrough_X3_cut
set_option maxRecDepth 20000 in
theorem ggX1_goThrough_X1_ports : GoodIn wsX1_goThrough wsX1_ports := goodIn_r _ [20, 1, 5, 6, 7, 8, 9, 10, 11, 65, 66, 67, 68, 69, 70, 71, 72, 73, 74, 75] (by decide +kernel) (by decide +kernel)
set_option maxRecDepth 20000 in
theorem gX1_goThrough_X1_ports : GoodIn wsX1_goThrough (wsV RX1 103 RX1 yX1_ports wsX1_ports) := goodIn_app (goodIn_of _ (by decide +kernel)) ggX1_goThrough_X1_ports
set_option maxRecDepth 20000 in
theorem ggX1_goThrough_X1_make : GoodIn wsX1_goThrough wsX1_make := goodIn_r _ [24, 25, 1, 3, 26, 27, 28, 29, 30, 31, 32, 5, 6, 7, 8, 9, 10, 11, 33, 34, 35, 36, 65, 66, 67, 68, 69, 70, 71, 72, 73, 74, 75] (by decide +kernel) (by decide +kernel)
set_option maxRecDepth 20000 in
theorem gX1_goThrough_X1_make : GoodIn wsX1_goThrough (wsV RX1 109 RX1 yX1_make wsX1_make) := goodIn_app (goodIn_of _ (by decide +kernel)) ggX1_goThrough_X1_make
set_option maxRecDepth 20000 in
theorem ggX1_goThrough_X3_add : GoodIn wsX1_goThrough wsX3_add := goodIn_r _ [40, 10, 41, 11, 42, 43, 30, 44, 45, 46, 47, 48, 49, 50, 51, 52, 53, 54, 55, 56, 57, 58, 59, 60, 73, 74, 75] (by decide +kernel) (by decide +kernel)
set_option maxRecDepth 20000 in
theorem gX1_goThrough_X3_add : GoodIn wsX1_goThrough (wsV RX1 116 RX3 yX3_add wsX3_add) := goodIn_app (goodIn_of _ (by decide +kernel)) ggX1_goThrough_X3_add
set_option maxRecDepth 20000 in
theorem ggX1_goThrough_X1_link : GoodIn wsX1_goThrough wsX1_link := goodIn_r _ [64, 4, 33, 34, 35, 8, 36, 10, 11, 65, 66, 67, 68, 69, 70, 71, 72, 73, 74, 75] (by decide +kernel) (by decide +kernel)
set_option maxRecDepth 20000 in
theorem gX1_goThrough_X1_link : GoodIn wsX1_goThrough (wsV RX1 106 RX1 yX1_link wsX1_link) := goodIn_app (goodIn_of _ (by decide +kernel)) ggX1_goThrough_X1_link
theorem dX1_goThrough_0 : decode cX1_goThrough 0 = .ok (.aload_n 0, 1) := by decide +kernel
theorem dX1_goThrough_1 : decode cX1_goThrough 1 = .ok (.getfield 16, 3) := by decide +kernel
theorem dX1_goThrough_4 : decode cX1_goThrough 4 = .ok (.sipush 400, 3) := by decide +kernel
theorem dX1_goThrough_7 : decode cX1_goThrough 7 = .ok (.invokevirtual 50, 3) := by decide +kernel
theorem dX1_goThrough_10 : decode cX1_goThrough 10 = .ok (.istore_n 1, 1) := by decide +kernel
theorem dX1_goThrough_11 : decode cX1_goThrough 11 = .ok (.iload_n 1, 1) := by decide +kernel
theorem dX1_goThrough_12 : decode cX1_goThrough 12 = .ok (.iconst 4, 1) := by decide +kernel
theorem dX1_goThrough_13 : decode cX1_goThrough 13 = .ok (.if_icmp .ne 7, 3) := by decide +kernel
theorem dX1_goThrough_16 : decode cX1_goThrough 16 = .ok (.iconst 1, 1) := by decide +kernel
theorem dX1_goThrough_17 : decode cX1_goThrough 17 = .ok (.goto 13, 3) := by decide +kernel
theorem dX1_goThrough_20 : decode cX1_goThrough 20 = .ok (.iload_n 1, 1) := by decide +kernel
theorem dX1_goThrough_21 : decode cX1_goThrough 21 = .ok (.iconst 5, 1) := by decide +kernel
theorem dX1_goThrough_22 : decode cX1_goThrough 22 = .ok (.if_icmp .ne 7, 3) := by decide +kernel
theorem dX1_goThrough_25 : decode cX1_goThrough 25 = .ok (.iconst (-1), 1) := by decide +kernel
theorem dX1_goThrough_26 : decode cX1_goThrough 26 = .ok (.goto 4, 3) := by decide +kernel
theorem dX1_goThrough_29 : decode cX1_goThrough 29 = .ok (.iconst 0, 1) := by decide +kernel
theorem dX1_goThrough_30 : decode cX1_goThrough 30 = .ok (.istore_n 2, 1) := by decide +kernel
theorem dX1_goThrough_31 : decode cX1_goThrough 31 = .ok (.aload_n 0, 1) := by decide +kernel
theorem dX1_goThrough_32 : decode cX1_goThrough 32 = .ok (.getfield 26, 3) := by decide +kernel
theorem dX1_goThrough_35 : decode cX1_goThrough 35 = .ok (.iconst 0, 1) := by decide +kernel
theorem dX1_goThrough_36 : decode cX1_goThrough 36 = .ok (.invokevirtual 112, 3) := by decide +kernel
theorem dX1_goThrough_39 : decode cX1_goThrough 39 = .ok (.iconst 1, 1) := by decide +kernel
theorem dX1_goThrough_40 : decode cX1_goThrough 40 = .ok (.istore_n 3, 1) := by decide +kernel
theorem dX1_goThrough_41 : decode cX1_goThrough 41 = .ok (.iload_n 3, 1) := by decide +kernel
theorem dX1_goThrough_42 : decode cX1_goThrough 42 = .ok (.aload_n 0, 1) := by decide +kernel
theorem dX1_goThrough_43 : decode cX1_goThrough 43 = .ok (.sipush 400, 3) := by decide +kernel
theorem dX1_goThrough_46 : decode cX1_goThrough 46 = .ok (.invokevirtual 103, 3) := by decide +kernel
theorem dX1_goThrough_49 : decode cX1_goThrough 49 = .ok (.if_icmp .ge 67, 3) := by decide +kernel
theorem dX1_goThrough_52 : decode cX1_goThrough 52 = .ok (.aload_n 0, 1) := by decide +kernel
theorem dX1_goThrough_53 : decode cX1_goThrough 53 = .ok (.aload_n 0, 1) := by decide +kernel
theorem dX1_goThrough_54 : decode cX1_goThrough 54 = .ok (.getfield 16, 3) := by decide +kernel
theorem dX1_goThrough_57 : decode cX1_goThrough 57 = .ok (.sipush 401, 3) := by decide +kernel
theorem dX1_goThrough_60 : decode cX1_goThrough 60 = .ok (.invokevirtual 50, 3) := by decide +kernel
theorem dX1_goThrough_63 : decode cX1_goThrough 63 = .ok (.aload_n 0, 1) := by decide +kernel
theorem dX1_goThrough_64 : decode cX1_goThrough 64 = .ok (.getfield 20, 3) := by decide +kernel
theorem dX1_goThrough_67 : decode cX1_goThrough 67 = .ok (.sipush 401, 3) := by decide +kernel
theorem dX1_goThrough_70 : decode cX1_goThrough 70 = .ok (.invokevirtual 50, 3) := by decide +kernel
theorem dX1_goThrough_73 : decode cX1_goThrough 73 = .ok (.iload_n 2, 1) := by decide +kernel
theorem dX1_goThrough_74 : decode cX1_goThrough 74 = .ok (.iadd, 1) := by decide +kernel
theorem dX1_goThrough_75 : decode cX1_goThrough 75 = .ok (.invokevirtual 109, 3) := by decide +kernel
theorem dX1_goThrough_78 : decode cX1_goThrough 78 = .ok (.istore 4, 2) := by decide +kernel
theorem dX1_goThrough_80 : decode cX1_goThrough 80 = .ok (.aload_n 0, 1) := by decide +kernel
theorem dX1_goThrough_81 : decode cX1_goThrough 81 = .ok (.getfield 26, 3) := by decide +kernel
theorem dX1_goThrough_84 : decode cX1_goThrough 84 = .ok (.iload 4, 2) := by decide +kernel
theorem dX1_goThrough_86 : decode cX1_goThrough 86 = .ok (.invokevirtual 116, 3) := by decide +kernel
theorem dX1_goThrough_89 : decode cX1_goThrough 89 = .ok (.pop, 1) := by decide +kernel
theorem dX1_goThrough_90 : decode cX1_goThrough 90 = .ok (.aload_n 0, 1) := by decide +kernel
theorem dX1_goThrough_91 : decode cX1_goThrough 91 = .ok (.iconst 4, 1) := by decide +kernel
theorem dX1_goThrough_92 : decode cX1_goThrough 92 = .ok (.iload 4, 2) := by decide +kernel
theorem dX1_goThrough_94 : decode cX1_goThrough 94 = .ok (.imul, 1) := by decide +kernel
theorem dX1_goThrough_95 : decode cX1_goThrough 95 = .ok (.aload_n 0, 1) := by decide +kernel
theorem dX1_goThrough_96 : decode cX1_goThrough 96 = .ok (.getfield 23, 3) := by decide +kernel
theorem dX1_goThrough_99 : decode cX1_goThrough 99 = .ok (.sipush 1600, 3) := by decide +kernel
theorem dX1_goThrough_102 : decode cX1_goThrough 102 = .ok (.iload_n 3, 1) := by decide +kernel
theorem dX1_goThrough_103 : decode cX1_goThrough 103 = .ok (.iadd, 1) := by decide +kernel
theorem dX1_goThrough_104 : decode cX1_goThrough 104 = .ok (.invokevirtual 50, 3) := by decide +kernel
theorem dX1_goThrough_107 : decode cX1_goThrough 107 = .ok (.invokevirtual 106, 3) := by decide +kernel
theorem dX1_goThrough_110 : decode cX1_goThrough 110 = .ok (.iinc 3 1, 3) := by decide +kernel
theorem dX1_goThrough_113 : decode cX1_goThrough 113 = .ok (.goto (-72), 3) := by decide +kernel
theorem dX1_goThrough_116 : decode cX1_goThrough 116 = .ok (.iconst 1, 1) := by decide +kernel
theorem dX1_goThrough_117 : decode cX1_goThrough 117 = .ok (.istore_n 3, 1) := by decide +kernel
theorem dX1_goThrough_118 : decode cX1_goThrough 118 = .ok (.iload_n 3, 1) := by decide +kernel
theorem dX1_goThrough_119 : decode cX1_goThrough 119 = .ok (.aload_n 0, 1) := by decide +kernel
theorem dX1_goThrough_120 : decode cX1_goThrough 120 = .ok (.sipush 401, 3) := by decide +kernel
theorem dX1_goThrough_123 : decode cX1_goThrough 123 = .ok (.invokevirtual 103, 3) := by decide +kernel
theorem dX1_goThrough_126 : decode cX1_goThrough 126 = .ok (.if_icmp .ge 93, 3) := by decide +kernel
theorem dX1_goThrough_129 : decode cX1_goThrough 129 = .ok (.aload_n 0, 1) := by decide +kernel
theorem dX1_goThrough_130 : decode cX1_goThrough 130 = .ok (.iload_n 1, 1) := by decide +kernel
theorem dX1_goThrough_131 : decode cX1_goThrough 131 = .ok (.aload_n 0, 1) := by decide +kernel
theorem dX1_goThrough_132 : decode cX1_goThrough 132 = .ok (.getfield 20, 3) := by decide +kernel
theorem dX1_goThrough_135 : decode cX1_goThrough 135 = .ok (.sipush 400, 3) := by decide +kernel
theorem dX1_goThrough_138 : decode cX1_goThrough 138 = .ok (.invokevirtual 50, 3) := by decide +kernel
theorem dX1_goThrough_141 : decode cX1_goThrough 141 = .ok (.invokevirtual 109, 3) := by decide +kernel
theorem dX1_goThrough_144 : decode cX1_goThrough 144 = .ok (.istore 4, 2) := by decide +kernel
theorem dX1_goThrough_146 : decode cX1_goThrough 146 = .ok (.aload_n 0, 1) := by decide +kernel
theorem dX1_goThrough_147 : decode cX1_goThrough 147 = .ok (.iconst 4, 1) := by decide +kernel
theorem dX1_goThrough_148 : decode cX1_goThrough 148 = .ok (.iload 4, 2) := by decide +kernel
theorem dX1_goThrough_150 : decode cX1_goThrough 150 = .ok (.imul, 1) := by decide +kernel
theorem dX1_goThrough_151 : decode cX1_goThrough 151 = .ok (.aload_n 0, 1) := by decide +kernel
theorem dX1_goThrough_152 : decode cX1_goThrough 152 = .ok (.getfield 23, 3) := by decide +kernel
theorem dX1_goThrough_155 : decode cX1_goThrough 155 = .ok (.sipush 1604, 3) := by decide +kernel
theorem dX1_goThrough_158 : decode cX1_goThrough 158 = .ok (.iload_n 3, 1) := by decide +kernel
theorem dX1_goThrough_159 : decode cX1_goThrough 159 = .ok (.iadd, 1) := by decide +kernel
theorem dX1_goThrough_160 : decode cX1_goThrough 160 = .ok (.invokevirtual 50, 3) := by decide +kernel
theorem dX1_goThrough_163 : decode cX1_goThrough 163 = .ok (.invokevirtual 106, 3) := by decide +kernel
theorem dX1_goThrough_166 : decode cX1_goThrough 166 = .ok (.iconst 1, 1) := by decide +kernel
theorem dX1_goThrough_167 : decode cX1_goThrough 167 = .ok (.istore 5, 2) := by decide +kernel
theorem dX1_goThrough_169 : decode cX1_goThrough 169 = .ok (.iload 5, 2) := by decide +kernel
theorem dX1_goThrough_171 : decode cX1_goThrough 171 = .ok (.aload_n 0, 1) := by decide +kernel
theorem dX1_goThrough_172 : decode cX1_goThrough 172 = .ok (.sipush 400, 3) := by decide +kernel
theorem dX1_goThrough_175 : decode cX1_goThrough 175 = .ok (.invokevirtual 103, 3) := by decide +kernel
theorem dX1_goThrough_178 : decode cX1_goThrough 178 = .ok (.if_icmp .ge 35, 3) := by decide +kernel
theorem dX1_goThrough_181 : decode cX1_goThrough 181 = .ok (.aload_n 0, 1) := by decide +kernel
theorem dX1_goThrough_182 : decode cX1_goThrough 182 = .ok (.iconst 4, 1) := by decide +kernel
theorem dX1_goThrough_183 : decode cX1_goThrough 183 = .ok (.aload_n 0, 1) := by decide +kernel
theorem dX1_goThrough_184 : decode cX1_goThrough 184 = .ok (.getfield 26, 3) := by decide +kernel
theorem dX1_goThrough_187 : decode cX1_goThrough 187 = .ok (.iload 5, 2) := by decide +kernel
theorem dX1_goThrough_189 : decode cX1_goThrough 189 = .ok (.iconst 1, 1) := by decide +kernel
theorem dX1_goThrough_190 : decode cX1_goThrough 190 = .ok (.isub, 1) := by decide +kernel
theorem dX1_goThrough_191 : decode cX1_goThrough 191 = .ok (.invokevirtual 50, 3) := by decide +kernel
theorem dX1_goThrough_194 : decode cX1_goThrough 194 = .ok (.imul, 1) := by decide +kernel
theorem dX1_goThrough_195 : decode cX1_goThrough 195 = .ok (.iload_n 3, 1) := by decide +kernel
theorem dX1_goThrough_196 : decode cX1_goThrough 196 = .ok (.iadd, 1) := by decide +kernel
theorem dX1_goThrough_197 : decode cX1_goThrough 197 = .ok (.iconst 4, 1) := by decide +kernel
theorem dX1_goThrough_198 : decode cX1_goThrough 198 = .ok (.iload 4, 2) := by decide +kernel
theorem dX1_goThrough_200 : decode cX1_goThrough 200 = .ok (.imul, 1) := by decide +kernel
theorem dX1_goThrough_201 : decode cX1_goThrough 201 = .ok (.iload 5, 2) := by decide +kernel
theorem dX1_goThrough_203 : decode cX1_goThrough 203 = .ok (.iadd, 1) := by decide +kernel
theorem dX1_goThrough_204 : decode cX1_goThrough 204 = .ok (.invokevirtual 106, 3) := by decide +kernel
theorem dX1_goThrough_207 : decode cX1_goThrough 207 = .ok (.iinc 5 1, 3) := by decide +kernel
theorem dX1_goThrough_210 : decode cX1_goThrough 210 = .ok (.goto (-41), 3) := by decide +kernel
theorem dX1_goThrough_213 : decode cX1_goThrough 213 = .ok (.iinc 3 1, 3) := by decide +kernel
theorem dX1_goThrough_216 : decode cX1_goThrough 216 = .ok (.goto (-98), 3) := by decide +kernel
theorem dX1_goThrough_219 : decode cX1_goThrough 219 = .ok (.return_, 1) := by decide +kernel
set_option maxRecDepth 20000 in
theorem ggX2_init_X3_init : GoodIn wsX2_init wsX3_init := goodIn_r _ [15, 16, 2, 3, 17, 18, 19, 20, 21, 22, 23, 24, 25, 26, 27, 28, 29, 30] (by decide +kernel) (by decide +kernel)
set_option maxRecDepth 20000 in
theorem gX2_init_X3_init : GoodIn wsX2_init (wsX3_init) := ggX2_init_X3_init
theorem dX2_init_0 : decode cX2_init 0 = .ok (.aload_n 0, 1) := by decide +kernel
theorem dX2_init_1 : decode cX2_init 1 = .ok (.invokespecial 3, 3) := by decide +kernel
theorem dX2_init_4 : decode cX2_init 4 = .ok (.aload_n 0, 1) := by decide +kernel
theorem dX2_init_5 : decode cX2_init 5 = .ok (.new 9, 3) := by decide +kernel
theorem dX2_init_8 : decode cX2_init 8 = .ok (.dup, 1) := by decide +kernel
theorem dX2_init_9 : decode cX2_init 9 = .ok (.bipush 32, 2) := by decide +kernel
theorem dX2_init_11 : decode cX2_init 11 = .ok (.sipush 1000, 3) := by decide +kernel
theorem dX2_init_14 : decode cX2_init 14 = .ok (.invokespecial 11, 3) := by decide +kernel
theorem dX2_init_17 : decode cX2_init 17 = .ok (.putfield 14, 3) := by decide +kernel
theorem dX2_init_20 : decode cX2_init 20 = .ok (.aload_n 0, 1) := by decide +kernel
theorem dX2_init_21 : decode cX2_init 21 = .ok (.new 9, 3) := by decide +kernel
theorem dX2_init_24 : decode cX2_init 24 = .ok (.dup, 1) := by decide +kernel
theorem dX2_init_25 : decode cX2_init 25 = .ok (.bipush 32, 2) := by decide +kernel
theorem dX2_init_27 : decode cX2_init 27 = .ok (.sipush 1000, 3) := by decide +kernel
theorem dX2_init_30 : decode cX2_init 30 = .ok (.invokespecial 11, 3) := by decide +kernel
theorem dX2_init_33 : decode cX2_init 33 = .ok (.putfield 20, 3) := by decide +kernel
theorem dX2_init_36 : decode cX2_init 36 = .ok (.aload_n 0, 1) := by decide +kernel
theorem dX2_init_37 : decode cX2_init 37 = .ok (.new 9, 3) := by decide +kernel
theorem dX2_init_40 : decode cX2_init 40 = .ok (.dup, 1) := by decide +kernel
theorem dX2_init_41 : decode cX2_init 41 = .ok (.bipush 64, 2) := by decide +kernel
theorem dX2_init_43 : decode cX2_init 43 = .ok (.sipush 1000, 3) := by decide +kernel
theorem dX2_init_46 : decode cX2_init 46 = .ok (.invokespecial 11, 3) := by decide +kernel
theorem dX2_init_49 : decode cX2_init 49 = .ok (.putfield 23, 3) := by decide +kernel
theorem dX2_init_52 : decode cX2_init 52 = .ok (.aload_n 0, 1) := by decide +kernel
theorem dX2_init_53 : decode cX2_init 53 = .ok (.new 9, 3) := by decide +kernel
theorem dX2_init_56 : decode cX2_init 56 = .ok (.dup, 1) := by decide +kernel
theorem dX2_init_57 : decode cX2_init 57 = .ok (.bipush 64, 2) := by decide +kernel
theorem dX2_init_59 : decode cX2_init 59 = .ok (.sipush 1000, 3) := by decide +kernel
theorem dX2_init_62 : decode cX2_init 62 = .ok (.invokespecial 11, 3) := by decide +kernel
theorem dX2_init_65 : decode cX2_init 65 = .ok (.putfield 26, 3) := by decide +kernel
theorem dX2_init_68 : decode cX2_init 68 = .ok (.aload_n 0, 1) := by decide +kernel
theorem dX2_init_69 : decode cX2_init 69 = .ok (.iconst 0, 1) := by decide +kernel
theorem dX2_init_70 : decode cX2_init 70 = .ok (.putfield 29, 3) := by decide +kernel
theorem dX2_init_73 : decode cX2_init 73 = .ok (.aload_n 0, 1) := by decide +kernel
theorem dX2_init_74 : decode cX2_init 74 = .ok (.iconst 0, 1) := by decide +kernel
theorem dX2_init_75 : decode cX2_init 75 = .ok (.putfield 33, 3) := by decide +kernel
theorem dX2_init_78 : decode cX2_init 78 = .ok (.return_, 1) := by decide +kernel
theorem dX2_term_0 : decode cX2_term 0 = .ok (.aload_n 0, 1) := by decide +kernel
theorem dX2_term_1 : decode cX2_term 1 = .ok (.getfield 23, 3) := by decide +kernel
theorem dX2_term_4 : decode cX2_term 4 = .ok (.areturn, 1) := by decide +kernel
theorem dX2_rounds_0 : decode cX2_rounds 0 = .ok (.aload_n 0, 1) := by decide +kernel
theorem dX2_rounds_1 : decode cX2_rounds 1 = .ok (.getfield 29, 3) := by decide +kernel
theorem dX2_rounds_4 : decode cX2_rounds 4 = .ok (.ireturn, 1) := by decide +kernel
theorem dX2_tooMany_0 : decode cX2_tooMany 0 = .ok (.aload_n 0, 1) := by decide +kernel
theorem dX2_tooMany_1 : decode cX2_tooMany 1 = .ok (.getfield 33, 3) := by decide +kernel
theorem dX2_tooMany_4 : decode cX2_tooMany 4 = .ok (.ireturn, 1) := by decide +kernel
set_option maxRecDepth 20000 in
theorem ggX2_isAtEnd_X2_firstRedex : GoodIn wsX2_isAtEnd wsX2_firstRedex := goodIn_r _ [6, 7, 8, 9, 10, 11, 12, 13, 14, 15, 16, 17, 18, 19, 20, 21, 22, 23, 24, 25, 26, 27, 28, 29, 30, 31] (by decide +kernel) (by decide +kernel)
set_option maxRecDepth 20000 in
theorem gX2_isAtEnd_X2_firstRedex : GoodIn wsX2_isAtEnd (wsV RX2 37 RX2 yX2_firstRedex wsX2_firstRedex) := goodIn_app (goodIn_of _ (by decide +kernel)) ggX2_isAtEnd_X2_firstRedex
theorem dX2_isAtEnd_0 : decode cX2_isAtEnd 0 = .ok (.aload_n 0, 1) := by decide +kernel
theorem dX2_isAtEnd_1 : decode cX2_isAtEnd 1 = .ok (.getfield 33, 3) := by decide +kernel
theorem dX2_isAtEnd_4 : decode cX2_isAtEnd 4 = .ok (.ifCond .ne 15, 3) := by decide +kernel
theorem dX2_isAtEnd_7 : decode cX2_isAtEnd 7 = .ok (.aload_n 0, 1) := by decide +kernel
theorem dX2_isAtEnd_8 : decode cX2_isAtEnd 8 = .ok (.invokevirtual 37, 3) := by decide +kernel
theorem dX2_isAtEnd_11 : decode cX2_isAtEnd 11 = .ok (.iconst (-1), 1) := by decide +kernel
theorem dX2_isAtEnd_12 : decode cX2_isAtEnd 12 = .ok (.if_icmp .ne 7, 3) := by decide +kernel
theorem dX2_isAtEnd_15 : decode cX2_isAtEnd 15 = .ok (.iconst 1, 1) := by decide +kernel
theorem dX2_isAtEnd_16 : decode cX2_isAtEnd 16 = .ok (.goto 4, 3) := by decide +kernel
theorem dX2_isAtEnd_19 : decode cX2_isAtEnd 19 = .ok (.iconst 0, 1) := by decide +kernel
theorem dX2_isAtEnd_20 : decode cX2_isAtEnd 20 = .ok (.ireturn, 1) := by decide +kernel
set_option maxRecDepth 20000 in
theorem ggX2_workOff_X3_copy : GoodIn wsX2_workOff wsX3_copy := goodIn_r _ [9, 10, 11, 12, 13, 14, 15, 16, 17, 18, 19, 20, 21, 22, 23, 24, 25, 26, 27, 28, 29, 30, 31, 32, 33, 34, 35, 36, 94, 95, 96] (by decide +kernel) (by decide +kernel)
set_option maxRecDepth 20000 in
theorem gX2_workOff_X3_copy : GoodIn wsX2_workOff (wsV RX2 41 RX3 yX3_copy wsX3_copy) := goodIn_app (goodIn_of _ (by decide +kernel)) ggX2_workOff_X3_copy
set_option maxRecDepth 20000 in
theorem ggX2_workOff_X2_firstRedex : GoodIn wsX2_workOff wsX2_firstRedex := goodIn_r _ [41, 1, 42, 43, 44, 8, 45, 10, 46, 47, 48, 49, 50, 51, 52, 53, 12, 88, 89, 90, 91, 92, 93, 94, 95, 96] (by decide +kernel) (by decide +kernel)
set_option maxRecDepth 20000 in
theorem gX2_workOff_X2_firstRedex : GoodIn wsX2_workOff (wsV RX2 37 RX2 yX2_firstRedex wsX2_firstRedex) := goodIn_app (goodIn_of _ (by decide +kernel)) ggX2_workOff_X2_firstRedex
set_option maxRecDepth 20000 in
theorem ggX2_workOff_X2_behindTerm : GoodIn wsX2_workOff wsX2_behindTerm := goodIn_r _ [57, 1, 42, 43, 44, 8, 45, 10, 58, 51, 52, 53, 12, 88, 89, 90, 91, 92, 93, 94, 95, 96] (by decide +kernel) (by decide +kernel)
set_option maxRecDepth 20000 in
theorem gX2_workOff_X2_behindTerm : GoodIn wsX2_workOff (wsV RX2 45 RX2 yX2_behindTerm wsX2_behindTerm) := goodIn_app (goodIn_of _ (by decide +kernel)) ggX2_workOff_X2_behindTerm
set_option maxRecDepth 20000 in
theorem ggX2_workOff_X3_cut : GoodIn wsX2_workOff wsX3_cut := goodIn_r _ [62, 10, 94, 95, 96] (by decide +kernel) (by decide +kernel)
set_option maxRecDepth 20000 in
theorem gX2_workOff_X3_cut : GoodIn wsX2_workOff (wsV RX2 49 RX3 yX3_cut wsX3_cut) := goodIn_app (goodIn_of _ (by decide +kernel)) ggX2_workOff_X3_cut
set_option maxRecDepth 20000 in
theorem ggX2_workOff_X2_keep : GoodIn wsX2_workOff wsX2_keep := goodIn_r _ [66, 4, 1, 58, 51, 52, 8, 53, 10, 12, 67, 68, 69, 70, 11, 17, 18, 15, 19, 24, 25, 26, 27, 28, 29, 30, 31, 32, 33, 34, 35, 36, 21, 22, 23, 88, 89, 90, 91, 92, 93, 94, 95, 96] (by decide +kernel) (by decide +kernel)
set_option maxRecDepth 20000 in
theorem gX2_workOff_X2_keep : GoodIn wsX2_workOff (wsV RX2 53 RX2 yX2_keep wsX2_keep) := goodIn_app (goodIn_of _ (by decide +kernel)) ggX2_workOff_X2_keep
set_option maxRecDepth 20000 in
theorem ggX2_workOff_X2_putIn : GoodIn wsX2_workOff wsX2_putIn := goodIn_r _ [74, 75, 1, 4, 59, 60, 61, 8, 62, 10, 58, 51, 52, 53, 12, 67, 68, 69, 70, 11, 17, 18, 15, 19, 24, 25, 26, 27, 28, 29, 30, 31, 32, 33, 34, 35, 36, 21, 22, 23, 76, 77, 78, 40, 79, 80, 81, 82, 83, 84, 85, 86, 87, 88, 89, 90, 91, 92, 93, 94, 95, 96] (by decide +kernel) (by decide +kernel)
set_option maxRecDepth 20000 in
theorem gX2_workOff_X2_putIn : GoodIn wsX2_workOff (wsV RX2 57 RX2 yX2_putIn wsX2_putIn) := goodIn_app (goodIn_of _ (by decide +kernel)) ggX2_workOff_X2_putIn
set_option maxRecDepth 20000 in
theorem ggX2_workOff_X3_size : GoodIn wsX2_workOff wsX3_size := goodIn_r _ [45, 10, 94, 95, 96] (by decide +kernel) (by decide +kernel)
set_option maxRecDepth 20000 in
theorem gX2_workOff_X3_size : GoodIn wsX2_workOff (wsV RX2 61 RX3 yX3_size wsX3_size) := goodIn_app (goodIn_of _ (by decide +kernel)) ggX2_workOff_X3_size
theorem dX2_workOff_0 : decode cX2_workOff 0 = .ok (.aload_n 0, 1) := by decide +kernel
theorem dX2_workOff_1 : decode cX2_workOff 1 = .ok (.getfield 23, 3) := by decide +kernel
theorem dX2_workOff_4 : decode cX2_workOff 4 = .ok (.aload_n 1, 1) := by decide +kernel
theorem dX2_workOff_5 : decode cX2_workOff 5 = .ok (.invokevirtual 41, 3) := by decide +kernel
theorem dX2_workOff_8 : decode cX2_workOff 8 = .ok (.aload_n 0, 1) := by decide +kernel
theorem dX2_workOff_9 : decode cX2_workOff 9 = .ok (.iconst 0, 1) := by decide +kernel
theorem dX2_workOff_10 : decode cX2_workOff 10 = .ok (.putfield 29, 3) := by decide +kernel
theorem dX2_workOff_13 : decode cX2_workOff 13 = .ok (.aload_n 0, 1) := by decide +kernel
theorem dX2_workOff_14 : decode cX2_workOff 14 = .ok (.iconst 0, 1) := by decide +kernel
theorem dX2_workOff_15 : decode cX2_workOff 15 = .ok (.putfield 33, 3) := by decide +kernel
theorem dX2_workOff_18 : decode cX2_workOff 18 = .ok (.aload_n 0, 1) := by decide +kernel
theorem dX2_workOff_19 : decode cX2_workOff 19 = .ok (.getfield 29, 3) := by decide +kernel
theorem dX2_workOff_22 : decode cX2_workOff 22 = .ok (.iload_n 2, 1) := by decide +kernel
theorem dX2_workOff_23 : decode cX2_workOff 23 = .ok (.if_icmp .ge 127, 3) := by decide +kernel
theorem dX2_workOff_26 : decode cX2_workOff 26 = .ok (.aload_n 0, 1) := by decide +kernel
theorem dX2_workOff_27 : decode cX2_workOff 27 = .ok (.getfield 33, 3) := by decide +kernel
theorem dX2_workOff_30 : decode cX2_workOff 30 = .ok (.ifCond .ne 120, 3) := by decide +kernel
theorem dX2_workOff_33 : decode cX2_workOff 33 = .ok (.aload_n 0, 1) := by decide +kernel
theorem dX2_workOff_34 : decode cX2_workOff 34 = .ok (.invokevirtual 37, 3) := by decide +kernel
theorem dX2_workOff_37 : decode cX2_workOff 37 = .ok (.istore_n 3, 1) := by decide +kernel
theorem dX2_workOff_38 : decode cX2_workOff 38 = .ok (.iload_n 3, 1) := by decide +kernel
theorem dX2_workOff_39 : decode cX2_workOff 39 = .ok (.iconst (-1), 1) := by decide +kernel
theorem dX2_workOff_40 : decode cX2_workOff 40 = .ok (.if_icmp .ne 4, 3) := by decide +kernel
theorem dX2_workOff_43 : decode cX2_workOff 43 = .ok (.return_, 1) := by decide +kernel
theorem dX2_workOff_44 : decode cX2_workOff 44 = .ok (.aload_n 0, 1) := by decide +kernel
theorem dX2_workOff_45 : decode cX2_workOff 45 = .ok (.iload_n 3, 1) := by decide +kernel
theorem dX2_workOff_46 : decode cX2_workOff 46 = .ok (.iconst 2, 1) := by decide +kernel
theorem dX2_workOff_47 : decode cX2_workOff 47 = .ok (.iadd, 1) := by decide +kernel
theorem dX2_workOff_48 : decode cX2_workOff 48 = .ok (.invokevirtual 45, 3) := by decide +kernel
theorem dX2_workOff_51 : decode cX2_workOff 51 = .ok (.istore 4, 2) := by decide +kernel
theorem dX2_workOff_53 : decode cX2_workOff 53 = .ok (.aload_n 0, 1) := by decide +kernel
theorem dX2_workOff_54 : decode cX2_workOff 54 = .ok (.iload 4, 2) := by decide +kernel
theorem dX2_workOff_56 : decode cX2_workOff 56 = .ok (.invokevirtual 45, 3) := by decide +kernel
theorem dX2_workOff_59 : decode cX2_workOff 59 = .ok (.istore 5, 2) := by decide +kernel
theorem dX2_workOff_61 : decode cX2_workOff 61 = .ok (.aload_n 0, 1) := by decide +kernel
theorem dX2_workOff_62 : decode cX2_workOff 62 = .ok (.getfield 26, 3) := by decide +kernel
theorem dX2_workOff_65 : decode cX2_workOff 65 = .ok (.iconst 0, 1) := by decide +kernel
theorem dX2_workOff_66 : decode cX2_workOff 66 = .ok (.invokevirtual 49, 3) := by decide +kernel
theorem dX2_workOff_69 : decode cX2_workOff 69 = .ok (.aload_n 0, 1) := by decide +kernel
theorem dX2_workOff_70 : decode cX2_workOff 70 = .ok (.aload_n 0, 1) := by decide +kernel
theorem dX2_workOff_71 : decode cX2_workOff 71 = .ok (.iconst 0, 1) := by decide +kernel
theorem dX2_workOff_72 : decode cX2_workOff 72 = .ok (.iload_n 3, 1) := by decide +kernel
theorem dX2_workOff_73 : decode cX2_workOff 73 = .ok (.invokevirtual 53, 3) := by decide +kernel
theorem dX2_workOff_76 : decode cX2_workOff 76 = .ok (.ifCond .eq 33, 3) := by decide +kernel
theorem dX2_workOff_79 : decode cX2_workOff 79 = .ok (.aload_n 0, 1) := by decide +kernel
theorem dX2_workOff_80 : decode cX2_workOff 80 = .ok (.iload_n 3, 1) := by decide +kernel
theorem dX2_workOff_81 : decode cX2_workOff 81 = .ok (.iconst 2, 1) := by decide +kernel
theorem dX2_workOff_82 : decode cX2_workOff 82 = .ok (.iadd, 1) := by decide +kernel
theorem dX2_workOff_83 : decode cX2_workOff 83 = .ok (.iload 4, 2) := by decide +kernel
theorem dX2_workOff_85 : decode cX2_workOff 85 = .ok (.iload 5, 2) := by decide +kernel
theorem dX2_workOff_87 : decode cX2_workOff 87 = .ok (.invokevirtual 57, 3) := by decide +kernel
theorem dX2_workOff_90 : decode cX2_workOff 90 = .ok (.ifCond .eq 19, 3) := by decide +kernel
theorem dX2_workOff_93 : decode cX2_workOff 93 = .ok (.aload_n 0, 1) := by decide +kernel
theorem dX2_workOff_94 : decode cX2_workOff 94 = .ok (.iload 5, 2) := by decide +kernel
theorem dX2_workOff_96 : decode cX2_workOff 96 = .ok (.aload_n 0, 1) := by decide +kernel
theorem dX2_workOff_97 : decode cX2_workOff 97 = .ok (.getfield 23, 3) := by decide +kernel
theorem dX2_workOff_100 : decode cX2_workOff 100 = .ok (.invokevirtual 61, 3) := by decide +kernel
theorem dX2_workOff_103 : decode cX2_workOff 103 = .ok (.invokevirtual 53, 3) := by decide +kernel
theorem dX2_workOff_106 : decode cX2_workOff 106 = .ok (.ifCond .ne 7, 3) := by decide +kernel
theorem dX2_workOff_109 : decode cX2_workOff 109 = .ok (.iconst 1, 1) := by decide +kernel
theorem dX2_workOff_110 : decode cX2_workOff 110 = .ok (.goto 4, 3) := by decide +kernel
theorem dX2_workOff_113 : decode cX2_workOff 113 = .ok (.iconst 0, 1) := by decide +kernel
theorem dX2_workOff_114 : decode cX2_workOff 114 = .ok (.putfield 33, 3) := by decide +kernel
theorem dX2_workOff_117 : decode cX2_workOff 117 = .ok (.aload_n 0, 1) := by decide +kernel
theorem dX2_workOff_118 : decode cX2_workOff 118 = .ok (.getfield 23, 3) := by decide +kernel
theorem dX2_workOff_121 : decode cX2_workOff 121 = .ok (.astore 6, 2) := by decide +kernel
theorem dX2_workOff_123 : decode cX2_workOff 123 = .ok (.aload_n 0, 1) := by decide +kernel
theorem dX2_workOff_124 : decode cX2_workOff 124 = .ok (.aload_n 0, 1) := by decide +kernel
theorem dX2_workOff_125 : decode cX2_workOff 125 = .ok (.getfield 26, 3) := by decide +kernel
theorem dX2_workOff_128 : decode cX2_workOff 128 = .ok (.putfield 23, 3) := by decide +kernel
theorem dX2_workOff_131 : decode cX2_workOff 131 = .ok (.aload_n 0, 1) := by decide +kernel
theorem dX2_workOff_132 : decode cX2_workOff 132 = .ok (.aload 6, 2) := by decide +kernel
theorem dX2_workOff_134 : decode cX2_workOff 134 = .ok (.putfield 26, 3) := by decide +kernel
theorem dX2_workOff_137 : decode cX2_workOff 137 = .ok (.aload_n 0, 1) := by decide +kernel
theorem dX2_workOff_138 : decode cX2_workOff 138 = .ok (.dup, 1) := by decide +kernel
theorem dX2_workOff_139 : decode cX2_workOff 139 = .ok (.getfield 29, 3) := by decide +kernel
theorem dX2_workOff_142 : decode cX2_workOff 142 = .ok (.iconst 1, 1) := by decide +kernel
theorem dX2_workOff_143 : decode cX2_workOff 143 = .ok (.iadd, 1) := by decide +kernel
theorem dX2_workOff_144 : decode cX2_workOff 144 = .ok (.putfield 29, 3) := by decide +kernel
theorem dX2_workOff_147 : decode cX2_workOff 147 = .ok (.goto (-129), 3) := by decide +kernel
theorem dX2_workOff_150 : decode cX2_workOff 150 = .ok (.return_, 1) := by decide +kernel
set_option maxRecDepth 20000 in
theorem ggX2_firstRedex_X3_size : GoodIn wsX2_firstRedex wsX3_size := goodIn_r _ [6, 7, 23, 24, 25] (by decide +kernel) (by decide +kernel)
set_option maxRecDepth 20000 in
theorem gX2_firstRedex_X3_size : GoodIn wsX2_firstRedex (wsV RX2 61 RX3 yX3_size wsX3_size) := goodIn_app (goodIn_of _ (by decide +kernel)) ggX2_firstRedex_X3_size
set_option maxRecDepth 20000 in
theorem ggX2_firstRedex_X9_isRedex : GoodIn wsX2_firstRedex wsX9_isRedex := goodIn_r _ [10, 11, 3, 4, 5, 6, 7, 12, 13, 14, 15, 16, 23, 24, 25] (by decide +kernel) (by decide +kernel)
set_option maxRecDepth 20000 in
theorem gX2_firstRedex_X9_isRedex_n64 : GoodIn wsX2_firstRedex (wsX9_isRedex) := ggX2_firstRedex_X9_isRedex
theorem dX2_firstRedex_0 : decode cX2_firstRedex 0 = .ok (.iconst 0, 1) := by decide +kernel
theorem dX2_firstRedex_1 : decode cX2_firstRedex 1 = .ok (.istore_n 1, 1) := by decide +kernel
theorem dX2_firstRedex_2 : decode cX2_firstRedex 2 = .ok (.iload_n 1, 1) := by decide +kernel
theorem dX2_firstRedex_3 : decode cX2_firstRedex 3 = .ok (.aload_n 0, 1) := by decide +kernel
theorem dX2_firstRedex_4 : decode cX2_firstRedex 4 = .ok (.getfield 23, 3) := by decide +kernel
theorem dX2_firstRedex_7 : decode cX2_firstRedex 7 = .ok (.invokevirtual 61, 3) := by decide +kernel
theorem dX2_firstRedex_10 : decode cX2_firstRedex 10 = .ok (.if_icmp .ge 22, 3) := by decide +kernel
theorem dX2_firstRedex_13 : decode cX2_firstRedex 13 = .ok (.aload_n 0, 1) := by decide +kernel
theorem dX2_firstRedex_14 : decode cX2_firstRedex 14 = .ok (.getfield 23, 3) := by decide +kernel
theorem dX2_firstRedex_17 : decode cX2_firstRedex 17 = .ok (.iload_n 1, 1) := by decide +kernel
theorem dX2_firstRedex_18 : decode cX2_firstRedex 18 = .ok (.invokestatic 64, 3) := by decide +kernel
theorem dX2_firstRedex_21 : decode cX2_firstRedex 21 = .ok (.ifCond .eq 5, 3) := by decide +kernel
theorem dX2_firstRedex_24 : decode cX2_firstRedex 24 = .ok (.iload_n 1, 1) := by decide +kernel
theorem dX2_firstRedex_25 : decode cX2_firstRedex 25 = .ok (.ireturn, 1) := by decide +kernel
theorem dX2_firstRedex_26 : decode cX2_firstRedex 26 = .ok (.iinc 1 1, 3) := by decide +kernel
theorem dX2_firstRedex_29 : decode cX2_firstRedex 29 = .ok (.goto (-27), 3) := by decide +kernel
theorem dX2_firstRedex_32 : decode cX2_firstRedex 32 = .ok (.iconst (-1), 1) := by decide +kernel
theorem dX2_firstRedex_33 : decode cX2_firstRedex 33 = .ok (.ireturn, 1) := by decide +kernel
set_option maxRecDepth 20000 in
theorem ggX2_behindTerm_X3_size : GoodIn wsX2_behindTerm wsX3_size := goodIn_r _ [6, 7, 19, 20, 21] (by decide +kernel) (by decide +kernel)
set_option maxRecDepth 20000 in
theorem gX2_behindTerm_X3_size : GoodIn wsX2_behindTerm (wsV RX2 61 RX3 yX3_size wsX3_size) := goodIn_app (goodIn_of _ (by decide +kernel)) ggX2_behindTerm_X3_size
set_option maxRecDepth 20000 in
theorem ggX2_behindTerm_X3_get : GoodIn wsX2_behindTerm wsX3_get := goodIn_r _ [11, 7, 12, 19, 20, 21] (by decide +kernel) (by decide +kernel)
set_option maxRecDepth 20000 in
theorem gX2_behindTerm_X3_get : GoodIn wsX2_behindTerm (wsV RX2 68 RX3 yX3_get wsX3_get) := goodIn_app (goodIn_of _ (by decide +kernel)) ggX2_behindTerm_X3_get
theorem dX2_behindTerm_0 : decode cX2_behindTerm 0 = .ok (.iconst 1, 1) := by decide +kernel
theorem dX2_behindTerm_1 : decode cX2_behindTerm 1 = .ok (.istore_n 2, 1) := by decide +kernel
theorem dX2_behindTerm_2 : decode cX2_behindTerm 2 = .ok (.iload_n 1, 1) := by decide +kernel
theorem dX2_behindTerm_3 : decode cX2_behindTerm 3 = .ok (.istore_n 3, 1) := by decide +kernel
theorem dX2_behindTerm_4 : decode cX2_behindTerm 4 = .ok (.iload_n 2, 1) := by decide +kernel
theorem dX2_behindTerm_5 : decode cX2_behindTerm 5 = .ok (.ifCond .le 53, 3) := by decide +kernel
theorem dX2_behindTerm_8 : decode cX2_behindTerm 8 = .ok (.iload_n 3, 1) := by decide +kernel
theorem dX2_behindTerm_9 : decode cX2_behindTerm 9 = .ok (.aload_n 0, 1) := by decide +kernel
theorem dX2_behindTerm_10 : decode cX2_behindTerm 10 = .ok (.getfield 23, 3) := by decide +kernel
theorem dX2_behindTerm_13 : decode cX2_behindTerm 13 = .ok (.invokevirtual 61, 3) := by decide +kernel
theorem dX2_behindTerm_16 : decode cX2_behindTerm 16 = .ok (.if_icmp .ge 42, 3) := by decide +kernel
theorem dX2_behindTerm_19 : decode cX2_behindTerm 19 = .ok (.aload_n 0, 1) := by decide +kernel
theorem dX2_behindTerm_20 : decode cX2_behindTerm 20 = .ok (.getfield 23, 3) := by decide +kernel
theorem dX2_behindTerm_23 : decode cX2_behindTerm 23 = .ok (.iload_n 3, 1) := by decide +kernel
theorem dX2_behindTerm_24 : decode cX2_behindTerm 24 = .ok (.invokevirtual 68, 3) := by decide +kernel
theorem dX2_behindTerm_27 : decode cX2_behindTerm 27 = .ok (.istore 4, 2) := by decide +kernel
theorem dX2_behindTerm_29 : decode cX2_behindTerm 29 = .ok (.iload_n 2, 1) := by decide +kernel
theorem dX2_behindTerm_30 : decode cX2_behindTerm 30 = .ok (.iload 4, 2) := by decide +kernel
theorem dX2_behindTerm_32 : decode cX2_behindTerm 32 = .ok (.ifCond .ne 7, 3) := by decide +kernel
theorem dX2_behindTerm_35 : decode cX2_behindTerm 35 = .ok (.iconst 1, 1) := by decide +kernel
theorem dX2_behindTerm_36 : decode cX2_behindTerm 36 = .ok (.goto 14, 3) := by decide +kernel
theorem dX2_behindTerm_39 : decode cX2_behindTerm 39 = .ok (.iload 4, 2) := by decide +kernel
theorem dX2_behindTerm_41 : decode cX2_behindTerm 41 = .ok (.iconst 1, 1) := by decide +kernel
theorem dX2_behindTerm_42 : decode cX2_behindTerm 42 = .ok (.if_icmp .ne 7, 3) := by decide +kernel
theorem dX2_behindTerm_45 : decode cX2_behindTerm 45 = .ok (.iconst 0, 1) := by decide +kernel
theorem dX2_behindTerm_46 : decode cX2_behindTerm 46 = .ok (.goto 4, 3) := by decide +kernel
theorem dX2_behindTerm_49 : decode cX2_behindTerm 49 = .ok (.iconst (-1), 1) := by decide +kernel
theorem dX2_behindTerm_50 : decode cX2_behindTerm 50 = .ok (.iadd, 1) := by decide +kernel
theorem dX2_behindTerm_51 : decode cX2_behindTerm 51 = .ok (.istore_n 2, 1) := by decide +kernel
theorem dX2_behindTerm_52 : decode cX2_behindTerm 52 = .ok (.iinc 3 1, 3) := by decide +kernel
theorem dX2_behindTerm_55 : decode cX2_behindTerm 55 = .ok (.goto (-51), 3) := by decide +kernel
theorem dX2_behindTerm_58 : decode cX2_behindTerm 58 = .ok (.iload_n 3, 1) := by decide +kernel
theorem dX2_behindTerm_59 : decode cX2_behindTerm 59 = .ok (.ireturn, 1) := by decide +kernel
set_option maxRecDepth 20000 in
theorem ggX2_keep_X3_get : GoodIn wsX2_keep wsX3_get := goodIn_r _ [7, 8, 9, 41, 42, 43] (by decide +kernel) (by decide +kernel)
set_option maxRecDepth 20000 in
theorem gX2_keep_X3_get : GoodIn wsX2_keep (wsV RX2 68 RX3 yX3_get wsX3_get) := goodIn_app (goodIn_of _ (by decide +kernel)) ggX2_keep_X3_get
set_option maxRecDepth 20000 in
theorem ggX2_keep_X3_add : GoodIn wsX2_keep wsX3_add := goodIn_r _ [13, 8, 14, 9, 15, 16, 17, 18, 19, 20, 21, 22, 23, 24, 25, 26, 27, 28, 29, 30, 31, 32, 33, 34, 41, 42, 43] (by decide +kernel) (by decide +kernel)
set_option maxRecDepth 20000 in
theorem gX2_keep_X3_add : GoodIn wsX2_keep (wsV RX2 71 RX3 yX3_add wsX3_add) := goodIn_app (goodIn_of _ (by decide +kernel)) ggX2_keep_X3_add
theorem dX2_keep_0 : decode cX2_keep 0 = .ok (.iload_n 1, 1) := by decide +kernel
theorem dX2_keep_1 : decode cX2_keep 1 = .ok (.istore_n 3, 1) := by decide +kernel
theorem dX2_keep_2 : decode cX2_keep 2 = .ok (.iload_n 3, 1) := by decide +kernel
theorem dX2_keep_3 : decode cX2_keep 3 = .ok (.iload_n 2, 1) := by decide +kernel
theorem dX2_keep_4 : decode cX2_keep 4 = .ok (.if_icmp .ge 29, 3) := by decide +kernel
theorem dX2_keep_7 : decode cX2_keep 7 = .ok (.aload_n 0, 1) := by decide +kernel
theorem dX2_keep_8 : decode cX2_keep 8 = .ok (.getfield 26, 3) := by decide +kernel
theorem dX2_keep_11 : decode cX2_keep 11 = .ok (.aload_n 0, 1) := by decide +kernel
theorem dX2_keep_12 : decode cX2_keep 12 = .ok (.getfield 23, 3) := by decide +kernel
theorem dX2_keep_15 : decode cX2_keep 15 = .ok (.iload_n 3, 1) := by decide +kernel
theorem dX2_keep_16 : decode cX2_keep 16 = .ok (.invokevirtual 68, 3) := by decide +kernel
theorem dX2_keep_19 : decode cX2_keep 19 = .ok (.invokevirtual 71, 3) := by decide +kernel
theorem dX2_keep_22 : decode cX2_keep 22 = .ok (.ifCond .ne 5, 3) := by decide +kernel
theorem dX2_keep_25 : decode cX2_keep 25 = .ok (.iconst 0, 1) := by decide +kernel
theorem dX2_keep_26 : decode cX2_keep 26 = .ok (.ireturn, 1) := by decide +kernel
theorem dX2_keep_27 : decode cX2_keep 27 = .ok (.iinc 3 1, 3) := by decide +kernel
theorem dX2_keep_30 : decode cX2_keep 30 = .ok (.goto (-28), 3) := by decide +kernel
theorem dX2_keep_33 : decode cX2_keep 33 = .ok (.iconst 1, 1) := by decide +kernel
theorem dX2_keep_34 : decode cX2_keep 34 = .ok (.ireturn, 1) := by decide +kernel
set_option maxRecDepth 20000 in
theorem ggX2_putIn_X3_cut : GoodIn wsX2_putIn wsX3_cut := goodIn_r _ [8, 9, 59, 60, 61] (by decide +kernel) (by decide +kernel)
set_option maxRecDepth 20000 in
theorem gX2_putIn_X3_cut : GoodIn wsX2_putIn (wsV RX2 49 RX3 yX3_cut wsX3_cut) := goodIn_app (goodIn_of _ (by decide +kernel)) ggX2_putIn_X3_cut
set_option maxRecDepth 20000 in
theorem ggX2_putIn_X3_get : GoodIn wsX2_putIn wsX3_get := goodIn_r _ [13, 9, 14, 59, 60, 61] (by decide +kernel) (by decide +kernel)
set_option maxRecDepth 20000 in
theorem gX2_putIn_X3_get : GoodIn wsX2_putIn (wsV RX2 68 RX3 yX3_get wsX3_get) := goodIn_app (goodIn_of _ (by decide +kernel)) ggX2_putIn_X3_get
set_option maxRecDepth 20000 in
theorem ggX2_putIn_X3_add : GoodIn wsX2_putIn wsX3_add := goodIn_r _ [18, 9, 19, 14, 20, 21, 22, 23, 24, 25, 26, 27, 28, 29, 30, 31, 32, 33, 34, 35, 36, 37, 38, 39, 59, 60, 61] (by decide +kernel) (by decide +kernel)
set_option maxRecDepth 20000 in
theorem gX2_putIn_X3_add : GoodIn wsX2_putIn (wsV RX2 71 RX3 yX3_add wsX3_add) := goodIn_app (goodIn_of _ (by decide +kernel)) ggX2_putIn_X3_add
set_option maxRecDepth 20000 in
theorem ggX2_putIn_X2_putArgument : GoodIn wsX2_putIn wsX2_putArgument := goodIn_r _ [44, 45, 2, 3, 4, 5, 6, 7, 8, 9, 10, 11, 12, 13, 14, 15, 16, 17, 18, 19, 20, 21, 22, 23, 24, 25, 26, 27, 28, 29, 30, 31, 32, 33, 34, 35, 36, 37, 38, 39, 46, 47, 43, 48, 49, 50, 51, 52, 53, 54, 55, 56, 57, 58, 59, 60, 61] (by decide +kernel) (by decide +kernel)
set_option maxRecDepth 20000 in
theorem gX2_putIn_X2_putArgument : GoodIn wsX2_putIn (wsV RX2 75 RX2 yX2_putArgument wsX2_putArgument) := goodIn_app (goodIn_of _ (by decide +kernel)) ggX2_putIn_X2_putArgument
set_option maxRecDepth 20000 in
theorem ggX2_putIn_X2_depthBehind : GoodIn wsX2_putIn wsX2_depthBehind := goodIn_r _ [48, 15, 16, 17, 7, 18, 9, 19, 14, 20, 21, 22, 23, 24, 25, 26, 27, 28, 29, 30, 31, 32, 33, 34, 35, 36, 37, 38, 39, 49, 50, 51, 52, 59, 60, 61] (by decide +kernel) (by decide +kernel)
set_option maxRecDepth 20000 in
theorem gX2_putIn_X2_depthBehind : GoodIn wsX2_putIn (va_wsS RX2 78 yX2_depthBehind wsX2_depthBehind) := goodIn_app (goodIn_of _ (by decide +kernel)) ggX2_putIn_X2_depthBehind
theorem dX2_putIn_0 : decode cX2_putIn 0 = .ok (.aload_n 0, 1) := by decide +kernel
theorem dX2_putIn_1 : decode cX2_putIn 1 = .ok (.getfield 14, 3) := by decide +kernel
theorem dX2_putIn_4 : decode cX2_putIn 4 = .ok (.iconst 0, 1) := by decide +kernel
theorem dX2_putIn_5 : decode cX2_putIn 5 = .ok (.invokevirtual 49, 3) := by decide +kernel
theorem dX2_putIn_8 : decode cX2_putIn 8 = .ok (.iconst 0, 1) := by decide +kernel
theorem dX2_putIn_9 : decode cX2_putIn 9 = .ok (.istore 4, 2) := by decide +kernel
theorem dX2_putIn_11 : decode cX2_putIn 11 = .ok (.iload_n 1, 1) := by decide +kernel
theorem dX2_putIn_12 : decode cX2_putIn 12 = .ok (.istore 5, 2) := by decide +kernel
theorem dX2_putIn_14 : decode cX2_putIn 14 = .ok (.iload 5, 2) := by decide +kernel
theorem dX2_putIn_16 : decode cX2_putIn 16 = .ok (.iload_n 2, 1) := by decide +kernel
theorem dX2_putIn_17 : decode cX2_putIn 17 = .ok (.if_icmp .ge 109, 3) := by decide +kernel
theorem dX2_putIn_20 : decode cX2_putIn 20 = .ok (.aload_n 0, 1) := by decide +kernel
theorem dX2_putIn_21 : decode cX2_putIn 21 = .ok (.getfield 23, 3) := by decide +kernel
theorem dX2_putIn_24 : decode cX2_putIn 24 = .ok (.iload 5, 2) := by decide +kernel
theorem dX2_putIn_26 : decode cX2_putIn 26 = .ok (.invokevirtual 68, 3) := by decide +kernel
theorem dX2_putIn_29 : decode cX2_putIn 29 = .ok (.istore 6, 2) := by decide +kernel
theorem dX2_putIn_31 : decode cX2_putIn 31 = .ok (.iload 6, 2) := by decide +kernel
theorem dX2_putIn_33 : decode cX2_putIn 33 = .ok (.iconst 2, 1) := by decide +kernel
theorem dX2_putIn_34 : decode cX2_putIn 34 = .ok (.if_icmp .ge 17, 3) := by decide +kernel
theorem dX2_putIn_37 : decode cX2_putIn 37 = .ok (.aload_n 0, 1) := by decide +kernel
theorem dX2_putIn_38 : decode cX2_putIn 38 = .ok (.getfield 26, 3) := by decide +kernel
theorem dX2_putIn_41 : decode cX2_putIn 41 = .ok (.iload 6, 2) := by decide +kernel
theorem dX2_putIn_43 : decode cX2_putIn 43 = .ok (.invokevirtual 71, 3) := by decide +kernel
theorem dX2_putIn_46 : decode cX2_putIn 46 = .ok (.istore 7, 2) := by decide +kernel
theorem dX2_putIn_48 : decode cX2_putIn 48 = .ok (.goto 52, 3) := by decide +kernel
theorem dX2_putIn_51 : decode cX2_putIn 51 = .ok (.iload 6, 2) := by decide +kernel
theorem dX2_putIn_53 : decode cX2_putIn 53 = .ok (.iconst 2, 1) := by decide +kernel
theorem dX2_putIn_54 : decode cX2_putIn 54 = .ok (.iload 4, 2) := by decide +kernel
theorem dX2_putIn_56 : decode cX2_putIn 56 = .ok (.iadd, 1) := by decide +kernel
theorem dX2_putIn_57 : decode cX2_putIn 57 = .ok (.if_icmp .ne 16, 3) := by decide +kernel
theorem dX2_putIn_60 : decode cX2_putIn 60 = .ok (.aload_n 0, 1) := by decide +kernel
theorem dX2_putIn_61 : decode cX2_putIn 61 = .ok (.iload_n 2, 1) := by decide +kernel
theorem dX2_putIn_62 : decode cX2_putIn 62 = .ok (.iload_n 3, 1) := by decide +kernel
theorem dX2_putIn_63 : decode cX2_putIn 63 = .ok (.iload 4, 2) := by decide +kernel
theorem dX2_putIn_65 : decode cX2_putIn 65 = .ok (.invokevirtual 75, 3) := by decide +kernel
theorem dX2_putIn_68 : decode cX2_putIn 68 = .ok (.istore 7, 2) := by decide +kernel
theorem dX2_putIn_70 : decode cX2_putIn 70 = .ok (.goto 30, 3) := by decide +kernel
theorem dX2_putIn_73 : decode cX2_putIn 73 = .ok (.aload_n 0, 1) := by decide +kernel
theorem dX2_putIn_74 : decode cX2_putIn 74 = .ok (.getfield 26, 3) := by decide +kernel
theorem dX2_putIn_77 : decode cX2_putIn 77 = .ok (.iload 6, 2) := by decide +kernel
theorem dX2_putIn_79 : decode cX2_putIn 79 = .ok (.iconst 2, 1) := by decide +kernel
theorem dX2_putIn_80 : decode cX2_putIn 80 = .ok (.iload 4, 2) := by decide +kernel
theorem dX2_putIn_82 : decode cX2_putIn 82 = .ok (.iadd, 1) := by decide +kernel
theorem dX2_putIn_83 : decode cX2_putIn 83 = .ok (.if_icmp .ge 8, 3) := by decide +kernel
theorem dX2_putIn_86 : decode cX2_putIn 86 = .ok (.iload 6, 2) := by decide +kernel
theorem dX2_putIn_88 : decode cX2_putIn 88 = .ok (.goto 7, 3) := by decide +kernel
theorem dX2_putIn_91 : decode cX2_putIn 91 = .ok (.iload 6, 2) := by decide +kernel
theorem dX2_putIn_93 : decode cX2_putIn 93 = .ok (.iconst 1, 1) := by decide +kernel
theorem dX2_putIn_94 : decode cX2_putIn 94 = .ok (.isub, 1) := by decide +kernel
theorem dX2_putIn_95 : decode cX2_putIn 95 = .ok (.invokevirtual 71, 3) := by decide +kernel
theorem dX2_putIn_98 : decode cX2_putIn 98 = .ok (.istore 7, 2) := by decide +kernel
theorem dX2_putIn_100 : decode cX2_putIn 100 = .ok (.iload 7, 2) := by decide +kernel
theorem dX2_putIn_102 : decode cX2_putIn 102 = .ok (.ifCond .ne 5, 3) := by decide +kernel
theorem dX2_putIn_105 : decode cX2_putIn 105 = .ok (.iconst 0, 1) := by decide +kernel
theorem dX2_putIn_106 : decode cX2_putIn 106 = .ok (.ireturn, 1) := by decide +kernel
theorem dX2_putIn_107 : decode cX2_putIn 107 = .ok (.iload 6, 2) := by decide +kernel
theorem dX2_putIn_109 : decode cX2_putIn 109 = .ok (.iload 4, 2) := by decide +kernel
theorem dX2_putIn_111 : decode cX2_putIn 111 = .ok (.aload_n 0, 1) := by decide +kernel
theorem dX2_putIn_112 : decode cX2_putIn 112 = .ok (.getfield 14, 3) := by decide +kernel
theorem dX2_putIn_115 : decode cX2_putIn 115 = .ok (.invokestatic 78, 3) := by decide +kernel
theorem dX2_putIn_118 : decode cX2_putIn 118 = .ok (.istore 4, 2) := by decide +kernel
theorem dX2_putIn_120 : decode cX2_putIn 120 = .ok (.iinc 5 1, 3) := by decide +kernel
theorem dX2_putIn_123 : decode cX2_putIn 123 = .ok (.goto (-109), 3) := by decide +kernel
theorem dX2_putIn_126 : decode cX2_putIn 126 = .ok (.iconst 1, 1) := by decide +kernel
theorem dX2_putIn_127 : decode cX2_putIn 127 = .ok (.ireturn, 1) := by decide +kernel
set_option maxRecDepth 20000 in
theorem ggX2_putArgument_X3_cut : GoodIn wsX2_putArgument wsX3_cut := goodIn_r _ [8, 9, 54, 55, 56] (by decide +kernel) (by decide +kernel)
set_option maxRecDepth 20000 in
theorem gX2_putArgument_X3_cut : GoodIn wsX2_putArgument (wsV RX2 49 RX3 yX3_cut wsX3_cut) := goodIn_app (goodIn_of _ (by decide +kernel)) ggX2_putArgument_X3_cut
set_option maxRecDepth 20000 in
theorem ggX2_putArgument_X3_get : GoodIn wsX2_putArgument wsX3_get := goodIn_r _ [13, 9, 14, 54, 55, 56] (by decide +kernel) (by decide +kernel)
set_option maxRecDepth 20000 in
theorem gX2_putArgument_X3_get : GoodIn wsX2_putArgument (wsV RX2 68 RX3 yX3_get wsX3_get) := goodIn_app (goodIn_of _ (by decide +kernel)) ggX2_putArgument_X3_get
set_option maxRecDepth 20000 in
theorem ggX2_putArgument_X3_add : GoodIn wsX2_putArgument wsX3_add := goodIn_r _ [18, 9, 19, 14, 20, 21, 22, 23, 24, 25, 26, 27, 28, 29, 30, 31, 32, 33, 34, 35, 36, 37, 38, 39, 54, 55, 56] (by decide +kernel) (by decide +kernel)
set_option maxRecDepth 20000 in
theorem gX2_putArgument_X3_add : GoodIn wsX2_putArgument (wsV RX2 71 RX3 yX3_add wsX3_add) := goodIn_app (goodIn_of _ (by decide +kernel)) ggX2_putArgument_X3_add
set_option maxRecDepth 20000 in
theorem ggX2_putArgument_X2_depthBehind : GoodIn wsX2_putArgument wsX2_depthBehind := goodIn_r _ [43, 15, 16, 17, 7, 18, 9, 19, 14, 20, 21, 22, 23, 24, 25, 26, 27, 28, 29, 30, 31, 32, 33, 34, 35, 36, 37, 38, 39, 44, 45, 46, 47, 54, 55, 56] (by decide +kernel) (by decide +kernel)
set_option maxRecDepth 20000 in
theorem gX2_putArgument_X2_depthBehind : GoodIn wsX2_putArgument (va_wsS RX2 78 yX2_depthBehind wsX2_depthBehind) := goodIn_app (goodIn_of _ (by decide +kernel)) ggX2_putArgument_X2_depthBehind
theorem dX2_putArgument_0 : decode cX2_putArgument 0 = .ok (.aload_n 0, 1) := by decide +kernel
theorem dX2_putArgument_1 : decode cX2_putArgument 1 = .ok (.getfield 20, 3) := by decide +kernel
theorem dX2_putArgument_4 : decode cX2_putArgument 4 = .ok (.iconst 0, 1) := by decide +kernel
theorem dX2_putArgument_5 : decode cX2_putArgument 5 = .ok (.invokevirtual 49, 3) := by decide +kernel
theorem dX2_putArgument_8 : decode cX2_putArgument 8 = .ok (.iconst 0, 1) := by decide +kernel
theorem dX2_putArgument_9 : decode cX2_putArgument 9 = .ok (.istore 4, 2) := by decide +kernel
theorem dX2_putArgument_11 : decode cX2_putArgument 11 = .ok (.iload_n 1, 1) := by decide +kernel
theorem dX2_putArgument_12 : decode cX2_putArgument 12 = .ok (.istore 5, 2) := by decide +kernel
theorem dX2_putArgument_14 : decode cX2_putArgument 14 = .ok (.iload 5, 2) := by decide +kernel
theorem dX2_putArgument_16 : decode cX2_putArgument 16 = .ok (.iload_n 2, 1) := by decide +kernel
theorem dX2_putArgument_17 : decode cX2_putArgument 17 = .ok (.if_icmp .ge 63, 3) := by decide +kernel
theorem dX2_putArgument_20 : decode cX2_putArgument 20 = .ok (.aload_n 0, 1) := by decide +kernel
theorem dX2_putArgument_21 : decode cX2_putArgument 21 = .ok (.getfield 23, 3) := by decide +kernel
theorem dX2_putArgument_24 : decode cX2_putArgument 24 = .ok (.iload 5, 2) := by decide +kernel
theorem dX2_putArgument_26 : decode cX2_putArgument 26 = .ok (.invokevirtual 68, 3) := by decide +kernel
theorem dX2_putArgument_29 : decode cX2_putArgument 29 = .ok (.istore 6, 2) := by decide +kernel
theorem dX2_putArgument_31 : decode cX2_putArgument 31 = .ok (.aload_n 0, 1) := by decide +kernel
theorem dX2_putArgument_32 : decode cX2_putArgument 32 = .ok (.getfield 26, 3) := by decide +kernel
theorem dX2_putArgument_35 : decode cX2_putArgument 35 = .ok (.iload 6, 2) := by decide +kernel
theorem dX2_putArgument_37 : decode cX2_putArgument 37 = .ok (.iconst 2, 1) := by decide +kernel
theorem dX2_putArgument_38 : decode cX2_putArgument 38 = .ok (.iload 4, 2) := by decide +kernel
theorem dX2_putArgument_40 : decode cX2_putArgument 40 = .ok (.iadd, 1) := by decide +kernel
theorem dX2_putArgument_41 : decode cX2_putArgument 41 = .ok (.if_icmp .ge 8, 3) := by decide +kernel
theorem dX2_putArgument_44 : decode cX2_putArgument 44 = .ok (.iload 6, 2) := by decide +kernel
theorem dX2_putArgument_46 : decode cX2_putArgument 46 = .ok (.goto 7, 3) := by decide +kernel
theorem dX2_putArgument_49 : decode cX2_putArgument 49 = .ok (.iload 6, 2) := by decide +kernel
theorem dX2_putArgument_51 : decode cX2_putArgument 51 = .ok (.iload_n 3, 1) := by decide +kernel
theorem dX2_putArgument_52 : decode cX2_putArgument 52 = .ok (.iadd, 1) := by decide +kernel
theorem dX2_putArgument_53 : decode cX2_putArgument 53 = .ok (.invokevirtual 71, 3) := by decide +kernel
theorem dX2_putArgument_56 : decode cX2_putArgument 56 = .ok (.ifCond .ne 5, 3) := by decide +kernel
theorem dX2_putArgument_59 : decode cX2_putArgument 59 = .ok (.iconst 0, 1) := by decide +kernel
theorem dX2_putArgument_60 : decode cX2_putArgument 60 = .ok (.ireturn, 1) := by decide +kernel
theorem dX2_putArgument_61 : decode cX2_putArgument 61 = .ok (.iload 6, 2) := by decide +kernel
theorem dX2_putArgument_63 : decode cX2_putArgument 63 = .ok (.iload 4, 2) := by decide +kernel
theorem dX2_putArgument_65 : decode cX2_putArgument 65 = .ok (.aload_n 0, 1) := by decide +kernel
theorem dX2_putArgument_66 : decode cX2_putArgument 66 = .ok (.getfield 20, 3) := by decide +kernel
theorem dX2_putArgument_69 : decode cX2_putArgument 69 = .ok (.invokestatic 78, 3) := by decide +kernel
theorem dX2_putArgument_72 : decode cX2_putArgument 72 = .ok (.istore 4, 2) := by decide +kernel
theorem dX2_putArgument_74 : decode cX2_putArgument 74 = .ok (.iinc 5 1, 3) := by decide +kernel
theorem dX2_putArgument_77 : decode cX2_putArgument 77 = .ok (.goto (-63), 3) := by decide +kernel
theorem dX2_putArgument_80 : decode cX2_putArgument 80 = .ok (.iconst 1, 1) := by decide +kernel
theorem dX2_putArgument_81 : decode cX2_putArgument 81 = .ok (.ireturn, 1) := by decide +kernel
set_option maxRecDepth 20000 in
theorem ggX2_depthBehind_X3_add : GoodIn wsX2_depthBehind wsX3_add := goodIn_r _ [5, 6, 7, 8, 9, 10, 11, 12, 13, 14, 15, 16, 17, 18, 19, 20, 21, 22, 23, 24, 25, 26, 27, 28, 33, 34, 35] (by decide +kernel) (by decide +kernel)
set_option maxRecDepth 20000 in
theorem gX2_depthBehind_X3_add : GoodIn wsX2_depthBehind (wsV RX2 71 RX3 yX3_add wsX3_add) := goodIn_app (goodIn_of _ (by decide +kernel)) ggX2_depthBehind_X3_add
set_option maxRecDepth 20000 in
theorem ggX2_depthBehind_X3_takeLast : GoodIn wsX2_depthBehind wsX3_takeLast := goodIn_r _ [32, 6, 8, 33, 34, 35] (by decide +kernel) (by decide +kernel)
set_option maxRecDepth 20000 in
theorem gX2_depthBehind_X3_takeLast : GoodIn wsX2_depthBehind (wsV RX2 82 RX3 yX3_takeLast wsX3_takeLast) := goodIn_app (goodIn_of _ (by decide +kernel)) ggX2_depthBehind_X3_takeLast
theorem dX2_depthBehind_0 : decode cX2_depthBehind 0 = .ok (.iload_n 0, 1) := by decide +kernel
theorem dX2_depthBehind_1 : decode cX2_depthBehind 1 = .ok (.ifCond .ne 11, 3) := by decide +kernel
theorem dX2_depthBehind_4 : decode cX2_depthBehind 4 = .ok (.aload_n 2, 1) := by decide +kernel
theorem dX2_depthBehind_5 : decode cX2_depthBehind 5 = .ok (.iload_n 1, 1) := by decide +kernel
theorem dX2_depthBehind_6 : decode cX2_depthBehind 6 = .ok (.invokevirtual 71, 3) := by decide +kernel
theorem dX2_depthBehind_9 : decode cX2_depthBehind 9 = .ok (.pop, 1) := by decide +kernel
theorem dX2_depthBehind_10 : decode cX2_depthBehind 10 = .ok (.iload_n 1, 1) := by decide +kernel
theorem dX2_depthBehind_11 : decode cX2_depthBehind 11 = .ok (.ireturn, 1) := by decide +kernel
theorem dX2_depthBehind_12 : decode cX2_depthBehind 12 = .ok (.iload_n 0, 1) := by decide +kernel
theorem dX2_depthBehind_13 : decode cX2_depthBehind 13 = .ok (.iconst 1, 1) := by decide +kernel
theorem dX2_depthBehind_14 : decode cX2_depthBehind 14 = .ok (.if_icmp .ne 9, 3) := by decide +kernel
theorem dX2_depthBehind_17 : decode cX2_depthBehind 17 = .ok (.iload_n 1, 1) := by decide +kernel
theorem dX2_depthBehind_18 : decode cX2_depthBehind 18 = .ok (.iconst 1, 1) := by decide +kernel
theorem dX2_depthBehind_19 : decode cX2_depthBehind 19 = .ok (.iadd, 1) := by decide +kernel
theorem dX2_depthBehind_20 : decode cX2_depthBehind 20 = .ok (.goto 7, 3) := by decide +kernel
theorem dX2_depthBehind_23 : decode cX2_depthBehind 23 = .ok (.aload_n 2, 1) := by decide +kernel
theorem dX2_depthBehind_24 : decode cX2_depthBehind 24 = .ok (.invokevirtual 82, 3) := by decide +kernel
theorem dX2_depthBehind_27 : decode cX2_depthBehind 27 = .ok (.ireturn, 1) := by decide +kernel
theorem dX3_init_0 : decode cX3_init 0 = .ok (.aload_n 0, 1) := by decide +kernel
theorem dX3_init_1 : decode cX3_init 1 = .ok (.invokespecial 1, 3) := by decide +kernel
theorem dX3_init_4 : decode cX3_init 4 = .ok (.aload_n 0, 1) := by decide +kernel
theorem dX3_init_5 : decode cX3_init 5 = .ok (.iload_n 2, 1) := by decide +kernel
theorem dX3_init_6 : decode cX3_init 6 = .ok (.putfield 7, 3) := by decide +kernel
theorem dX3_init_9 : decode cX3_init 9 = .ok (.aload_n 0, 1) := by decide +kernel
theorem dX3_init_10 : decode cX3_init 10 = .ok (.iconst 1, 1) := by decide +kernel
theorem dX3_init_11 : decode cX3_init 11 = .ok (.iload_n 1, 1) := by decide +kernel
theorem dX3_init_12 : decode cX3_init 12 = .ok (.iload_n 2, 1) := by decide +kernel
theorem dX3_init_13 : decode cX3_init 13 = .ok (.invokestatic 13, 3) := by decide +kernel
theorem dX3_init_16 : decode cX3_init 16 = .ok (.invokestatic 19, 3) := by decide +kernel
theorem dX3_init_19 : decode cX3_init 19 = .ok (.newarray .int, 2) := by decide +kernel
theorem dX3_init_21 : decode cX3_init 21 = .ok (.putfield 22, 3) := by decide +kernel
theorem dX3_init_24 : decode cX3_init 24 = .ok (.aload_n 0, 1) := by decide +kernel
theorem dX3_init_25 : decode cX3_init 25 = .ok (.iconst 0, 1) := by decide +kernel
theorem dX3_init_26 : decode cX3_init 26 = .ok (.putfield 26, 3) := by decide +kernel
theorem dX3_init_29 : decode cX3_init 29 = .ok (.return_, 1) := by decide +kernel
theorem dX3_size_0 : decode cX3_size 0 = .ok (.aload_n 0, 1) := by decide +kernel
theorem dX3_size_1 : decode cX3_size 1 = .ok (.getfield 26, 3) := by decide +kernel
theorem dX3_size_4 : decode cX3_size 4 = .ok (.ireturn, 1) := by decide +kernel
theorem dX3_get_0 : decode cX3_get 0 = .ok (.iload_n 1, 1) := by decide +kernel
theorem dX3_get_1 : decode cX3_get 1 = .ok (.ifCond .lt 20, 3) := by decide +kernel
theorem dX3_get_4 : decode cX3_get 4 = .ok (.iload_n 1, 1) := by decide +kernel
theorem dX3_get_5 : decode cX3_get 5 = .ok (.aload_n 0, 1) := by decide +kernel
theorem dX3_get_6 : decode cX3_get 6 = .ok (.getfield 26, 3) := by decide +kernel
theorem dX3_get_9 : decode cX3_get 9 = .ok (.if_icmp .ge 12, 3) := by decide +kernel
theorem dX3_get_12 : decode cX3_get 12 = .ok (.aload_n 0, 1) := by decide +kernel
theorem dX3_get_13 : decode cX3_get 13 = .ok (.getfield 22, 3) := by decide +kernel
theorem dX3_get_16 : decode cX3_get 16 = .ok (.iload_n 1, 1) := by decide +kernel
theorem dX3_get_17 : decode cX3_get 17 = .ok (.iaload, 1) := by decide +kernel
theorem dX3_get_18 : decode cX3_get 18 = .ok (.goto 4, 3) := by decide +kernel
theorem dX3_get_21 : decode cX3_get 21 = .ok (.iconst 0, 1) := by decide +kernel
theorem dX3_get_22 : decode cX3_get 22 = .ok (.ireturn, 1) := by decide +kernel
theorem dX3_set_0 : decode cX3_set 0 = .ok (.iload_n 1, 1) := by decide +kernel
theorem dX3_set_1 : decode cX3_set 1 = .ok (.ifCond .lt 18, 3) := by decide +kernel
theorem dX3_set_4 : decode cX3_set 4 = .ok (.iload_n 1, 1) := by decide +kernel
theorem dX3_set_5 : decode cX3_set 5 = .ok (.aload_n 0, 1) := by decide +kernel
theorem dX3_set_6 : decode cX3_set 6 = .ok (.getfield 26, 3) := by decide +kernel
theorem dX3_set_9 : decode cX3_set 9 = .ok (.if_icmp .ge 10, 3) := by decide +kernel
theorem dX3_set_12 : decode cX3_set 12 = .ok (.aload_n 0, 1) := by decide +kernel
theorem dX3_set_13 : decode cX3_set 13 = .ok (.getfield 22, 3) := by decide +kernel
theorem dX3_set_16 : decode cX3_set 16 = .ok (.iload_n 1, 1) := by decide +kernel
theorem dX3_set_17 : decode cX3_set 17 = .ok (.iload_n 2, 1) := by decide +kernel
theorem dX3_set_18 : decode cX3_set 18 = .ok (.iastore, 1) := by decide +kernel
theorem dX3_set_19 : decode cX3_set 19 = .ok (.return_, 1) := by decide +kernel
set_option maxRecDepth 20000 in
theorem ggX3_add_J7_copyOf_59c91 : GoodIn wsX3_add wsJ7_copyOf_59c91 := goodIn_r _ [11, 12, 13, 14, 15, 16, 17, 18, 19, 5, 6, 7, 20, 21, 22, 23] (by decide +kernel) (by decide +kernel)
set_option maxRecDepth 20000 in
theorem gX3_add_J7_copyOf_59c91 : GoodIn wsX3_add (va_wsS RX3 29 yJ7_copyOf_59c91 wsJ7_copyOf_59c91) := goodIn_app (goodIn_of _ (by decide +kernel)) ggX3_add_J7_copyOf_59c91
theorem dX3_add_0 : decode cX3_add 0 = .ok (.aload_n 0, 1) := by decide +kernel
theorem dX3_add_1 : decode cX3_add 1 = .ok (.getfield 26, 3) := by decide +kernel
theorem dX3_add_4 : decode cX3_add 4 = .ok (.aload_n 0, 1) := by decide +kernel
theorem dX3_add_5 : decode cX3_add 5 = .ok (.getfield 7, 3) := by decide +kernel
theorem dX3_add_8 : decode cX3_add 8 = .ok (.if_icmp .lt 5, 3) := by decide +kernel
theorem dX3_add_11 : decode cX3_add 11 = .ok (.iconst 0, 1) := by decide +kernel
theorem dX3_add_12 : decode cX3_add 12 = .ok (.ireturn, 1) := by decide +kernel
theorem dX3_add_13 : decode cX3_add 13 = .ok (.aload_n 0, 1) := by decide +kernel
theorem dX3_add_14 : decode cX3_add 14 = .ok (.getfield 26, 3) := by decide +kernel
theorem dX3_add_17 : decode cX3_add 17 = .ok (.aload_n 0, 1) := by decide +kernel
theorem dX3_add_18 : decode cX3_add 18 = .ok (.getfield 22, 3) := by decide +kernel
theorem dX3_add_21 : decode cX3_add 21 = .ok (.arraylength, 1) := by decide +kernel
theorem dX3_add_22 : decode cX3_add 22 = .ok (.if_icmp .lt 28, 3) := by decide +kernel
theorem dX3_add_25 : decode cX3_add 25 = .ok (.aload_n 0, 1) := by decide +kernel
theorem dX3_add_26 : decode cX3_add 26 = .ok (.aload_n 0, 1) := by decide +kernel
theorem dX3_add_27 : decode cX3_add 27 = .ok (.getfield 22, 3) := by decide +kernel
theorem dX3_add_30 : decode cX3_add 30 = .ok (.aload_n 0, 1) := by decide +kernel
theorem dX3_add_31 : decode cX3_add 31 = .ok (.getfield 7, 3) := by decide +kernel
theorem dX3_add_34 : decode cX3_add 34 = .ok (.iconst 2, 1) := by decide +kernel
theorem dX3_add_35 : decode cX3_add 35 = .ok (.aload_n 0, 1) := by decide +kernel
theorem dX3_add_36 : decode cX3_add 36 = .ok (.getfield 22, 3) := by decide +kernel
theorem dX3_add_39 : decode cX3_add 39 = .ok (.arraylength, 1) := by decide +kernel
theorem dX3_add_40 : decode cX3_add 40 = .ok (.imul, 1) := by decide +kernel
theorem dX3_add_41 : decode cX3_add 41 = .ok (.invokestatic 13, 3) := by decide +kernel
theorem dX3_add_44 : decode cX3_add 44 = .ok (.invokestatic 29, 3) := by decide +kernel
theorem dX3_add_47 : decode cX3_add 47 = .ok (.putfield 22, 3) := by decide +kernel
theorem dX3_add_50 : decode cX3_add 50 = .ok (.aload_n 0, 1) := by decide +kernel
theorem dX3_add_51 : decode cX3_add 51 = .ok (.getfield 22, 3) := by decide +kernel
theorem dX3_add_54 : decode cX3_add 54 = .ok (.aload_n 0, 1) := by decide +kernel
theorem dX3_add_55 : decode cX3_add 55 = .ok (.getfield 26, 3) := by decide +kernel
theorem dX3_add_58 : decode cX3_add 58 = .ok (.iload_n 1, 1) := by decide +kernel
theorem dX3_add_59 : decode cX3_add 59 = .ok (.iastore, 1) := by decide +kernel
theorem dX3_add_60 : decode cX3_add 60 = .ok (.aload_n 0, 1) := by decide +kernel
theorem dX3_add_61 : decode cX3_add 61 = .ok (.dup, 1) := by decide +kernel
theorem dX3_add_62 : decode cX3_add 62 = .ok (.getfield 26, 3) := by decide +kernel
theorem dX3_add_65 : decode cX3_add 65 = .ok (.iconst 1, 1) := by decide +kernel
theorem dX3_add_66 : decode cX3_add 66 = .ok (.iadd, 1) := by decide +kernel
theorem dX3_add_67 : decode cX3_add 67 = .ok (.putfield 26, 3) := by decide +kernel
theorem dX3_add_70 : decode cX3_add 70 = .ok (.iconst 1, 1) := by decide +kernel
theorem dX3_add_71 : decode cX3_add 71 = .ok (.ireturn, 1) := by decide +kernel
set_option maxRecDepth 20000 in
theorem ggX3_insert_J7_copyOf_59c91 : GoodIn wsX3_insert wsJ7_copyOf_59c91 := goodIn_r _ [15, 16, 17, 18, 19, 20, 21, 22, 23, 5, 6, 7, 24, 9, 10, 11] (by decide +kernel) (by decide +kernel)
set_option maxRecDepth 20000 in
theorem gX3_insert_J7_copyOf_59c91 : GoodIn wsX3_insert (va_wsS RX3 29 yJ7_copyOf_59c91 wsJ7_copyOf_59c91) := goodIn_app (goodIn_of _ (by decide +kernel)) ggX3_insert_J7_copyOf_59c91
theorem dX3_insert_0 : decode cX3_insert 0 = .ok (.iload_n 1, 1) := by decide +kernel
theorem dX3_insert_1 : decode cX3_insert 1 = .ok (.ifCond .lt 22, 3) := by decide +kernel
theorem dX3_insert_4 : decode cX3_insert 4 = .ok (.iload_n 1, 1) := by decide +kernel
theorem dX3_insert_5 : decode cX3_insert 5 = .ok (.aload_n 0, 1) := by decide +kernel
theorem dX3_insert_6 : decode cX3_insert 6 = .ok (.getfield 26, 3) := by decide +kernel
theorem dX3_insert_9 : decode cX3_insert 9 = .ok (.if_icmp .gt 14, 3) := by decide +kernel
theorem dX3_insert_12 : decode cX3_insert 12 = .ok (.aload_n 0, 1) := by decide +kernel
theorem dX3_insert_13 : decode cX3_insert 13 = .ok (.getfield 26, 3) := by decide +kernel
theorem dX3_insert_16 : decode cX3_insert 16 = .ok (.aload_n 0, 1) := by decide +kernel
theorem dX3_insert_17 : decode cX3_insert 17 = .ok (.getfield 7, 3) := by decide +kernel
theorem dX3_insert_20 : decode cX3_insert 20 = .ok (.if_icmp .lt 4, 3) := by decide +kernel
theorem dX3_insert_23 : decode cX3_insert 23 = .ok (.return_, 1) := by decide +kernel
theorem dX3_insert_24 : decode cX3_insert 24 = .ok (.aload_n 0, 1) := by decide +kernel
theorem dX3_insert_25 : decode cX3_insert 25 = .ok (.getfield 26, 3) := by decide +kernel
theorem dX3_insert_28 : decode cX3_insert 28 = .ok (.aload_n 0, 1) := by decide +kernel
theorem dX3_insert_29 : decode cX3_insert 29 = .ok (.getfield 22, 3) := by decide +kernel
theorem dX3_insert_32 : decode cX3_insert 32 = .ok (.arraylength, 1) := by decide +kernel
theorem dX3_insert_33 : decode cX3_insert 33 = .ok (.if_icmp .lt 28, 3) := by decide +kernel
theorem dX3_insert_36 : decode cX3_insert 36 = .ok (.aload_n 0, 1) := by decide +kernel
theorem dX3_insert_37 : decode cX3_insert 37 = .ok (.aload_n 0, 1) := by decide +kernel
theorem dX3_insert_38 : decode cX3_insert 38 = .ok (.getfield 22, 3) := by decide +kernel
theorem dX3_insert_41 : decode cX3_insert 41 = .ok (.aload_n 0, 1) := by decide +kernel
theorem dX3_insert_42 : decode cX3_insert 42 = .ok (.getfield 7, 3) := by decide +kernel
theorem dX3_insert_45 : decode cX3_insert 45 = .ok (.iconst 2, 1) := by decide +kernel
theorem dX3_insert_46 : decode cX3_insert 46 = .ok (.aload_n 0, 1) := by decide +kernel
theorem dX3_insert_47 : decode cX3_insert 47 = .ok (.getfield 22, 3) := by decide +kernel
theorem dX3_insert_50 : decode cX3_insert 50 = .ok (.arraylength, 1) := by decide +kernel
theorem dX3_insert_51 : decode cX3_insert 51 = .ok (.imul, 1) := by decide +kernel
theorem dX3_insert_52 : decode cX3_insert 52 = .ok (.invokestatic 13, 3) := by decide +kernel
theorem dX3_insert_55 : decode cX3_insert 55 = .ok (.invokestatic 29, 3) := by decide +kernel
theorem dX3_insert_58 : decode cX3_insert 58 = .ok (.putfield 22, 3) := by decide +kernel
theorem dX3_insert_61 : decode cX3_insert 61 = .ok (.aload_n 0, 1) := by decide +kernel
theorem dX3_insert_62 : decode cX3_insert 62 = .ok (.getfield 22, 3) := by decide +kernel
theorem dX3_insert_65 : decode cX3_insert 65 = .ok (.iload_n 1, 1) := by decide +kernel
theorem dX3_insert_66 : decode cX3_insert 66 = .ok (.aload_n 0, 1) := by decide +kernel
theorem dX3_insert_67 : decode cX3_insert 67 = .ok (.getfield 22, 3) := by decide +kernel
theorem dX3_insert_70 : decode cX3_insert 70 = .ok (.iload_n 1, 1) := by decide +kernel
theorem dX3_insert_71 : decode cX3_insert 71 = .ok (.iconst 1, 1) := by decide +kernel
theorem dX3_insert_72 : decode cX3_insert 72 = .ok (.iadd, 1) := by decide +kernel
theorem dX3_insert_73 : decode cX3_insert 73 = .ok (.aload_n 0, 1) := by decide +kernel
theorem dX3_insert_74 : decode cX3_insert 74 = .ok (.getfield 26, 3) := by decide +kernel
theorem dX3_insert_77 : decode cX3_insert 77 = .ok (.iload_n 1, 1) := by decide +kernel
theorem dX3_insert_78 : decode cX3_insert 78 = .ok (.isub, 1) := by decide +kernel
theorem dX3_insert_79 : decode cX3_insert 79 = .ok (.invokestatic 35, 3) := by decide +kernel
theorem dX3_insert_82 : decode cX3_insert 82 = .ok (.aload_n 0, 1) := by decide +kernel
theorem dX3_insert_83 : decode cX3_insert 83 = .ok (.getfield 22, 3) := by decide +kernel
theorem dX3_insert_86 : decode cX3_insert 86 = .ok (.iload_n 1, 1) := by decide +kernel
theorem dX3_insert_87 : decode cX3_insert 87 = .ok (.iload_n 2, 1) := by decide +kernel
theorem dX3_insert_88 : decode cX3_insert 88 = .ok (.iastore, 1) := by decide +kernel
theorem dX3_insert_89 : decode cX3_insert 89 = .ok (.aload_n 0, 1) := by decide +kernel
theorem dX3_insert_90 : decode cX3_insert 90 = .ok (.dup, 1) := by decide +kernel
theorem dX3_insert_91 : decode cX3_insert 91 = .ok (.getfield 26, 3) := by decide +kernel
theorem dX3_insert_94 : decode cX3_insert 94 = .ok (.iconst 1, 1) := by decide +kernel
theorem dX3_insert_95 : decode cX3_insert 95 = .ok (.iadd, 1) := by decide +kernel
theorem dX3_insert_96 : decode cX3_insert 96 = .ok (.putfield 26, 3) := by decide +kernel
theorem dX3_insert_99 : decode cX3_insert 99 = .ok (.return_, 1) := by decide +kernel
theorem dX3_drop_0 : decode cX3_drop 0 = .ok (.iload_n 1, 1) := by decide +kernel
theorem dX3_drop_1 : decode cX3_drop 1 = .ok (.ifCond .lt 44, 3) := by decide +kernel
theorem dX3_drop_4 : decode cX3_drop 4 = .ok (.iload_n 1, 1) := by decide +kernel
theorem dX3_drop_5 : decode cX3_drop 5 = .ok (.aload_n 0, 1) := by decide +kernel
theorem dX3_drop_6 : decode cX3_drop 6 = .ok (.getfield 26, 3) := by decide +kernel
theorem dX3_drop_9 : decode cX3_drop 9 = .ok (.if_icmp .ge 36, 3) := by decide +kernel
theorem dX3_drop_12 : decode cX3_drop 12 = .ok (.aload_n 0, 1) := by decide +kernel
theorem dX3_drop_13 : decode cX3_drop 13 = .ok (.getfield 22, 3) := by decide +kernel
theorem dX3_drop_16 : decode cX3_drop 16 = .ok (.iload_n 1, 1) := by decide +kernel
theorem dX3_drop_17 : decode cX3_drop 17 = .ok (.iconst 1, 1) := by decide +kernel
theorem dX3_drop_18 : decode cX3_drop 18 = .ok (.iadd, 1) := by decide +kernel
theorem dX3_drop_19 : decode cX3_drop 19 = .ok (.aload_n 0, 1) := by decide +kernel
theorem dX3_drop_20 : decode cX3_drop 20 = .ok (.getfield 22, 3) := by decide +kernel
theorem dX3_drop_23 : decode cX3_drop 23 = .ok (.iload_n 1, 1) := by decide +kernel
theorem dX3_drop_24 : decode cX3_drop 24 = .ok (.aload_n 0, 1) := by decide +kernel
theorem dX3_drop_25 : decode cX3_drop 25 = .ok (.getfield 26, 3) := by decide +kernel
theorem dX3_drop_28 : decode cX3_drop 28 = .ok (.iload_n 1, 1) := by decide +kernel
theorem dX3_drop_29 : decode cX3_drop 29 = .ok (.isub, 1) := by decide +kernel
theorem dX3_drop_30 : decode cX3_drop 30 = .ok (.iconst 1, 1) := by decide +kernel
theorem dX3_drop_31 : decode cX3_drop 31 = .ok (.isub, 1) := by decide +kernel
theorem dX3_drop_32 : decode cX3_drop 32 = .ok (.invokestatic 35, 3) := by decide +kernel
theorem dX3_drop_35 : decode cX3_drop 35 = .ok (.aload_n 0, 1) := by decide +kernel
theorem dX3_drop_36 : decode cX3_drop 36 = .ok (.dup, 1) := by decide +kernel
theorem dX3_drop_37 : decode cX3_drop 37 = .ok (.getfield 26, 3) := by decide +kernel
theorem dX3_drop_40 : decode cX3_drop 40 = .ok (.iconst 1, 1) := by decide +kernel
theorem dX3_drop_41 : decode cX3_drop 41 = .ok (.isub, 1) := by decide +kernel
theorem dX3_drop_42 : decode cX3_drop 42 = .ok (.putfield 26, 3) := by decide +kernel
theorem dX3_drop_45 : decode cX3_drop 45 = .ok (.return_, 1) := by decide +kernel
theorem dX3_takeLast_0 : decode cX3_takeLast 0 = .ok (.aload_n 0, 1) := by decide +kernel
theorem dX3_takeLast_1 : decode cX3_takeLast 1 = .ok (.getfield 26, 3) := by decide +kernel
theorem dX3_takeLast_4 : decode cX3_takeLast 4 = .ok (.ifCond .ne 5, 3) := by decide +kernel
theorem dX3_takeLast_7 : decode cX3_takeLast 7 = .ok (.iconst 0, 1) := by decide +kernel
theorem dX3_takeLast_8 : decode cX3_takeLast 8 = .ok (.ireturn, 1) := by decide +kernel
theorem dX3_takeLast_9 : decode cX3_takeLast 9 = .ok (.aload_n 0, 1) := by decide +kernel
theorem dX3_takeLast_10 : decode cX3_takeLast 10 = .ok (.dup, 1) := by decide +kernel
theorem dX3_takeLast_11 : decode cX3_takeLast 11 = .ok (.getfield 26, 3) := by decide +kernel
theorem dX3_takeLast_14 : decode cX3_takeLast 14 = .ok (.iconst 1, 1) := by decide +kernel
theorem dX3_takeLast_15 : decode cX3_takeLast 15 = .ok (.isub, 1) := by decide +kernel
theorem dX3_takeLast_16 : decode cX3_takeLast 16 = .ok (.putfield 26, 3) := by decide +kernel
theorem dX3_takeLast_19 : decode cX3_takeLast 19 = .ok (.aload_n 0, 1) := by decide +kernel
theorem dX3_takeLast_20 : decode cX3_takeLast 20 = .ok (.getfield 22, 3) := by decide +kernel
theorem dX3_takeLast_23 : decode cX3_takeLast 23 = .ok (.aload_n 0, 1) := by decide +kernel
theorem dX3_takeLast_24 : decode cX3_takeLast 24 = .ok (.getfield 26, 3) := by decide +kernel
theorem dX3_takeLast_27 : decode cX3_takeLast 27 = .ok (.iaload, 1) := by decide +kernel
theorem dX3_takeLast_28 : decode cX3_takeLast 28 = .ok (.ireturn, 1) := by decide +kernel
theorem dX3_cut_0 : decode cX3_cut 0 = .ok (.iload_n 1, 1) := by decide +kernel
theorem dX3_cut_1 : decode cX3_cut 1 = .ok (.ifCond .lt 16, 3) := by decide +kernel
theorem dX3_cut_4 : decode cX3_cut 4 = .ok (.iload_n 1, 1) := by decide +kernel
theorem dX3_cut_5 : decode cX3_cut 5 = .ok (.aload_n 0, 1) := by decide +kernel
theorem dX3_cut_6 : decode cX3_cut 6 = .ok (.getfield 26, 3) := by decide +kernel
theorem dX3_cut_9 : decode cX3_cut 9 = .ok (.if_icmp .ge 8, 3) := by decide +kernel
theorem dX3_cut_12 : decode cX3_cut 12 = .ok (.aload_n 0, 1) := by decide +kernel
theorem dX3_cut_13 : decode cX3_cut 13 = .ok (.iload_n 1, 1) := by decide +kernel
theorem dX3_cut_14 : decode cX3_cut 14 = .ok (.putfield 26, 3) := by decide +kernel
theorem dX3_cut_17 : decode cX3_cut 17 = .ok (.return_, 1) := by decide +kernel
theorem dX3_fill_0 : decode cX3_fill 0 = .ok (.aload_n 0, 1) := by decide +kernel
theorem dX3_fill_1 : decode cX3_fill 1 = .ok (.iconst 0, 1) := by decide +kernel
theorem dX3_fill_2 : decode cX3_fill 2 = .ok (.putfield 26, 3) := by decide +kernel
theorem dX3_fill_5 : decode cX3_fill 5 = .ok (.iconst 0, 1) := by decide +kernel
theorem dX3_fill_6 : decode cX3_fill 6 = .ok (.istore_n 3, 1) := by decide +kernel
theorem dX3_fill_7 : decode cX3_fill 7 = .ok (.iload_n 3, 1) := by decide +kernel
theorem dX3_fill_8 : decode cX3_fill 8 = .ok (.iload_n 1, 1) := by decide +kernel
theorem dX3_fill_9 : decode cX3_fill 9 = .ok (.if_icmp .ge 32, 3) := by decide +kernel
theorem dX3_fill_12 : decode cX3_fill 12 = .ok (.iload_n 3, 1) := by decide +kernel
theorem dX3_fill_13 : decode cX3_fill 13 = .ok (.aload_n 0, 1) := by decide +kernel
theorem dX3_fill_14 : decode cX3_fill 14 = .ok (.getfield 22, 3) := by decide +kernel
theorem dX3_fill_17 : decode cX3_fill 17 = .ok (.arraylength, 1) := by decide +kernel
theorem dX3_fill_18 : decode cX3_fill 18 = .ok (.if_icmp .ge 23, 3) := by decide +kernel
theorem dX3_fill_21 : decode cX3_fill 21 = .ok (.aload_n 0, 1) := by decide +kernel
theorem dX3_fill_22 : decode cX3_fill 22 = .ok (.getfield 22, 3) := by decide +kernel
theorem dX3_fill_25 : decode cX3_fill 25 = .ok (.iload_n 3, 1) := by decide +kernel
theorem dX3_fill_26 : decode cX3_fill 26 = .ok (.iload_n 2, 1) := by decide +kernel
theorem dX3_fill_27 : decode cX3_fill 27 = .ok (.iastore, 1) := by decide +kernel
theorem dX3_fill_28 : decode cX3_fill 28 = .ok (.aload_n 0, 1) := by decide +kernel
theorem dX3_fill_29 : decode cX3_fill 29 = .ok (.iload_n 3, 1) := by decide +kernel
theorem dX3_fill_30 : decode cX3_fill 30 = .ok (.iconst 1, 1) := by decide +kernel
theorem dX3_fill_31 : decode cX3_fill 31 = .ok (.iadd, 1) := by decide +kernel
theorem dX3_fill_32 : decode cX3_fill 32 = .ok (.putfield 26, 3) := by decide +kernel
theorem dX3_fill_35 : decode cX3_fill 35 = .ok (.iinc 3 1, 3) := by decide +kernel
theorem dX3_fill_38 : decode cX3_fill 38 = .ok (.goto (-31), 3) := by decide +kernel
theorem dX3_fill_41 : decode cX3_fill 41 = .ok (.return_, 1) := by decide +kernel
set_option maxRecDepth 20000 in
theorem ggX3_copy_J7_copyOf_59c91 : GoodIn wsX3_copy wsJ7_copyOf_59c91 := goodIn_r _ [18, 19, 20, 21, 22, 23, 24, 25, 26, 9, 6, 10, 27, 12, 13, 14] (by decide +kernel) (by decide +kernel)
set_option maxRecDepth 20000 in
theorem gX3_copy_J7_copyOf_59c91 : GoodIn wsX3_copy (va_wsS RX3 29 yJ7_copyOf_59c91 wsJ7_copyOf_59c91) := goodIn_app (goodIn_of _ (by decide +kernel)) ggX3_copy_J7_copyOf_59c91
theorem dX3_copy_0 : decode cX3_copy 0 = .ok (.aload_n 1, 1) := by decide +kernel
theorem dX3_copy_1 : decode cX3_copy 1 = .ok (.getfield 26, 3) := by decide +kernel
theorem dX3_copy_4 : decode cX3_copy 4 = .ok (.aload_n 0, 1) := by decide +kernel
theorem dX3_copy_5 : decode cX3_copy 5 = .ok (.getfield 7, 3) := by decide +kernel
theorem dX3_copy_8 : decode cX3_copy 8 = .ok (.if_icmp .le 4, 3) := by decide +kernel
theorem dX3_copy_11 : decode cX3_copy 11 = .ok (.return_, 1) := by decide +kernel
theorem dX3_copy_12 : decode cX3_copy 12 = .ok (.aload_n 1, 1) := by decide +kernel
theorem dX3_copy_13 : decode cX3_copy 13 = .ok (.getfield 26, 3) := by decide +kernel
theorem dX3_copy_16 : decode cX3_copy 16 = .ok (.aload_n 0, 1) := by decide +kernel
theorem dX3_copy_17 : decode cX3_copy 17 = .ok (.getfield 22, 3) := by decide +kernel
theorem dX3_copy_20 : decode cX3_copy 20 = .ok (.arraylength, 1) := by decide +kernel
theorem dX3_copy_21 : decode cX3_copy 21 = .ok (.if_icmp .le 35, 3) := by decide +kernel
theorem dX3_copy_24 : decode cX3_copy 24 = .ok (.aload_n 0, 1) := by decide +kernel
theorem dX3_copy_25 : decode cX3_copy 25 = .ok (.aload_n 0, 1) := by decide +kernel
theorem dX3_copy_26 : decode cX3_copy 26 = .ok (.getfield 22, 3) := by decide +kernel
theorem dX3_copy_29 : decode cX3_copy 29 = .ok (.aload_n 0, 1) := by decide +kernel
theorem dX3_copy_30 : decode cX3_copy 30 = .ok (.getfield 7, 3) := by decide +kernel
theorem dX3_copy_33 : decode cX3_copy 33 = .ok (.aload_n 1, 1) := by decide +kernel
theorem dX3_copy_34 : decode cX3_copy 34 = .ok (.getfield 26, 3) := by decide +kernel
theorem dX3_copy_37 : decode cX3_copy 37 = .ok (.iconst 2, 1) := by decide +kernel
theorem dX3_copy_38 : decode cX3_copy 38 = .ok (.aload_n 0, 1) := by decide +kernel
theorem dX3_copy_39 : decode cX3_copy 39 = .ok (.getfield 22, 3) := by decide +kernel
theorem dX3_copy_42 : decode cX3_copy 42 = .ok (.arraylength, 1) := by decide +kernel
theorem dX3_copy_43 : decode cX3_copy 43 = .ok (.imul, 1) := by decide +kernel
theorem dX3_copy_44 : decode cX3_copy 44 = .ok (.invokestatic 19, 3) := by decide +kernel
theorem dX3_copy_47 : decode cX3_copy 47 = .ok (.invokestatic 13, 3) := by decide +kernel
theorem dX3_copy_50 : decode cX3_copy 50 = .ok (.invokestatic 29, 3) := by decide +kernel
theorem dX3_copy_53 : decode cX3_copy 53 = .ok (.putfield 22, 3) := by decide +kernel
theorem dX3_copy_56 : decode cX3_copy 56 = .ok (.aload_n 1, 1) := by decide +kernel
theorem dX3_copy_57 : decode cX3_copy 57 = .ok (.getfield 22, 3) := by decide +kernel
theorem dX3_copy_60 : decode cX3_copy 60 = .ok (.iconst 0, 1) := by decide +kernel
theorem dX3_copy_61 : decode cX3_copy 61 = .ok (.aload_n 0, 1) := by decide +kernel
theorem dX3_copy_62 : decode cX3_copy 62 = .ok (.getfield 22, 3) := by decide +kernel
theorem dX3_copy_65 : decode cX3_copy 65 = .ok (.iconst 0, 1) := by decide +kernel
theorem dX3_copy_66 : decode cX3_copy 66 = .ok (.aload_n 1, 1) := by decide +kernel
theorem dX3_copy_67 : decode cX3_copy 67 = .ok (.getfield 26, 3) := by decide +kernel
theorem dX3_copy_70 : decode cX3_copy 70 = .ok (.invokestatic 35, 3) := by decide +kernel
theorem dX3_copy_73 : decode cX3_copy 73 = .ok (.aload_n 0, 1) := by decide +kernel
theorem dX3_copy_74 : decode cX3_copy 74 = .ok (.aload_n 1, 1) := by decide +kernel
theorem dX3_copy_75 : decode cX3_copy 75 = .ok (.getfield 26, 3) := by decide +kernel
theorem dX3_copy_78 : decode cX3_copy 78 = .ok (.putfield 26, 3) := by decide +kernel
theorem dX3_copy_81 : decode cX3_copy 81 = .ok (.return_, 1) := by decide +kernel
theorem dX3_alike_0 : decode cX3_alike 0 = .ok (.aload_n 0, 1) := by decide +kernel
theorem dX3_alike_1 : decode cX3_alike 1 = .ok (.getfield 26, 3) := by decide +kernel
theorem dX3_alike_4 : decode cX3_alike 4 = .ok (.aload_n 1, 1) := by decide +kernel
theorem dX3_alike_5 : decode cX3_alike 5 = .ok (.getfield 26, 3) := by decide +kernel
theorem dX3_alike_8 : decode cX3_alike 8 = .ok (.if_icmp .eq 5, 3) := by decide +kernel
theorem dX3_alike_11 : decode cX3_alike 11 = .ok (.iconst 0, 1) := by decide +kernel
theorem dX3_alike_12 : decode cX3_alike 12 = .ok (.ireturn, 1) := by decide +kernel
theorem dX3_alike_13 : decode cX3_alike 13 = .ok (.iconst 0, 1) := by decide +kernel
theorem dX3_alike_14 : decode cX3_alike 14 = .ok (.istore_n 2, 1) := by decide +kernel
theorem dX3_alike_15 : decode cX3_alike 15 = .ok (.iload_n 2, 1) := by decide +kernel
theorem dX3_alike_16 : decode cX3_alike 16 = .ok (.aload_n 0, 1) := by decide +kernel
theorem dX3_alike_17 : decode cX3_alike 17 = .ok (.getfield 26, 3) := by decide +kernel
theorem dX3_alike_20 : decode cX3_alike 20 = .ok (.if_icmp .ge 26, 3) := by decide +kernel
theorem dX3_alike_23 : decode cX3_alike 23 = .ok (.aload_n 0, 1) := by decide +kernel
theorem dX3_alike_24 : decode cX3_alike 24 = .ok (.getfield 22, 3) := by decide +kernel
theorem dX3_alike_27 : decode cX3_alike 27 = .ok (.iload_n 2, 1) := by decide +kernel
theorem dX3_alike_28 : decode cX3_alike 28 = .ok (.iaload, 1) := by decide +kernel
theorem dX3_alike_29 : decode cX3_alike 29 = .ok (.aload_n 1, 1) := by decide +kernel
theorem dX3_alike_30 : decode cX3_alike 30 = .ok (.getfield 22, 3) := by decide +kernel
theorem dX3_alike_33 : decode cX3_alike 33 = .ok (.iload_n 2, 1) := by decide +kernel
theorem dX3_alike_34 : decode cX3_alike 34 = .ok (.iaload, 1) := by decide +kernel
theorem dX3_alike_35 : decode cX3_alike 35 = .ok (.if_icmp .eq 5, 3) := by decide +kernel
theorem dX3_alike_38 : decode cX3_alike 38 = .ok (.iconst 0, 1) := by decide +kernel
theorem dX3_alike_39 : decode cX3_alike 39 = .ok (.ireturn, 1) := by decide +kernel
theorem dX3_alike_40 : decode cX3_alike 40 = .ok (.iinc 2 1, 3) := by decide +kernel
theorem dX3_alike_43 : decode cX3_alike 43 = .ok (.goto (-28), 3) := by decide +kernel
theorem dX3_alike_46 : decode cX3_alike 46 = .ok (.iconst 1, 1) := by decide +kernel
theorem dX3_alike_47 : decode cX3_alike 47 = .ok (.ireturn, 1) := by decide +kernel
set_option maxRecDepth 20000 in
theorem ggX4_init_X3_init : GoodIn wsX4_init wsX3_init := goodIn_r _ [12, 13, 2, 3, 14, 15, 16, 17, 18, 19, 20, 21, 22, 23, 24, 25, 26, 27] (by decide +kernel) (by decide +kernel)
set_option maxRecDepth 20000 in
theorem gX4_init_X3_init : GoodIn wsX4_init (wsX3_init) := ggX4_init_X3_init
theorem dX4_init_0 : decode cX4_init 0 = .ok (.aload_n 0, 1) := by decide +kernel
theorem dX4_init_1 : decode cX4_init 1 = .ok (.invokespecial 3, 3) := by decide +kernel
theorem dX4_init_4 : decode cX4_init 4 = .ok (.aload_n 0, 1) := by decide +kernel
theorem dX4_init_5 : decode cX4_init 5 = .ok (.new 9, 3) := by decide +kernel
theorem dX4_init_8 : decode cX4_init 8 = .ok (.dup, 1) := by decide +kernel
theorem dX4_init_9 : decode cX4_init 9 = .ok (.bipush 32, 2) := by decide +kernel
theorem dX4_init_11 : decode cX4_init 11 = .ok (.sipush 8204, 3) := by decide +kernel
theorem dX4_init_14 : decode cX4_init 14 = .ok (.invokespecial 13, 3) := by decide +kernel
theorem dX4_init_17 : decode cX4_init 17 = .ok (.putfield 16, 3) := by decide +kernel
theorem dX4_init_20 : decode cX4_init 20 = .ok (.aload_n 0, 1) := by decide +kernel
theorem dX4_init_21 : decode cX4_init 21 = .ok (.new 9, 3) := by decide +kernel
theorem dX4_init_24 : decode cX4_init 24 = .ok (.dup, 1) := by decide +kernel
theorem dX4_init_25 : decode cX4_init 25 = .ok (.bipush 100, 2) := by decide +kernel
theorem dX4_init_27 : decode cX4_init 27 = .ok (.sipush 20010, 3) := by decide +kernel
theorem dX4_init_30 : decode cX4_init 30 = .ok (.invokespecial 13, 3) := by decide +kernel
theorem dX4_init_33 : decode cX4_init 33 = .ok (.putfield 20, 3) := by decide +kernel
theorem dX4_init_36 : decode cX4_init 36 = .ok (.aload_n 0, 1) := by decide +kernel
theorem dX4_init_37 : decode cX4_init 37 = .ok (.new 9, 3) := by decide +kernel
theorem dX4_init_40 : decode cX4_init 40 = .ok (.dup, 1) := by decide +kernel
theorem dX4_init_41 : decode cX4_init 41 = .ok (.bipush 64, 2) := by decide +kernel
theorem dX4_init_43 : decode cX4_init 43 = .ok (.sipush 8004, 3) := by decide +kernel
theorem dX4_init_46 : decode cX4_init 46 = .ok (.invokespecial 13, 3) := by decide +kernel
theorem dX4_init_49 : decode cX4_init 49 = .ok (.putfield 23, 3) := by decide +kernel
theorem dX4_init_52 : decode cX4_init 52 = .ok (.return_, 1) := by decide +kernel
set_option maxRecDepth 20000 in
theorem ggX4_clear_X3_cut : GoodIn wsX4_clear wsX3_cut := goodIn_r _ [8, 9, 18, 19, 20] (by decide +kernel) (by decide +kernel)
set_option maxRecDepth 20000 in
theorem gX4_clear_X3_cut : GoodIn wsX4_clear (wsV RX4 26 RX3 yX3_cut wsX3_cut) := goodIn_app (goodIn_of _ (by decide +kernel)) ggX4_clear_X3_cut
set_option maxRecDepth 20000 in
theorem ggX4_clear_X3_fill : GoodIn wsX4_clear wsX3_fill := goodIn_r _ [13, 9, 14, 18, 19, 20] (by decide +kernel) (by decide +kernel)
set_option maxRecDepth 20000 in
theorem gX4_clear_X3_fill : GoodIn wsX4_clear (wsV RX4 30 RX3 yX3_fill wsX3_fill) := goodIn_app (goodIn_of _ (by decide +kernel)) ggX4_clear_X3_fill
theorem dX4_clear_0 : decode cX4_clear 0 = .ok (.aload_n 0, 1) := by decide +kernel
theorem dX4_clear_1 : decode cX4_clear 1 = .ok (.getfield 16, 3) := by decide +kernel
theorem dX4_clear_4 : decode cX4_clear 4 = .ok (.iconst 0, 1) := by decide +kernel
theorem dX4_clear_5 : decode cX4_clear 5 = .ok (.invokevirtual 26, 3) := by decide +kernel
theorem dX4_clear_8 : decode cX4_clear 8 = .ok (.aload_n 0, 1) := by decide +kernel
theorem dX4_clear_9 : decode cX4_clear 9 = .ok (.getfield 23, 3) := by decide +kernel
theorem dX4_clear_12 : decode cX4_clear 12 = .ok (.iconst 0, 1) := by decide +kernel
theorem dX4_clear_13 : decode cX4_clear 13 = .ok (.invokevirtual 26, 3) := by decide +kernel
theorem dX4_clear_16 : decode cX4_clear 16 = .ok (.aload_n 0, 1) := by decide +kernel
theorem dX4_clear_17 : decode cX4_clear 17 = .ok (.getfield 20, 3) := by decide +kernel
theorem dX4_clear_20 : decode cX4_clear 20 = .ok (.iconst 5, 1) := by decide +kernel
theorem dX4_clear_21 : decode cX4_clear 21 = .ok (.iconst 0, 1) := by decide +kernel
theorem dX4_clear_22 : decode cX4_clear 22 = .ok (.invokevirtual 30, 3) := by decide +kernel
theorem dX4_clear_25 : decode cX4_clear 25 = .ok (.return_, 1) := by decide +kernel
set_option maxRecDepth 20000 in
theorem ggX4_at_X3_get : GoodIn wsX4_at wsX3_get := goodIn_r _ [6, 7, 8, 12, 13, 14] (by decide +kernel) (by decide +kernel)
set_option maxRecDepth 20000 in
theorem gX4_at_X3_get : GoodIn wsX4_at (wsV RX4 33 RX3 yX3_get wsX3_get) := goodIn_app (goodIn_of _ (by decide +kernel)) ggX4_at_X3_get
theorem dX4_at_0 : decode cX4_at 0 = .ok (.aload_n 0, 1) := by decide +kernel
theorem dX4_at_1 : decode cX4_at 1 = .ok (.getfield 16, 3) := by decide +kernel
theorem dX4_at_4 : decode cX4_at 4 = .ok (.iload_n 1, 1) := by decide +kernel
theorem dX4_at_5 : decode cX4_at 5 = .ok (.invokevirtual 33, 3) := by decide +kernel
theorem dX4_at_8 : decode cX4_at 8 = .ok (.ireturn, 1) := by decide +kernel
set_option maxRecDepth 20000 in
theorem ggX4_put_X3_get : GoodIn wsX4_put wsX3_get := goodIn_r _ [6, 7, 8, 59, 60, 61] (by decide +kernel) (by decide +kernel)
set_option maxRecDepth 20000 in
theorem gX4_put_X3_get : GoodIn wsX4_put (wsV RX4 33 RX3 yX3_get wsX3_get) := goodIn_app (goodIn_of _ (by decide +kernel)) ggX4_put_X3_get
set_option maxRecDepth 20000 in
theorem ggX4_put_X4_cell : GoodIn wsX4_put wsX4_cell := goodIn_r _ [13, 14, 2, 3, 4, 5, 6, 7, 8, 15, 16, 17, 18, 19, 20, 21, 22, 23, 24, 25, 26, 27, 28, 29, 30, 31, 32, 33, 34, 35, 36, 37, 38, 39, 40, 41, 42, 43, 44, 45, 46, 47, 56, 57, 58, 59, 60, 61] (by decide +kernel) (by decide +kernel)
set_option maxRecDepth 20000 in
theorem gX4_put_X4_cell : GoodIn wsX4_put (wsV RX4 37 RX4 yX4_cell wsX4_cell) := goodIn_app (goodIn_of _ (by decide +kernel)) ggX4_put_X4_cell
set_option maxRecDepth 20000 in
theorem ggX4_put_X4_set : GoodIn wsX4_put wsX4_set := goodIn_r _ [51, 52, 1, 2, 3, 4, 5, 6, 7, 8, 53, 54, 12, 55, 19, 20, 21, 22, 23, 24, 25, 26, 27, 28, 29, 30, 31, 32, 33, 34, 35, 36, 37, 38, 39, 40, 41, 42, 43, 15, 16, 17, 18, 44, 45, 46, 47, 56, 57, 58, 59, 60, 61] (by decide +kernel) (by decide +kernel)
set_option maxRecDepth 20000 in
theorem gX4_put_X4_set : GoodIn wsX4_put (wsV RX4 41 RX4 yX4_set wsX4_set) := goodIn_app (goodIn_of _ (by decide +kernel)) ggX4_put_X4_set
theorem dX4_put_0 : decode cX4_put 0 = .ok (.aload_n 0, 1) := by decide +kernel
theorem dX4_put_1 : decode cX4_put 1 = .ok (.iload_n 1, 1) := by decide +kernel
theorem dX4_put_2 : decode cX4_put 2 = .ok (.aload_n 0, 1) := by decide +kernel
theorem dX4_put_3 : decode cX4_put 3 = .ok (.iload_n 2, 1) := by decide +kernel
theorem dX4_put_4 : decode cX4_put 4 = .ok (.aload_n 0, 1) := by decide +kernel
theorem dX4_put_5 : decode cX4_put 5 = .ok (.getfield 16, 3) := by decide +kernel
theorem dX4_put_8 : decode cX4_put 8 = .ok (.iload_n 1, 1) := by decide +kernel
theorem dX4_put_9 : decode cX4_put 9 = .ok (.invokevirtual 33, 3) := by decide +kernel
theorem dX4_put_12 : decode cX4_put 12 = .ok (.iconst 0, 1) := by decide +kernel
theorem dX4_put_13 : decode cX4_put 13 = .ok (.invokevirtual 37, 3) := by decide +kernel
theorem dX4_put_16 : decode cX4_put 16 = .ok (.invokevirtual 41, 3) := by decide +kernel
theorem dX4_put_19 : decode cX4_put 19 = .ok (.return_, 1) := by decide +kernel
set_option maxRecDepth 20000 in
theorem ggX4_take_X3_get : GoodIn wsX4_take wsX3_get := goodIn_r _ [7, 8, 9, 55, 56, 57] (by decide +kernel) (by decide +kernel)
set_option maxRecDepth 20000 in
theorem gX4_take_X3_get : GoodIn wsX4_take (wsV RX4 33 RX3 yX3_get wsX3_get) := goodIn_app (goodIn_of _ (by decide +kernel)) ggX4_take_X3_get
set_option maxRecDepth 20000 in
theorem ggX4_take_X4_set : GoodIn wsX4_take wsX4_set := goodIn_r _ [14, 15, 1, 3, 4, 5, 6, 7, 8, 9, 16, 17, 13, 18, 19, 20, 21, 22, 23, 24, 25, 26, 27, 28, 29, 30, 31, 32, 33, 34, 35, 36, 37, 38, 39, 40, 41, 42, 43, 44, 45, 46, 47, 48, 49, 50, 51, 52, 53, 54, 55, 56, 57] (by decide +kernel) (by decide +kernel)
set_option maxRecDepth 20000 in
theorem gX4_take_X4_set : GoodIn wsX4_take (wsV RX4 41 RX4 yX4_set wsX4_set) := goodIn_app (goodIn_of _ (by decide +kernel)) ggX4_take_X4_set
theorem dX4_take_0 : decode cX4_take 0 = .ok (.iconst 5, 1) := by decide +kernel
theorem dX4_take_1 : decode cX4_take 1 = .ok (.aload_n 0, 1) := by decide +kernel
theorem dX4_take_2 : decode cX4_take 2 = .ok (.getfield 16, 3) := by decide +kernel
theorem dX4_take_5 : decode cX4_take 5 = .ok (.iload_n 1, 1) := by decide +kernel
theorem dX4_take_6 : decode cX4_take 6 = .ok (.invokevirtual 33, 3) := by decide +kernel
theorem dX4_take_9 : decode cX4_take 9 = .ok (.imul, 1) := by decide +kernel
theorem dX4_take_10 : decode cX4_take 10 = .ok (.istore_n 2, 1) := by decide +kernel
theorem dX4_take_11 : decode cX4_take 11 = .ok (.aload_n 0, 1) := by decide +kernel
theorem dX4_take_12 : decode cX4_take 12 = .ok (.getfield 20, 3) := by decide +kernel
theorem dX4_take_15 : decode cX4_take 15 = .ok (.iload_n 2, 1) := by decide +kernel
theorem dX4_take_16 : decode cX4_take 16 = .ok (.invokevirtual 33, 3) := by decide +kernel
theorem dX4_take_19 : decode cX4_take 19 = .ok (.istore_n 3, 1) := by decide +kernel
theorem dX4_take_20 : decode cX4_take 20 = .ok (.iload_n 3, 1) := by decide +kernel
theorem dX4_take_21 : decode cX4_take 21 = .ok (.ifCond .eq 8, 3) := by decide +kernel
theorem dX4_take_24 : decode cX4_take 24 = .ok (.iload_n 3, 1) := by decide +kernel
theorem dX4_take_25 : decode cX4_take 25 = .ok (.iconst 3, 1) := by decide +kernel
theorem dX4_take_26 : decode cX4_take 26 = .ok (.if_icmp .ne 5, 3) := by decide +kernel
theorem dX4_take_29 : decode cX4_take 29 = .ok (.iconst 0, 1) := by decide +kernel
theorem dX4_take_30 : decode cX4_take 30 = .ok (.ireturn, 1) := by decide +kernel
theorem dX4_take_31 : decode cX4_take 31 = .ok (.aload_n 0, 1) := by decide +kernel
theorem dX4_take_32 : decode cX4_take 32 = .ok (.iload_n 1, 1) := by decide +kernel
theorem dX4_take_33 : decode cX4_take 33 = .ok (.aload_n 0, 1) := by decide +kernel
theorem dX4_take_34 : decode cX4_take 34 = .ok (.getfield 20, 3) := by decide +kernel
theorem dX4_take_37 : decode cX4_take 37 = .ok (.iload_n 2, 1) := by decide +kernel
theorem dX4_take_38 : decode cX4_take 38 = .ok (.iconst 1, 1) := by decide +kernel
theorem dX4_take_39 : decode cX4_take 39 = .ok (.iadd, 1) := by decide +kernel
theorem dX4_take_40 : decode cX4_take 40 = .ok (.invokevirtual 33, 3) := by decide +kernel
theorem dX4_take_43 : decode cX4_take 43 = .ok (.invokevirtual 41, 3) := by decide +kernel
theorem dX4_take_46 : decode cX4_take 46 = .ok (.iload_n 3, 1) := by decide +kernel
theorem dX4_take_47 : decode cX4_take 47 = .ok (.ireturn, 1) := by decide +kernel
set_option maxRecDepth 20000 in
theorem ggX4_open_X4_insert : GoodIn wsX4_open wsX4_insert := goodIn_r _ [5, 6, 7, 8, 9, 10, 11, 12, 13, 14, 15, 16, 17, 18, 19, 20, 21, 22, 23, 24, 25, 26, 27, 28, 29, 30, 31, 32, 33, 34, 35, 36, 37, 38, 39, 40, 41, 42, 43, 44, 45, 46, 4, 47, 48, 49, 50, 51, 52, 53] (by decide +kernel) (by decide +kernel)
set_option maxRecDepth 20000 in
theorem gX4_open_X4_insert : GoodIn wsX4_open (wsV RX4 44 RX4 yX4_insert wsX4_insert) := goodIn_app (goodIn_of _ (by decide +kernel)) ggX4_open_X4_insert
theorem dX4_open_0 : decode cX4_open 0 = .ok (.aload_n 0, 1) := by decide +kernel
theorem dX4_open_1 : decode cX4_open 1 = .ok (.iload_n 1, 1) := by decide +kernel
theorem dX4_open_2 : decode cX4_open 2 = .ok (.iconst 0, 1) := by decide +kernel
theorem dX4_open_3 : decode cX4_open 3 = .ok (.invokevirtual 44, 3) := by decide +kernel
theorem dX4_open_6 : decode cX4_open 6 = .ok (.return_, 1) := by decide +kernel
set_option maxRecDepth 20000 in
theorem ggX4_close_X3_get : GoodIn wsX4_close wsX3_get := goodIn_r _ [6, 7, 8, 55, 56, 57] (by decide +kernel) (by decide +kernel)
set_option maxRecDepth 20000 in
theorem gX4_close_X3_get : GoodIn wsX4_close (wsV RX4 33 RX3 yX3_get wsX3_get) := goodIn_app (goodIn_of _ (by decide +kernel)) ggX4_close_X3_get
set_option maxRecDepth 20000 in
theorem ggX4_close_X4_drop : GoodIn wsX4_close wsX4_drop := goodIn_r _ [13, 1, 14, 15, 16, 17, 5, 18, 7, 2, 3, 4, 6, 8, 19, 20, 12, 21, 22, 23, 24, 25, 26, 27, 28, 29, 30, 31, 32, 33, 34, 35, 36, 37, 38, 39, 40, 41, 42, 43, 44, 45, 46, 47, 48, 49, 50, 51, 52, 53, 54, 55, 56, 57] (by decide +kernel) (by decide +kernel)
set_option maxRecDepth 20000 in
theorem gX4_close_X4_drop : GoodIn wsX4_close (wsV RX4 47 RX4 yX4_drop wsX4_drop) := goodIn_app (goodIn_of _ (by decide +kernel)) ggX4_close_X4_drop
theorem dX4_close_0 : decode cX4_close 0 = .ok (.aload_n 0, 1) := by decide +kernel
theorem dX4_close_1 : decode cX4_close 1 = .ok (.getfield 16, 3) := by decide +kernel
theorem dX4_close_4 : decode cX4_close 4 = .ok (.iload_n 1, 1) := by decide +kernel
theorem dX4_close_5 : decode cX4_close 5 = .ok (.invokevirtual 33, 3) := by decide +kernel
theorem dX4_close_8 : decode cX4_close 8 = .ok (.ifCond .eq 5, 3) := by decide +kernel
theorem dX4_close_11 : decode cX4_close 11 = .ok (.iconst 0, 1) := by decide +kernel
theorem dX4_close_12 : decode cX4_close 12 = .ok (.ireturn, 1) := by decide +kernel
theorem dX4_close_13 : decode cX4_close 13 = .ok (.aload_n 0, 1) := by decide +kernel
theorem dX4_close_14 : decode cX4_close 14 = .ok (.iload_n 1, 1) := by decide +kernel
theorem dX4_close_15 : decode cX4_close 15 = .ok (.invokevirtual 47, 3) := by decide +kernel
theorem dX4_close_18 : decode cX4_close 18 = .ok (.iconst 1, 1) := by decide +kernel
theorem dX4_close_19 : decode cX4_close 19 = .ok (.ireturn, 1) := by decide +kernel
set_option maxRecDepth 20000 in
theorem ggX4_couple_X3_get : GoodIn wsX4_couple wsX3_get := goodIn_r _ [6, 7, 8, 68, 69, 70] (by decide +kernel) (by decide +kernel)
set_option maxRecDepth 20000 in
theorem gX4_couple_X3_get : GoodIn wsX4_couple (wsV RX4 33 RX3 yX3_get wsX3_get) := goodIn_app (goodIn_of _ (by decide +kernel)) ggX4_couple_X3_get
set_option maxRecDepth 20000 in
theorem ggX4_couple_X4_cell : GoodIn wsX4_couple wsX4_cell := goodIn_r _ [13, 14, 2, 3, 4, 5, 6, 7, 8, 15, 16, 17, 18, 19, 20, 21, 22, 23, 24, 25, 26, 27, 28, 29, 30, 31, 32, 33, 34, 35, 36, 37, 38, 39, 40, 41, 42, 43, 44, 45, 46, 47, 65, 66, 67, 68, 69, 70] (by decide +kernel) (by decide +kernel)
set_option maxRecDepth 20000 in
theorem gX4_couple_X4_cell : GoodIn wsX4_couple (wsV RX4 37 RX4 yX4_cell wsX4_cell) := goodIn_app (goodIn_of _ (by decide +kernel)) ggX4_couple_X4_cell
set_option maxRecDepth 20000 in
theorem ggX4_couple_X4_drop : GoodIn wsX4_couple wsX4_drop := goodIn_r _ [51, 1, 52, 15, 16, 17, 5, 18, 7, 2, 3, 4, 6, 8, 53, 54, 12, 55, 19, 20, 21, 22, 23, 24, 25, 26, 27, 28, 29, 30, 31, 32, 33, 34, 35, 36, 37, 38, 39, 40, 41, 42, 43, 56, 57, 58, 59, 60, 65, 66, 67, 68, 69, 70] (by decide +kernel) (by decide +kernel)
set_option maxRecDepth 20000 in
theorem gX4_couple_X4_drop : GoodIn wsX4_couple (wsV RX4 47 RX4 yX4_drop wsX4_drop) := goodIn_app (goodIn_of _ (by decide +kernel)) ggX4_couple_X4_drop
set_option maxRecDepth 20000 in
theorem ggX4_couple_X4_set : GoodIn wsX4_couple wsX4_set := goodIn_r _ [64, 52, 1, 2, 3, 4, 5, 6, 7, 8, 53, 54, 12, 55, 19, 20, 21, 22, 23, 24, 25, 26, 27, 28, 29, 30, 31, 32, 33, 34, 35, 36, 37, 38, 39, 40, 41, 42, 43, 15, 16, 17, 18, 44, 45, 46, 47, 65, 66, 67, 68, 69, 70] (by decide +kernel) (by decide +kernel)
set_option maxRecDepth 20000 in
theorem gX4_couple_X4_set : GoodIn wsX4_couple (wsV RX4 41 RX4 yX4_set wsX4_set) := goodIn_app (goodIn_of _ (by decide +kernel)) ggX4_couple_X4_set
theorem dX4_couple_0 : decode cX4_couple 0 = .ok (.aload_n 0, 1) := by decide +kernel
theorem dX4_couple_1 : decode cX4_couple 1 = .ok (.iconst 3, 1) := by decide +kernel
theorem dX4_couple_2 : decode cX4_couple 2 = .ok (.aload_n 0, 1) := by decide +kernel
theorem dX4_couple_3 : decode cX4_couple 3 = .ok (.getfield 16, 3) := by decide +kernel
theorem dX4_couple_6 : decode cX4_couple 6 = .ok (.iload_n 1, 1) := by decide +kernel
theorem dX4_couple_7 : decode cX4_couple 7 = .ok (.invokevirtual 33, 3) := by decide +kernel
theorem dX4_couple_10 : decode cX4_couple 10 = .ok (.aload_n 0, 1) := by decide +kernel
theorem dX4_couple_11 : decode cX4_couple 11 = .ok (.getfield 16, 3) := by decide +kernel
theorem dX4_couple_14 : decode cX4_couple 14 = .ok (.iload_n 1, 1) := by decide +kernel
theorem dX4_couple_15 : decode cX4_couple 15 = .ok (.iconst 1, 1) := by decide +kernel
theorem dX4_couple_16 : decode cX4_couple 16 = .ok (.iadd, 1) := by decide +kernel
theorem dX4_couple_17 : decode cX4_couple 17 = .ok (.invokevirtual 33, 3) := by decide +kernel
theorem dX4_couple_20 : decode cX4_couple 20 = .ok (.invokevirtual 37, 3) := by decide +kernel
theorem dX4_couple_23 : decode cX4_couple 23 = .ok (.istore_n 2, 1) := by decide +kernel
theorem dX4_couple_24 : decode cX4_couple 24 = .ok (.aload_n 0, 1) := by decide +kernel
theorem dX4_couple_25 : decode cX4_couple 25 = .ok (.iload_n 1, 1) := by decide +kernel
theorem dX4_couple_26 : decode cX4_couple 26 = .ok (.iconst 1, 1) := by decide +kernel
theorem dX4_couple_27 : decode cX4_couple 27 = .ok (.iadd, 1) := by decide +kernel
theorem dX4_couple_28 : decode cX4_couple 28 = .ok (.invokevirtual 47, 3) := by decide +kernel
theorem dX4_couple_31 : decode cX4_couple 31 = .ok (.aload_n 0, 1) := by decide +kernel
theorem dX4_couple_32 : decode cX4_couple 32 = .ok (.iload_n 1, 1) := by decide +kernel
theorem dX4_couple_33 : decode cX4_couple 33 = .ok (.iload_n 2, 1) := by decide +kernel
theorem dX4_couple_34 : decode cX4_couple 34 = .ok (.invokevirtual 41, 3) := by decide +kernel
theorem dX4_couple_37 : decode cX4_couple 37 = .ok (.return_, 1) := by decide +kernel
set_option maxRecDepth 20000 in
theorem ggX4_uncouple_X3_get : GoodIn wsX4_uncouple wsX3_get := goodIn_r _ [7, 8, 9, 64, 65, 66] (by decide +kernel) (by decide +kernel)
set_option maxRecDepth 20000 in
theorem gX4_uncouple_X3_get : GoodIn wsX4_uncouple (wsV RX4 33 RX3 yX3_get wsX3_get) := goodIn_app (goodIn_of _ (by decide +kernel)) ggX4_uncouple_X3_get
set_option maxRecDepth 20000 in
theorem ggX4_uncouple_X4_set : GoodIn wsX4_uncouple wsX4_set := goodIn_r _ [14, 15, 1, 3, 4, 5, 6, 7, 8, 9, 16, 17, 13, 18, 19, 20, 21, 22, 23, 24, 25, 26, 27, 28, 29, 30, 31, 32, 33, 34, 35, 36, 37, 38, 39, 40, 41, 42, 43, 44, 45, 46, 47, 48, 49, 50, 51, 61, 62, 63, 64, 65, 66] (by decide +kernel) (by decide +kernel)
set_option maxRecDepth 20000 in
theorem gX4_uncouple_X4_set : GoodIn wsX4_uncouple (wsV RX4 41 RX4 yX4_set wsX4_set) := goodIn_app (goodIn_of _ (by decide +kernel)) ggX4_uncouple_X4_set
set_option maxRecDepth 20000 in
theorem ggX4_uncouple_X4_insert : GoodIn wsX4_uncouple wsX4_insert := goodIn_r _ [55, 1, 15, 44, 45, 46, 6, 47, 8, 19, 20, 21, 22, 23, 9, 24, 25, 26, 27, 28, 29, 30, 31, 32, 33, 34, 35, 36, 37, 38, 39, 40, 41, 42, 43, 56, 57, 58, 59, 60, 16, 17, 13, 18, 61, 62, 63, 64, 65, 66] (by decide +kernel) (by decide +kernel)
set_option maxRecDepth 20000 in
theorem gX4_uncouple_X4_insert : GoodIn wsX4_uncouple (wsV RX4 44 RX4 yX4_insert wsX4_insert) := goodIn_app (goodIn_of _ (by decide +kernel)) ggX4_uncouple_X4_insert
theorem dX4_uncouple_0 : decode cX4_uncouple 0 = .ok (.iconst 5, 1) := by decide +kernel
theorem dX4_uncouple_1 : decode cX4_uncouple 1 = .ok (.aload_n 0, 1) := by decide +kernel
theorem dX4_uncouple_2 : decode cX4_uncouple 2 = .ok (.getfield 16, 3) := by decide +kernel
theorem dX4_uncouple_5 : decode cX4_uncouple 5 = .ok (.iload_n 1, 1) := by decide +kernel
theorem dX4_uncouple_6 : decode cX4_uncouple 6 = .ok (.invokevirtual 33, 3) := by decide +kernel
theorem dX4_uncouple_9 : decode cX4_uncouple 9 = .ok (.imul, 1) := by decide +kernel
theorem dX4_uncouple_10 : decode cX4_uncouple 10 = .ok (.istore_n 2, 1) := by decide +kernel
theorem dX4_uncouple_11 : decode cX4_uncouple 11 = .ok (.aload_n 0, 1) := by decide +kernel
theorem dX4_uncouple_12 : decode cX4_uncouple 12 = .ok (.getfield 20, 3) := by decide +kernel
theorem dX4_uncouple_15 : decode cX4_uncouple 15 = .ok (.iload_n 2, 1) := by decide +kernel
theorem dX4_uncouple_16 : decode cX4_uncouple 16 = .ok (.invokevirtual 33, 3) := by decide +kernel
theorem dX4_uncouple_19 : decode cX4_uncouple 19 = .ok (.iconst 3, 1) := by decide +kernel
theorem dX4_uncouple_20 : decode cX4_uncouple 20 = .ok (.if_icmp .eq 5, 3) := by decide +kernel
theorem dX4_uncouple_23 : decode cX4_uncouple 23 = .ok (.iconst 0, 1) := by decide +kernel
theorem dX4_uncouple_24 : decode cX4_uncouple 24 = .ok (.ireturn, 1) := by decide +kernel
theorem dX4_uncouple_25 : decode cX4_uncouple 25 = .ok (.aload_n 0, 1) := by decide +kernel
theorem dX4_uncouple_26 : decode cX4_uncouple 26 = .ok (.iload_n 1, 1) := by decide +kernel
theorem dX4_uncouple_27 : decode cX4_uncouple 27 = .ok (.aload_n 0, 1) := by decide +kernel
theorem dX4_uncouple_28 : decode cX4_uncouple 28 = .ok (.getfield 20, 3) := by decide +kernel
theorem dX4_uncouple_31 : decode cX4_uncouple 31 = .ok (.iload_n 2, 1) := by decide +kernel
theorem dX4_uncouple_32 : decode cX4_uncouple 32 = .ok (.iconst 1, 1) := by decide +kernel
theorem dX4_uncouple_33 : decode cX4_uncouple 33 = .ok (.iadd, 1) := by decide +kernel
theorem dX4_uncouple_34 : decode cX4_uncouple 34 = .ok (.invokevirtual 33, 3) := by decide +kernel
theorem dX4_uncouple_37 : decode cX4_uncouple 37 = .ok (.invokevirtual 41, 3) := by decide +kernel
theorem dX4_uncouple_40 : decode cX4_uncouple 40 = .ok (.aload_n 0, 1) := by decide +kernel
theorem dX4_uncouple_41 : decode cX4_uncouple 41 = .ok (.iload_n 1, 1) := by decide +kernel
theorem dX4_uncouple_42 : decode cX4_uncouple 42 = .ok (.iconst 1, 1) := by decide +kernel
theorem dX4_uncouple_43 : decode cX4_uncouple 43 = .ok (.iadd, 1) := by decide +kernel
theorem dX4_uncouple_44 : decode cX4_uncouple 44 = .ok (.aload_n 0, 1) := by decide +kernel
theorem dX4_uncouple_45 : decode cX4_uncouple 45 = .ok (.getfield 20, 3) := by decide +kernel
theorem dX4_uncouple_48 : decode cX4_uncouple 48 = .ok (.iload_n 2, 1) := by decide +kernel
theorem dX4_uncouple_49 : decode cX4_uncouple 49 = .ok (.iconst 2, 1) := by decide +kernel
theorem dX4_uncouple_50 : decode cX4_uncouple 50 = .ok (.iadd, 1) := by decide +kernel
theorem dX4_uncouple_51 : decode cX4_uncouple 51 = .ok (.invokevirtual 33, 3) := by decide +kernel
theorem dX4_uncouple_54 : decode cX4_uncouple 54 = .ok (.invokevirtual 44, 3) := by decide +kernel
theorem dX4_uncouple_57 : decode cX4_uncouple 57 = .ok (.iconst 1, 1) := by decide +kernel
theorem dX4_uncouple_58 : decode cX4_uncouple 58 = .ok (.ireturn, 1) := by decide +kernel
set_option maxRecDepth 20000 in
theorem ggX4_mark_X3_size : GoodIn wsX4_mark wsX3_size := goodIn_r _ [6, 7, 11, 12, 13] (by decide +kernel) (by decide +kernel)
set_option maxRecDepth 20000 in
theorem gX4_mark_X3_size : GoodIn wsX4_mark (wsV RX4 50 RX3 yX3_size wsX3_size) := goodIn_app (goodIn_of _ (by decide +kernel)) ggX4_mark_X3_size
theorem dX4_mark_0 : decode cX4_mark 0 = .ok (.aload_n 0, 1) := by decide +kernel
theorem dX4_mark_1 : decode cX4_mark 1 = .ok (.getfield 23, 3) := by decide +kernel
theorem dX4_mark_4 : decode cX4_mark 4 = .ok (.invokevirtual 50, 3) := by decide +kernel
theorem dX4_mark_7 : decode cX4_mark 7 = .ok (.ireturn, 1) := by decide +kernel
set_option maxRecDepth 20000 in
theorem ggX4_back_X3_size : GoodIn wsX4_back wsX3_size := goodIn_r _ [7, 8, 51, 52, 53] (by decide +kernel) (by decide +kernel)
set_option maxRecDepth 20000 in
theorem gX4_back_X3_size : GoodIn wsX4_back (wsV RX4 50 RX3 yX3_size wsX3_size) := goodIn_app (goodIn_of _ (by decide +kernel)) ggX4_back_X3_size
set_option maxRecDepth 20000 in
theorem ggX4_back_X3_takeLast : GoodIn wsX4_back wsX3_takeLast := goodIn_r _ [12, 8, 13, 51, 52, 53] (by decide +kernel) (by decide +kernel)
set_option maxRecDepth 20000 in
theorem gX4_back_X3_takeLast : GoodIn wsX4_back (wsV RX4 54 RX3 yX3_takeLast wsX3_takeLast) := goodIn_app (goodIn_of _ (by decide +kernel)) ggX4_back_X3_takeLast
set_option maxRecDepth 20000 in
theorem ggX4_back_X3_set : GoodIn wsX4_back wsX3_set := goodIn_r _ [17, 8, 13, 51, 52, 53] (by decide +kernel) (by decide +kernel)
set_option maxRecDepth 20000 in
theorem gX4_back_X3_set : GoodIn wsX4_back (wsV RX4 57 RX3 yX3_set wsX3_set) := goodIn_app (goodIn_of _ (by decide +kernel)) ggX4_back_X3_set
set_option maxRecDepth 20000 in
theorem ggX4_back_X3_insert : GoodIn wsX4_back wsX3_insert := goodIn_r _ [21, 8, 22, 13, 23, 24, 25, 26, 27, 28, 29, 30, 31, 32, 33, 34, 35, 36, 37, 38, 39, 40, 41, 42, 43, 51, 52, 53] (by decide +kernel) (by decide +kernel)
set_option maxRecDepth 20000 in
theorem gX4_back_X3_insert : GoodIn wsX4_back (wsV RX4 58 RX3 yX3_insert wsX3_insert) := goodIn_app (goodIn_of _ (by decide +kernel)) ggX4_back_X3_insert
set_option maxRecDepth 20000 in
theorem ggX4_back_X3_drop : GoodIn wsX4_back wsX3_drop := goodIn_r _ [47, 8, 13, 27, 28, 29, 30, 51, 52, 53] (by decide +kernel) (by decide +kernel)
set_option maxRecDepth 20000 in
theorem gX4_back_X3_drop : GoodIn wsX4_back (wsV RX4 59 RX3 yX3_drop wsX3_drop) := goodIn_app (goodIn_of _ (by decide +kernel)) ggX4_back_X3_drop
theorem dX4_back_0 : decode cX4_back 0 = .ok (.aload_n 0, 1) := by decide +kernel
theorem dX4_back_1 : decode cX4_back 1 = .ok (.getfield 23, 3) := by decide +kernel
theorem dX4_back_4 : decode cX4_back 4 = .ok (.invokevirtual 50, 3) := by decide +kernel
theorem dX4_back_7 : decode cX4_back 7 = .ok (.istore_n 2, 1) := by decide +kernel
theorem dX4_back_8 : decode cX4_back 8 = .ok (.iload_n 2, 1) := by decide +kernel
theorem dX4_back_9 : decode cX4_back 9 = .ok (.iload_n 1, 1) := by decide +kernel
theorem dX4_back_10 : decode cX4_back 10 = .ok (.if_icmp .le 97, 3) := by decide +kernel
theorem dX4_back_13 : decode cX4_back 13 = .ok (.aload_n 0, 1) := by decide +kernel
theorem dX4_back_14 : decode cX4_back 14 = .ok (.getfield 23, 3) := by decide +kernel
theorem dX4_back_17 : decode cX4_back 17 = .ok (.invokevirtual 54, 3) := by decide +kernel
theorem dX4_back_20 : decode cX4_back 20 = .ok (.istore_n 3, 1) := by decide +kernel
theorem dX4_back_21 : decode cX4_back 21 = .ok (.iload_n 3, 1) := by decide +kernel
theorem dX4_back_22 : decode cX4_back 22 = .ok (.iconst 2, 1) := by decide +kernel
theorem dX4_back_23 : decode cX4_back 23 = .ok (.ishr, 1) := by decide +kernel
theorem dX4_back_24 : decode cX4_back 24 = .ok (.sipush 255, 3) := by decide +kernel
theorem dX4_back_27 : decode cX4_back 27 = .ok (.iand, 1) := by decide +kernel
theorem dX4_back_28 : decode cX4_back 28 = .ok (.istore 4, 2) := by decide +kernel
theorem dX4_back_30 : decode cX4_back 30 = .ok (.iload_n 3, 1) := by decide +kernel
theorem dX4_back_31 : decode cX4_back 31 = .ok (.iconst 3, 1) := by decide +kernel
theorem dX4_back_32 : decode cX4_back 32 = .ok (.iand, 1) := by decide +kernel
theorem dX4_back_33 : decode cX4_back 33 = .ok (.lookupswitch 59 #[(0, 27), (1, 43)], 27) := by decide +kernel
theorem dX4_back_60 : decode cX4_back 60 = .ok (.aload_n 0, 1) := by decide +kernel
theorem dX4_back_61 : decode cX4_back 61 = .ok (.getfield 16, 3) := by decide +kernel
theorem dX4_back_64 : decode cX4_back 64 = .ok (.iload 4, 2) := by decide +kernel
theorem dX4_back_66 : decode cX4_back 66 = .ok (.iload_n 3, 1) := by decide +kernel
theorem dX4_back_67 : decode cX4_back 67 = .ok (.bipush 10, 2) := by decide +kernel
theorem dX4_back_69 : decode cX4_back 69 = .ok (.ishr, 1) := by decide +kernel
theorem dX4_back_70 : decode cX4_back 70 = .ok (.invokevirtual 57, 3) := by decide +kernel
theorem dX4_back_73 : decode cX4_back 73 = .ok (.goto 28, 3) := by decide +kernel
theorem dX4_back_76 : decode cX4_back 76 = .ok (.aload_n 0, 1) := by decide +kernel
theorem dX4_back_77 : decode cX4_back 77 = .ok (.getfield 16, 3) := by decide +kernel
theorem dX4_back_80 : decode cX4_back 80 = .ok (.iload 4, 2) := by decide +kernel
theorem dX4_back_82 : decode cX4_back 82 = .ok (.iload_n 3, 1) := by decide +kernel
theorem dX4_back_83 : decode cX4_back 83 = .ok (.bipush 10, 2) := by decide +kernel
theorem dX4_back_85 : decode cX4_back 85 = .ok (.ishr, 1) := by decide +kernel
theorem dX4_back_86 : decode cX4_back 86 = .ok (.invokevirtual 58, 3) := by decide +kernel
theorem dX4_back_89 : decode cX4_back 89 = .ok (.goto 12, 3) := by decide +kernel
theorem dX4_back_92 : decode cX4_back 92 = .ok (.aload_n 0, 1) := by decide +kernel
theorem dX4_back_93 : decode cX4_back 93 = .ok (.getfield 16, 3) := by decide +kernel
theorem dX4_back_96 : decode cX4_back 96 = .ok (.iload 4, 2) := by decide +kernel
theorem dX4_back_98 : decode cX4_back 98 = .ok (.invokevirtual 59, 3) := by decide +kernel
theorem dX4_back_101 : decode cX4_back 101 = .ok (.iinc 2 (-1), 3) := by decide +kernel
theorem dX4_back_104 : decode cX4_back 104 = .ok (.goto (-96), 3) := by decide +kernel
theorem dX4_back_107 : decode cX4_back 107 = .ok (.return_, 1) := by decide +kernel
set_option maxRecDepth 20000 in
theorem ggX4_cell_X3_get : GoodIn wsX4_cell wsX3_get := goodIn_r _ [6, 7, 8, 45, 46, 47] (by decide +kernel) (by decide +kernel)
set_option maxRecDepth 20000 in
theorem gX4_cell_X3_get : GoodIn wsX4_cell (wsV RX4 33 RX3 yX3_get wsX3_get) := goodIn_app (goodIn_of _ (by decide +kernel)) ggX4_cell_X3_get
set_option maxRecDepth 20000 in
theorem ggX4_cell_X3_size : GoodIn wsX4_cell wsX3_size := goodIn_r _ [12, 7, 45, 46, 47] (by decide +kernel) (by decide +kernel)
set_option maxRecDepth 20000 in
theorem gX4_cell_X3_size : GoodIn wsX4_cell (wsV RX4 50 RX3 yX3_size wsX3_size) := goodIn_app (goodIn_of _ (by decide +kernel)) ggX4_cell_X3_size
set_option maxRecDepth 20000 in
theorem ggX4_cell_X3_add : GoodIn wsX4_cell wsX3_add := goodIn_r _ [16, 7, 17, 8, 18, 19, 20, 21, 22, 23, 24, 25, 26, 27, 28, 29, 30, 31, 32, 33, 34, 35, 36, 37, 45, 46, 47] (by decide +kernel) (by decide +kernel)
set_option maxRecDepth 20000 in
theorem gX4_cell_X3_add : GoodIn wsX4_cell (wsV RX4 60 RX3 yX3_add wsX3_add) := goodIn_app (goodIn_of _ (by decide +kernel)) ggX4_cell_X3_add
set_option maxRecDepth 20000 in
theorem ggX4_cell_X3_set : GoodIn wsX4_cell wsX3_set := goodIn_r _ [41, 7, 8, 45, 46, 47] (by decide +kernel) (by decide +kernel)
set_option maxRecDepth 20000 in
theorem gX4_cell_X3_set : GoodIn wsX4_cell (wsV RX4 57 RX3 yX3_set wsX3_set) := goodIn_app (goodIn_of _ (by decide +kernel)) ggX4_cell_X3_set
theorem dX4_cell_0 : decode cX4_cell 0 = .ok (.aload_n 0, 1) := by decide +kernel
theorem dX4_cell_1 : decode cX4_cell 1 = .ok (.getfield 20, 3) := by decide +kernel
theorem dX4_cell_4 : decode cX4_cell 4 = .ok (.iconst 5, 1) := by decide +kernel
theorem dX4_cell_5 : decode cX4_cell 5 = .ok (.iload_n 2, 1) := by decide +kernel
theorem dX4_cell_6 : decode cX4_cell 6 = .ok (.imul, 1) := by decide +kernel
theorem dX4_cell_7 : decode cX4_cell 7 = .ok (.iconst 3, 1) := by decide +kernel
theorem dX4_cell_8 : decode cX4_cell 8 = .ok (.iadd, 1) := by decide +kernel
theorem dX4_cell_9 : decode cX4_cell 9 = .ok (.invokevirtual 33, 3) := by decide +kernel
theorem dX4_cell_12 : decode cX4_cell 12 = .ok (.istore 4, 2) := by decide +kernel
theorem dX4_cell_14 : decode cX4_cell 14 = .ok (.iconst 0, 1) := by decide +kernel
theorem dX4_cell_15 : decode cX4_cell 15 = .ok (.istore 5, 2) := by decide +kernel
theorem dX4_cell_17 : decode cX4_cell 17 = .ok (.iload 4, 2) := by decide +kernel
theorem dX4_cell_19 : decode cX4_cell 19 = .ok (.ifCond .eq 67, 3) := by decide +kernel
theorem dX4_cell_22 : decode cX4_cell 22 = .ok (.iload 5, 2) := by decide +kernel
theorem dX4_cell_24 : decode cX4_cell 24 = .ok (.sipush 4002, 3) := by decide +kernel
theorem dX4_cell_27 : decode cX4_cell 27 = .ok (.if_icmp .ge 59, 3) := by decide +kernel
theorem dX4_cell_30 : decode cX4_cell 30 = .ok (.iconst 5, 1) := by decide +kernel
theorem dX4_cell_31 : decode cX4_cell 31 = .ok (.iload 4, 2) := by decide +kernel
theorem dX4_cell_33 : decode cX4_cell 33 = .ok (.imul, 1) := by decide +kernel
theorem dX4_cell_34 : decode cX4_cell 34 = .ok (.istore 6, 2) := by decide +kernel
theorem dX4_cell_36 : decode cX4_cell 36 = .ok (.aload_n 0, 1) := by decide +kernel
theorem dX4_cell_37 : decode cX4_cell 37 = .ok (.getfield 20, 3) := by decide +kernel
theorem dX4_cell_40 : decode cX4_cell 40 = .ok (.iload 6, 2) := by decide +kernel
theorem dX4_cell_42 : decode cX4_cell 42 = .ok (.invokevirtual 33, 3) := by decide +kernel
theorem dX4_cell_45 : decode cX4_cell 45 = .ok (.iload_n 1, 1) := by decide +kernel
theorem dX4_cell_46 : decode cX4_cell 46 = .ok (.if_icmp .ne 21, 3) := by decide +kernel
theorem dX4_cell_49 : decode cX4_cell 49 = .ok (.aload_n 0, 1) := by decide +kernel
theorem dX4_cell_50 : decode cX4_cell 50 = .ok (.getfield 20, 3) := by decide +kernel
theorem dX4_cell_53 : decode cX4_cell 53 = .ok (.iload 6, 2) := by decide +kernel
theorem dX4_cell_55 : decode cX4_cell 55 = .ok (.iconst 2, 1) := by decide +kernel
theorem dX4_cell_56 : decode cX4_cell 56 = .ok (.iadd, 1) := by decide +kernel
theorem dX4_cell_57 : decode cX4_cell 57 = .ok (.invokevirtual 33, 3) := by decide +kernel
theorem dX4_cell_60 : decode cX4_cell 60 = .ok (.iload_n 3, 1) := by decide +kernel
theorem dX4_cell_61 : decode cX4_cell 61 = .ok (.if_icmp .ne 6, 3) := by decide +kernel
theorem dX4_cell_64 : decode cX4_cell 64 = .ok (.iload 4, 2) := by decide +kernel
theorem dX4_cell_66 : decode cX4_cell 66 = .ok (.ireturn, 1) := by decide +kernel
theorem dX4_cell_67 : decode cX4_cell 67 = .ok (.aload_n 0, 1) := by decide +kernel
theorem dX4_cell_68 : decode cX4_cell 68 = .ok (.getfield 20, 3) := by decide +kernel
theorem dX4_cell_71 : decode cX4_cell 71 = .ok (.iload 6, 2) := by decide +kernel
theorem dX4_cell_73 : decode cX4_cell 73 = .ok (.iconst 4, 1) := by decide +kernel
theorem dX4_cell_74 : decode cX4_cell 74 = .ok (.iadd, 1) := by decide +kernel
theorem dX4_cell_75 : decode cX4_cell 75 = .ok (.invokevirtual 33, 3) := by decide +kernel
theorem dX4_cell_78 : decode cX4_cell 78 = .ok (.istore 4, 2) := by decide +kernel
theorem dX4_cell_80 : decode cX4_cell 80 = .ok (.iinc 5 1, 3) := by decide +kernel
theorem dX4_cell_83 : decode cX4_cell 83 = .ok (.goto (-66), 3) := by decide +kernel
theorem dX4_cell_86 : decode cX4_cell 86 = .ok (.aload_n 0, 1) := by decide +kernel
theorem dX4_cell_87 : decode cX4_cell 87 = .ok (.getfield 20, 3) := by decide +kernel
theorem dX4_cell_90 : decode cX4_cell 90 = .ok (.invokevirtual 50, 3) := by decide +kernel
theorem dX4_cell_93 : decode cX4_cell 93 = .ok (.iconst 5, 1) := by decide +kernel
theorem dX4_cell_94 : decode cX4_cell 94 = .ok (.idiv, 1) := by decide +kernel
theorem dX4_cell_95 : decode cX4_cell 95 = .ok (.istore 5, 2) := by decide +kernel
theorem dX4_cell_97 : decode cX4_cell 97 = .ok (.aload_n 0, 1) := by decide +kernel
theorem dX4_cell_98 : decode cX4_cell 98 = .ok (.getfield 20, 3) := by decide +kernel
theorem dX4_cell_101 : decode cX4_cell 101 = .ok (.iload_n 1, 1) := by decide +kernel
theorem dX4_cell_102 : decode cX4_cell 102 = .ok (.invokevirtual 60, 3) := by decide +kernel
theorem dX4_cell_105 : decode cX4_cell 105 = .ok (.pop, 1) := by decide +kernel
theorem dX4_cell_106 : decode cX4_cell 106 = .ok (.aload_n 0, 1) := by decide +kernel
theorem dX4_cell_107 : decode cX4_cell 107 = .ok (.getfield 20, 3) := by decide +kernel
theorem dX4_cell_110 : decode cX4_cell 110 = .ok (.iload_n 2, 1) := by decide +kernel
theorem dX4_cell_111 : decode cX4_cell 111 = .ok (.invokevirtual 60, 3) := by decide +kernel
theorem dX4_cell_114 : decode cX4_cell 114 = .ok (.pop, 1) := by decide +kernel
theorem dX4_cell_115 : decode cX4_cell 115 = .ok (.aload_n 0, 1) := by decide +kernel
theorem dX4_cell_116 : decode cX4_cell 116 = .ok (.getfield 20, 3) := by decide +kernel
theorem dX4_cell_119 : decode cX4_cell 119 = .ok (.iload_n 3, 1) := by decide +kernel
theorem dX4_cell_120 : decode cX4_cell 120 = .ok (.invokevirtual 60, 3) := by decide +kernel
theorem dX4_cell_123 : decode cX4_cell 123 = .ok (.pop, 1) := by decide +kernel
theorem dX4_cell_124 : decode cX4_cell 124 = .ok (.aload_n 0, 1) := by decide +kernel
theorem dX4_cell_125 : decode cX4_cell 125 = .ok (.getfield 20, 3) := by decide +kernel
theorem dX4_cell_128 : decode cX4_cell 128 = .ok (.iconst 0, 1) := by decide +kernel
theorem dX4_cell_129 : decode cX4_cell 129 = .ok (.invokevirtual 60, 3) := by decide +kernel
theorem dX4_cell_132 : decode cX4_cell 132 = .ok (.pop, 1) := by decide +kernel
theorem dX4_cell_133 : decode cX4_cell 133 = .ok (.aload_n 0, 1) := by decide +kernel
theorem dX4_cell_134 : decode cX4_cell 134 = .ok (.getfield 20, 3) := by decide +kernel
theorem dX4_cell_137 : decode cX4_cell 137 = .ok (.aload_n 0, 1) := by decide +kernel
theorem dX4_cell_138 : decode cX4_cell 138 = .ok (.getfield 20, 3) := by decide +kernel
theorem dX4_cell_141 : decode cX4_cell 141 = .ok (.iconst 5, 1) := by decide +kernel
theorem dX4_cell_142 : decode cX4_cell 142 = .ok (.iload_n 2, 1) := by decide +kernel
theorem dX4_cell_143 : decode cX4_cell 143 = .ok (.imul, 1) := by decide +kernel
theorem dX4_cell_144 : decode cX4_cell 144 = .ok (.iconst 3, 1) := by decide +kernel
theorem dX4_cell_145 : decode cX4_cell 145 = .ok (.iadd, 1) := by decide +kernel
theorem dX4_cell_146 : decode cX4_cell 146 = .ok (.invokevirtual 33, 3) := by decide +kernel
theorem dX4_cell_149 : decode cX4_cell 149 = .ok (.invokevirtual 60, 3) := by decide +kernel
theorem dX4_cell_152 : decode cX4_cell 152 = .ok (.pop, 1) := by decide +kernel
theorem dX4_cell_153 : decode cX4_cell 153 = .ok (.aload_n 0, 1) := by decide +kernel
theorem dX4_cell_154 : decode cX4_cell 154 = .ok (.getfield 20, 3) := by decide +kernel
theorem dX4_cell_157 : decode cX4_cell 157 = .ok (.iconst 5, 1) := by decide +kernel
theorem dX4_cell_158 : decode cX4_cell 158 = .ok (.iload_n 2, 1) := by decide +kernel
theorem dX4_cell_159 : decode cX4_cell 159 = .ok (.imul, 1) := by decide +kernel
theorem dX4_cell_160 : decode cX4_cell 160 = .ok (.iconst 3, 1) := by decide +kernel
theorem dX4_cell_161 : decode cX4_cell 161 = .ok (.iadd, 1) := by decide +kernel
theorem dX4_cell_162 : decode cX4_cell 162 = .ok (.iload 5, 2) := by decide +kernel
theorem dX4_cell_164 : decode cX4_cell 164 = .ok (.invokevirtual 57, 3) := by decide +kernel
theorem dX4_cell_167 : decode cX4_cell 167 = .ok (.iload 5, 2) := by decide +kernel
theorem dX4_cell_169 : decode cX4_cell 169 = .ok (.ireturn, 1) := by decide +kernel
set_option maxRecDepth 20000 in
theorem ggX4_set_X3_get : GoodIn wsX4_set wsX3_get := goodIn_r _ [7, 8, 9, 50, 51, 52] (by decide +kernel) (by decide +kernel)
set_option maxRecDepth 20000 in
theorem gX4_set_X3_get : GoodIn wsX4_set (wsV RX4 33 RX3 yX3_get wsX3_get) := goodIn_app (goodIn_of _ (by decide +kernel)) ggX4_set_X3_get
set_option maxRecDepth 20000 in
theorem ggX4_set_X4_undoing : GoodIn wsX4_set wsX4_undoing := goodIn_r _ [13] (by decide +kernel) (by decide +kernel)
set_option maxRecDepth 20000 in
theorem gX4_set_X4_undoing : GoodIn wsX4_set (va_wsS RX4 64 yX4_undoing wsX4_undoing) := goodIn_app (goodIn_of _ (by decide +kernel)) ggX4_set_X4_undoing
set_option maxRecDepth 20000 in
theorem ggX4_set_X3_add : GoodIn wsX4_set wsX3_add := goodIn_r _ [17, 8, 18, 9, 19, 20, 21, 22, 23, 24, 25, 26, 27, 28, 29, 30, 31, 32, 33, 34, 35, 36, 37, 38, 50, 51, 52] (by decide +kernel) (by decide +kernel)
set_option maxRecDepth 20000 in
theorem gX4_set_X3_add : GoodIn wsX4_set (wsV RX4 60 RX3 yX3_add wsX3_add) := goodIn_app (goodIn_of _ (by decide +kernel)) ggX4_set_X3_add
set_option maxRecDepth 20000 in
theorem ggX4_set_X3_size : GoodIn wsX4_set wsX3_size := goodIn_r _ [42, 8, 50, 51, 52] (by decide +kernel) (by decide +kernel)
set_option maxRecDepth 20000 in
theorem gX4_set_X3_size : GoodIn wsX4_set (wsV RX4 50 RX3 yX3_size wsX3_size) := goodIn_app (goodIn_of _ (by decide +kernel)) ggX4_set_X3_size
set_option maxRecDepth 20000 in
theorem ggX4_set_X3_set : GoodIn wsX4_set wsX3_set := goodIn_r _ [46, 8, 9, 50, 51, 52] (by decide +kernel) (by decide +kernel)
set_option maxRecDepth 20000 in
theorem gX4_set_X3_set : GoodIn wsX4_set (wsV RX4 57 RX3 yX3_set wsX3_set) := goodIn_app (goodIn_of _ (by decide +kernel)) ggX4_set_X3_set
theorem dX4_set_0 : decode cX4_set 0 = .ok (.aload_n 0, 1) := by decide +kernel
