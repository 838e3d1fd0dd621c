theorem dX10_readsTerm_1 : decode cX10_readsTerm 1 = .ok (.invokevirtual 201, 3) := by decide +kernel
theorem dX10_readsTerm_4 : decode cX10_readsTerm 4 = .ok (.ifCond .ne 4, 3) := by decide +kernel
theorem dX10_readsTerm_7 : decode cX10_readsTerm 7 = .ok (.return_, 1) := by decide +kernel
theorem dX10_readsTerm_8 : decode cX10_readsTerm 8 = .ok (.aload_n 0, 1) := by decide +kernel
theorem dX10_readsTerm_9 : decode cX10_readsTerm 9 = .ok (.bipush 92, 2) := by decide +kernel
theorem dX10_readsTerm_11 : decode cX10_readsTerm 11 = .ok (.invokevirtual 205, 3) := by decide +kernel
theorem dX10_readsTerm_14 : decode cX10_readsTerm 14 = .ok (.ifCond .eq 8, 3) := by decide +kernel
theorem dX10_readsTerm_17 : decode cX10_readsTerm 17 = .ok (.aload_n 0, 1) := by decide +kernel
theorem dX10_readsTerm_18 : decode cX10_readsTerm 18 = .ok (.invokevirtual 253, 3) := by decide +kernel
theorem dX10_readsTerm_21 : decode cX10_readsTerm 21 = .ok (.return_, 1) := by decide +kernel
theorem dX10_readsTerm_22 : decode cX10_readsTerm 22 = .ok (.aload_n 0, 1) := by decide +kernel
theorem dX10_readsTerm_23 : decode cX10_readsTerm 23 = .ok (.getfield 215, 3) := by decide +kernel
theorem dX10_readsTerm_26 : decode cX10_readsTerm 26 = .ok (.istore_n 1, 1) := by decide +kernel
theorem dX10_readsTerm_27 : decode cX10_readsTerm 27 = .ok (.aload_n 0, 1) := by decide +kernel
theorem dX10_readsTerm_28 : decode cX10_readsTerm 28 = .ok (.invokevirtual 256, 3) := by decide +kernel
theorem dX10_readsTerm_31 : decode cX10_readsTerm 31 = .ok (.aload_n 0, 1) := by decide +kernel
theorem dX10_readsTerm_32 : decode cX10_readsTerm 32 = .ok (.invokevirtual 235, 3) := by decide +kernel
theorem dX10_readsTerm_35 : decode cX10_readsTerm 35 = .ok (.ifCond .eq 16, 3) := by decide +kernel
theorem dX10_readsTerm_38 : decode cX10_readsTerm 38 = .ok (.aload_n 0, 1) := by decide +kernel
theorem dX10_readsTerm_39 : decode cX10_readsTerm 39 = .ok (.iload_n 1, 1) := by decide +kernel
theorem dX10_readsTerm_40 : decode cX10_readsTerm 40 = .ok (.iconst 0, 1) := by decide +kernel
theorem dX10_readsTerm_41 : decode cX10_readsTerm 41 = .ok (.invokevirtual 259, 3) := by decide +kernel
theorem dX10_readsTerm_44 : decode cX10_readsTerm 44 = .ok (.aload_n 0, 1) := by decide +kernel
theorem dX10_readsTerm_45 : decode cX10_readsTerm 45 = .ok (.invokevirtual 256, 3) := by decide +kernel
theorem dX10_readsTerm_48 : decode cX10_readsTerm 48 = .ok (.goto (-17), 3) := by decide +kernel
theorem dX10_readsTerm_51 : decode cX10_readsTerm 51 = .ok (.return_, 1) := by decide +kernel
set_option maxRecDepth 20000 in
theorem ggX10_isTelling_X10_fine : GoodIn wsX10_isTelling wsX10_fine := goodIn_r _ [7, 8, 19, 20, 21, 22, 23, 24, 25, 26, 27, 28, 29, 30, 31, 32, 33, 34, 35, 36, 37, 38, 39, 40, 41, 42, 43, 44, 45, 46, 47, 48, 49, 50, 51, 52, 53, 54, 55, 56, 57, 58, 59, 60, 61, 62, 63, 64, 65, 66, 67, 68, 69, 70, 71, 72, 73, 74, 75, 76, 77, 78, 79, 80, 81, 82, 83, 84, 85, 86, 87, 88, 89, 90, 91, 92, 93, 94] (by decide +kernel) (by decide +kernel)
set_option maxRecDepth 20000 in
theorem gX10_isTelling_X10_fine : GoodIn wsX10_isTelling (wsV RX10 201 RX10 yX10_fine wsX10_fine) := goodIn_app (goodIn_of _ (by decide +kernel)) ggX10_isTelling_X10_fine
set_option maxRecDepth 20000 in
theorem ggX10_isTelling_X10_blanksFrom : GoodIn wsX10_isTelling wsX10_blanksFrom := goodIn_r _ [12, 13, 14, 15, 6, 16, 17, 18, 19, 20, 21, 22, 23, 24, 25, 26, 27, 28, 29, 30, 31, 32, 33, 34, 35, 36, 37, 38, 39, 40, 41, 42, 43, 44, 45, 46, 47, 48, 49, 50, 51, 52, 53, 54, 55, 56, 57, 58, 59, 60, 61, 62, 63, 64, 65, 66, 67, 68, 69, 70, 71, 72, 73, 74, 75, 76, 77, 78, 79, 80, 81, 82, 83, 84, 85, 86, 87, 88, 89, 90, 91, 92, 93, 94] (by decide +kernel) (by decide +kernel)
set_option maxRecDepth 20000 in
theorem gX10_isTelling_X10_blanksFrom : GoodIn wsX10_isTelling (wsV RX10 165 RX10 yX10_blanksFrom wsX10_blanksFrom) := goodIn_app (goodIn_of _ (by decide +kernel)) ggX10_isTelling_X10_blanksFrom
set_option maxRecDepth 20000 in
theorem ggX10_isTelling_X10_byteAt : GoodIn wsX10_isTelling wsX10_byteAt := goodIn_r _ [16, 17, 18, 19, 20, 21, 22, 23, 24, 25, 26, 27, 28, 29, 30, 31, 32, 33, 34, 35, 36, 37, 38, 39, 40, 41, 42, 43, 44, 45, 46, 47, 48, 49, 50, 51, 52, 53, 54, 55, 56, 57, 58, 59, 60, 61, 62, 63, 64, 65, 66, 67, 68, 69, 70, 71, 72, 73, 74, 75, 76, 77, 78, 79, 80, 81, 82, 83, 84, 85, 86, 87, 88, 89, 90, 91, 92, 93, 94] (by decide +kernel) (by decide +kernel)
set_option maxRecDepth 20000 in
theorem gX10_isTelling_X10_byteAt : GoodIn wsX10_isTelling (wsV RX10 158 RX10 yX10_byteAt wsX10_byteAt) := goodIn_app (goodIn_of _ (by decide +kernel)) ggX10_isTelling_X10_byteAt
theorem dX10_isTelling_0 : decode cX10_isTelling 0 = .ok (.aload_n 0, 1) := by decide +kernel
theorem dX10_isTelling_1 : decode cX10_isTelling 1 = .ok (.invokevirtual 201, 3) := by decide +kernel
theorem dX10_isTelling_4 : decode cX10_isTelling 4 = .ok (.ifCond .eq 32, 3) := by decide +kernel
theorem dX10_isTelling_7 : decode cX10_isTelling 7 = .ok (.aload_n 0, 1) := by decide +kernel
theorem dX10_isTelling_8 : decode cX10_isTelling 8 = .ok (.getfield 171, 3) := by decide +kernel
theorem dX10_isTelling_11 : decode cX10_isTelling 11 = .ok (.iconst 1, 1) := by decide +kernel
theorem dX10_isTelling_12 : decode cX10_isTelling 12 = .ok (.if_icmp .ne 24, 3) := by decide +kernel
theorem dX10_isTelling_15 : decode cX10_isTelling 15 = .ok (.aload_n 0, 1) := by decide +kernel
theorem dX10_isTelling_16 : decode cX10_isTelling 16 = .ok (.aload_n 0, 1) := by decide +kernel
theorem dX10_isTelling_17 : decode cX10_isTelling 17 = .ok (.aload_n 0, 1) := by decide +kernel
theorem dX10_isTelling_18 : decode cX10_isTelling 18 = .ok (.getfield 162, 3) := by decide +kernel
theorem dX10_isTelling_21 : decode cX10_isTelling 21 = .ok (.invokevirtual 165, 3) := by decide +kernel
theorem dX10_isTelling_24 : decode cX10_isTelling 24 = .ok (.invokevirtual 158, 3) := by decide +kernel
theorem dX10_isTelling_27 : decode cX10_isTelling 27 = .ok (.bipush 61, 2) := by decide +kernel
theorem dX10_isTelling_29 : decode cX10_isTelling 29 = .ok (.if_icmp .ne 7, 3) := by decide +kernel
theorem dX10_isTelling_32 : decode cX10_isTelling 32 = .ok (.iconst 1, 1) := by decide +kernel
theorem dX10_isTelling_33 : decode cX10_isTelling 33 = .ok (.goto 4, 3) := by decide +kernel
theorem dX10_isTelling_36 : decode cX10_isTelling 36 = .ok (.iconst 0, 1) := by decide +kernel
theorem dX10_isTelling_37 : decode cX10_isTelling 37 = .ok (.ireturn, 1) := by decide +kernel
set_option maxRecDepth 20000 in
theorem ggX10_readsTelling_X10_check : GoodIn wsX10_readsTelling wsX10_check := goodIn_r _ [13, 14, 15, 16, 17, 18, 19, 12, 20, 102, 103, 104, 105, 106, 107, 108, 109, 110, 111, 112, 113, 114, 115, 116, 117, 118, 119, 120, 121, 122, 123, 124, 125, 126, 127, 128, 129, 130, 131, 132, 133, 134, 135, 136, 137, 138, 139, 140, 141, 142, 143, 144, 145, 146, 147, 148, 149, 150, 151, 152, 153, 154, 155, 156, 157, 158, 159, 160, 161, 162, 163, 164, 165, 166, 167, 168, 169, 170, 171, 172, 173, 174, 175, 176, 177] (by decide +kernel) (by decide +kernel)
set_option maxRecDepth 20000 in
theorem gX10_readsTelling_X10_check : GoodIn wsX10_readsTelling (wsV RX10 208 RX10 yX10_check wsX10_check) := goodIn_app (goodIn_of _ (by decide +kernel)) ggX10_readsTelling_X10_check
set_option maxRecDepth 20000 in
theorem ggX10_readsTelling_X10_nameOf : GoodIn wsX10_readsTelling wsX10_nameOf := goodIn_r _ [24, 2, 5, 102, 103, 104, 105, 106, 107, 108, 109, 110, 111, 112, 113, 114, 115, 116, 117, 118, 119, 120, 121, 122, 123, 124, 125, 126, 127, 128, 129, 130, 131, 132, 133, 134, 135, 136, 137, 138, 139, 140, 141, 142, 143, 144, 145, 146, 147, 148, 149, 150, 151, 152, 153, 154, 155, 156, 157, 158, 159, 160, 161, 162, 163, 164, 165, 166, 167, 168, 169, 170, 171, 172, 173, 174, 175, 176, 177] (by decide +kernel) (by decide +kernel)
set_option maxRecDepth 20000 in
theorem gX10_readsTelling_X10_nameOf : GoodIn wsX10_readsTelling (wsV RX10 228 RX10 yX10_nameOf wsX10_nameOf) := goodIn_app (goodIn_of _ (by decide +kernel)) ggX10_readsTelling_X10_nameOf
set_option maxRecDepth 20000 in
theorem ggX10_readsTelling_X10_goes : GoodIn wsX10_readsTelling wsX10_goes := goodIn_r _ [28, 29, 15, 30, 3, 1, 31, 32, 33, 34, 35, 36, 37, 12, 38, 39, 40, 41, 42, 43, 44, 45, 46, 47, 48, 49, 50, 51, 52, 53, 102, 103, 104, 105, 106, 107, 108, 109, 110, 111, 112, 113, 114, 115, 116, 117, 118, 119, 120, 121, 122, 123, 124, 125, 126, 127, 128, 129, 130, 131, 132, 133, 134, 135, 136, 137, 138, 139, 140, 141, 142, 143, 144, 145, 146, 147, 148, 149, 150, 151, 152, 153, 154, 155, 156, 157, 158, 159, 160, 161, 162, 163, 164, 165, 166, 167, 168, 169, 170, 171, 172, 173, 174, 175, 176, 177] (by decide +kernel) (by decide +kernel)
set_option maxRecDepth 20000 in
theorem gX10_readsTelling_X10_goes : GoodIn wsX10_readsTelling (wsV RX10 212 RX10 yX10_goes wsX10_goes) := goodIn_app (goodIn_of _ (by decide +kernel)) ggX10_readsTelling_X10_goes
set_option maxRecDepth 20000 in
theorem ggX10_readsTelling_X10_must : GoodIn wsX10_readsTelling wsX10_must := goodIn_r _ [57, 58, 59, 60, 12, 61, 30, 33, 17, 18, 19, 20, 14, 9, 10, 11, 13, 15, 16, 25, 26, 27, 28, 29, 3, 1, 31, 32, 34, 35, 36, 37, 38, 39, 40, 41, 42, 43, 44, 45, 46, 47, 48, 49, 50, 51, 52, 53, 102, 103, 104, 105, 106, 107, 108, 109, 110, 111, 112, 113, 114, 115, 116, 117, 118, 119, 120, 121, 122, 123, 124, 125, 126, 127, 128, 129, 130, 131, 132, 133, 134, 135, 136, 137, 138, 139, 140, 141, 142, 143, 144, 145, 146, 147, 148, 149, 150, 151, 152, 153, 154, 155, 156, 157, 158, 159, 160, 161, 162, 163, 164, 165, 166, 167, 168, 169, 170, 171, 172, 173, 174, 175, 176, 177] (by decide +kernel) (by decide +kernel)
set_option maxRecDepth 20000 in
theorem gX10_readsTelling_X10_must : GoodIn wsX10_readsTelling (wsV RX10 250 RX10 yX10_must wsX10_must) := goodIn_app (goodIn_of _ (by decide +kernel)) ggX10_readsTelling_X10_must
set_option maxRecDepth 20000 in
theorem ggX10_readsTelling_X10_readsTerm : GoodIn wsX10_readsTelling wsX10_readsTerm := goodIn_r _ [65, 4, 17, 18, 19, 12, 20, 14, 58, 59, 60, 61, 30, 33, 66, 67, 68, 69, 70, 71, 72, 73, 74, 75, 76, 77, 78, 79, 8, 80, 81, 82, 9, 10, 11, 13, 15, 16, 83, 84, 85, 86, 1, 87, 88, 3, 89, 90, 91, 92, 25, 26, 27, 28, 29, 31, 32, 34, 35, 36, 37, 38, 39, 40, 41, 42, 43, 44, 45, 46, 47, 48, 49, 50, 51, 52, 53, 21, 22, 23, 24, 2, 5, 93, 94, 95, 96, 6, 7, 97, 98, 99, 100, 62, 63, 64, 54, 55, 56, 57, 101, 102, 103, 104, 105, 106, 107, 108, 109, 110, 111, 112, 113, 114, 115, 116, 117, 118, 119, 120, 121, 122, 123, 124, 125, 126, 127, 128, 129, 130, 131, 132, 133, 134, 135, 136, 137, 138, 139, 140, 141, 142, 143, 144, 145, 146, 147, 148, 149, 150, 151, 152, 153, 154, 155, 156, 157, 158, 159, 160, 161, 162, 163, 164, 165, 166, 167, 168, 169, 170, 171, 172, 173, 174, 175, 176, 177] (by decide +kernel) (by decide +kernel)
set_option maxRecDepth 20000 in
theorem gX10_readsTelling_X10_readsTerm : GoodIn wsX10_readsTelling (wsV RX10 247 RX10 yX10_readsTerm wsX10_readsTerm) := goodIn_app (goodIn_of _ (by decide +kernel)) ggX10_readsTelling_X10_readsTerm
set_option maxRecDepth 20000 in
theorem ggX10_readsTelling_X10_fine : GoodIn wsX10_readsTelling wsX10_fine := goodIn_r _ [20, 14, 102, 103, 104, 105, 106, 107, 108, 109, 110, 111, 112, 113, 114, 115, 116, 117, 118, 119, 120, 121, 122, 123, 124, 125, 126, 127, 128, 129, 130, 131, 132, 133, 134, 135, 136, 137, 138, 139, 140, 141, 142, 143, 144, 145, 146, 147, 148, 149, 150, 151, 152, 153, 154, 155, 156, 157, 158, 159, 160, 161, 162, 163, 164, 165, 166, 167, 168, 169, 170, 171, 172, 173, 174, 175, 176, 177] (by decide +kernel) (by decide +kernel)
set_option maxRecDepth 20000 in
theorem gX10_readsTelling_X10_fine : GoodIn wsX10_readsTelling (wsV RX10 201 RX10 yX10_fine wsX10_fine) := goodIn_app (goodIn_of _ (by decide +kernel)) ggX10_readsTelling_X10_fine
theorem dX10_readsTelling_0 : decode cX10_readsTelling 0 = .ok (.aload_n 0, 1) := by decide +kernel
theorem dX10_readsTelling_1 : decode cX10_readsTelling 1 = .ok (.aload_n 0, 1) := by decide +kernel
theorem dX10_readsTelling_2 : decode cX10_readsTelling 2 = .ok (.getfield 182, 3) := by decide +kernel
theorem dX10_readsTelling_5 : decode cX10_readsTelling 5 = .ok (.bipush 8, 2) := by decide +kernel
theorem dX10_readsTelling_7 : decode cX10_readsTelling 7 = .ok (.if_icmp .gt 16, 3) := by decide +kernel
theorem dX10_readsTelling_10 : decode cX10_readsTelling 10 = .ok (.aload_n 0, 1) := by decide +kernel
theorem dX10_readsTelling_11 : decode cX10_readsTelling 11 = .ok (.getfield 219, 3) := by decide +kernel
theorem dX10_readsTelling_14 : decode cX10_readsTelling 14 = .ok (.bipush 12, 2) := by decide +kernel
theorem dX10_readsTelling_16 : decode cX10_readsTelling 16 = .ok (.if_icmp .ge 7, 3) := by decide +kernel
theorem dX10_readsTelling_19 : decode cX10_readsTelling 19 = .ok (.iconst 1, 1) := by decide +kernel
theorem dX10_readsTelling_20 : decode cX10_readsTelling 20 = .ok (.goto 4, 3) := by decide +kernel
theorem dX10_readsTelling_23 : decode cX10_readsTelling 23 = .ok (.iconst 0, 1) := by decide +kernel
theorem dX10_readsTelling_24 : decode cX10_readsTelling 24 = .ok (.iconst 2, 1) := by decide +kernel
theorem dX10_readsTelling_25 : decode cX10_readsTelling 25 = .ok (.invokevirtual 208, 3) := by decide +kernel
theorem dX10_readsTelling_28 : decode cX10_readsTelling 28 = .ok (.ifCond .eq 28, 3) := by decide +kernel
theorem dX10_readsTelling_31 : decode cX10_readsTelling 31 = .ok (.aload_n 0, 1) := by decide +kernel
theorem dX10_readsTelling_32 : decode cX10_readsTelling 32 = .ok (.aload_n 0, 1) := by decide +kernel
theorem dX10_readsTelling_33 : decode cX10_readsTelling 33 = .ok (.aload_n 0, 1) := by decide +kernel
theorem dX10_readsTelling_34 : decode cX10_readsTelling 34 = .ok (.getfield 178, 3) := by decide +kernel
theorem dX10_readsTelling_37 : decode cX10_readsTelling 37 = .ok (.invokevirtual 228, 3) := by decide +kernel
theorem dX10_readsTelling_40 : decode cX10_readsTelling 40 = .ok (.iconst (-1), 1) := by decide +kernel
theorem dX10_readsTelling_41 : decode cX10_readsTelling 41 = .ok (.if_icmp .ne 7, 3) := by decide +kernel
theorem dX10_readsTelling_44 : decode cX10_readsTelling 44 = .ok (.iconst 1, 1) := by decide +kernel
theorem dX10_readsTelling_45 : decode cX10_readsTelling 45 = .ok (.goto 4, 3) := by decide +kernel
theorem dX10_readsTelling_48 : decode cX10_readsTelling 48 = .ok (.iconst 0, 1) := by decide +kernel
theorem dX10_readsTelling_49 : decode cX10_readsTelling 49 = .ok (.iconst 4, 1) := by decide +kernel
theorem dX10_readsTelling_50 : decode cX10_readsTelling 50 = .ok (.invokevirtual 208, 3) := by decide +kernel
theorem dX10_readsTelling_53 : decode cX10_readsTelling 53 = .ok (.ifCond .ne 4, 3) := by decide +kernel
theorem dX10_readsTelling_56 : decode cX10_readsTelling 56 = .ok (.return_, 1) := by decide +kernel
theorem dX10_readsTelling_57 : decode cX10_readsTelling 57 = .ok (.aload_n 0, 1) := by decide +kernel
theorem dX10_readsTelling_58 : decode cX10_readsTelling 58 = .ok (.getfield 178, 3) := by decide +kernel
theorem dX10_readsTelling_61 : decode cX10_readsTelling 61 = .ok (.lstore_n 1, 1) := by decide +kernel
theorem dX10_readsTelling_62 : decode cX10_readsTelling 62 = .ok (.aload_n 0, 1) := by decide +kernel
theorem dX10_readsTelling_63 : decode cX10_readsTelling 63 = .ok (.invokevirtual 212, 3) := by decide +kernel
theorem dX10_readsTelling_66 : decode cX10_readsTelling 66 = .ok (.aload_n 0, 1) := by decide +kernel
theorem dX10_readsTelling_67 : decode cX10_readsTelling 67 = .ok (.bipush 61, 2) := by decide +kernel
theorem dX10_readsTelling_69 : decode cX10_readsTelling 69 = .ok (.invokevirtual 250, 3) := by decide +kernel
theorem dX10_readsTelling_72 : decode cX10_readsTelling 72 = .ok (.aload_n 0, 1) := by decide +kernel
theorem dX10_readsTelling_73 : decode cX10_readsTelling 73 = .ok (.iconst 0, 1) := by decide +kernel
theorem dX10_readsTelling_74 : decode cX10_readsTelling 74 = .ok (.putfield 215, 3) := by decide +kernel
theorem dX10_readsTelling_77 : decode cX10_readsTelling 77 = .ok (.aload_n 0, 1) := by decide +kernel
theorem dX10_readsTelling_78 : decode cX10_readsTelling 78 = .ok (.invokevirtual 247, 3) := by decide +kernel
theorem dX10_readsTelling_81 : decode cX10_readsTelling 81 = .ok (.aload_n 0, 1) := by decide +kernel
theorem dX10_readsTelling_82 : decode cX10_readsTelling 82 = .ok (.bipush 59, 2) := by decide +kernel
theorem dX10_readsTelling_84 : decode cX10_readsTelling 84 = .ok (.invokevirtual 250, 3) := by decide +kernel
theorem dX10_readsTelling_87 : decode cX10_readsTelling 87 = .ok (.aload_n 0, 1) := by decide +kernel
theorem dX10_readsTelling_88 : decode cX10_readsTelling 88 = .ok (.invokevirtual 201, 3) := by decide +kernel
theorem dX10_readsTelling_91 : decode cX10_readsTelling 91 = .ok (.ifCond .ne 4, 3) := by decide +kernel
theorem dX10_readsTelling_94 : decode cX10_readsTelling 94 = .ok (.return_, 1) := by decide +kernel
theorem dX10_readsTelling_95 : decode cX10_readsTelling 95 = .ok (.aload_n 0, 1) := by decide +kernel
theorem dX10_readsTelling_96 : decode cX10_readsTelling 96 = .ok (.getfield 23, 3) := by decide +kernel
theorem dX10_readsTelling_99 : decode cX10_readsTelling 99 = .ok (.aload_n 0, 1) := by decide +kernel
theorem dX10_readsTelling_100 : decode cX10_readsTelling 100 = .ok (.getfield 219, 3) := by decide +kernel
theorem dX10_readsTelling_103 : decode cX10_readsTelling 103 = .ok (.lload_n 1, 1) := by decide +kernel
theorem dX10_readsTelling_104 : decode cX10_readsTelling 104 = .ok (.lastore, 1) := by decide +kernel
theorem dX10_readsTelling_105 : decode cX10_readsTelling 105 = .ok (.aload_n 0, 1) := by decide +kernel
theorem dX10_readsTelling_106 : decode cX10_readsTelling 106 = .ok (.getfield 30, 3) := by decide +kernel
theorem dX10_readsTelling_109 : decode cX10_readsTelling 109 = .ok (.aload_n 0, 1) := by decide +kernel
theorem dX10_readsTelling_110 : decode cX10_readsTelling 110 = .ok (.getfield 219, 3) := by decide +kernel
theorem dX10_readsTelling_113 : decode cX10_readsTelling 113 = .ok (.aload_n 0, 1) := by decide +kernel
theorem dX10_readsTelling_114 : decode cX10_readsTelling 114 = .ok (.getfield 215, 3) := by decide +kernel
theorem dX10_readsTelling_117 : decode cX10_readsTelling 117 = .ok (.iastore, 1) := by decide +kernel
theorem dX10_readsTelling_118 : decode cX10_readsTelling 118 = .ok (.iconst 0, 1) := by decide +kernel
theorem dX10_readsTelling_119 : decode cX10_readsTelling 119 = .ok (.istore_n 3, 1) := by decide +kernel
theorem dX10_readsTelling_120 : decode cX10_readsTelling 120 = .ok (.iload_n 3, 1) := by decide +kernel
theorem dX10_readsTelling_121 : decode cX10_readsTelling 121 = .ok (.aload_n 0, 1) := by decide +kernel
theorem dX10_readsTelling_122 : decode cX10_readsTelling 122 = .ok (.getfield 215, 3) := by decide +kernel
theorem dX10_readsTelling_125 : decode cX10_readsTelling 125 = .ok (.if_icmp .ge 35, 3) := by decide +kernel
theorem dX10_readsTelling_128 : decode cX10_readsTelling 128 = .ok (.iload_n 3, 1) := by decide +kernel
theorem dX10_readsTelling_129 : decode cX10_readsTelling 129 = .ok (.bipush 124, 2) := by decide +kernel
theorem dX10_readsTelling_131 : decode cX10_readsTelling 131 = .ok (.if_icmp .ge 29, 3) := by decide +kernel
theorem dX10_readsTelling_134 : decode cX10_readsTelling 134 = .ok (.aload_n 0, 1) := by decide +kernel
theorem dX10_readsTelling_135 : decode cX10_readsTelling 135 = .ok (.getfield 27, 3) := by decide +kernel
theorem dX10_readsTelling_138 : decode cX10_readsTelling 138 = .ok (.bipush 124, 2) := by decide +kernel
theorem dX10_readsTelling_140 : decode cX10_readsTelling 140 = .ok (.aload_n 0, 1) := by decide +kernel
theorem dX10_readsTelling_141 : decode cX10_readsTelling 141 = .ok (.getfield 219, 3) := by decide +kernel
theorem dX10_readsTelling_144 : decode cX10_readsTelling 144 = .ok (.imul, 1) := by decide +kernel
theorem dX10_readsTelling_145 : decode cX10_readsTelling 145 = .ok (.iload_n 3, 1) := by decide +kernel
theorem dX10_readsTelling_146 : decode cX10_readsTelling 146 = .ok (.iadd, 1) := by decide +kernel
theorem dX10_readsTelling_147 : decode cX10_readsTelling 147 = .ok (.aload_n 0, 1) := by decide +kernel
theorem dX10_readsTelling_148 : decode cX10_readsTelling 148 = .ok (.getfield 36, 3) := by decide +kernel
theorem dX10_readsTelling_151 : decode cX10_readsTelling 151 = .ok (.iload_n 3, 1) := by decide +kernel
theorem dX10_readsTelling_152 : decode cX10_readsTelling 152 = .ok (.iaload, 1) := by decide +kernel
theorem dX10_readsTelling_153 : decode cX10_readsTelling 153 = .ok (.iastore, 1) := by decide +kernel
theorem dX10_readsTelling_154 : decode cX10_readsTelling 154 = .ok (.iinc 3 1, 3) := by decide +kernel
theorem dX10_readsTelling_157 : decode cX10_readsTelling 157 = .ok (.goto (-37), 3) := by decide +kernel
theorem dX10_readsTelling_160 : decode cX10_readsTelling 160 = .ok (.aload_n 0, 1) := by decide +kernel
theorem dX10_readsTelling_161 : decode cX10_readsTelling 161 = .ok (.dup, 1) := by decide +kernel
theorem dX10_readsTelling_162 : decode cX10_readsTelling 162 = .ok (.getfield 219, 3) := by decide +kernel
theorem dX10_readsTelling_165 : decode cX10_readsTelling 165 = .ok (.iconst 1, 1) := by decide +kernel
theorem dX10_readsTelling_166 : decode cX10_readsTelling 166 = .ok (.iadd, 1) := by decide +kernel
theorem dX10_readsTelling_167 : decode cX10_readsTelling 167 = .ok (.putfield 219, 3) := by decide +kernel
theorem dX10_readsTelling_170 : decode cX10_readsTelling 170 = .ok (.return_, 1) := by decide +kernel
set_option maxRecDepth 20000 in
theorem ggX10_readsAll_X10_goes : GoodIn wsX10_readsAll wsX10_goes := goodIn_r _ [13, 1, 14, 8, 15, 16, 17, 18, 19, 20, 21, 22, 23, 12, 24, 25, 26, 27, 28, 29, 30, 31, 32, 33, 34, 35, 36, 37, 38, 39, 110, 111, 112, 113, 114, 115, 116, 117, 118, 119, 120, 121, 122, 123, 124, 125, 126, 127, 128, 129, 130, 131, 132, 133, 134, 135, 136, 137, 138, 139, 140, 141, 142, 143, 144, 145, 146, 147, 148, 149, 150, 151, 152, 153, 154, 155, 156, 157, 158, 159, 160, 161, 162, 163, 164, 165, 166, 167, 168, 169, 170, 171, 172, 173, 174, 175, 176, 177, 178, 179, 180, 181, 182, 183, 184, 185] (by decide +kernel) (by decide +kernel)
set_option maxRecDepth 20000 in
theorem gX10_readsAll_X10_goes : GoodIn wsX10_readsAll (wsV RX10 212 RX10 yX10_goes wsX10_goes) := goodIn_app (goodIn_of _ (by decide +kernel)) ggX10_readsAll_X10_goes
set_option maxRecDepth 20000 in
theorem ggX10_readsAll_X10_isTelling : GoodIn wsX10_readsAll wsX10_isTelling := goodIn_r _ [43, 8, 1, 44, 45, 46, 12, 47, 2, 21, 22, 23, 24, 25, 26, 27, 28, 29, 30, 110, 111, 112, 113, 114, 115, 116, 117, 118, 119, 120, 121, 122, 123, 124, 125, 126, 127, 128, 129, 130, 131, 132, 133, 134, 135, 136, 137, 138, 139, 140, 141, 142, 143, 144, 145, 146, 147, 148, 149, 150, 151, 152, 153, 154, 155, 156, 157, 158, 159, 160, 161, 162, 163, 164, 165, 166, 167, 168, 169, 170, 171, 172, 173, 174, 175, 176, 177, 178, 179, 180, 181, 182, 183, 184, 185] (by decide +kernel) (by decide +kernel)
set_option maxRecDepth 20000 in
theorem gX10_readsAll_X10_isTelling : GoodIn wsX10_readsAll (wsV RX10 263 RX10 yX10_isTelling wsX10_isTelling) := goodIn_app (goodIn_of _ (by decide +kernel)) ggX10_readsAll_X10_isTelling
set_option maxRecDepth 20000 in
theorem ggX10_readsAll_X10_readsTelling : GoodIn wsX10_readsAll wsX10_readsTelling := goodIn_r _ [51, 16, 4, 15, 7, 52, 53, 54, 55, 56, 57, 58, 12, 59, 2, 14, 3, 44, 45, 46, 47, 60, 61, 62, 63, 9, 10, 11, 13, 1, 8, 17, 18, 19, 20, 21, 22, 23, 24, 25, 26, 27, 28, 29, 30, 31, 32, 33, 34, 35, 36, 37, 38, 39, 64, 65, 66, 67, 68, 69, 70, 71, 72, 73, 74, 75, 76, 77, 78, 79, 80, 81, 82, 83, 84, 85, 86, 87, 88, 89, 90, 91, 6, 92, 93, 94, 95, 5, 96, 97, 98, 99, 100, 101, 102, 103, 104, 105, 106, 107, 108, 109, 110, 111, 112, 113, 114, 115, 116, 117, 118, 119, 120, 121, 122, 123, 124, 125, 126, 127, 128, 129, 130, 131, 132, 133, 134, 135, 136, 137, 138, 139, 140, 141, 142, 143, 144, 145, 146, 147, 148, 149, 150, 151, 152, 153, 154, 155, 156, 157, 158, 159, 160, 161, 162, 163, 164, 165, 166, 167, 168, 169, 170, 171, 172, 173, 174, 175, 176, 177, 178, 179, 180, 181, 182, 183, 184, 185] (by decide +kernel) (by decide +kernel)
set_option maxRecDepth 20000 in
theorem gX10_readsAll_X10_readsTelling : GoodIn wsX10_readsAll (wsV RX10 266 RX10 yX10_readsTelling wsX10_readsTelling) := goodIn_app (goodIn_of _ (by decide +kernel)) ggX10_readsAll_X10_readsTelling
set_option maxRecDepth 20000 in
theorem ggX10_readsAll_X10_readsTerm : GoodIn wsX10_readsAll wsX10_readsTerm := goodIn_r _ [75, 7, 44, 45, 46, 12, 47, 2, 68, 69, 70, 71, 8, 19, 76, 77, 78, 79, 80, 81, 82, 83, 84, 85, 86, 87, 88, 89, 55, 90, 91, 6, 56, 57, 58, 59, 14, 3, 92, 93, 94, 95, 16, 5, 96, 15, 97, 98, 99, 100, 9, 10, 11, 13, 1, 17, 18, 20, 21, 22, 23, 24, 25, 26, 27, 28, 29, 30, 31, 32, 33, 34, 35, 36, 37, 38, 39, 60, 61, 62, 63, 4, 52, 101, 102, 103, 104, 53, 54, 105, 106, 107, 108, 72, 73, 74, 64, 65, 66, 67, 109, 110, 111, 112, 113, 114, 115, 116, 117, 118, 119, 120, 121, 122, 123, 124, 125, 126, 127, 128, 129, 130, 131, 132, 133, 134, 135, 136, 137, 138, 139, 140, 141, 142, 143, 144, 145, 146, 147, 148, 149, 150, 151, 152, 153, 154, 155, 156, 157, 158, 159, 160, 161, 162, 163, 164, 165, 166, 167, 168, 169, 170, 171, 172, 173, 174, 175, 176, 177, 178, 179, 180, 181, 182, 183, 184, 185] (by decide +kernel) (by decide +kernel)
set_option maxRecDepth 20000 in
theorem gX10_readsAll_X10_readsTerm : GoodIn wsX10_readsAll (wsV RX10 247 RX10 yX10_readsTerm wsX10_readsTerm) := goodIn_app (goodIn_of _ (by decide +kernel)) ggX10_readsAll_X10_readsTerm
set_option maxRecDepth 20000 in
theorem ggX10_readsAll_X10_check : GoodIn wsX10_readsAll wsX10_check := goodIn_r _ [59, 2, 14, 3, 44, 45, 46, 12, 47, 110, 111, 112, 113, 114, 115, 116, 117, 118, 119, 120, 121, 122, 123, 124, 125, 126, 127, 128, 129, 130, 131, 132, 133, 134, 135, 136, 137, 138, 139, 140, 141, 142, 143, 144, 145, 146, 147, 148, 149, 150, 151, 152, 153, 154, 155, 156, 157, 158, 159, 160, 161, 162, 163, 164, 165, 166, 167, 168, 169, 170, 171, 172, 173, 174, 175, 176, 177, 178, 179, 180, 181, 182, 183, 184, 185] (by decide +kernel) (by decide +kernel)
set_option maxRecDepth 20000 in
theorem gX10_readsAll_X10_check : GoodIn wsX10_readsAll (wsV RX10 208 RX10 yX10_check wsX10_check) := goodIn_app (goodIn_of _ (by decide +kernel)) ggX10_readsAll_X10_check
theorem dX10_readsAll_0 : decode cX10_readsAll 0 = .ok (.aload_n 0, 1) := by decide +kernel
theorem dX10_readsAll_1 : decode cX10_readsAll 1 = .ok (.iconst 0, 1) := by decide +kernel
theorem dX10_readsAll_2 : decode cX10_readsAll 2 = .ok (.putfield 162, 3) := by decide +kernel
theorem dX10_readsAll_5 : decode cX10_readsAll 5 = .ok (.aload_n 0, 1) := by decide +kernel
theorem dX10_readsAll_6 : decode cX10_readsAll 6 = .ok (.iconst 0, 1) := by decide +kernel
theorem dX10_readsAll_7 : decode cX10_readsAll 7 = .ok (.putfield 198, 3) := by decide +kernel
theorem dX10_readsAll_10 : decode cX10_readsAll 10 = .ok (.aload_n 0, 1) := by decide +kernel
theorem dX10_readsAll_11 : decode cX10_readsAll 11 = .ok (.iconst (-1), 1) := by decide +kernel
theorem dX10_readsAll_12 : decode cX10_readsAll 12 = .ok (.putfield 19, 3) := by decide +kernel
theorem dX10_readsAll_15 : decode cX10_readsAll 15 = .ok (.aload_n 0, 1) := by decide +kernel
theorem dX10_readsAll_16 : decode cX10_readsAll 16 = .ok (.iconst 0, 1) := by decide +kernel
theorem dX10_readsAll_17 : decode cX10_readsAll 17 = .ok (.putfield 219, 3) := by decide +kernel
theorem dX10_readsAll_20 : decode cX10_readsAll 20 = .ok (.aload_n 0, 1) := by decide +kernel
theorem dX10_readsAll_21 : decode cX10_readsAll 21 = .ok (.iconst 0, 1) := by decide +kernel
theorem dX10_readsAll_22 : decode cX10_readsAll 22 = .ok (.putfield 225, 3) := by decide +kernel
theorem dX10_readsAll_25 : decode cX10_readsAll 25 = .ok (.aload_n 0, 1) := by decide +kernel
theorem dX10_readsAll_26 : decode cX10_readsAll 26 = .ok (.iconst 0, 1) := by decide +kernel
theorem dX10_readsAll_27 : decode cX10_readsAll 27 = .ok (.putfield 244, 3) := by decide +kernel
theorem dX10_readsAll_30 : decode cX10_readsAll 30 = .ok (.aload_n 0, 1) := by decide +kernel
theorem dX10_readsAll_31 : decode cX10_readsAll 31 = .ok (.invokevirtual 212, 3) := by decide +kernel
theorem dX10_readsAll_34 : decode cX10_readsAll 34 = .ok (.aload_n 0, 1) := by decide +kernel
theorem dX10_readsAll_35 : decode cX10_readsAll 35 = .ok (.invokevirtual 263, 3) := by decide +kernel
theorem dX10_readsAll_38 : decode cX10_readsAll 38 = .ok (.ifCond .eq 10, 3) := by decide +kernel
theorem dX10_readsAll_41 : decode cX10_readsAll 41 = .ok (.aload_n 0, 1) := by decide +kernel
theorem dX10_readsAll_42 : decode cX10_readsAll 42 = .ok (.invokevirtual 266, 3) := by decide +kernel
theorem dX10_readsAll_45 : decode cX10_readsAll 45 = .ok (.goto (-11), 3) := by decide +kernel
theorem dX10_readsAll_48 : decode cX10_readsAll 48 = .ok (.aload_n 0, 1) := by decide +kernel
theorem dX10_readsAll_49 : decode cX10_readsAll 49 = .ok (.iconst 0, 1) := by decide +kernel
theorem dX10_readsAll_50 : decode cX10_readsAll 50 = .ok (.putfield 215, 3) := by decide +kernel
theorem dX10_readsAll_53 : decode cX10_readsAll 53 = .ok (.aload_n 0, 1) := by decide +kernel
theorem dX10_readsAll_54 : decode cX10_readsAll 54 = .ok (.invokevirtual 247, 3) := by decide +kernel
theorem dX10_readsAll_57 : decode cX10_readsAll 57 = .ok (.aload_n 0, 1) := by decide +kernel
theorem dX10_readsAll_58 : decode cX10_readsAll 58 = .ok (.aload_n 0, 1) := by decide +kernel
theorem dX10_readsAll_59 : decode cX10_readsAll 59 = .ok (.getfield 171, 3) := by decide +kernel
theorem dX10_readsAll_62 : decode cX10_readsAll 62 = .ok (.ifCond .ne 7, 3) := by decide +kernel
theorem dX10_readsAll_65 : decode cX10_readsAll 65 = .ok (.iconst 1, 1) := by decide +kernel
theorem dX10_readsAll_66 : decode cX10_readsAll 66 = .ok (.goto 4, 3) := by decide +kernel
theorem dX10_readsAll_69 : decode cX10_readsAll 69 = .ok (.iconst 0, 1) := by decide +kernel
theorem dX10_readsAll_70 : decode cX10_readsAll 70 = .ok (.iconst 1, 1) := by decide +kernel
theorem dX10_readsAll_71 : decode cX10_readsAll 71 = .ok (.invokevirtual 208, 3) := by decide +kernel
theorem dX10_readsAll_74 : decode cX10_readsAll 74 = .ok (.pop, 1) := by decide +kernel
theorem dX10_readsAll_75 : decode cX10_readsAll 75 = .ok (.aload_n 0, 1) := by decide +kernel
theorem dX10_readsAll_76 : decode cX10_readsAll 76 = .ok (.aload_n 0, 1) := by decide +kernel
theorem dX10_readsAll_77 : decode cX10_readsAll 77 = .ok (.getfield 215, 3) := by decide +kernel
theorem dX10_readsAll_80 : decode cX10_readsAll 80 = .ok (.bipush 120, 2) := by decide +kernel
theorem dX10_readsAll_82 : decode cX10_readsAll 82 = .ok (.if_icmp .gt 7, 3) := by decide +kernel
theorem dX10_readsAll_85 : decode cX10_readsAll 85 = .ok (.iconst 1, 1) := by decide +kernel
theorem dX10_readsAll_86 : decode cX10_readsAll 86 = .ok (.goto 4, 3) := by decide +kernel
theorem dX10_readsAll_89 : decode cX10_readsAll 89 = .ok (.iconst 0, 1) := by decide +kernel
theorem dX10_readsAll_90 : decode cX10_readsAll 90 = .ok (.iconst 5, 1) := by decide +kernel
theorem dX10_readsAll_91 : decode cX10_readsAll 91 = .ok (.invokevirtual 208, 3) := by decide +kernel
theorem dX10_readsAll_94 : decode cX10_readsAll 94 = .ok (.pop, 1) := by decide +kernel
theorem dX10_readsAll_95 : decode cX10_readsAll 95 = .ok (.return_, 1) := by decide +kernel
set_option maxRecDepth 20000 in
theorem ggX10_tell_X10_isIn : GoodIn wsX10_tell wsX10_isIn := goodIn_r _ [14] (by decide +kernel) (by decide +kernel)
set_option maxRecDepth 20000 in
theorem gX10_tell_X10_isIn : GoodIn wsX10_tell (va_wsS RX10 154 yX10_isIn wsX10_isIn) := goodIn_app (goodIn_of _ (by decide +kernel)) ggX10_tell_X10_isIn
set_option maxRecDepth 20000 in
theorem ggX10_tell_X10_right : GoodIn wsX10_tell wsX10_right := goodIn_r _ [18, 1, 186, 187, 188, 189, 190, 191, 192, 193, 194, 195, 196, 197, 198, 199, 200, 201, 202, 203, 204, 205, 206, 207, 208, 209, 210, 211, 212, 213, 214, 215, 216, 217, 218, 219, 220, 221, 222, 223, 224, 225, 226, 227, 228, 229, 230, 231, 232, 233, 234, 235, 236, 237, 238, 239, 240, 241, 242, 243, 244, 245, 246, 247, 248, 249, 250, 251, 252, 253, 254, 255, 256, 257, 258, 259, 260, 261] (by decide +kernel) (by decide +kernel)
set_option maxRecDepth 20000 in
theorem gX10_tell_X10_right : GoodIn wsX10_tell (wsV RX10 269 RX10 yX10_right wsX10_right) := goodIn_app (goodIn_of _ (by decide +kernel)) ggX10_tell_X10_right
set_option maxRecDepth 20000 in
theorem ggX10_tell_X10_readsAll : GoodIn wsX10_tell wsX10_readsAll := goodIn_r _ [22, 23, 4, 10, 24, 25, 26, 5, 27, 28, 29, 30, 13, 31, 32, 33, 34, 35, 36, 37, 38, 39, 40, 41, 42, 43, 44, 45, 46, 3, 47, 48, 49, 50, 11, 12, 14, 51, 52, 53, 54, 55, 56, 57, 58, 59, 60, 61, 62, 63, 64, 65, 66, 67, 68, 7, 69, 70, 71, 72, 73, 74, 75, 76, 77, 78, 79, 80, 81, 82, 83, 84, 85, 86, 87, 88, 89, 90, 91, 92, 93, 94, 95, 96, 97, 98, 99, 100, 101, 102, 103, 104, 105, 106, 107, 108, 109, 110, 111, 112, 113, 114, 115, 116, 117, 118, 119, 120, 121, 122, 186, 187, 188, 189, 190, 191, 192, 193, 194, 195, 196, 197, 198, 199, 200, 201, 202, 203, 204, 205, 206, 207, 208, 209, 210, 211, 212, 213, 214, 215, 216, 217, 218, 219, 220, 221, 222, 223, 224, 225, 226, 227, 228, 229, 230, 231, 232, 233, 234, 235, 236, 237, 238, 239, 240, 241, 242, 243, 244, 245, 246, 247, 248, 249, 250, 251, 252, 253, 254, 255, 256, 257, 258, 259, 260, 261] (by decide +kernel) (by decide +kernel)
set_option maxRecDepth 20000 in
theorem gX10_tell_X10_readsAll : GoodIn wsX10_tell (wsV RX10 272 RX10 yX10_readsAll wsX10_readsAll) := goodIn_app (goodIn_of _ (by decide +kernel)) ggX10_tell_X10_readsAll
set_option maxRecDepth 20000 in
theorem ggX10_tell_X10_fine : GoodIn wsX10_tell wsX10_fine := goodIn_r _ [61, 4, 186, 187, 188, 189, 190, 191, 192, 193, 194, 195, 196, 197, 198, 199, 200, 201, 202, 203, 204, 205, 206, 207, 208, 209, 210, 211, 212, 213, 214, 215, 216, 217, 218, 219, 220, 221, 222, 223, 224, 225, 226, 227, 228, 229, 230, 231, 232, 233, 234, 235, 236, 237, 238, 239, 240, 241, 242, 243, 244, 245, 246, 247, 248, 249, 250, 251, 252, 253, 254, 255, 256, 257, 258, 259, 260, 261] (by decide +kernel) (by decide +kernel)
set_option maxRecDepth 20000 in
theorem gX10_tell_X10_fine : GoodIn wsX10_tell (wsV RX10 201 RX10 yX10_fine wsX10_fine) := goodIn_app (goodIn_of _ (by decide +kernel)) ggX10_tell_X10_fine
set_option maxRecDepth 20000 in
theorem ggX10_tell_X10_keepsOld : GoodIn wsX10_tell wsX10_keepsOld := goodIn_r _ [126, 8, 127, 128, 6, 129, 130, 131, 13, 132, 9, 133, 134, 135, 136, 137, 138, 139, 140, 141, 186, 187, 188, 189, 190, 191, 192, 193, 194, 195, 196, 197, 198, 199, 200, 201, 202, 203, 204, 205, 206, 207, 208, 209, 210, 211, 212, 213, 214, 215, 216, 217, 218, 219, 220, 221, 222, 223, 224, 225, 226, 227, 228, 229, 230, 231, 232, 233, 234, 235, 236, 237, 238, 239, 240, 241, 242, 243, 244, 245, 246, 247, 248, 249, 250, 251, 252, 253, 254, 255, 256, 257, 258, 259, 260, 261] (by decide +kernel) (by decide +kernel)
set_option maxRecDepth 20000 in
theorem gX10_tell_X10_keepsOld : GoodIn wsX10_tell (wsV RX10 275 RX10 yX10_keepsOld wsX10_keepsOld) := goodIn_app (goodIn_of _ (by decide +kernel)) ggX10_tell_X10_keepsOld
set_option maxRecDepth 20000 in
theorem ggX10_tell_X10_laysNet : GoodIn wsX10_tell wsX10_laysNet := goodIn_r _ [145, 137, 9, 134, 146, 147, 148, 149, 13, 150, 139, 151, 152, 153, 154, 155, 6, 156, 157, 158, 159, 160, 161, 162, 163, 164, 165, 166, 167, 168, 169, 170, 141, 171, 186, 187, 188, 189, 190, 191, 192, 193, 194, 195, 196, 197, 198, 199, 200, 201, 202, 203, 204, 205, 206, 207, 208, 209, 210, 211, 212, 213, 214, 215, 216, 217, 218, 219, 220, 221, 222, 223, 224, 225, 226, 227, 228, 229, 230, 231, 232, 233, 234, 235, 236, 237, 238, 239, 240, 241, 242, 243, 244, 245, 246, 247, 248, 249, 250, 251, 252, 253, 254, 255, 256, 257, 258, 259, 260, 261] (by decide +kernel) (by decide +kernel)
set_option maxRecDepth 20000 in
theorem gX10_tell_X10_laysNet : GoodIn wsX10_tell (wsV RX10 278 RX10 yX10_laysNet wsX10_laysNet) := goodIn_app (goodIn_of _ (by decide +kernel)) ggX10_tell_X10_laysNet
set_option maxRecDepth 20000 in
theorem ggX10_tell_X10_comesOld : GoodIn wsX10_tell wsX10_comesOld := goodIn_r _ [175, 8, 127, 6, 128, 176, 177, 178, 13, 179, 137, 133, 9, 135, 134, 136, 139, 138, 141, 140, 186, 187, 188, 189, 190, 191, 192, 193, 194, 195, 196, 197, 198, 199, 200, 201, 202, 203, 204, 205, 206, 207, 208, 209, 210, 211, 212, 213, 214, 215, 216, 217, 218, 219, 220, 221, 222, 223, 224, 225, 226, 227, 228, 229, 230, 231, 232, 233, 234, 235, 236, 237, 238, 239, 240, 241, 242, 243, 244, 245, 246, 247, 248, 249, 250, 251, 252, 253, 254, 255, 256, 257, 258, 259, 260, 261] (by decide +kernel) (by decide +kernel)
set_option maxRecDepth 20000 in
theorem gX10_tell_X10_comesOld : GoodIn wsX10_tell (wsV RX10 284 RX10 yX10_comesOld wsX10_comesOld) := goodIn_app (goodIn_of _ (by decide +kernel)) ggX10_tell_X10_comesOld
set_option maxRecDepth 20000 in
theorem ggX10_tell_X10_begins : GoodIn wsX10_tell wsX10_begins := goodIn_r _ [183, 184, 9, 185, 186, 187, 188, 189, 190, 191, 192, 193, 194, 195, 196, 197, 198, 199, 200, 201, 202, 203, 204, 205, 206, 207, 208, 209, 210, 211, 212, 213, 214, 215, 216, 217, 218, 219, 220, 221, 222, 223, 224, 225, 226, 227, 228, 229, 230, 231, 232, 233, 234, 235, 236, 237, 238, 239, 240, 241, 242, 243, 244, 245, 246, 247, 248, 249, 250, 251, 252, 253, 254, 255, 256, 257, 258, 259, 260, 261] (by decide +kernel) (by decide +kernel)
set_option maxRecDepth 20000 in
theorem gX10_tell_X10_begins : GoodIn wsX10_tell (wsV RX10 287 RX10 yX10_begins wsX10_begins) := goodIn_app (goodIn_of _ (by decide +kernel)) ggX10_tell_X10_begins
theorem dX10_tell_0 : decode cX10_tell 0 = .ok (.aload_n 0, 1) := by decide +kernel
theorem dX10_tell_1 : decode cX10_tell 1 = .ok (.iconst 0, 1) := by decide +kernel
theorem dX10_tell_2 : decode cX10_tell 2 = .ok (.putfield 141, 3) := by decide +kernel
theorem dX10_tell_5 : decode cX10_tell 5 = .ok (.aload_n 0, 1) := by decide +kernel
theorem dX10_tell_6 : decode cX10_tell 6 = .ok (.iload_n 1, 1) := by decide +kernel
theorem dX10_tell_7 : decode cX10_tell 7 = .ok (.iconst 0, 1) := by decide +kernel
theorem dX10_tell_8 : decode cX10_tell 8 = .ok (.aload_n 0, 1) := by decide +kernel
theorem dX10_tell_9 : decode cX10_tell 9 = .ok (.getfield 144, 3) := by decide +kernel
theorem dX10_tell_12 : decode cX10_tell 12 = .ok (.invokestatic 154, 3) := by decide +kernel
theorem dX10_tell_15 : decode cX10_tell 15 = .ok (.iconst 1, 1) := by decide +kernel
theorem dX10_tell_16 : decode cX10_tell 16 = .ok (.invokevirtual 269, 3) := by decide +kernel
theorem dX10_tell_19 : decode cX10_tell 19 = .ok (.ifCond .ne 5, 3) := by decide +kernel
theorem dX10_tell_22 : decode cX10_tell 22 = .ok (.iconst 0, 1) := by decide +kernel
theorem dX10_tell_23 : decode cX10_tell 23 = .ok (.ireturn, 1) := by decide +kernel
theorem dX10_tell_24 : decode cX10_tell 24 = .ok (.aload_n 0, 1) := by decide +kernel
theorem dX10_tell_25 : decode cX10_tell 25 = .ok (.iconst 0, 1) := by decide +kernel
theorem dX10_tell_26 : decode cX10_tell 26 = .ok (.putfield 144, 3) := by decide +kernel
theorem dX10_tell_29 : decode cX10_tell 29 = .ok (.aload_n 0, 1) := by decide +kernel
theorem dX10_tell_30 : decode cX10_tell 30 = .ok (.iload_n 1, 1) := by decide +kernel
theorem dX10_tell_31 : decode cX10_tell 31 = .ok (.putfield 151, 3) := by decide +kernel
theorem dX10_tell_34 : decode cX10_tell 34 = .ok (.aload_n 0, 1) := by decide +kernel
theorem dX10_tell_35 : decode cX10_tell 35 = .ok (.invokevirtual 272, 3) := by decide +kernel
theorem dX10_tell_38 : decode cX10_tell 38 = .ok (.aload_n 0, 1) := by decide +kernel
theorem dX10_tell_39 : decode cX10_tell 39 = .ok (.invokevirtual 201, 3) := by decide +kernel
theorem dX10_tell_42 : decode cX10_tell 42 = .ok (.ifCond .ne 8, 3) := by decide +kernel
theorem dX10_tell_45 : decode cX10_tell 45 = .ok (.aload_n 0, 1) := by decide +kernel
theorem dX10_tell_46 : decode cX10_tell 46 = .ok (.getfield 198, 3) := by decide +kernel
theorem dX10_tell_49 : decode cX10_tell 49 = .ok (.ireturn, 1) := by decide +kernel
theorem dX10_tell_50 : decode cX10_tell 50 = .ok (.aload_n 0, 1) := by decide +kernel
theorem dX10_tell_51 : decode cX10_tell 51 = .ok (.invokevirtual 275, 3) := by decide +kernel
theorem dX10_tell_54 : decode cX10_tell 54 = .ok (.iconst 0, 1) := by decide +kernel
theorem dX10_tell_55 : decode cX10_tell 55 = .ok (.istore_n 2, 1) := by decide +kernel
theorem dX10_tell_56 : decode cX10_tell 56 = .ok (.iload_n 2, 1) := by decide +kernel
theorem dX10_tell_57 : decode cX10_tell 57 = .ok (.aload_n 0, 1) := by decide +kernel
theorem dX10_tell_58 : decode cX10_tell 58 = .ok (.getfield 215, 3) := by decide +kernel
theorem dX10_tell_61 : decode cX10_tell 61 = .ok (.if_icmp .ge 25, 3) := by decide +kernel
theorem dX10_tell_64 : decode cX10_tell 64 = .ok (.aload_n 0, 1) := by decide +kernel
theorem dX10_tell_65 : decode cX10_tell 65 = .ok (.getfield 7, 3) := by decide +kernel
theorem dX10_tell_68 : decode cX10_tell 68 = .ok (.sipush 2600, 3) := by decide +kernel
theorem dX10_tell_71 : decode cX10_tell 71 = .ok (.iload_n 2, 1) := by decide +kernel
theorem dX10_tell_72 : decode cX10_tell 72 = .ok (.iadd, 1) := by decide +kernel
theorem dX10_tell_73 : decode cX10_tell 73 = .ok (.aload_n 0, 1) := by decide +kernel
theorem dX10_tell_74 : decode cX10_tell 74 = .ok (.getfield 36, 3) := by decide +kernel
theorem dX10_tell_77 : decode cX10_tell 77 = .ok (.iload_n 2, 1) := by decide +kernel
theorem dX10_tell_78 : decode cX10_tell 78 = .ok (.iaload, 1) := by decide +kernel
theorem dX10_tell_79 : decode cX10_tell 79 = .ok (.iastore, 1) := by decide +kernel
theorem dX10_tell_80 : decode cX10_tell 80 = .ok (.iinc 2 1, 3) := by decide +kernel
theorem dX10_tell_83 : decode cX10_tell 83 = .ok (.goto (-27), 3) := by decide +kernel
theorem dX10_tell_86 : decode cX10_tell 86 = .ok (.aload_n 0, 1) := by decide +kernel
theorem dX10_tell_87 : decode cX10_tell 87 = .ok (.getfield 13, 3) := by decide +kernel
theorem dX10_tell_90 : decode cX10_tell 90 = .ok (.iconst 2, 1) := by decide +kernel
theorem dX10_tell_91 : decode cX10_tell 91 = .ok (.aload_n 0, 1) := by decide +kernel
theorem dX10_tell_92 : decode cX10_tell 92 = .ok (.getfield 215, 3) := by decide +kernel
theorem dX10_tell_95 : decode cX10_tell 95 = .ok (.iastore, 1) := by decide +kernel
theorem dX10_tell_96 : decode cX10_tell 96 = .ok (.aload_n 0, 1) := by decide +kernel
theorem dX10_tell_97 : decode cX10_tell 97 = .ok (.invokevirtual 278, 3) := by decide +kernel
theorem dX10_tell_100 : decode cX10_tell 100 = .ok (.aload_n 0, 1) := by decide +kernel
theorem dX10_tell_101 : decode cX10_tell 101 = .ok (.getfield 281, 3) := by decide +kernel
theorem dX10_tell_104 : decode cX10_tell 104 = .ok (.sipush 400, 3) := by decide +kernel
theorem dX10_tell_107 : decode cX10_tell 107 = .ok (.if_icmp .le 19, 3) := by decide +kernel
theorem dX10_tell_110 : decode cX10_tell 110 = .ok (.aload_n 0, 1) := by decide +kernel
theorem dX10_tell_111 : decode cX10_tell 111 = .ok (.invokevirtual 284, 3) := by decide +kernel
theorem dX10_tell_114 : decode cX10_tell 114 = .ok (.aload_n 0, 1) := by decide +kernel
theorem dX10_tell_115 : decode cX10_tell 115 = .ok (.iconst 5, 1) := by decide +kernel
theorem dX10_tell_116 : decode cX10_tell 116 = .ok (.putfield 198, 3) := by decide +kernel
theorem dX10_tell_119 : decode cX10_tell 119 = .ok (.aload_n 0, 1) := by decide +kernel
theorem dX10_tell_120 : decode cX10_tell 120 = .ok (.iload_n 1, 1) := by decide +kernel
theorem dX10_tell_121 : decode cX10_tell 121 = .ok (.putfield 19, 3) := by decide +kernel
theorem dX10_tell_124 : decode cX10_tell 124 = .ok (.iconst 5, 1) := by decide +kernel
theorem dX10_tell_125 : decode cX10_tell 125 = .ok (.ireturn, 1) := by decide +kernel
theorem dX10_tell_126 : decode cX10_tell 126 = .ok (.aload_n 0, 1) := by decide +kernel
theorem dX10_tell_127 : decode cX10_tell 127 = .ok (.invokevirtual 287, 3) := by decide +kernel
theorem dX10_tell_130 : decode cX10_tell 130 = .ok (.iconst 0, 1) := by decide +kernel
theorem dX10_tell_131 : decode cX10_tell 131 = .ok (.ireturn, 1) := by decide +kernel
theorem dX10_fault_0 : decode cX10_fault 0 = .ok (.aload_n 0, 1) := by decide +kernel
theorem dX10_fault_1 : decode cX10_fault 1 = .ok (.iconst 0, 1) := by decide +kernel
theorem dX10_fault_2 : decode cX10_fault 2 = .ok (.putfield 141, 3) := by decide +kernel
theorem dX10_fault_5 : decode cX10_fault 5 = .ok (.aload_n 0, 1) := by decide +kernel
theorem dX10_fault_6 : decode cX10_fault 6 = .ok (.getfield 19, 3) := by decide +kernel
theorem dX10_fault_9 : decode cX10_fault 9 = .ok (.ireturn, 1) := by decide +kernel
theorem dX10_portsOf_0 : decode cX10_portsOf 0 = .ok (.iload_n 0, 1) := by decide +kernel
theorem dX10_portsOf_1 : decode cX10_portsOf 1 = .ok (.tableswitch 47 0 6 #[43, 47, 47, 47, 45, 45, 43], 43) := by decide +kernel
theorem dX10_portsOf_44 : decode cX10_portsOf 44 = .ok (.iconst 1, 1) := by decide +kernel
theorem dX10_portsOf_45 : decode cX10_portsOf 45 = .ok (.ireturn, 1) := by decide +kernel
theorem dX10_portsOf_46 : decode cX10_portsOf 46 = .ok (.iconst 2, 1) := by decide +kernel
theorem dX10_portsOf_47 : decode cX10_portsOf 47 = .ok (.ireturn, 1) := by decide +kernel
theorem dX10_portsOf_48 : decode cX10_portsOf 48 = .ok (.iconst 3, 1) := by decide +kernel
theorem dX10_portsOf_49 : decode cX10_portsOf 49 = .ok (.ireturn, 1) := by decide +kernel
set_option maxRecDepth 20000 in
theorem ggX10_isNode_X10_isIn : GoodIn wsX10_isNode wsX10_isIn := goodIn_r _ [6] (by decide +kernel) (by decide +kernel)
set_option maxRecDepth 20000 in
theorem gX10_isNode_X10_isIn : GoodIn wsX10_isNode (va_wsS RX10 154 yX10_isIn wsX10_isIn) := goodIn_app (goodIn_of _ (by decide +kernel)) ggX10_isNode_X10_isIn
theorem dX10_isNode_0 : decode cX10_isNode 0 = .ok (.iload_n 1, 1) := by decide +kernel
theorem dX10_isNode_1 : decode cX10_isNode 1 = .ok (.iconst 0, 1) := by decide +kernel
theorem dX10_isNode_2 : decode cX10_isNode 2 = .ok (.aload_n 0, 1) := by decide +kernel
theorem dX10_isNode_3 : decode cX10_isNode 3 = .ok (.getfield 290, 3) := by decide +kernel
theorem dX10_isNode_6 : decode cX10_isNode 6 = .ok (.iconst 1, 1) := by decide +kernel
theorem dX10_isNode_7 : decode cX10_isNode 7 = .ok (.isub, 1) := by decide +kernel
theorem dX10_isNode_8 : decode cX10_isNode 8 = .ok (.invokestatic 154, 3) := by decide +kernel
theorem dX10_isNode_11 : decode cX10_isNode 11 = .ok (.ifCond .eq 17, 3) := by decide +kernel
theorem dX10_isNode_14 : decode cX10_isNode 14 = .ok (.aload_n 0, 1) := by decide +kernel
theorem dX10_isNode_15 : decode cX10_isNode 15 = .ok (.getfield 39, 3) := by decide +kernel
theorem dX10_isNode_18 : decode cX10_isNode 18 = .ok (.iload_n 1, 1) := by decide +kernel
theorem dX10_isNode_19 : decode cX10_isNode 19 = .ok (.iaload, 1) := by decide +kernel
theorem dX10_isNode_20 : decode cX10_isNode 20 = .ok (.iconst (-1), 1) := by decide +kernel
theorem dX10_isNode_21 : decode cX10_isNode 21 = .ok (.if_icmp .eq 7, 3) := by decide +kernel
theorem dX10_isNode_24 : decode cX10_isNode 24 = .ok (.iconst 1, 1) := by decide +kernel
theorem dX10_isNode_25 : decode cX10_isNode 25 = .ok (.goto 4, 3) := by decide +kernel
theorem dX10_isNode_28 : decode cX10_isNode 28 = .ok (.iconst 0, 1) := by decide +kernel
theorem dX10_isNode_29 : decode cX10_isNode 29 = .ok (.ireturn, 1) := by decide +kernel
theorem dX10_newNode_0 : decode cX10_newNode 0 = .ok (.iconst 0, 1) := by decide +kernel
theorem dX10_newNode_1 : decode cX10_newNode 1 = .ok (.istore_n 3, 1) := by decide +kernel
theorem dX10_newNode_2 : decode cX10_newNode 2 = .ok (.iload_n 3, 1) := by decide +kernel
theorem dX10_newNode_3 : decode cX10_newNode 3 = .ok (.aload_n 0, 1) := by decide +kernel
theorem dX10_newNode_4 : decode cX10_newNode 4 = .ok (.getfield 290, 3) := by decide +kernel
theorem dX10_newNode_7 : decode cX10_newNode 7 = .ok (.if_icmp .ge 19, 3) := by decide +kernel
theorem dX10_newNode_10 : decode cX10_newNode 10 = .ok (.aload_n 0, 1) := by decide +kernel
theorem dX10_newNode_11 : decode cX10_newNode 11 = .ok (.getfield 39, 3) := by decide +kernel
theorem dX10_newNode_14 : decode cX10_newNode 14 = .ok (.iload_n 3, 1) := by decide +kernel
theorem dX10_newNode_15 : decode cX10_newNode 15 = .ok (.iaload, 1) := by decide +kernel
theorem dX10_newNode_16 : decode cX10_newNode 16 = .ok (.iconst (-1), 1) := by decide +kernel
theorem dX10_newNode_17 : decode cX10_newNode 17 = .ok (.if_icmp .eq 9, 3) := by decide +kernel
theorem dX10_newNode_20 : decode cX10_newNode 20 = .ok (.iinc 3 1, 3) := by decide +kernel
theorem dX10_newNode_23 : decode cX10_newNode 23 = .ok (.goto (-21), 3) := by decide +kernel
theorem dX10_newNode_26 : decode cX10_newNode 26 = .ok (.aload_n 0, 1) := by decide +kernel
theorem dX10_newNode_27 : decode cX10_newNode 27 = .ok (.iload_n 3, 1) := by decide +kernel
theorem dX10_newNode_28 : decode cX10_newNode 28 = .ok (.aload_n 0, 1) := by decide +kernel
theorem dX10_newNode_29 : decode cX10_newNode 29 = .ok (.getfield 290, 3) := by decide +kernel
theorem dX10_newNode_32 : decode cX10_newNode 32 = .ok (.if_icmp .ne 9, 3) := by decide +kernel
theorem dX10_newNode_35 : decode cX10_newNode 35 = .ok (.iload_n 3, 1) := by decide +kernel
theorem dX10_newNode_36 : decode cX10_newNode 36 = .ok (.iconst 1, 1) := by decide +kernel
theorem dX10_newNode_37 : decode cX10_newNode 37 = .ok (.iadd, 1) := by decide +kernel
theorem dX10_newNode_38 : decode cX10_newNode 38 = .ok (.goto 7, 3) := by decide +kernel
theorem dX10_newNode_41 : decode cX10_newNode 41 = .ok (.aload_n 0, 1) := by decide +kernel
theorem dX10_newNode_42 : decode cX10_newNode 42 = .ok (.getfield 290, 3) := by decide +kernel
theorem dX10_newNode_45 : decode cX10_newNode 45 = .ok (.putfield 290, 3) := by decide +kernel
theorem dX10_newNode_48 : decode cX10_newNode 48 = .ok (.aload_n 0, 1) := by decide +kernel
theorem dX10_newNode_49 : decode cX10_newNode 49 = .ok (.getfield 39, 3) := by decide +kernel
theorem dX10_newNode_52 : decode cX10_newNode 52 = .ok (.iload_n 3, 1) := by decide +kernel
theorem dX10_newNode_53 : decode cX10_newNode 53 = .ok (.iload_n 1, 1) := by decide +kernel
theorem dX10_newNode_54 : decode cX10_newNode 54 = .ok (.iastore, 1) := by decide +kernel
theorem dX10_newNode_55 : decode cX10_newNode 55 = .ok (.aload_n 0, 1) := by decide +kernel
theorem dX10_newNode_56 : decode cX10_newNode 56 = .ok (.getfield 42, 3) := by decide +kernel
theorem dX10_newNode_59 : decode cX10_newNode 59 = .ok (.iload_n 3, 1) := by decide +kernel
theorem dX10_newNode_60 : decode cX10_newNode 60 = .ok (.iload_n 2, 1) := by decide +kernel
theorem dX10_newNode_61 : decode cX10_newNode 61 = .ok (.iastore, 1) := by decide +kernel
theorem dX10_newNode_62 : decode cX10_newNode 62 = .ok (.aload_n 0, 1) := by decide +kernel
theorem dX10_newNode_63 : decode cX10_newNode 63 = .ok (.dup, 1) := by decide +kernel
theorem dX10_newNode_64 : decode cX10_newNode 64 = .ok (.getfield 281, 3) := by decide +kernel
theorem dX10_newNode_67 : decode cX10_newNode 67 = .ok (.iconst 1, 1) := by decide +kernel
theorem dX10_newNode_68 : decode cX10_newNode 68 = .ok (.iadd, 1) := by decide +kernel
theorem dX10_newNode_69 : decode cX10_newNode 69 = .ok (.putfield 281, 3) := by decide +kernel
theorem dX10_newNode_72 : decode cX10_newNode 72 = .ok (.iload_n 3, 1) := by decide +kernel
theorem dX10_newNode_73 : decode cX10_newNode 73 = .ok (.ireturn, 1) := by decide +kernel
theorem dX10_wires_0 : decode cX10_wires 0 = .ok (.aload_n 0, 1) := by decide +kernel
theorem dX10_wires_1 : decode cX10_wires 1 = .ok (.getfield 45, 3) := by decide +kernel
theorem dX10_wires_4 : decode cX10_wires 4 = .ok (.iload_n 1, 1) := by decide +kernel
theorem dX10_wires_5 : decode cX10_wires 5 = .ok (.iload_n 2, 1) := by decide +kernel
theorem dX10_wires_6 : decode cX10_wires 6 = .ok (.iastore, 1) := by decide +kernel
theorem dX10_wires_7 : decode cX10_wires 7 = .ok (.aload_n 0, 1) := by decide +kernel
theorem dX10_wires_8 : decode cX10_wires 8 = .ok (.getfield 45, 3) := by decide +kernel
theorem dX10_wires_11 : decode cX10_wires 11 = .ok (.iload_n 2, 1) := by decide +kernel
theorem dX10_wires_12 : decode cX10_wires 12 = .ok (.iload_n 1, 1) := by decide +kernel
theorem dX10_wires_13 : decode cX10_wires 13 = .ok (.iastore, 1) := by decide +kernel
theorem dX10_wires_14 : decode cX10_wires 14 = .ok (.return_, 1) := by decide +kernel
theorem dX10_endAt_0 : decode cX10_endAt 0 = .ok (.bipush 122, 2) := by decide +kernel
theorem dX10_endAt_2 : decode cX10_endAt 2 = .ok (.iload_n 1, 1) := by decide +kernel
theorem dX10_endAt_3 : decode cX10_endAt 3 = .ok (.imul, 1) := by decide +kernel
theorem dX10_endAt_4 : decode cX10_endAt 4 = .ok (.iload_n 2, 1) := by decide +kernel
theorem dX10_endAt_5 : decode cX10_endAt 5 = .ok (.iadd, 1) := by decide +kernel
theorem dX10_endAt_6 : decode cX10_endAt 6 = .ok (.ireturn, 1) := by decide +kernel
set_option maxRecDepth 20000 in
theorem ggX10_laysPart_X10_endAt : GoodIn wsX10_laysPart wsX10_endAt := goodIn_r _ [8] (by decide +kernel) (by decide +kernel)
set_option maxRecDepth 20000 in
theorem gX10_laysPart_X10_endAt : GoodIn wsX10_laysPart (wsV RX10 293 RX10 yX10_endAt wsX10_endAt) := goodIn_app (goodIn_of _ (by decide +kernel)) ggX10_laysPart_X10_endAt
set_option maxRecDepth 20000 in
theorem ggX10_laysPart_X10_laysApplication : GoodIn wsX10_laysPart wsX10_laysApplication := goodIn_r _ [23, 1, 15, 16, 17, 7, 18, 19, 20, 21, 22, 24, 25, 26, 27, 28, 29, 30, 31, 4, 5, 6, 8, 32, 0, 2, 3, 9, 10, 11, 12, 13, 14, 33, 34, 35, 36, 37, 38, 39, 40, 41, 42, 43, 44, 45, 46, 47, 48, 49, 50, 51, 52, 53, 54, 55, 56, 57, 58, 59, 60, 61, 62, 63, 64, 65, 66, 67, 68, 69, 70, 71, 72, 73, 74, 75, 76, 77, 78, 79, 80, 81, 82, 83, 84, 85, 86, 87, 88, 89, 90, 91, 92, 93, 94, 95, 96, 97, 98, 99, 100, 101, 102, 103, 104, 105, 106, 107, 108] (by decide +kernel) (by decide +kernel)
set_option maxRecDepth 20000 in
theorem gX10_laysPart_X10_laysApplication : GoodIn wsX10_laysPart (wsV RX10 300 RX10 yX10_laysApplication wsX10_laysApplication) := goodIn_app (goodIn_of _ (by decide +kernel)) ggX10_laysPart_X10_laysApplication
set_option maxRecDepth 20000 in
theorem ggX10_laysPart_X10_laysFunction : GoodIn wsX10_laysPart wsX10_laysFunction := goodIn_r _ [32, 1, 15, 16, 17, 7, 18, 19, 20, 21, 22, 24, 25, 26, 27, 28, 29, 30, 31, 4, 5, 6, 8, 23, 0, 2, 3, 9, 10, 11, 12, 13, 14, 33, 34, 35, 36, 37, 38, 39, 40, 41, 42, 43, 44, 45, 46, 47, 48, 49, 50, 51, 52, 53, 54, 55, 56, 57, 58, 59, 60, 61, 62, 63, 64, 65, 66, 67, 68, 69, 70, 71, 72, 73, 74, 75, 76, 77, 78, 79, 80, 81, 82, 83, 84, 85, 86, 87, 88, 89, 90, 91, 92, 93, 94, 95, 96, 97, 98, 99, 100, 101, 102, 103, 104, 105, 106, 107, 108] (by decide +kernel) (by decide +kernel)
set_option maxRecDepth 20000 in
theorem gX10_laysPart_X10_laysFunction : GoodIn wsX10_laysPart (wsV RX10 304 RX10 yX10_laysFunction wsX10_laysFunction) := goodIn_app (goodIn_of _ (by decide +kernel)) ggX10_laysPart_X10_laysFunction
set_option maxRecDepth 20000 in
theorem ggX10_laysPart_X10_newNode : GoodIn wsX10_laysPart wsX10_newNode := goodIn_r _ [18, 19, 20, 21, 22, 33, 34, 35, 36, 37, 38, 39, 40, 41, 42, 43, 44, 45, 46, 47, 48, 49, 50, 51, 52, 53, 54, 55, 56, 57, 58, 59, 60, 61, 62, 63, 64, 65, 66, 67, 68, 69, 70, 71, 72, 73, 74, 75, 76, 77, 78, 79, 80, 81, 82, 83, 84, 85, 86, 87, 88, 89, 90, 91, 92, 93, 94, 95, 96, 97, 98, 99, 100, 101, 102, 103, 104, 105, 106, 107, 108] (by decide +kernel) (by decide +kernel)
set_option maxRecDepth 20000 in
theorem gX10_laysPart_X10_newNode : GoodIn wsX10_laysPart (wsV RX10 307 RX10 yX10_newNode wsX10_newNode) := goodIn_app (goodIn_of _ (by decide +kernel)) ggX10_laysPart_X10_newNode
theorem dX10_laysPart_0 : decode cX10_laysPart 0 = .ok (.iconst 0, 1) := by decide +kernel
theorem dX10_laysPart_1 : decode cX10_laysPart 1 = .ok (.istore 4, 2) := by decide +kernel
theorem dX10_laysPart_3 : decode cX10_laysPart 3 = .ok (.iload 4, 2) := by decide +kernel
theorem dX10_laysPart_5 : decode cX10_laysPart 5 = .ok (.iload_n 2, 1) := by decide +kernel
theorem dX10_laysPart_6 : decode cX10_laysPart 6 = .ok (.if_icmp .ge 22, 3) := by decide +kernel
theorem dX10_laysPart_9 : decode cX10_laysPart 9 = .ok (.aload_n 0, 1) := by decide +kernel
theorem dX10_laysPart_10 : decode cX10_laysPart 10 = .ok (.getfield 48, 3) := by decide +kernel
theorem dX10_laysPart_13 : decode cX10_laysPart 13 = .ok (.aload_n 0, 1) := by decide +kernel
theorem dX10_laysPart_14 : decode cX10_laysPart 14 = .ok (.iload_n 3, 1) := by decide +kernel
theorem dX10_laysPart_15 : decode cX10_laysPart 15 = .ok (.iload 4, 2) := by decide +kernel
theorem dX10_laysPart_17 : decode cX10_laysPart 17 = .ok (.invokevirtual 293, 3) := by decide +kernel
theorem dX10_laysPart_20 : decode cX10_laysPart 20 = .ok (.iconst (-1), 1) := by decide +kernel
theorem dX10_laysPart_21 : decode cX10_laysPart 21 = .ok (.iastore, 1) := by decide +kernel
theorem dX10_laysPart_22 : decode cX10_laysPart 22 = .ok (.iinc 4 1, 3) := by decide +kernel
theorem dX10_laysPart_25 : decode cX10_laysPart 25 = .ok (.goto (-22), 3) := by decide +kernel
theorem dX10_laysPart_28 : decode cX10_laysPart 28 = .ok (.aload_n 0, 1) := by decide +kernel
theorem dX10_laysPart_29 : decode cX10_laysPart 29 = .ok (.getfield 7, 3) := by decide +kernel
theorem dX10_laysPart_32 : decode cX10_laysPart 32 = .ok (.sipush 2600, 3) := by decide +kernel
theorem dX10_laysPart_35 : decode cX10_laysPart 35 = .ok (.aload_n 0, 1) := by decide +kernel
theorem dX10_laysPart_36 : decode cX10_laysPart 36 = .ok (.getfield 297, 3) := by decide +kernel
theorem dX10_laysPart_39 : decode cX10_laysPart 39 = .ok (.iadd, 1) := by decide +kernel
theorem dX10_laysPart_40 : decode cX10_laysPart 40 = .ok (.iaload, 1) := by decide +kernel
theorem dX10_laysPart_41 : decode cX10_laysPart 41 = .ok (.istore 4, 2) := by decide +kernel
theorem dX10_laysPart_43 : decode cX10_laysPart 43 = .ok (.aload_n 0, 1) := by decide +kernel
theorem dX10_laysPart_44 : decode cX10_laysPart 44 = .ok (.dup, 1) := by decide +kernel
theorem dX10_laysPart_45 : decode cX10_laysPart 45 = .ok (.getfield 297, 3) := by decide +kernel
theorem dX10_laysPart_48 : decode cX10_laysPart 48 = .ok (.iconst 1, 1) := by decide +kernel
theorem dX10_laysPart_49 : decode cX10_laysPart 49 = .ok (.iadd, 1) := by decide +kernel
theorem dX10_laysPart_50 : decode cX10_laysPart 50 = .ok (.putfield 297, 3) := by decide +kernel
theorem dX10_laysPart_53 : decode cX10_laysPart 53 = .ok (.iload 4, 2) := by decide +kernel
theorem dX10_laysPart_55 : decode cX10_laysPart 55 = .ok (.ifCond .ne 11, 3) := by decide +kernel
theorem dX10_laysPart_58 : decode cX10_laysPart 58 = .ok (.aload_n 0, 1) := by decide +kernel
theorem dX10_laysPart_59 : decode cX10_laysPart 59 = .ok (.iload_n 1, 1) := by decide +kernel
theorem dX10_laysPart_60 : decode cX10_laysPart 60 = .ok (.iload_n 2, 1) := by decide +kernel
theorem dX10_laysPart_61 : decode cX10_laysPart 61 = .ok (.iload_n 3, 1) := by decide +kernel
theorem dX10_laysPart_62 : decode cX10_laysPart 62 = .ok (.invokevirtual 300, 3) := by decide +kernel
theorem dX10_laysPart_65 : decode cX10_laysPart 65 = .ok (.ireturn, 1) := by decide +kernel
theorem dX10_laysPart_66 : decode cX10_laysPart 66 = .ok (.iload 4, 2) := by decide +kernel
theorem dX10_laysPart_68 : decode cX10_laysPart 68 = .ok (.iconst 1, 1) := by decide +kernel
theorem dX10_laysPart_69 : decode cX10_laysPart 69 = .ok (.if_icmp .ne 11, 3) := by decide +kernel
theorem dX10_laysPart_72 : decode cX10_laysPart 72 = .ok (.aload_n 0, 1) := by decide +kernel
theorem dX10_laysPart_73 : decode cX10_laysPart 73 = .ok (.iload_n 1, 1) := by decide +kernel
theorem dX10_laysPart_74 : decode cX10_laysPart 74 = .ok (.iload_n 2, 1) := by decide +kernel
theorem dX10_laysPart_75 : decode cX10_laysPart 75 = .ok (.iload_n 3, 1) := by decide +kernel
theorem dX10_laysPart_76 : decode cX10_laysPart 76 = .ok (.invokevirtual 304, 3) := by decide +kernel
theorem dX10_laysPart_79 : decode cX10_laysPart 79 = .ok (.ireturn, 1) := by decide +kernel
theorem dX10_laysPart_80 : decode cX10_laysPart 80 = .ok (.aload_n 0, 1) := by decide +kernel
theorem dX10_laysPart_81 : decode cX10_laysPart 81 = .ok (.iconst 5, 1) := by decide +kernel
theorem dX10_laysPart_82 : decode cX10_laysPart 82 = .ok (.iload_n 1, 1) := by decide +kernel
theorem dX10_laysPart_83 : decode cX10_laysPart 83 = .ok (.invokevirtual 307, 3) := by decide +kernel
theorem dX10_laysPart_86 : decode cX10_laysPart 86 = .ok (.istore 5, 2) := by decide +kernel
theorem dX10_laysPart_88 : decode cX10_laysPart 88 = .ok (.aload_n 0, 1) := by decide +kernel
theorem dX10_laysPart_89 : decode cX10_laysPart 89 = .ok (.getfield 48, 3) := by decide +kernel
theorem dX10_laysPart_92 : decode cX10_laysPart 92 = .ok (.aload_n 0, 1) := by decide +kernel
theorem dX10_laysPart_93 : decode cX10_laysPart 93 = .ok (.iload_n 3, 1) := by decide +kernel
theorem dX10_laysPart_94 : decode cX10_laysPart 94 = .ok (.iload_n 2, 1) := by decide +kernel
theorem dX10_laysPart_95 : decode cX10_laysPart 95 = .ok (.iconst 1, 1) := by decide +kernel
theorem dX10_laysPart_96 : decode cX10_laysPart 96 = .ok (.isub, 1) := by decide +kernel
theorem dX10_laysPart_97 : decode cX10_laysPart 97 = .ok (.iload 4, 2) := by decide +kernel
theorem dX10_laysPart_99 : decode cX10_laysPart 99 = .ok (.iconst 2, 1) := by decide +kernel
theorem dX10_laysPart_100 : decode cX10_laysPart 100 = .ok (.isub, 1) := by decide +kernel
theorem dX10_laysPart_101 : decode cX10_laysPart 101 = .ok (.isub, 1) := by decide +kernel
theorem dX10_laysPart_102 : decode cX10_laysPart 102 = .ok (.invokevirtual 293, 3) := by decide +kernel
theorem dX10_laysPart_105 : decode cX10_laysPart 105 = .ok (.iconst 4, 1) := by decide +kernel
theorem dX10_laysPart_106 : decode cX10_laysPart 106 = .ok (.iload 5, 2) := by decide +kernel
theorem dX10_laysPart_108 : decode cX10_laysPart 108 = .ok (.imul, 1) := by decide +kernel
theorem dX10_laysPart_109 : decode cX10_laysPart 109 = .ok (.iastore, 1) := by decide +kernel
theorem dX10_laysPart_110 : decode cX10_laysPart 110 = .ok (.iconst 4, 1) := by decide +kernel
theorem dX10_laysPart_111 : decode cX10_laysPart 111 = .ok (.iload 5, 2) := by decide +kernel
theorem dX10_laysPart_113 : decode cX10_laysPart 113 = .ok (.imul, 1) := by decide +kernel
theorem dX10_laysPart_114 : decode cX10_laysPart 114 = .ok (.iconst 1, 1) := by decide +kernel
theorem dX10_laysPart_115 : decode cX10_laysPart 115 = .ok (.iadd, 1) := by decide +kernel
theorem dX10_laysPart_116 : decode cX10_laysPart 116 = .ok (.ireturn, 1) := by decide +kernel
set_option maxRecDepth 20000 in
theorem ggX10_laysFunction_X10_newNode : GoodIn wsX10_laysFunction wsX10_newNode := goodIn_r _ [6, 7, 8, 9, 10, 33, 34, 35, 36, 37, 38, 39, 40, 41, 42, 43, 44, 45, 46, 47, 48, 49, 50, 51, 52, 53, 54, 55, 56, 57, 58, 59, 60, 61, 62, 63, 64, 65, 66, 67, 68, 69, 70, 71, 72, 73, 74, 75, 76, 77, 78, 79, 80, 81, 82, 83, 84, 85, 86, 87, 88, 89, 90, 91, 92, 93, 94, 95, 96, 97, 98, 99, 100, 101, 102, 103, 104, 105, 106, 107, 108] (by decide +kernel) (by decide +kernel)
set_option maxRecDepth 20000 in
theorem gX10_laysFunction_X10_newNode : GoodIn wsX10_laysFunction (wsV RX10 307 RX10 yX10_newNode wsX10_newNode) := goodIn_app (goodIn_of _ (by decide +kernel)) ggX10_laysFunction_X10_newNode
set_option maxRecDepth 20000 in
theorem ggX10_laysFunction_X10_laysPart : GoodIn wsX10_laysFunction wsX10_laysPart := goodIn_r _ [24, 1, 25, 26, 19, 20, 21, 5, 22, 27, 28, 29, 30, 31, 32, 2, 3, 4, 6, 7, 8, 9, 10, 23, 11, 12, 13, 14, 15, 16, 17, 18, 0, 33, 34, 35, 36, 37, 38, 39, 40, 41, 42, 43, 44, 45, 46, 47, 48, 49, 50, 51, 52, 53, 54, 55, 56, 57, 58, 59, 60, 61, 62, 63, 64, 65, 66, 67, 68, 69, 70, 71, 72, 73, 74, 75, 76, 77, 78, 79, 80, 81, 82, 83, 84, 85, 86, 87, 88, 89, 90, 91, 92, 93, 94, 95, 96, 97, 98, 99, 100, 101, 102, 103, 104, 105, 106, 107, 108] (by decide +kernel) (by decide +kernel)
set_option maxRecDepth 20000 in
theorem gX10_laysFunction_X10_laysPart : GoodIn wsX10_laysFunction (wsV RX10 310 RX10 yX10_laysPart wsX10_laysPart) := goodIn_app (goodIn_of _ (by decide +kernel)) ggX10_laysFunction_X10_laysPart
set_option maxRecDepth 20000 in
theorem ggX10_laysFunction_X10_wires : GoodIn wsX10_laysFunction wsX10_wires := goodIn_r _ [17, 18, 33, 34, 35, 36, 37, 38, 39, 40, 41, 42, 43, 44, 45, 46, 47, 48, 49, 50, 51, 52, 53, 54, 55, 56, 57, 58, 59, 60, 61, 62, 63, 64, 65, 66, 67, 68, 69, 70, 71, 72, 73, 74, 75, 76, 77, 78, 79, 80, 81, 82, 83, 84, 85, 86, 87, 88, 89, 90, 91, 92, 93, 94, 95, 96, 97, 98, 99, 100, 101, 102, 103, 104, 105, 106, 107, 108] (by decide +kernel) (by decide +kernel)
set_option maxRecDepth 20000 in
theorem gX10_laysFunction_X10_wires : GoodIn wsX10_laysFunction (wsV RX10 313 RX10 yX10_wires wsX10_wires) := goodIn_app (goodIn_of _ (by decide +kernel)) ggX10_laysFunction_X10_wires
set_option maxRecDepth 20000 in
theorem ggX10_laysFunction_X10_endAt : GoodIn wsX10_laysFunction wsX10_endAt := goodIn_r _ [22] (by decide +kernel) (by decide +kernel)
set_option maxRecDepth 20000 in
theorem gX10_laysFunction_X10_endAt : GoodIn wsX10_laysFunction (wsV RX10 293 RX10 yX10_endAt wsX10_endAt) := goodIn_app (goodIn_of _ (by decide +kernel)) ggX10_laysFunction_X10_endAt
theorem dX10_laysFunction_0 : decode cX10_laysFunction 0 = .ok (.aload_n 0, 1) := by decide +kernel
theorem dX10_laysFunction_1 : decode cX10_laysFunction 1 = .ok (.iconst 1, 1) := by decide +kernel
theorem dX10_laysFunction_2 : decode cX10_laysFunction 2 = .ok (.iload_n 1, 1) := by decide +kernel
theorem dX10_laysFunction_3 : decode cX10_laysFunction 3 = .ok (.invokevirtual 307, 3) := by decide +kernel
theorem dX10_laysFunction_6 : decode cX10_laysFunction 6 = .ok (.istore 4, 2) := by decide +kernel
theorem dX10_laysFunction_8 : decode cX10_laysFunction 8 = .ok (.aload_n 0, 1) := by decide +kernel
theorem dX10_laysFunction_9 : decode cX10_laysFunction 9 = .ok (.iload_n 1, 1) := by decide +kernel
theorem dX10_laysFunction_10 : decode cX10_laysFunction 10 = .ok (.iload_n 2, 1) := by decide +kernel
theorem dX10_laysFunction_11 : decode cX10_laysFunction 11 = .ok (.iconst 1, 1) := by decide +kernel
theorem dX10_laysFunction_12 : decode cX10_laysFunction 12 = .ok (.iadd, 1) := by decide +kernel
theorem dX10_laysFunction_13 : decode cX10_laysFunction 13 = .ok (.iload_n 3, 1) := by decide +kernel
theorem dX10_laysFunction_14 : decode cX10_laysFunction 14 = .ok (.invokevirtual 310, 3) := by decide +kernel
theorem dX10_laysFunction_17 : decode cX10_laysFunction 17 = .ok (.istore 5, 2) := by decide +kernel
theorem dX10_laysFunction_19 : decode cX10_laysFunction 19 = .ok (.aload_n 0, 1) := by decide +kernel
theorem dX10_laysFunction_20 : decode cX10_laysFunction 20 = .ok (.iconst 4, 1) := by decide +kernel
theorem dX10_laysFunction_21 : decode cX10_laysFunction 21 = .ok (.iload 4, 2) := by decide +kernel
theorem dX10_laysFunction_23 : decode cX10_laysFunction 23 = .ok (.imul, 1) := by decide +kernel
theorem dX10_laysFunction_24 : decode cX10_laysFunction 24 = .ok (.iconst 1, 1) := by decide +kernel
theorem dX10_laysFunction_25 : decode cX10_laysFunction 25 = .ok (.iadd, 1) := by decide +kernel
theorem dX10_laysFunction_26 : decode cX10_laysFunction 26 = .ok (.iload 5, 2) := by decide +kernel
theorem dX10_laysFunction_28 : decode cX10_laysFunction 28 = .ok (.invokevirtual 313, 3) := by decide +kernel
theorem dX10_laysFunction_31 : decode cX10_laysFunction 31 = .ok (.aload_n 0, 1) := by decide +kernel
theorem dX10_laysFunction_32 : decode cX10_laysFunction 32 = .ok (.getfield 48, 3) := by decide +kernel
theorem dX10_laysFunction_35 : decode cX10_laysFunction 35 = .ok (.aload_n 0, 1) := by decide +kernel
theorem dX10_laysFunction_36 : decode cX10_laysFunction 36 = .ok (.iload_n 3, 1) := by decide +kernel
theorem dX10_laysFunction_37 : decode cX10_laysFunction 37 = .ok (.iload_n 2, 1) := by decide +kernel
theorem dX10_laysFunction_38 : decode cX10_laysFunction 38 = .ok (.invokevirtual 293, 3) := by decide +kernel
theorem dX10_laysFunction_41 : decode cX10_laysFunction 41 = .ok (.iaload, 1) := by decide +kernel
theorem dX10_laysFunction_42 : decode cX10_laysFunction 42 = .ok (.istore 6, 2) := by decide +kernel
theorem dX10_laysFunction_44 : decode cX10_laysFunction 44 = .ok (.aload_n 0, 1) := by decide +kernel
theorem dX10_laysFunction_45 : decode cX10_laysFunction 45 = .ok (.iconst 4, 1) := by decide +kernel
theorem dX10_laysFunction_46 : decode cX10_laysFunction 46 = .ok (.iload 4, 2) := by decide +kernel
theorem dX10_laysFunction_48 : decode cX10_laysFunction 48 = .ok (.imul, 1) := by decide +kernel
theorem dX10_laysFunction_49 : decode cX10_laysFunction 49 = .ok (.iconst 2, 1) := by decide +kernel
theorem dX10_laysFunction_50 : decode cX10_laysFunction 50 = .ok (.iadd, 1) := by decide +kernel
theorem dX10_laysFunction_51 : decode cX10_laysFunction 51 = .ok (.iload 6, 2) := by decide +kernel
theorem dX10_laysFunction_53 : decode cX10_laysFunction 53 = .ok (.iconst (-1), 1) := by decide +kernel
theorem dX10_laysFunction_54 : decode cX10_laysFunction 54 = .ok (.if_icmp .ne 15, 3) := by decide +kernel
theorem dX10_laysFunction_57 : decode cX10_laysFunction 57 = .ok (.iconst 4, 1) := by decide +kernel
theorem dX10_laysFunction_58 : decode cX10_laysFunction 58 = .ok (.aload_n 0, 1) := by decide +kernel
theorem dX10_laysFunction_59 : decode cX10_laysFunction 59 = .ok (.bipush 6, 2) := by decide +kernel
theorem dX10_laysFunction_61 : decode cX10_laysFunction 61 = .ok (.iconst 0, 1) := by decide +kernel
theorem dX10_laysFunction_62 : decode cX10_laysFunction 62 = .ok (.invokevirtual 307, 3) := by decide +kernel
theorem dX10_laysFunction_65 : decode cX10_laysFunction 65 = .ok (.imul, 1) := by decide +kernel
theorem dX10_laysFunction_66 : decode cX10_laysFunction 66 = .ok (.goto 5, 3) := by decide +kernel
theorem dX10_laysFunction_69 : decode cX10_laysFunction 69 = .ok (.iload 6, 2) := by decide +kernel
theorem dX10_laysFunction_71 : decode cX10_laysFunction 71 = .ok (.invokevirtual 313, 3) := by decide +kernel
theorem dX10_laysFunction_74 : decode cX10_laysFunction 74 = .ok (.iconst 4, 1) := by decide +kernel
theorem dX10_laysFunction_75 : decode cX10_laysFunction 75 = .ok (.iload 4, 2) := by decide +kernel
theorem dX10_laysFunction_77 : decode cX10_laysFunction 77 = .ok (.imul, 1) := by decide +kernel
theorem dX10_laysFunction_78 : decode cX10_laysFunction 78 = .ok (.ireturn, 1) := by decide +kernel
set_option maxRecDepth 20000 in
theorem ggX10_laysApplication_X10_newNode : GoodIn wsX10_laysApplication wsX10_newNode := goodIn_r _ [6, 7, 8, 9, 10, 33, 34, 35, 36, 37, 38, 39, 40, 41, 42, 43, 44, 45, 46, 47, 48, 49, 50, 51, 52, 53, 54, 55, 56, 57, 58, 59, 60, 61, 62, 63, 64, 65, 66, 67, 68, 69, 70, 71, 72, 73, 74, 75, 76, 77, 78, 79, 80, 81, 82, 83, 84, 85, 86, 87, 88, 89, 90, 91, 92, 93, 94, 95, 96, 97, 98, 99, 100, 101, 102, 103, 104, 105, 106, 107, 108] (by decide +kernel) (by decide +kernel)
set_option maxRecDepth 20000 in
theorem gX10_laysApplication_X10_newNode : GoodIn wsX10_laysApplication (wsV RX10 307 RX10 yX10_newNode wsX10_newNode) := goodIn_app (goodIn_of _ (by decide +kernel)) ggX10_laysApplication_X10_newNode
set_option maxRecDepth 20000 in
theorem ggX10_laysApplication_X10_laysPart : GoodIn wsX10_laysApplication wsX10_laysPart := goodIn_r _ [24, 1, 25, 26, 19, 20, 21, 5, 22, 27, 28, 29, 30, 31, 32, 2, 3, 4, 6, 7, 8, 9, 10, 0, 11, 12, 13, 14, 15, 16, 17, 18, 23, 33, 34, 35, 36, 37, 38, 39, 40, 41, 42, 43, 44, 45, 46, 47, 48, 49, 50, 51, 52, 53, 54, 55, 56, 57, 58, 59, 60, 61, 62, 63, 64, 65, 66, 67, 68, 69, 70, 71, 72, 73, 74, 75, 76, 77, 78, 79, 80, 81, 82, 83, 84, 85, 86, 87, 88, 89, 90, 91, 92, 93, 94, 95, 96, 97, 98, 99, 100, 101, 102, 103, 104, 105, 106, 107, 108] (by decide +kernel) (by decide +kernel)
set_option maxRecDepth 20000 in
theorem gX10_laysApplication_X10_laysPart : GoodIn wsX10_laysApplication (wsV RX10 310 RX10 yX10_laysPart wsX10_laysPart) := goodIn_app (goodIn_of _ (by decide +kernel)) ggX10_laysApplication_X10_laysPart
set_option maxRecDepth 20000 in
theorem ggX10_laysApplication_X10_wires : GoodIn wsX10_laysApplication wsX10_wires := goodIn_r _ [17, 18, 33, 34, 35, 36, 37, 38, 39, 40, 41, 42, 43, 44, 45, 46, 47, 48, 49, 50, 51, 52, 53, 54, 55, 56, 57, 58, 59, 60, 61, 62, 63, 64, 65, 66, 67, 68, 69, 70, 71, 72, 73, 74, 75, 76, 77, 78, 79, 80, 81, 82, 83, 84, 85, 86, 87, 88, 89, 90, 91, 92, 93, 94, 95, 96, 97, 98, 99, 100, 101, 102, 103, 104, 105, 106, 107, 108] (by decide +kernel) (by decide +kernel)
set_option maxRecDepth 20000 in
theorem gX10_laysApplication_X10_wires : GoodIn wsX10_laysApplication (wsV RX10 313 RX10 yX10_wires wsX10_wires) := goodIn_app (goodIn_of _ (by decide +kernel)) ggX10_laysApplication_X10_wires
set_option maxRecDepth 20000 in
theorem ggX10_laysApplication_X10_endAt : GoodIn wsX10_laysApplication wsX10_endAt := goodIn_r _ [22] (by decide +kernel) (by decide +kernel)
set_option maxRecDepth 20000 in
theorem gX10_laysApplication_X10_endAt : GoodIn wsX10_laysApplication (wsV RX10 293 RX10 yX10_endAt wsX10_endAt) := goodIn_app (goodIn_of _ (by decide +kernel)) ggX10_laysApplication_X10_endAt
theorem dX10_laysApplication_0 : decode cX10_laysApplication 0 = .ok (.aload_n 0, 1) := by decide +kernel
theorem dX10_laysApplication_1 : decode cX10_laysApplication 1 = .ok (.iconst 2, 1) := by decide +kernel
theorem dX10_laysApplication_2 : decode cX10_laysApplication 2 = .ok (.iload_n 1, 1) := by decide +kernel
theorem dX10_laysApplication_3 : decode cX10_laysApplication 3 = .ok (.invokevirtual 307, 3) := by decide +kernel
theorem dX10_laysApplication_6 : decode cX10_laysApplication 6 = .ok (.istore 4, 2) := by decide +kernel
theorem dX10_laysApplication_8 : decode cX10_laysApplication 8 = .ok (.aload_n 0, 1) := by decide +kernel
theorem dX10_laysApplication_9 : decode cX10_laysApplication 9 = .ok (.iconst 4, 1) := by decide +kernel
theorem dX10_laysApplication_10 : decode cX10_laysApplication 10 = .ok (.iload 4, 2) := by decide +kernel
theorem dX10_laysApplication_12 : decode cX10_laysApplication 12 = .ok (.imul, 1) := by decide +kernel
theorem dX10_laysApplication_13 : decode cX10_laysApplication 13 = .ok (.aload_n 0, 1) := by decide +kernel
theorem dX10_laysApplication_14 : decode cX10_laysApplication 14 = .ok (.iload_n 1, 1) := by decide +kernel
theorem dX10_laysApplication_15 : decode cX10_laysApplication 15 = .ok (.iload_n 2, 1) := by decide +kernel
theorem dX10_laysApplication_16 : decode cX10_laysApplication 16 = .ok (.iload_n 3, 1) := by decide +kernel
theorem dX10_laysApplication_17 : decode cX10_laysApplication 17 = .ok (.invokevirtual 310, 3) := by decide +kernel
theorem dX10_laysApplication_20 : decode cX10_laysApplication 20 = .ok (.invokevirtual 313, 3) := by decide +kernel
theorem dX10_laysApplication_23 : decode cX10_laysApplication 23 = .ok (.aload_n 0, 1) := by decide +kernel
theorem dX10_laysApplication_24 : decode cX10_laysApplication 24 = .ok (.iconst 4, 1) := by decide +kernel
theorem dX10_laysApplication_25 : decode cX10_laysApplication 25 = .ok (.iload 4, 2) := by decide +kernel
theorem dX10_laysApplication_27 : decode cX10_laysApplication 27 = .ok (.imul, 1) := by decide +kernel
theorem dX10_laysApplication_28 : decode cX10_laysApplication 28 = .ok (.iconst 2, 1) := by decide +kernel
theorem dX10_laysApplication_29 : decode cX10_laysApplication 29 = .ok (.iadd, 1) := by decide +kernel
theorem dX10_laysApplication_30 : decode cX10_laysApplication 30 = .ok (.aload_n 0, 1) := by decide +kernel
theorem dX10_laysApplication_31 : decode cX10_laysApplication 31 = .ok (.iload_n 1, 1) := by decide +kernel
theorem dX10_laysApplication_32 : decode cX10_laysApplication 32 = .ok (.iconst 1, 1) := by decide +kernel
theorem dX10_laysApplication_33 : decode cX10_laysApplication 33 = .ok (.iadd, 1) := by decide +kernel
theorem dX10_laysApplication_34 : decode cX10_laysApplication 34 = .ok (.iload_n 2, 1) := by decide +kernel
theorem dX10_laysApplication_35 : decode cX10_laysApplication 35 = .ok (.iload_n 3, 1) := by decide +kernel
theorem dX10_laysApplication_36 : decode cX10_laysApplication 36 = .ok (.iconst 1, 1) := by decide +kernel
theorem dX10_laysApplication_37 : decode cX10_laysApplication 37 = .ok (.iadd, 1) := by decide +kernel
theorem dX10_laysApplication_38 : decode cX10_laysApplication 38 = .ok (.invokevirtual 310, 3) := by decide +kernel
theorem dX10_laysApplication_41 : decode cX10_laysApplication 41 = .ok (.invokevirtual 313, 3) := by decide +kernel
theorem dX10_laysApplication_44 : decode cX10_laysApplication 44 = .ok (.iconst 0, 1) := by decide +kernel
theorem dX10_laysApplication_45 : decode cX10_laysApplication 45 = .ok (.istore 5, 2) := by decide +kernel
theorem dX10_laysApplication_47 : decode cX10_laysApplication 47 = .ok (.iload 5, 2) := by decide +kernel
theorem dX10_laysApplication_49 : decode cX10_laysApplication 49 = .ok (.iload_n 2, 1) := by decide +kernel
theorem dX10_laysApplication_50 : decode cX10_laysApplication 50 = .ok (.if_icmp .ge 72, 3) := by decide +kernel
theorem dX10_laysApplication_53 : decode cX10_laysApplication 53 = .ok (.aload_n 0, 1) := by decide +kernel
theorem dX10_laysApplication_54 : decode cX10_laysApplication 54 = .ok (.getfield 48, 3) := by decide +kernel
theorem dX10_laysApplication_57 : decode cX10_laysApplication 57 = .ok (.aload_n 0, 1) := by decide +kernel
theorem dX10_laysApplication_58 : decode cX10_laysApplication 58 = .ok (.iload_n 3, 1) := by decide +kernel
theorem dX10_laysApplication_59 : decode cX10_laysApplication 59 = .ok (.iconst 1, 1) := by decide +kernel
theorem dX10_laysApplication_60 : decode cX10_laysApplication 60 = .ok (.iadd, 1) := by decide +kernel
theorem dX10_laysApplication_61 : decode cX10_laysApplication 61 = .ok (.iload 5, 2) := by decide +kernel
theorem dX10_laysApplication_63 : decode cX10_laysApplication 63 = .ok (.invokevirtual 293, 3) := by decide +kernel
theorem dX10_laysApplication_66 : decode cX10_laysApplication 66 = .ok (.iaload, 1) := by decide +kernel
theorem dX10_laysApplication_67 : decode cX10_laysApplication 67 = .ok (.istore 6, 2) := by decide +kernel
theorem dX10_laysApplication_69 : decode cX10_laysApplication 69 = .ok (.iload 6, 2) := by decide +kernel
theorem dX10_laysApplication_71 : decode cX10_laysApplication 71 = .ok (.iconst (-1), 1) := by decide +kernel
theorem dX10_laysApplication_72 : decode cX10_laysApplication 72 = .ok (.if_icmp .ne 6, 3) := by decide +kernel
theorem dX10_laysApplication_75 : decode cX10_laysApplication 75 = .ok (.goto 41, 3) := by decide +kernel
theorem dX10_laysApplication_78 : decode cX10_laysApplication 78 = .ok (.aload_n 0, 1) := by decide +kernel
theorem dX10_laysApplication_79 : decode cX10_laysApplication 79 = .ok (.iconst 4, 1) := by decide +kernel
theorem dX10_laysApplication_80 : decode cX10_laysApplication 80 = .ok (.iload_n 1, 1) := by decide +kernel
theorem dX10_laysApplication_81 : decode cX10_laysApplication 81 = .ok (.invokevirtual 307, 3) := by decide +kernel
theorem dX10_laysApplication_84 : decode cX10_laysApplication 84 = .ok (.istore 7, 2) := by decide +kernel
theorem dX10_laysApplication_86 : decode cX10_laysApplication 86 = .ok (.aload_n 0, 1) := by decide +kernel
theorem dX10_laysApplication_87 : decode cX10_laysApplication 87 = .ok (.iconst 4, 1) := by decide +kernel
theorem dX10_laysApplication_88 : decode cX10_laysApplication 88 = .ok (.iload 7, 2) := by decide +kernel
theorem dX10_laysApplication_90 : decode cX10_laysApplication 90 = .ok (.imul, 1) := by decide +kernel
theorem dX10_laysApplication_91 : decode cX10_laysApplication 91 = .ok (.iconst 1, 1) := by decide +kernel
theorem dX10_laysApplication_92 : decode cX10_laysApplication 92 = .ok (.iadd, 1) := by decide +kernel
theorem dX10_laysApplication_93 : decode cX10_laysApplication 93 = .ok (.iload 6, 2) := by decide +kernel
theorem dX10_laysApplication_95 : decode cX10_laysApplication 95 = .ok (.invokevirtual 313, 3) := by decide +kernel
theorem dX10_laysApplication_98 : decode cX10_laysApplication 98 = .ok (.aload_n 0, 1) := by decide +kernel
theorem dX10_laysApplication_99 : decode cX10_laysApplication 99 = .ok (.getfield 48, 3) := by decide +kernel
theorem dX10_laysApplication_102 : decode cX10_laysApplication 102 = .ok (.aload_n 0, 1) := by decide +kernel
theorem dX10_laysApplication_103 : decode cX10_laysApplication 103 = .ok (.iload_n 3, 1) := by decide +kernel
theorem dX10_laysApplication_104 : decode cX10_laysApplication 104 = .ok (.iconst 1, 1) := by decide +kernel
theorem dX10_laysApplication_105 : decode cX10_laysApplication 105 = .ok (.iadd, 1) := by decide +kernel
theorem dX10_laysApplication_106 : decode cX10_laysApplication 106 = .ok (.iload 5, 2) := by decide +kernel
theorem dX10_laysApplication_108 : decode cX10_laysApplication 108 = .ok (.invokevirtual 293, 3) := by decide +kernel
theorem dX10_laysApplication_111 : decode cX10_laysApplication 111 = .ok (.iconst 4, 1) := by decide +kernel
theorem dX10_laysApplication_112 : decode cX10_laysApplication 112 = .ok (.iload 7, 2) := by decide +kernel
theorem dX10_laysApplication_114 : decode cX10_laysApplication 114 = .ok (.imul, 1) := by decide +kernel
theorem dX10_laysApplication_115 : decode cX10_laysApplication 115 = .ok (.iastore, 1) := by decide +kernel
theorem dX10_laysApplication_116 : decode cX10_laysApplication 116 = .ok (.iinc 5 1, 3) := by decide +kernel
theorem dX10_laysApplication_119 : decode cX10_laysApplication 119 = .ok (.goto (-72), 3) := by decide +kernel
theorem dX10_laysApplication_122 : decode cX10_laysApplication 122 = .ok (.iconst 0, 1) := by decide +kernel
theorem dX10_laysApplication_123 : decode cX10_laysApplication 123 = .ok (.istore 5, 2) := by decide +kernel
theorem dX10_laysApplication_125 : decode cX10_laysApplication 125 = .ok (.iload 5, 2) := by decide +kernel
theorem dX10_laysApplication_127 : decode cX10_laysApplication 127 = .ok (.iload_n 2, 1) := by decide +kernel
theorem dX10_laysApplication_128 : decode cX10_laysApplication 128 = .ok (.if_icmp .ge 127, 3) := by decide +kernel
theorem dX10_laysApplication_131 : decode cX10_laysApplication 131 = .ok (.aload_n 0, 1) := by decide +kernel
theorem dX10_laysApplication_132 : decode cX10_laysApplication 132 = .ok (.getfield 48, 3) := by decide +kernel
theorem dX10_laysApplication_135 : decode cX10_laysApplication 135 = .ok (.aload_n 0, 1) := by decide +kernel
theorem dX10_laysApplication_136 : decode cX10_laysApplication 136 = .ok (.iload_n 3, 1) := by decide +kernel
theorem dX10_laysApplication_137 : decode cX10_laysApplication 137 = .ok (.iload 5, 2) := by decide +kernel
theorem dX10_laysApplication_139 : decode cX10_laysApplication 139 = .ok (.invokevirtual 293, 3) := by decide +kernel
theorem dX10_laysApplication_142 : decode cX10_laysApplication 142 = .ok (.iaload, 1) := by decide +kernel
theorem dX10_laysApplication_143 : decode cX10_laysApplication 143 = .ok (.istore 6, 2) := by decide +kernel
theorem dX10_laysApplication_145 : decode cX10_laysApplication 145 = .ok (.aload_n 0, 1) := by decide +kernel
theorem dX10_laysApplication_146 : decode cX10_laysApplication 146 = .ok (.getfield 48, 3) := by decide +kernel
theorem dX10_laysApplication_149 : decode cX10_laysApplication 149 = .ok (.aload_n 0, 1) := by decide +kernel
theorem dX10_laysApplication_150 : decode cX10_laysApplication 150 = .ok (.iload_n 3, 1) := by decide +kernel
theorem dX10_laysApplication_151 : decode cX10_laysApplication 151 = .ok (.iconst 1, 1) := by decide +kernel
theorem dX10_laysApplication_152 : decode cX10_laysApplication 152 = .ok (.iadd, 1) := by decide +kernel
theorem dX10_laysApplication_153 : decode cX10_laysApplication 153 = .ok (.iload 5, 2) := by decide +kernel
theorem dX10_laysApplication_155 : decode cX10_laysApplication 155 = .ok (.invokevirtual 293, 3) := by decide +kernel
theorem dX10_laysApplication_158 : decode cX10_laysApplication 158 = .ok (.iaload, 1) := by decide +kernel
theorem dX10_laysApplication_159 : decode cX10_laysApplication 159 = .ok (.istore 7, 2) := by decide +kernel
theorem dX10_laysApplication_161 : decode cX10_laysApplication 161 = .ok (.iload 6, 2) := by decide +kernel
theorem dX10_laysApplication_163 : decode cX10_laysApplication 163 = .ok (.iconst (-1), 1) := by decide +kernel
theorem dX10_laysApplication_164 : decode cX10_laysApplication 164 = .ok (.if_icmp .eq 9, 3) := by decide +kernel
theorem dX10_laysApplication_167 : decode cX10_laysApplication 167 = .ok (.iload 7, 2) := by decide +kernel
theorem dX10_laysApplication_169 : decode cX10_laysApplication 169 = .ok (.iconst (-1), 1) := by decide +kernel
theorem dX10_laysApplication_170 : decode cX10_laysApplication 170 = .ok (.if_icmp .ne 31, 3) := by decide +kernel
theorem dX10_laysApplication_173 : decode cX10_laysApplication 173 = .ok (.aload_n 0, 1) := by decide +kernel
theorem dX10_laysApplication_174 : decode cX10_laysApplication 174 = .ok (.getfield 48, 3) := by decide +kernel
theorem dX10_laysApplication_177 : decode cX10_laysApplication 177 = .ok (.aload_n 0, 1) := by decide +kernel
theorem dX10_laysApplication_178 : decode cX10_laysApplication 178 = .ok (.iload_n 3, 1) := by decide +kernel
theorem dX10_laysApplication_179 : decode cX10_laysApplication 179 = .ok (.iload 5, 2) := by decide +kernel
theorem dX10_laysApplication_181 : decode cX10_laysApplication 181 = .ok (.invokevirtual 293, 3) := by decide +kernel
theorem dX10_laysApplication_184 : decode cX10_laysApplication 184 = .ok (.iload 6, 2) := by decide +kernel
theorem dX10_laysApplication_186 : decode cX10_laysApplication 186 = .ok (.iconst (-1), 1) := by decide +kernel
theorem dX10_laysApplication_187 : decode cX10_laysApplication 187 = .ok (.if_icmp .ne 8, 3) := by decide +kernel
theorem dX10_laysApplication_190 : decode cX10_laysApplication 190 = .ok (.iload 7, 2) := by decide +kernel
theorem dX10_laysApplication_192 : decode cX10_laysApplication 192 = .ok (.goto 5, 3) := by decide +kernel
theorem dX10_laysApplication_195 : decode cX10_laysApplication 195 = .ok (.iload 6, 2) := by decide +kernel
theorem dX10_laysApplication_197 : decode cX10_laysApplication 197 = .ok (.iastore, 1) := by decide +kernel
theorem dX10_laysApplication_198 : decode cX10_laysApplication 198 = .ok (.goto 51, 3) := by decide +kernel
theorem dX10_laysApplication_201 : decode cX10_laysApplication 201 = .ok (.aload_n 0, 1) := by decide +kernel
theorem dX10_laysApplication_202 : decode cX10_laysApplication 202 = .ok (.iconst 3, 1) := by decide +kernel
theorem dX10_laysApplication_203 : decode cX10_laysApplication 203 = .ok (.iload_n 1, 1) := by decide +kernel
theorem dX10_laysApplication_204 : decode cX10_laysApplication 204 = .ok (.invokevirtual 307, 3) := by decide +kernel
theorem dX10_laysApplication_207 : decode cX10_laysApplication 207 = .ok (.istore 8, 2) := by decide +kernel
theorem dX10_laysApplication_209 : decode cX10_laysApplication 209 = .ok (.aload_n 0, 1) := by decide +kernel
theorem dX10_laysApplication_210 : decode cX10_laysApplication 210 = .ok (.iconst 4, 1) := by decide +kernel
theorem dX10_laysApplication_211 : decode cX10_laysApplication 211 = .ok (.iload 8, 2) := by decide +kernel
theorem dX10_laysApplication_213 : decode cX10_laysApplication 213 = .ok (.imul, 1) := by decide +kernel
theorem dX10_laysApplication_214 : decode cX10_laysApplication 214 = .ok (.iconst 1, 1) := by decide +kernel
theorem dX10_laysApplication_215 : decode cX10_laysApplication 215 = .ok (.iadd, 1) := by decide +kernel
theorem dX10_laysApplication_216 : decode cX10_laysApplication 216 = .ok (.iload 6, 2) := by decide +kernel
theorem dX10_laysApplication_218 : decode cX10_laysApplication 218 = .ok (.invokevirtual 313, 3) := by decide +kernel
theorem dX10_laysApplication_221 : decode cX10_laysApplication 221 = .ok (.aload_n 0, 1) := by decide +kernel
theorem dX10_laysApplication_222 : decode cX10_laysApplication 222 = .ok (.iconst 4, 1) := by decide +kernel
theorem dX10_laysApplication_223 : decode cX10_laysApplication 223 = .ok (.iload 8, 2) := by decide +kernel
theorem dX10_laysApplication_225 : decode cX10_laysApplication 225 = .ok (.imul, 1) := by decide +kernel
theorem dX10_laysApplication_226 : decode cX10_laysApplication 226 = .ok (.iconst 2, 1) := by decide +kernel
theorem dX10_laysApplication_227 : decode cX10_laysApplication 227 = .ok (.iadd, 1) := by decide +kernel
theorem dX10_laysApplication_228 : decode cX10_laysApplication 228 = .ok (.iload 7, 2) := by decide +kernel
theorem dX10_laysApplication_230 : decode cX10_laysApplication 230 = .ok (.invokevirtual 313, 3) := by decide +kernel
theorem dX10_laysApplication_233 : decode cX10_laysApplication 233 = .ok (.aload_n 0, 1) := by decide +kernel
theorem dX10_laysApplication_234 : decode cX10_laysApplication 234 = .ok (.getfield 48, 3) := by decide +kernel
theorem dX10_laysApplication_237 : decode cX10_laysApplication 237 = .ok (.aload_n 0, 1) := by decide +kernel
theorem dX10_laysApplication_238 : decode cX10_laysApplication 238 = .ok (.iload_n 3, 1) := by decide +kernel
theorem dX10_laysApplication_239 : decode cX10_laysApplication 239 = .ok (.iload 5, 2) := by decide +kernel
theorem dX10_laysApplication_241 : decode cX10_laysApplication 241 = .ok (.invokevirtual 293, 3) := by decide +kernel
theorem dX10_laysApplication_244 : decode cX10_laysApplication 244 = .ok (.iconst 4, 1) := by decide +kernel
theorem dX10_laysApplication_245 : decode cX10_laysApplication 245 = .ok (.iload 8, 2) := by decide +kernel
theorem dX10_laysApplication_247 : decode cX10_laysApplication 247 = .ok (.imul, 1) := by decide +kernel
theorem dX10_laysApplication_248 : decode cX10_laysApplication 248 = .ok (.iastore, 1) := by decide +kernel
theorem dX10_laysApplication_249 : decode cX10_laysApplication 249 = .ok (.iinc 5 1, 3) := by decide +kernel
theorem dX10_laysApplication_252 : decode cX10_laysApplication 252 = .ok (.goto (-127), 3) := by decide +kernel
theorem dX10_laysApplication_255 : decode cX10_laysApplication 255 = .ok (.iconst 4, 1) := by decide +kernel
theorem dX10_laysApplication_256 : decode cX10_laysApplication 256 = .ok (.iload 4, 2) := by decide +kernel
theorem dX10_laysApplication_258 : decode cX10_laysApplication 258 = .ok (.imul, 1) := by decide +kernel
theorem dX10_laysApplication_259 : decode cX10_laysApplication 259 = .ok (.iconst 1, 1) := by decide +kernel
theorem dX10_laysApplication_260 : decode cX10_laysApplication 260 = .ok (.iadd, 1) := by decide +kernel
theorem dX10_laysApplication_261 : decode cX10_laysApplication 261 = .ok (.ireturn, 1) := by decide +kernel
set_option maxRecDepth 20000 in
theorem ggX10_laysNet_X10_newNode : GoodIn wsX10_laysNet wsX10_newNode := goodIn_r _ [9, 3, 1, 10, 2, 34, 35, 36, 37, 38, 39, 40, 41, 42, 43, 44, 45, 46, 47, 48, 49, 50, 51, 52, 53, 54, 55, 56, 57, 58, 59, 60, 61, 62, 63, 64, 65, 66, 67, 68, 69, 70, 71, 72, 73, 74, 75, 76, 77, 78, 79, 80, 81, 82, 83, 84, 85, 86, 87, 88, 89, 90, 91, 92, 93, 94, 95, 96, 97, 98, 99, 100, 101, 102, 103, 104, 105, 106, 107, 108, 109] (by decide +kernel) (by decide +kernel)
set_option maxRecDepth 20000 in
theorem gX10_laysNet_X10_newNode : GoodIn wsX10_laysNet (wsV RX10 307 RX10 yX10_newNode wsX10_newNode) := goodIn_app (goodIn_of _ (by decide +kernel)) ggX10_laysNet_X10_newNode
set_option maxRecDepth 20000 in
theorem ggX10_laysNet_X10_laysPart : GoodIn wsX10_laysNet wsX10_laysPart := goodIn_r _ [14, 15, 16, 4, 17, 18, 19, 8, 20, 21, 22, 23, 24, 25, 26, 5, 6, 7, 9, 3, 1, 10, 2, 27, 11, 12, 13, 28, 29, 30, 31, 32, 33, 34, 35, 36, 37, 38, 39, 40, 41, 42, 43, 44, 45, 46, 47, 48, 49, 50, 51, 52, 53, 54, 55, 56, 57, 58, 59, 60, 61, 62, 63, 64, 65, 66, 67, 68, 69, 70, 71, 72, 73, 74, 75, 76, 77, 78, 79, 80, 81, 82, 83, 84, 85, 86, 87, 88, 89, 90, 91, 92, 93, 94, 95, 96, 97, 98, 99, 100, 101, 102, 103, 104, 105, 106, 107, 108, 109] (by decide +kernel) (by decide +kernel)
set_option maxRecDepth 20000 in
theorem gX10_laysNet_X10_laysPart : GoodIn wsX10_laysNet (wsV RX10 310 RX10 yX10_laysPart wsX10_laysPart) := goodIn_app (goodIn_of _ (by decide +kernel)) ggX10_laysNet_X10_laysPart
set_option maxRecDepth 20000 in
theorem ggX10_laysNet_X10_wires : GoodIn wsX10_laysNet wsX10_wires := goodIn_r _ [31, 32, 34, 35, 36, 37, 38, 39, 40, 41, 42, 43, 44, 45, 46, 47, 48, 49, 50, 51, 52, 53, 54, 55, 56, 57, 58, 59, 60, 61, 62, 63, 64, 65, 66, 67, 68, 69, 70, 71, 72, 73, 74, 75, 76, 77, 78, 79, 80, 81, 82, 83, 84, 85, 86, 87, 88, 89, 90, 91, 92, 93, 94, 95, 96, 97, 98, 99, 100, 101, 102, 103, 104, 105, 106, 107, 108, 109] (by decide +kernel) (by decide +kernel)
set_option maxRecDepth 20000 in
theorem gX10_laysNet_X10_wires : GoodIn wsX10_laysNet (wsV RX10 313 RX10 yX10_wires wsX10_wires) := goodIn_app (goodIn_of _ (by decide +kernel)) ggX10_laysNet_X10_wires
theorem dX10_laysNet_0 : decode cX10_laysNet 0 = .ok (.iconst 0, 1) := by decide +kernel
theorem dX10_laysNet_1 : decode cX10_laysNet 1 = .ok (.istore_n 1, 1) := by decide +kernel
theorem dX10_laysNet_2 : decode cX10_laysNet 2 = .ok (.iload_n 1, 1) := by decide +kernel
theorem dX10_laysNet_3 : decode cX10_laysNet 3 = .ok (.sipush 8000, 3) := by decide +kernel
theorem dX10_laysNet_6 : decode cX10_laysNet 6 = .ok (.if_icmp .ge 16, 3) := by decide +kernel
theorem dX10_laysNet_9 : decode cX10_laysNet 9 = .ok (.aload_n 0, 1) := by decide +kernel
theorem dX10_laysNet_10 : decode cX10_laysNet 10 = .ok (.getfield 39, 3) := by decide +kernel
theorem dX10_laysNet_13 : decode cX10_laysNet 13 = .ok (.iload_n 1, 1) := by decide +kernel
theorem dX10_laysNet_14 : decode cX10_laysNet 14 = .ok (.iconst (-1), 1) := by decide +kernel
theorem dX10_laysNet_15 : decode cX10_laysNet 15 = .ok (.iastore, 1) := by decide +kernel
theorem dX10_laysNet_16 : decode cX10_laysNet 16 = .ok (.iinc 1 1, 3) := by decide +kernel
theorem dX10_laysNet_19 : decode cX10_laysNet 19 = .ok (.goto (-17), 3) := by decide +kernel
theorem dX10_laysNet_22 : decode cX10_laysNet 22 = .ok (.aload_n 0, 1) := by decide +kernel
theorem dX10_laysNet_23 : decode cX10_laysNet 23 = .ok (.iconst 0, 1) := by decide +kernel
theorem dX10_laysNet_24 : decode cX10_laysNet 24 = .ok (.putfield 281, 3) := by decide +kernel
theorem dX10_laysNet_27 : decode cX10_laysNet 27 = .ok (.aload_n 0, 1) := by decide +kernel
theorem dX10_laysNet_28 : decode cX10_laysNet 28 = .ok (.iconst 0, 1) := by decide +kernel
theorem dX10_laysNet_29 : decode cX10_laysNet 29 = .ok (.putfield 290, 3) := by decide +kernel
theorem dX10_laysNet_32 : decode cX10_laysNet 32 = .ok (.aload_n 0, 1) := by decide +kernel
theorem dX10_laysNet_33 : decode cX10_laysNet 33 = .ok (.iconst 0, 1) := by decide +kernel
theorem dX10_laysNet_34 : decode cX10_laysNet 34 = .ok (.iconst 0, 1) := by decide +kernel
theorem dX10_laysNet_35 : decode cX10_laysNet 35 = .ok (.invokevirtual 307, 3) := by decide +kernel
theorem dX10_laysNet_38 : decode cX10_laysNet 38 = .ok (.pop, 1) := by decide +kernel
theorem dX10_laysNet_39 : decode cX10_laysNet 39 = .ok (.aload_n 0, 1) := by decide +kernel
theorem dX10_laysNet_40 : decode cX10_laysNet 40 = .ok (.iconst 0, 1) := by decide +kernel
theorem dX10_laysNet_41 : decode cX10_laysNet 41 = .ok (.putfield 297, 3) := by decide +kernel
theorem dX10_laysNet_44 : decode cX10_laysNet 44 = .ok (.aload_n 0, 1) := by decide +kernel
theorem dX10_laysNet_45 : decode cX10_laysNet 45 = .ok (.iconst 0, 1) := by decide +kernel
theorem dX10_laysNet_46 : decode cX10_laysNet 46 = .ok (.aload_n 0, 1) := by decide +kernel
theorem dX10_laysNet_47 : decode cX10_laysNet 47 = .ok (.iconst 0, 1) := by decide +kernel
theorem dX10_laysNet_48 : decode cX10_laysNet 48 = .ok (.iconst 0, 1) := by decide +kernel
theorem dX10_laysNet_49 : decode cX10_laysNet 49 = .ok (.iconst 0, 1) := by decide +kernel
theorem dX10_laysNet_50 : decode cX10_laysNet 50 = .ok (.invokevirtual 310, 3) := by decide +kernel
theorem dX10_laysNet_53 : decode cX10_laysNet 53 = .ok (.invokevirtual 313, 3) := by decide +kernel
theorem dX10_laysNet_56 : decode cX10_laysNet 56 = .ok (.return_, 1) := by decide +kernel
theorem dX10_begins_0 : decode cX10_begins 0 = .ok (.iconst 0, 1) := by decide +kernel
theorem dX10_begins_1 : decode cX10_begins 1 = .ok (.istore_n 1, 1) := by decide +kernel
theorem dX10_begins_2 : decode cX10_begins 2 = .ok (.iload_n 1, 1) := by decide +kernel
theorem dX10_begins_3 : decode cX10_begins 3 = .ok (.bipush 6, 2) := by decide +kernel
theorem dX10_begins_5 : decode cX10_begins 5 = .ok (.if_icmp .ge 16, 3) := by decide +kernel
theorem dX10_begins_8 : decode cX10_begins 8 = .ok (.aload_n 0, 1) := by decide +kernel
theorem dX10_begins_9 : decode cX10_begins 9 = .ok (.getfield 51, 3) := by decide +kernel
theorem dX10_begins_12 : decode cX10_begins 12 = .ok (.iload_n 1, 1) := by decide +kernel
theorem dX10_begins_13 : decode cX10_begins 13 = .ok (.iconst 0, 1) := by decide +kernel
theorem dX10_begins_14 : decode cX10_begins 14 = .ok (.iastore, 1) := by decide +kernel
theorem dX10_begins_15 : decode cX10_begins 15 = .ok (.iinc 1 1, 3) := by decide +kernel
theorem dX10_begins_18 : decode cX10_begins 18 = .ok (.goto (-16), 3) := by decide +kernel
theorem dX10_begins_21 : decode cX10_begins 21 = .ok (.aload_n 0, 1) := by decide +kernel
theorem dX10_begins_22 : decode cX10_begins 22 = .ok (.aload_n 0, 1) := by decide +kernel
theorem dX10_begins_23 : decode cX10_begins 23 = .ok (.getfield 281, 3) := by decide +kernel
theorem dX10_begins_26 : decode cX10_begins 26 = .ok (.putfield 316, 3) := by decide +kernel
theorem dX10_begins_29 : decode cX10_begins 29 = .ok (.return_, 1) := by decide +kernel
set_option maxRecDepth 20000 in
theorem ggX10_lays_X10_laysNet : GoodIn wsX10_lays wsX10_laysNet := goodIn_r _ [5, 6, 7, 8, 9, 10, 11, 12, 4, 13, 14, 15, 16, 17, 18, 19, 20, 21, 22, 23, 24, 25, 26, 27, 28, 29, 30, 31, 32, 33, 34, 35, 36, 37, 44, 45, 46, 47, 48, 49, 50, 51, 52, 53, 54, 55, 56, 57, 58, 59, 60, 61, 62, 63, 64, 65, 66, 67, 68, 69, 70, 71, 72, 73, 74, 75, 76, 77, 78, 79, 80, 81, 82, 83, 84, 85, 86, 87, 88, 89, 90, 91, 92, 93, 94, 95, 96, 97, 98, 99, 100, 101, 102, 103, 104, 105, 106, 107, 108, 109, 110, 111, 112, 113, 114, 115, 116, 117, 118, 119] (by decide +kernel) (by decide +kernel)
set_option maxRecDepth 20000 in
theorem gX10_lays_X10_laysNet : GoodIn wsX10_lays (wsV RX10 278 RX10 yX10_laysNet wsX10_laysNet) := goodIn_app (goodIn_of _ (by decide +kernel)) ggX10_lays_X10_laysNet
set_option maxRecDepth 20000 in
theorem ggX10_lays_X10_begins : GoodIn wsX10_lays wsX10_begins := goodIn_r _ [41, 42, 7, 43, 44, 45, 46, 47, 48, 49, 50, 51, 52, 53, 54, 55, 56, 57, 58, 59, 60, 61, 62, 63, 64, 65, 66, 67, 68, 69, 70, 71, 72, 73, 74, 75, 76, 77, 78, 79, 80, 81, 82, 83, 84, 85, 86, 87, 88, 89, 90, 91, 92, 93, 94, 95, 96, 97, 98, 99, 100, 101, 102, 103, 104, 105, 106, 107, 108, 109, 110, 111, 112, 113, 114, 115, 116, 117, 118, 119] (by decide +kernel) (by decide +kernel)
set_option maxRecDepth 20000 in
theorem gX10_lays_X10_begins : GoodIn wsX10_lays (wsV RX10 287 RX10 yX10_begins wsX10_begins) := goodIn_app (goodIn_of _ (by decide +kernel)) ggX10_lays_X10_begins
theorem dX10_lays_0 : decode cX10_lays 0 = .ok (.aload_n 0, 1) := by decide +kernel
theorem dX10_lays_1 : decode cX10_lays 1 = .ok (.invokevirtual 278, 3) := by decide +kernel
theorem dX10_lays_4 : decode cX10_lays 4 = .ok (.aload_n 0, 1) := by decide +kernel
theorem dX10_lays_5 : decode cX10_lays 5 = .ok (.invokevirtual 287, 3) := by decide +kernel
theorem dX10_lays_8 : decode cX10_lays 8 = .ok (.return_, 1) := by decide +kernel
theorem dX10_keepsNet_0 : decode cX10_keepsNet 0 = .ok (.aload_n 0, 1) := by decide +kernel
theorem dX10_keepsNet_1 : decode cX10_keepsNet 1 = .ok (.aload_n 0, 1) := by decide +kernel
theorem dX10_keepsNet_2 : decode cX10_keepsNet 2 = .ok (.getfield 281, 3) := by decide +kernel
theorem dX10_keepsNet_5 : decode cX10_keepsNet 5 = .ok (.putfield 319, 3) := by decide +kernel
theorem dX10_keepsNet_8 : decode cX10_keepsNet 8 = .ok (.aload_n 0, 1) := by decide +kernel
theorem dX10_keepsNet_9 : decode cX10_keepsNet 9 = .ok (.aload_n 0, 1) := by decide +kernel
theorem dX10_keepsNet_10 : decode cX10_keepsNet 10 = .ok (.getfield 290, 3) := by decide +kernel
theorem dX10_keepsNet_13 : decode cX10_keepsNet 13 = .ok (.putfield 322, 3) := by decide +kernel
theorem dX10_keepsNet_16 : decode cX10_keepsNet 16 = .ok (.iconst 0, 1) := by decide +kernel
theorem dX10_keepsNet_17 : decode cX10_keepsNet 17 = .ok (.istore_n 1, 1) := by decide +kernel
theorem dX10_keepsNet_18 : decode cX10_keepsNet 18 = .ok (.iload_n 1, 1) := by decide +kernel
theorem dX10_keepsNet_19 : decode cX10_keepsNet 19 = .ok (.aload_n 0, 1) := by decide +kernel
theorem dX10_keepsNet_20 : decode cX10_keepsNet 20 = .ok (.getfield 290, 3) := by decide +kernel
theorem dX10_keepsNet_23 : decode cX10_keepsNet 23 = .ok (.if_icmp .ge 66, 3) := by decide +kernel
theorem dX10_keepsNet_26 : decode cX10_keepsNet 26 = .ok (.aload_n 0, 1) := by decide +kernel
theorem dX10_keepsNet_27 : decode cX10_keepsNet 27 = .ok (.getfield 54, 3) := by decide +kernel
theorem dX10_keepsNet_30 : decode cX10_keepsNet 30 = .ok (.iload_n 1, 1) := by decide +kernel
theorem dX10_keepsNet_31 : decode cX10_keepsNet 31 = .ok (.aload_n 0, 1) := by decide +kernel
theorem dX10_keepsNet_32 : decode cX10_keepsNet 32 = .ok (.getfield 39, 3) := by decide +kernel
theorem dX10_keepsNet_35 : decode cX10_keepsNet 35 = .ok (.iload_n 1, 1) := by decide +kernel
theorem dX10_keepsNet_36 : decode cX10_keepsNet 36 = .ok (.iaload, 1) := by decide +kernel
theorem dX10_keepsNet_37 : decode cX10_keepsNet 37 = .ok (.iastore, 1) := by decide +kernel
theorem dX10_keepsNet_38 : decode cX10_keepsNet 38 = .ok (.aload_n 0, 1) := by decide +kernel
theorem dX10_keepsNet_39 : decode cX10_keepsNet 39 = .ok (.getfield 57, 3) := by decide +kernel
theorem dX10_keepsNet_42 : decode cX10_keepsNet 42 = .ok (.iload_n 1, 1) := by decide +kernel
theorem dX10_keepsNet_43 : decode cX10_keepsNet 43 = .ok (.aload_n 0, 1) := by decide +kernel
theorem dX10_keepsNet_44 : decode cX10_keepsNet 44 = .ok (.getfield 42, 3) := by decide +kernel
theorem dX10_keepsNet_47 : decode cX10_keepsNet 47 = .ok (.iload_n 1, 1) := by decide +kernel
theorem dX10_keepsNet_48 : decode cX10_keepsNet 48 = .ok (.iaload, 1) := by decide +kernel
theorem dX10_keepsNet_49 : decode cX10_keepsNet 49 = .ok (.iastore, 1) := by decide +kernel
theorem dX10_keepsNet_50 : decode cX10_keepsNet 50 = .ok (.iconst 0, 1) := by decide +kernel
theorem dX10_keepsNet_51 : decode cX10_keepsNet 51 = .ok (.istore_n 2, 1) := by decide +kernel
theorem dX10_keepsNet_52 : decode cX10_keepsNet 52 = .ok (.iload_n 2, 1) := by decide +kernel
theorem dX10_keepsNet_53 : decode cX10_keepsNet 53 = .ok (.iconst 4, 1) := by decide +kernel
theorem dX10_keepsNet_54 : decode cX10_keepsNet 54 = .ok (.if_icmp .ge 29, 3) := by decide +kernel
theorem dX10_keepsNet_57 : decode cX10_keepsNet 57 = .ok (.aload_n 0, 1) := by decide +kernel
theorem dX10_keepsNet_58 : decode cX10_keepsNet 58 = .ok (.getfield 60, 3) := by decide +kernel
theorem dX10_keepsNet_61 : decode cX10_keepsNet 61 = .ok (.iconst 4, 1) := by decide +kernel
theorem dX10_keepsNet_62 : decode cX10_keepsNet 62 = .ok (.iload_n 1, 1) := by decide +kernel
theorem dX10_keepsNet_63 : decode cX10_keepsNet 63 = .ok (.imul, 1) := by decide +kernel
theorem dX10_keepsNet_64 : decode cX10_keepsNet 64 = .ok (.iload_n 2, 1) := by decide +kernel
theorem dX10_keepsNet_65 : decode cX10_keepsNet 65 = .ok (.iadd, 1) := by decide +kernel
theorem dX10_keepsNet_66 : decode cX10_keepsNet 66 = .ok (.aload_n 0, 1) := by decide +kernel
theorem dX10_keepsNet_67 : decode cX10_keepsNet 67 = .ok (.getfield 45, 3) := by decide +kernel
theorem dX10_keepsNet_70 : decode cX10_keepsNet 70 = .ok (.iconst 4, 1) := by decide +kernel
theorem dX10_keepsNet_71 : decode cX10_keepsNet 71 = .ok (.iload_n 1, 1) := by decide +kernel
theorem dX10_keepsNet_72 : decode cX10_keepsNet 72 = .ok (.imul, 1) := by decide +kernel
theorem dX10_keepsNet_73 : decode cX10_keepsNet 73 = .ok (.iload_n 2, 1) := by decide +kernel
theorem dX10_keepsNet_74 : decode cX10_keepsNet 74 = .ok (.iadd, 1) := by decide +kernel
theorem dX10_keepsNet_75 : decode cX10_keepsNet 75 = .ok (.iaload, 1) := by decide +kernel
theorem dX10_keepsNet_76 : decode cX10_keepsNet 76 = .ok (.iastore, 1) := by decide +kernel
theorem dX10_keepsNet_77 : decode cX10_keepsNet 77 = .ok (.iinc 2 1, 3) := by decide +kernel
theorem dX10_keepsNet_80 : decode cX10_keepsNet 80 = .ok (.goto (-28), 3) := by decide +kernel
theorem dX10_keepsNet_83 : decode cX10_keepsNet 83 = .ok (.iinc 1 1, 3) := by decide +kernel
theorem dX10_keepsNet_86 : decode cX10_keepsNet 86 = .ok (.goto (-68), 3) := by decide +kernel
theorem dX10_keepsNet_89 : decode cX10_keepsNet 89 = .ok (.return_, 1) := by decide +kernel
theorem dX10_comesNet_0 : decode cX10_comesNet 0 = .ok (.iconst 0, 1) := by decide +kernel
theorem dX10_comesNet_1 : decode cX10_comesNet 1 = .ok (.istore_n 1, 1) := by decide +kernel
theorem dX10_comesNet_2 : decode cX10_comesNet 2 = .ok (.iload_n 1, 1) := by decide +kernel
theorem dX10_comesNet_3 : decode cX10_comesNet 3 = .ok (.sipush 8000, 3) := by decide +kernel
theorem dX10_comesNet_6 : decode cX10_comesNet 6 = .ok (.if_icmp .ge 16, 3) := by decide +kernel
theorem dX10_comesNet_9 : decode cX10_comesNet 9 = .ok (.aload_n 0, 1) := by decide +kernel
theorem dX10_comesNet_10 : decode cX10_comesNet 10 = .ok (.getfield 39, 3) := by decide +kernel
theorem dX10_comesNet_13 : decode cX10_comesNet 13 = .ok (.iload_n 1, 1) := by decide +kernel
theorem dX10_comesNet_14 : decode cX10_comesNet 14 = .ok (.iconst (-1), 1) := by decide +kernel
theorem dX10_comesNet_15 : decode cX10_comesNet 15 = .ok (.iastore, 1) := by decide +kernel
theorem dX10_comesNet_16 : decode cX10_comesNet 16 = .ok (.iinc 1 1, 3) := by decide +kernel
theorem dX10_comesNet_19 : decode cX10_comesNet 19 = .ok (.goto (-17), 3) := by decide +kernel
theorem dX10_comesNet_22 : decode cX10_comesNet 22 = .ok (.aload_n 0, 1) := by decide +kernel
theorem dX10_comesNet_23 : decode cX10_comesNet 23 = .ok (.aload_n 0, 1) := by decide +kernel
theorem dX10_comesNet_24 : decode cX10_comesNet 24 = .ok (.getfield 319, 3) := by decide +kernel
theorem dX10_comesNet_27 : decode cX10_comesNet 27 = .ok (.putfield 281, 3) := by decide +kernel
theorem dX10_comesNet_30 : decode cX10_comesNet 30 = .ok (.aload_n 0, 1) := by decide +kernel
theorem dX10_comesNet_31 : decode cX10_comesNet 31 = .ok (.aload_n 0, 1) := by decide +kernel
theorem dX10_comesNet_32 : decode cX10_comesNet 32 = .ok (.getfield 322, 3) := by decide +kernel
theorem dX10_comesNet_35 : decode cX10_comesNet 35 = .ok (.putfield 290, 3) := by decide +kernel
theorem dX10_comesNet_38 : decode cX10_comesNet 38 = .ok (.iconst 0, 1) := by decide +kernel
theorem dX10_comesNet_39 : decode cX10_comesNet 39 = .ok (.istore_n 1, 1) := by decide +kernel
theorem dX10_comesNet_40 : decode cX10_comesNet 40 = .ok (.iload_n 1, 1) := by decide +kernel
theorem dX10_comesNet_41 : decode cX10_comesNet 41 = .ok (.aload_n 0, 1) := by decide +kernel
theorem dX10_comesNet_42 : decode cX10_comesNet 42 = .ok (.getfield 290, 3) := by decide +kernel
theorem dX10_comesNet_45 : decode cX10_comesNet 45 = .ok (.if_icmp .ge 66, 3) := by decide +kernel
theorem dX10_comesNet_48 : decode cX10_comesNet 48 = .ok (.aload_n 0, 1) := by decide +kernel
theorem dX10_comesNet_49 : decode cX10_comesNet 49 = .ok (.getfield 39, 3) := by decide +kernel
theorem dX10_comesNet_52 : decode cX10_comesNet 52 = .ok (.iload_n 1, 1) := by decide +kernel
theorem dX10_comesNet_53 : decode cX10_comesNet 53 = .ok (.aload_n 0, 1) := by decide +kernel
theorem dX10_comesNet_54 : decode cX10_comesNet 54 = .ok (.getfield 54, 3) := by decide +kernel
theorem dX10_comesNet_57 : decode cX10_comesNet 57 = .ok (.iload_n 1, 1) := by decide +kernel
theorem dX10_comesNet_58 : decode cX10_comesNet 58 = .ok (.iaload, 1) := by decide +kernel
theorem dX10_comesNet_59 : decode cX10_comesNet 59 = .ok (.iastore, 1) := by decide +kernel
theorem dX10_comesNet_60 : decode cX10_comesNet 60 = .ok (.aload_n 0, 1) := by decide +kernel
theorem dX10_comesNet_61 : decode cX10_comesNet 61 = .ok (.getfield 42, 3) := by decide +kernel
theorem dX10_comesNet_64 : decode cX10_comesNet 64 = .ok (.iload_n 1, 1) := by decide +kernel
theorem dX10_comesNet_65 : decode cX10_comesNet 65 = .ok (.aload_n 0, 1) := by decide +kernel
theorem dX10_comesNet_66 : decode cX10_comesNet 66 = .ok (.getfield 57, 3) := by decide +kernel
theorem dX10_comesNet_69 : decode cX10_comesNet 69 = .ok (.iload_n 1, 1) := by decide +kernel
theorem dX10_comesNet_70 : decode cX10_comesNet 70 = .ok (.iaload, 1) := by decide +kernel
theorem dX10_comesNet_71 : decode cX10_comesNet 71 = .ok (.iastore, 1) := by decide +kernel
theorem dX10_comesNet_72 : decode cX10_comesNet 72 = .ok (.iconst 0, 1) := by decide +kernel
theorem dX10_comesNet_73 : decode cX10_comesNet 73 = .ok (.istore_n 2, 1) := by decide +kernel
theorem dX10_comesNet_74 : decode cX10_comesNet 74 = .ok (.iload_n 2, 1) := by decide +kernel
theorem dX10_comesNet_75 : decode cX10_comesNet 75 = .ok (.iconst 4, 1) := by decide +kernel
theorem dX10_comesNet_76 : decode cX10_comesNet 76 = .ok (.if_icmp .ge 29, 3) := by decide +kernel
theorem dX10_comesNet_79 : decode cX10_comesNet 79 = .ok (.aload_n 0, 1) := by decide +kernel
theorem dX10_comesNet_80 : decode cX10_comesNet 80 = .ok (.getfield 45, 3) := by decide +kernel
theorem dX10_comesNet_83 : decode cX10_comesNet 83 = .ok (.iconst 4, 1) := by decide +kernel
theorem dX10_comesNet_84 : decode cX10_comesNet 84 = .ok (.iload_n 1, 1) := by decide +kernel
theorem dX10_comesNet_85 : decode cX10_comesNet 85 = .ok (.imul, 1) := by decide +kernel
theorem dX10_comesNet_86 : decode cX10_comesNet 86 = .ok (.iload_n 2, 1) := by decide +kernel
theorem dX10_comesNet_87 : decode cX10_comesNet 87 = .ok (.iadd, 1) := by decide +kernel
theorem dX10_comesNet_88 : decode cX10_comesNet 88 = .ok (.aload_n 0, 1) := by decide +kernel
theorem dX10_comesNet_89 : decode cX10_comesNet 89 = .ok (.getfield 60, 3) := by decide +kernel
theorem dX10_comesNet_92 : decode cX10_comesNet 92 = .ok (.iconst 4, 1) := by decide +kernel
theorem dX10_comesNet_93 : decode cX10_comesNet 93 = .ok (.iload_n 1, 1) := by decide +kernel
theorem dX10_comesNet_94 : decode cX10_comesNet 94 = .ok (.imul, 1) := by decide +kernel
theorem dX10_comesNet_95 : decode cX10_comesNet 95 = .ok (.iload_n 2, 1) := by decide +kernel
theorem dX10_comesNet_96 : decode cX10_comesNet 96 = .ok (.iadd, 1) := by decide +kernel
theorem dX10_comesNet_97 : decode cX10_comesNet 97 = .ok (.iaload, 1) := by decide +kernel
theorem dX10_comesNet_98 : decode cX10_comesNet 98 = .ok (.iastore, 1) := by decide +kernel
theorem dX10_comesNet_99 : decode cX10_comesNet 99 = .ok (.iinc 2 1, 3) := by decide +kernel
theorem dX10_comesNet_102 : decode cX10_comesNet 102 = .ok (.goto (-28), 3) := by decide +kernel
theorem dX10_comesNet_105 : decode cX10_comesNet 105 = .ok (.iinc 1 1, 3) := by decide +kernel
theorem dX10_comesNet_108 : decode cX10_comesNet 108 = .ok (.goto (-68), 3) := by decide +kernel
theorem dX10_comesNet_111 : decode cX10_comesNet 111 = .ok (.return_, 1) := by decide +kernel
set_option maxRecDepth 20000 in
theorem ggX10_keepsOld_X10_keepsNet : GoodIn wsX10_keepsOld wsX10_keepsNet := goodIn_r _ [9, 10, 11, 12, 13, 14, 15, 16, 17, 18, 19, 20, 21, 22, 23, 24, 25, 26, 27, 28, 29, 30, 31, 32, 33, 34, 35, 36, 37, 38, 39, 40, 41, 42, 43, 44, 45, 46, 47, 48, 49, 50, 51, 52, 53, 54, 55, 56, 57, 58, 59, 60, 61, 62, 63, 64, 65, 66, 67, 68, 69, 70, 71, 72, 73, 74, 75, 76, 77, 78, 79, 80, 81, 82, 83, 84, 85, 86, 87, 88, 89, 90, 91, 92, 93, 94, 95] (by decide +kernel) (by decide +kernel)
set_option maxRecDepth 20000 in
theorem gX10_keepsOld_X10_keepsNet : GoodIn wsX10_keepsOld (wsV RX10 325 RX10 yX10_keepsNet wsX10_keepsNet) := goodIn_app (goodIn_of _ (by decide +kernel)) ggX10_keepsOld_X10_keepsNet
theorem dX10_keepsOld_0 : decode cX10_keepsOld 0 = .ok (.aload_n 0, 1) := by decide +kernel
theorem dX10_keepsOld_1 : decode cX10_keepsOld 1 = .ok (.invokevirtual 325, 3) := by decide +kernel
theorem dX10_keepsOld_4 : decode cX10_keepsOld 4 = .ok (.aload_n 0, 1) := by decide +kernel
theorem dX10_keepsOld_5 : decode cX10_keepsOld 5 = .ok (.aload_n 0, 1) := by decide +kernel
theorem dX10_keepsOld_6 : decode cX10_keepsOld 6 = .ok (.getfield 13, 3) := by decide +kernel
theorem dX10_keepsOld_9 : decode cX10_keepsOld 9 = .ok (.iconst 2, 1) := by decide +kernel
theorem dX10_keepsOld_10 : decode cX10_keepsOld 10 = .ok (.iaload, 1) := by decide +kernel
theorem dX10_keepsOld_11 : decode cX10_keepsOld 11 = .ok (.putfield 328, 3) := by decide +kernel
theorem dX10_keepsOld_14 : decode cX10_keepsOld 14 = .ok (.iconst 0, 1) := by decide +kernel
theorem dX10_keepsOld_15 : decode cX10_keepsOld 15 = .ok (.istore_n 1, 1) := by decide +kernel
theorem dX10_keepsOld_16 : decode cX10_keepsOld 16 = .ok (.iload_n 1, 1) := by decide +kernel
theorem dX10_keepsOld_17 : decode cX10_keepsOld 17 = .ok (.aload_n 0, 1) := by decide +kernel
theorem dX10_keepsOld_18 : decode cX10_keepsOld 18 = .ok (.getfield 328, 3) := by decide +kernel
theorem dX10_keepsOld_21 : decode cX10_keepsOld 21 = .ok (.if_icmp .ge 25, 3) := by decide +kernel
theorem dX10_keepsOld_24 : decode cX10_keepsOld 24 = .ok (.aload_n 0, 1) := by decide +kernel
theorem dX10_keepsOld_25 : decode cX10_keepsOld 25 = .ok (.getfield 63, 3) := by decide +kernel
theorem dX10_keepsOld_28 : decode cX10_keepsOld 28 = .ok (.iload_n 1, 1) := by decide +kernel
theorem dX10_keepsOld_29 : decode cX10_keepsOld 29 = .ok (.aload_n 0, 1) := by decide +kernel
theorem dX10_keepsOld_30 : decode cX10_keepsOld 30 = .ok (.getfield 7, 3) := by decide +kernel
theorem dX10_keepsOld_33 : decode cX10_keepsOld 33 = .ok (.sipush 2600, 3) := by decide +kernel
theorem dX10_keepsOld_36 : decode cX10_keepsOld 36 = .ok (.iload_n 1, 1) := by decide +kernel
theorem dX10_keepsOld_37 : decode cX10_keepsOld 37 = .ok (.iadd, 1) := by decide +kernel
theorem dX10_keepsOld_38 : decode cX10_keepsOld 38 = .ok (.iaload, 1) := by decide +kernel
theorem dX10_keepsOld_39 : decode cX10_keepsOld 39 = .ok (.iastore, 1) := by decide +kernel
theorem dX10_keepsOld_40 : decode cX10_keepsOld 40 = .ok (.iinc 1 1, 3) := by decide +kernel
theorem dX10_keepsOld_43 : decode cX10_keepsOld 43 = .ok (.goto (-27), 3) := by decide +kernel
theorem dX10_keepsOld_46 : decode cX10_keepsOld 46 = .ok (.return_, 1) := by decide +kernel
set_option maxRecDepth 20000 in
theorem ggX10_comesOld_X10_comesNet : GoodIn wsX10_comesOld wsX10_comesNet := goodIn_r _ [9, 10, 11, 12, 13, 14, 15, 16, 17, 18, 19, 20, 21, 22, 23, 24, 25, 26, 27, 28, 29, 30, 31, 32, 33, 34, 35, 36, 37, 38, 39, 40, 41, 42, 43, 44, 45, 46, 47, 48, 49, 50, 51, 52, 53, 54, 55, 56, 57, 58, 59, 60, 61, 62, 63, 64, 65, 66, 67, 68, 69, 70, 71, 72, 73, 74, 75, 76, 77, 78, 79, 80, 81, 82, 83, 84, 85, 86, 87, 88, 89, 90, 91, 92, 93, 94, 95] (by decide +kernel) (by decide +kernel)
set_option maxRecDepth 20000 in
theorem gX10_comesOld_X10_comesNet : GoodIn wsX10_comesOld (wsV RX10 331 RX10 yX10_comesNet wsX10_comesNet) := goodIn_app (goodIn_of _ (by decide +kernel)) ggX10_comesOld_X10_comesNet
theorem dX10_comesOld_0 : decode cX10_comesOld 0 = .ok (.aload_n 0, 1) := by decide +kernel
theorem dX10_comesOld_1 : decode cX10_comesOld 1 = .ok (.invokevirtual 331, 3) := by decide +kernel
theorem dX10_comesOld_4 : decode cX10_comesOld 4 = .ok (.aload_n 0, 1) := by decide +kernel
theorem dX10_comesOld_5 : decode cX10_comesOld 5 = .ok (.getfield 13, 3) := by decide +kernel
theorem dX10_comesOld_8 : decode cX10_comesOld 8 = .ok (.iconst 2, 1) := by decide +kernel
theorem dX10_comesOld_9 : decode cX10_comesOld 9 = .ok (.aload_n 0, 1) := by decide +kernel
theorem dX10_comesOld_10 : decode cX10_comesOld 10 = .ok (.getfield 328, 3) := by decide +kernel
theorem dX10_comesOld_13 : decode cX10_comesOld 13 = .ok (.iastore, 1) := by decide +kernel
theorem dX10_comesOld_14 : decode cX10_comesOld 14 = .ok (.iconst 0, 1) := by decide +kernel
theorem dX10_comesOld_15 : decode cX10_comesOld 15 = .ok (.istore_n 1, 1) := by decide +kernel
theorem dX10_comesOld_16 : decode cX10_comesOld 16 = .ok (.iload_n 1, 1) := by decide +kernel
theorem dX10_comesOld_17 : decode cX10_comesOld 17 = .ok (.aload_n 0, 1) := by decide +kernel
theorem dX10_comesOld_18 : decode cX10_comesOld 18 = .ok (.getfield 328, 3) := by decide +kernel
theorem dX10_comesOld_21 : decode cX10_comesOld 21 = .ok (.if_icmp .ge 25, 3) := by decide +kernel
theorem dX10_comesOld_24 : decode cX10_comesOld 24 = .ok (.aload_n 0, 1) := by decide +kernel
theorem dX10_comesOld_25 : decode cX10_comesOld 25 = .ok (.getfield 7, 3) := by decide +kernel
theorem dX10_comesOld_28 : decode cX10_comesOld 28 = .ok (.sipush 2600, 3) := by decide +kernel
theorem dX10_comesOld_31 : decode cX10_comesOld 31 = .ok (.iload_n 1, 1) := by decide +kernel
theorem dX10_comesOld_32 : decode cX10_comesOld 32 = .ok (.iadd, 1) := by decide +kernel
theorem dX10_comesOld_33 : decode cX10_comesOld 33 = .ok (.aload_n 0, 1) := by decide +kernel
theorem dX10_comesOld_34 : decode cX10_comesOld 34 = .ok (.getfield 63, 3) := by decide +kernel
theorem dX10_comesOld_37 : decode cX10_comesOld 37 = .ok (.iload_n 1, 1) := by decide +kernel
theorem dX10_comesOld_38 : decode cX10_comesOld 38 = .ok (.iaload, 1) := by decide +kernel
theorem dX10_comesOld_39 : decode cX10_comesOld 39 = .ok (.iastore, 1) := by decide +kernel
theorem dX10_comesOld_40 : decode cX10_comesOld 40 = .ok (.iinc 1 1, 3) := by decide +kernel
theorem dX10_comesOld_43 : decode cX10_comesOld 43 = .ok (.goto (-27), 3) := by decide +kernel
theorem dX10_comesOld_46 : decode cX10_comesOld 46 = .ok (.return_, 1) := by decide +kernel
set_option maxRecDepth 20000 in
theorem ggX10_again_X10_lays : GoodIn wsX10_again wsX10_lays := goodIn_r _ [7, 8, 9, 10, 6, 11, 12, 2, 13, 14, 15, 16, 17, 18, 19, 20, 21, 22, 23, 24, 25, 26, 27, 28, 29, 30, 31, 32, 33, 34, 35, 36, 37, 38, 39, 40, 41, 42, 43, 44, 45, 46, 47, 48, 49, 50, 51, 52, 53, 54, 55, 56, 57, 58, 59, 60, 61, 62, 63, 64, 65, 66, 67, 68, 69, 70, 71, 72, 73, 74, 75, 76, 77, 78, 79, 80, 81, 82, 83, 84, 85, 86, 87, 88, 89, 90, 91, 92, 93, 94, 95, 96, 97, 98, 99, 100, 101, 102, 103, 104, 105, 106, 107, 108, 109, 110, 111, 112, 113, 114, 115, 116, 117, 118, 119, 120, 121, 122, 123, 124] (by decide +kernel) (by decide +kernel)
set_option maxRecDepth 20000 in
theorem gX10_again_X10_lays : GoodIn wsX10_again (wsV RX10 138 RX10 yX10_lays wsX10_lays) := goodIn_app (goodIn_of _ (by decide +kernel)) ggX10_again_X10_lays
theorem dX10_again_0 : decode cX10_again 0 = .ok (.aload_n 0, 1) := by decide +kernel
theorem dX10_again_1 : decode cX10_again 1 = .ok (.iconst 0, 1) := by decide +kernel
theorem dX10_again_2 : decode cX10_again 2 = .ok (.putfield 141, 3) := by decide +kernel
theorem dX10_again_5 : decode cX10_again 5 = .ok (.aload_n 0, 1) := by decide +kernel
theorem dX10_again_6 : decode cX10_again 6 = .ok (.getfield 281, 3) := by decide +kernel
theorem dX10_again_9 : decode cX10_again 9 = .ok (.istore_n 1, 1) := by decide +kernel
theorem dX10_again_10 : decode cX10_again 10 = .ok (.aload_n 0, 1) := by decide +kernel
theorem dX10_again_11 : decode cX10_again 11 = .ok (.invokevirtual 138, 3) := by decide +kernel
theorem dX10_again_14 : decode cX10_again 14 = .ok (.iload_n 1, 1) := by decide +kernel
theorem dX10_again_15 : decode cX10_again 15 = .ok (.ireturn, 1) := by decide +kernel
set_option maxRecDepth 20000 in
theorem ggX10_isActive_X10_isNode : GoodIn wsX10_isActive wsX10_isNode := goodIn_r _ [7, 8, 1, 9, 10, 6, 11, 12, 13, 14, 15, 16, 17, 18, 19, 20, 21, 22, 23, 24, 25, 26, 27, 28, 29, 30, 31, 32, 33, 34, 35, 36, 37, 38, 39, 40, 41, 42, 43, 44, 45, 46, 47, 48, 49, 50, 51, 52, 53, 54, 55, 56, 57, 58, 59, 60, 61, 62, 63, 64, 65, 66, 67, 68, 69, 70, 71, 72, 73, 74, 75, 76, 77, 78, 79, 80, 81, 82, 83, 84, 85, 86, 87] (by decide +kernel) (by decide +kernel)
set_option maxRecDepth 20000 in
theorem gX10_isActive_X10_isNode : GoodIn wsX10_isActive (wsV RX10 334 RX10 yX10_isNode wsX10_isNode) := goodIn_app (goodIn_of _ (by decide +kernel)) ggX10_isActive_X10_isNode
theorem dX10_isActive_0 : decode cX10_isActive 0 = .ok (.aload_n 0, 1) := by decide +kernel
theorem dX10_isActive_1 : decode cX10_isActive 1 = .ok (.iload_n 1, 1) := by decide +kernel
theorem dX10_isActive_2 : decode cX10_isActive 2 = .ok (.invokevirtual 334, 3) := by decide +kernel
theorem dX10_isActive_5 : decode cX10_isActive 5 = .ok (.ifCond .eq 47, 3) := by decide +kernel
theorem dX10_isActive_8 : decode cX10_isActive 8 = .ok (.aload_n 0, 1) := by decide +kernel
theorem dX10_isActive_9 : decode cX10_isActive 9 = .ok (.getfield 39, 3) := by decide +kernel
theorem dX10_isActive_12 : decode cX10_isActive 12 = .ok (.iload_n 1, 1) := by decide +kernel
theorem dX10_isActive_13 : decode cX10_isActive 13 = .ok (.iaload, 1) := by decide +kernel
theorem dX10_isActive_14 : decode cX10_isActive 14 = .ok (.ifCond .eq 38, 3) := by decide +kernel
theorem dX10_isActive_17 : decode cX10_isActive 17 = .ok (.aload_n 0, 1) := by decide +kernel
theorem dX10_isActive_18 : decode cX10_isActive 18 = .ok (.getfield 45, 3) := by decide +kernel
theorem dX10_isActive_21 : decode cX10_isActive 21 = .ok (.iconst 4, 1) := by decide +kernel
theorem dX10_isActive_22 : decode cX10_isActive 22 = .ok (.iload_n 1, 1) := by decide +kernel
theorem dX10_isActive_23 : decode cX10_isActive 23 = .ok (.imul, 1) := by decide +kernel
theorem dX10_isActive_24 : decode cX10_isActive 24 = .ok (.iaload, 1) := by decide +kernel
theorem dX10_isActive_25 : decode cX10_isActive 25 = .ok (.iconst 4, 1) := by decide +kernel
theorem dX10_isActive_26 : decode cX10_isActive 26 = .ok (.irem, 1) := by decide +kernel
theorem dX10_isActive_27 : decode cX10_isActive 27 = .ok (.ifCond .ne 25, 3) := by decide +kernel
theorem dX10_isActive_30 : decode cX10_isActive 30 = .ok (.aload_n 0, 1) := by decide +kernel
theorem dX10_isActive_31 : decode cX10_isActive 31 = .ok (.getfield 39, 3) := by decide +kernel
theorem dX10_isActive_34 : decode cX10_isActive 34 = .ok (.aload_n 0, 1) := by decide +kernel
theorem dX10_isActive_35 : decode cX10_isActive 35 = .ok (.getfield 45, 3) := by decide +kernel
theorem dX10_isActive_38 : decode cX10_isActive 38 = .ok (.iconst 4, 1) := by decide +kernel
theorem dX10_isActive_39 : decode cX10_isActive 39 = .ok (.iload_n 1, 1) := by decide +kernel
theorem dX10_isActive_40 : decode cX10_isActive 40 = .ok (.imul, 1) := by decide +kernel
theorem dX10_isActive_41 : decode cX10_isActive 41 = .ok (.iaload, 1) := by decide +kernel
theorem dX10_isActive_42 : decode cX10_isActive 42 = .ok (.iconst 4, 1) := by decide +kernel
theorem dX10_isActive_43 : decode cX10_isActive 43 = .ok (.idiv, 1) := by decide +kernel
theorem dX10_isActive_44 : decode cX10_isActive 44 = .ok (.iaload, 1) := by decide +kernel
theorem dX10_isActive_45 : decode cX10_isActive 45 = .ok (.ifCond .eq 7, 3) := by decide +kernel
theorem dX10_isActive_48 : decode cX10_isActive 48 = .ok (.iconst 1, 1) := by decide +kernel
theorem dX10_isActive_49 : decode cX10_isActive 49 = .ok (.goto 4, 3) := by decide +kernel
theorem dX10_isActive_52 : decode cX10_isActive 52 = .ok (.iconst 0, 1) := by decide +kernel
theorem dX10_isActive_53 : decode cX10_isActive 53 = .ok (.ireturn, 1) := by decide +kernel
set_option maxRecDepth 20000 in
theorem ggX10_isLesser_X10_isActive : GoodIn wsX10_isLesser wsX10_isActive := goodIn_r _ [6, 7, 1, 8, 9, 10, 5, 11, 12, 13, 14, 15, 16, 17, 18, 19, 20, 21, 22, 23, 24, 25, 26, 27, 28, 29, 30, 31, 32, 33, 34, 35, 36, 37, 38, 39, 40, 41, 42, 43, 44, 45, 46, 47, 48, 49, 50, 51, 52, 53, 54, 55, 56, 57, 58, 59, 60, 61, 62, 63, 64, 65, 66, 67, 68, 69, 70, 71, 72, 73, 74, 75, 76, 77, 78, 79, 80, 81, 82, 83, 84, 85, 86, 87, 88, 89, 90, 91] (by decide +kernel) (by decide +kernel)
set_option maxRecDepth 20000 in
theorem gX10_isLesser_X10_isActive : GoodIn wsX10_isLesser (wsV RX10 337 RX10 yX10_isActive wsX10_isActive) := goodIn_app (goodIn_of _ (by decide +kernel)) ggX10_isLesser_X10_isActive
theorem dX10_isLesser_0 : decode cX10_isLesser 0 = .ok (.aload_n 0, 1) := by decide +kernel
theorem dX10_isLesser_1 : decode cX10_isLesser 1 = .ok (.iload_n 1, 1) := by decide +kernel
theorem dX10_isLesser_2 : decode cX10_isLesser 2 = .ok (.invokevirtual 337, 3) := by decide +kernel
theorem dX10_isLesser_5 : decode cX10_isLesser 5 = .ok (.ifCond .eq 21, 3) := by decide +kernel
theorem dX10_isLesser_8 : decode cX10_isLesser 8 = .ok (.iload_n 1, 1) := by decide +kernel
theorem dX10_isLesser_9 : decode cX10_isLesser 9 = .ok (.aload_n 0, 1) := by decide +kernel
theorem dX10_isLesser_10 : decode cX10_isLesser 10 = .ok (.getfield 45, 3) := by decide +kernel
theorem dX10_isLesser_13 : decode cX10_isLesser 13 = .ok (.iconst 4, 1) := by decide +kernel
theorem dX10_isLesser_14 : decode cX10_isLesser 14 = .ok (.iload_n 1, 1) := by decide +kernel
theorem dX10_isLesser_15 : decode cX10_isLesser 15 = .ok (.imul, 1) := by decide +kernel
theorem dX10_isLesser_16 : decode cX10_isLesser 16 = .ok (.iaload, 1) := by decide +kernel
theorem dX10_isLesser_17 : decode cX10_isLesser 17 = .ok (.iconst 4, 1) := by decide +kernel
theorem dX10_isLesser_18 : decode cX10_isLesser 18 = .ok (.idiv, 1) := by decide +kernel
theorem dX10_isLesser_19 : decode cX10_isLesser 19 = .ok (.if_icmp .ge 7, 3) := by decide +kernel
theorem dX10_isLesser_22 : decode cX10_isLesser 22 = .ok (.iconst 1, 1) := by decide +kernel
theorem dX10_isLesser_23 : decode cX10_isLesser 23 = .ok (.goto 4, 3) := by decide +kernel
theorem dX10_isLesser_26 : decode cX10_isLesser 26 = .ok (.iconst 0, 1) := by decide +kernel
theorem dX10_isLesser_27 : decode cX10_isLesser 27 = .ok (.ireturn, 1) := by decide +kernel
set_option maxRecDepth 20000 in
theorem ggX10_activeMany_X10_isLesser : GoodIn wsX10_activeMany wsX10_isLesser := goodIn_r _ [6, 7, 8, 9, 10, 5, 11, 12, 13, 14, 15, 16, 1, 17, 18, 19, 20, 21, 22, 23, 24, 25, 26, 27, 28, 29, 30, 31, 32, 33, 34, 35, 36, 37, 38, 39, 40, 41, 42, 43, 44, 45, 46, 47, 48, 49, 50, 51, 52, 53, 54, 55, 56, 57, 58, 59, 60, 61, 62, 63, 64, 65, 66, 67, 68, 69, 70, 71, 72, 73, 74, 75, 76, 77, 78, 79, 80, 81, 82, 83, 84, 85, 86, 87, 88, 89, 90, 91, 92, 93, 94, 95] (by decide +kernel) (by decide +kernel)
set_option maxRecDepth 20000 in
theorem gX10_activeMany_X10_isLesser : GoodIn wsX10_activeMany (wsV RX10 340 RX10 yX10_isLesser wsX10_isLesser) := goodIn_app (goodIn_of _ (by decide +kernel)) ggX10_activeMany_X10_isLesser
theorem dX10_activeMany_0 : decode cX10_activeMany 0 = .ok (.iconst 0, 1) := by decide +kernel
theorem dX10_activeMany_1 : decode cX10_activeMany 1 = .ok (.istore_n 1, 1) := by decide +kernel
theorem dX10_activeMany_2 : decode cX10_activeMany 2 = .ok (.iconst 0, 1) := by decide +kernel
theorem dX10_activeMany_3 : decode cX10_activeMany 3 = .ok (.istore_n 2, 1) := by decide +kernel
theorem dX10_activeMany_4 : decode cX10_activeMany 4 = .ok (.iload_n 2, 1) := by decide +kernel
theorem dX10_activeMany_5 : decode cX10_activeMany 5 = .ok (.aload_n 0, 1) := by decide +kernel
theorem dX10_activeMany_6 : decode cX10_activeMany 6 = .ok (.getfield 290, 3) := by decide +kernel
theorem dX10_activeMany_9 : decode cX10_activeMany 9 = .ok (.if_icmp .ge 25, 3) := by decide +kernel
theorem dX10_activeMany_12 : decode cX10_activeMany 12 = .ok (.iload_n 1, 1) := by decide +kernel
theorem dX10_activeMany_13 : decode cX10_activeMany 13 = .ok (.aload_n 0, 1) := by decide +kernel
theorem dX10_activeMany_14 : decode cX10_activeMany 14 = .ok (.iload_n 2, 1) := by decide +kernel
theorem dX10_activeMany_15 : decode cX10_activeMany 15 = .ok (.invokevirtual 340, 3) := by decide +kernel
theorem dX10_activeMany_18 : decode cX10_activeMany 18 = .ok (.ifCond .eq 7, 3) := by decide +kernel
theorem dX10_activeMany_21 : decode cX10_activeMany 21 = .ok (.iconst 1, 1) := by decide +kernel
theorem dX10_activeMany_22 : decode cX10_activeMany 22 = .ok (.goto 4, 3) := by decide +kernel
theorem dX10_activeMany_25 : decode cX10_activeMany 25 = .ok (.iconst 0, 1) := by decide +kernel
theorem dX10_activeMany_26 : decode cX10_activeMany 26 = .ok (.iadd, 1) := by decide +kernel
theorem dX10_activeMany_27 : decode cX10_activeMany 27 = .ok (.istore_n 1, 1) := by decide +kernel
theorem dX10_activeMany_28 : decode cX10_activeMany 28 = .ok (.iinc 2 1, 3) := by decide +kernel
theorem dX10_activeMany_31 : decode cX10_activeMany 31 = .ok (.goto (-27), 3) := by decide +kernel
theorem dX10_activeMany_34 : decode cX10_activeMany 34 = .ok (.iload_n 1, 1) := by decide +kernel
theorem dX10_activeMany_35 : decode cX10_activeMany 35 = .ok (.ireturn, 1) := by decide +kernel
set_option maxRecDepth 20000 in
theorem ggX10_chosen_X10_walks : GoodIn wsX10_chosen wsX10_walks := goodIn_r _ [7, 8, 9, 10, 11, 12, 13, 1, 14, 15, 16, 17, 18, 19, 20, 21, 6, 22, 23, 24, 25, 26, 27, 28, 29, 30, 31, 32, 33, 34, 35, 36, 37, 38, 39, 40, 41, 42, 43, 44, 45, 46, 47, 48, 49, 50, 51, 52, 53, 54, 55, 56, 57, 58, 59, 60, 61, 62, 63, 64, 65, 66, 67, 68, 69, 70, 71, 72, 73, 74, 75, 76, 77, 78, 79, 80, 81, 82, 83, 84, 85, 86, 87, 88, 89, 90, 91, 92, 93, 94, 95, 96, 97, 98, 114, 115, 116, 117, 118, 119, 120, 121, 122, 123, 124, 125, 126, 127, 128, 129, 130, 131, 132, 133, 134, 135, 136, 137, 138, 139, 140, 141, 142, 143, 144, 145, 146, 147, 148, 149, 150, 151, 152, 153, 154, 155, 156, 157, 158, 159, 160, 161, 162, 163, 164, 165, 166, 167, 168, 169, 170, 171, 172, 173, 174, 175, 176, 177, 178, 179, 180, 181, 182, 183, 184, 185, 186, 187, 188, 189] (by decide +kernel) (by decide +kernel)
set_option maxRecDepth 20000 in
theorem gX10_chosen_X10_walks : GoodIn wsX10_chosen (wsV RX10 343 RX10 yX10_walks wsX10_walks) := goodIn_app (goodIn_of _ (by decide +kernel)) ggX10_chosen_X10_walks
set_option maxRecDepth 20000 in
theorem ggX10_chosen_X10_isLesser : GoodIn wsX10_chosen wsX10_isLesser := goodIn_r _ [102, 16, 103, 104, 105, 6, 106, 17, 107, 108, 109, 110, 2, 111, 112, 113, 114, 115, 116, 117, 118, 119, 120, 121, 122, 123, 124, 125, 126, 127, 128, 129, 130, 131, 132, 133, 134, 135, 136, 137, 138, 139, 140, 141, 142, 143, 144, 145, 146, 147, 148, 149, 150, 151, 152, 153, 154, 155, 156, 157, 158, 159, 160, 161, 162, 163, 164, 165, 166, 167, 168, 169, 170, 171, 172, 173, 174, 175, 176, 177, 178, 179, 180, 181, 182, 183, 184, 185, 186, 187, 188, 189] (by decide +kernel) (by decide +kernel)
set_option maxRecDepth 20000 in
theorem gX10_chosen_X10_isLesser : GoodIn wsX10_chosen (wsV RX10 340 RX10 yX10_isLesser wsX10_isLesser) := goodIn_app (goodIn_of _ (by decide +kernel)) ggX10_chosen_X10_isLesser
theorem dX10_chosen_0 : decode cX10_chosen 0 = .ok (.iload_n 1, 1) := by decide +kernel
theorem dX10_chosen_1 : decode cX10_chosen 1 = .ok (.ifCond .ne 12, 3) := by decide +kernel
theorem dX10_chosen_4 : decode cX10_chosen 4 = .ok (.aload_n 0, 1) := by decide +kernel
theorem dX10_chosen_5 : decode cX10_chosen 5 = .ok (.invokevirtual 343, 3) := by decide +kernel
theorem dX10_chosen_8 : decode cX10_chosen 8 = .ok (.aload_n 0, 1) := by decide +kernel
theorem dX10_chosen_9 : decode cX10_chosen 9 = .ok (.getfield 346, 3) := by decide +kernel
theorem dX10_chosen_12 : decode cX10_chosen 12 = .ok (.ireturn, 1) := by decide +kernel
theorem dX10_chosen_13 : decode cX10_chosen 13 = .ok (.iconst (-1), 1) := by decide +kernel
theorem dX10_chosen_14 : decode cX10_chosen 14 = .ok (.istore_n 2, 1) := by decide +kernel
theorem dX10_chosen_15 : decode cX10_chosen 15 = .ok (.iconst 0, 1) := by decide +kernel
theorem dX10_chosen_16 : decode cX10_chosen 16 = .ok (.istore_n 3, 1) := by decide +kernel
theorem dX10_chosen_17 : decode cX10_chosen 17 = .ok (.iload_n 3, 1) := by decide +kernel
theorem dX10_chosen_18 : decode cX10_chosen 18 = .ok (.aload_n 0, 1) := by decide +kernel
theorem dX10_chosen_19 : decode cX10_chosen 19 = .ok (.getfield 290, 3) := by decide +kernel
theorem dX10_chosen_22 : decode cX10_chosen 22 = .ok (.if_icmp .ge 29, 3) := by decide +kernel
theorem dX10_chosen_25 : decode cX10_chosen 25 = .ok (.aload_n 0, 1) := by decide +kernel
theorem dX10_chosen_26 : decode cX10_chosen 26 = .ok (.iload_n 3, 1) := by decide +kernel
theorem dX10_chosen_27 : decode cX10_chosen 27 = .ok (.invokevirtual 340, 3) := by decide +kernel
theorem dX10_chosen_30 : decode cX10_chosen 30 = .ok (.ifCond .eq 15, 3) := by decide +kernel
theorem dX10_chosen_33 : decode cX10_chosen 33 = .ok (.iload_n 2, 1) := by decide +kernel
theorem dX10_chosen_34 : decode cX10_chosen 34 = .ok (.iconst (-1), 1) := by decide +kernel
theorem dX10_chosen_35 : decode cX10_chosen 35 = .ok (.if_icmp .eq 8, 3) := by decide +kernel
theorem dX10_chosen_38 : decode cX10_chosen 38 = .ok (.iload_n 1, 1) := by decide +kernel
theorem dX10_chosen_39 : decode cX10_chosen 39 = .ok (.iconst 2, 1) := by decide +kernel
theorem dX10_chosen_40 : decode cX10_chosen 40 = .ok (.if_icmp .ne 5, 3) := by decide +kernel
theorem dX10_chosen_43 : decode cX10_chosen 43 = .ok (.iload_n 3, 1) := by decide +kernel
theorem dX10_chosen_44 : decode cX10_chosen 44 = .ok (.istore_n 2, 1) := by decide +kernel
theorem dX10_chosen_45 : decode cX10_chosen 45 = .ok (.iinc 3 1, 3) := by decide +kernel
theorem dX10_chosen_48 : decode cX10_chosen 48 = .ok (.goto (-31), 3) := by decide +kernel
theorem dX10_chosen_51 : decode cX10_chosen 51 = .ok (.iload_n 2, 1) := by decide +kernel
theorem dX10_chosen_52 : decode cX10_chosen 52 = .ok (.ireturn, 1) := by decide +kernel
theorem dX10_isThrough_0 : decode cX10_isThrough 0 = .ok (.iload_n 0, 1) := by decide +kernel
theorem dX10_isThrough_1 : decode cX10_isThrough 1 = .ok (.iconst 3, 1) := by decide +kernel
theorem dX10_isThrough_2 : decode cX10_isThrough 2 = .ok (.if_icmp .eq 13, 3) := by decide +kernel
theorem dX10_isThrough_5 : decode cX10_isThrough 5 = .ok (.iload_n 0, 1) := by decide +kernel
theorem dX10_isThrough_6 : decode cX10_isThrough 6 = .ok (.iconst 4, 1) := by decide +kernel
theorem dX10_isThrough_7 : decode cX10_isThrough 7 = .ok (.if_icmp .eq 8, 3) := by decide +kernel
theorem dX10_isThrough_10 : decode cX10_isThrough 10 = .ok (.iload_n 0, 1) := by decide +kernel
theorem dX10_isThrough_11 : decode cX10_isThrough 11 = .ok (.iconst 5, 1) := by decide +kernel
theorem dX10_isThrough_12 : decode cX10_isThrough 12 = .ok (.if_icmp .ne 7, 3) := by decide +kernel
theorem dX10_isThrough_15 : decode cX10_isThrough 15 = .ok (.iconst 1, 1) := by decide +kernel
theorem dX10_isThrough_16 : decode cX10_isThrough 16 = .ok (.goto 4, 3) := by decide +kernel
theorem dX10_isThrough_19 : decode cX10_isThrough 19 = .ok (.iconst 0, 1) := by decide +kernel
theorem dX10_isThrough_20 : decode cX10_isThrough 20 = .ok (.ireturn, 1) := by decide +kernel
set_option maxRecDepth 20000 in
theorem ggX10_kindOf_X10_isThrough : GoodIn wsX10_kindOf wsX10_isThrough := goodIn_r _ [6] (by decide +kernel) (by decide +kernel)
set_option maxRecDepth 20000 in
theorem gX10_kindOf_X10_isThrough : GoodIn wsX10_kindOf (va_wsS RX10 349 yX10_isThrough wsX10_isThrough) := goodIn_app (goodIn_of _ (by decide +kernel)) ggX10_kindOf_X10_isThrough
theorem dX10_kindOf_0 : decode cX10_kindOf 0 = .ok (.aload_n 0, 1) := by decide +kernel
theorem dX10_kindOf_1 : decode cX10_kindOf 1 = .ok (.getfield 39, 3) := by decide +kernel
theorem dX10_kindOf_4 : decode cX10_kindOf 4 = .ok (.iload_n 1, 1) := by decide +kernel
theorem dX10_kindOf_5 : decode cX10_kindOf 5 = .ok (.iaload, 1) := by decide +kernel
theorem dX10_kindOf_6 : decode cX10_kindOf 6 = .ok (.bipush 6, 2) := by decide +kernel
theorem dX10_kindOf_8 : decode cX10_kindOf 8 = .ok (.if_icmp .eq 14, 3) := by decide +kernel
theorem dX10_kindOf_11 : decode cX10_kindOf 11 = .ok (.aload_n 0, 1) := by decide +kernel
theorem dX10_kindOf_12 : decode cX10_kindOf 12 = .ok (.getfield 39, 3) := by decide +kernel
theorem dX10_kindOf_15 : decode cX10_kindOf 15 = .ok (.iload_n 2, 1) := by decide +kernel
theorem dX10_kindOf_16 : decode cX10_kindOf 16 = .ok (.iaload, 1) := by decide +kernel
theorem dX10_kindOf_17 : decode cX10_kindOf 17 = .ok (.bipush 6, 2) := by decide +kernel
theorem dX10_kindOf_19 : decode cX10_kindOf 19 = .ok (.if_icmp .ne 5, 3) := by decide +kernel
theorem dX10_kindOf_22 : decode cX10_kindOf 22 = .ok (.iconst 5, 1) := by decide +kernel
theorem dX10_kindOf_23 : decode cX10_kindOf 23 = .ok (.ireturn, 1) := by decide +kernel
theorem dX10_kindOf_24 : decode cX10_kindOf 24 = .ok (.aload_n 0, 1) := by decide +kernel
theorem dX10_kindOf_25 : decode cX10_kindOf 25 = .ok (.getfield 42, 3) := by decide +kernel
theorem dX10_kindOf_28 : decode cX10_kindOf 28 = .ok (.iload_n 1, 1) := by decide +kernel
theorem dX10_kindOf_29 : decode cX10_kindOf 29 = .ok (.iaload, 1) := by decide +kernel
theorem dX10_kindOf_30 : decode cX10_kindOf 30 = .ok (.aload_n 0, 1) := by decide +kernel
theorem dX10_kindOf_31 : decode cX10_kindOf 31 = .ok (.getfield 42, 3) := by decide +kernel
theorem dX10_kindOf_34 : decode cX10_kindOf 34 = .ok (.iload_n 2, 1) := by decide +kernel
theorem dX10_kindOf_35 : decode cX10_kindOf 35 = .ok (.iaload, 1) := by decide +kernel
theorem dX10_kindOf_36 : decode cX10_kindOf 36 = .ok (.if_icmp .ne 91, 3) := by decide +kernel
theorem dX10_kindOf_39 : decode cX10_kindOf 39 = .ok (.aload_n 0, 1) := by decide +kernel
theorem dX10_kindOf_40 : decode cX10_kindOf 40 = .ok (.getfield 39, 3) := by decide +kernel
theorem dX10_kindOf_43 : decode cX10_kindOf 43 = .ok (.iload_n 1, 1) := by decide +kernel
theorem dX10_kindOf_44 : decode cX10_kindOf 44 = .ok (.iaload, 1) := by decide +kernel
theorem dX10_kindOf_45 : decode cX10_kindOf 45 = .ok (.iconst 1, 1) := by decide +kernel
theorem dX10_kindOf_46 : decode cX10_kindOf 46 = .ok (.if_icmp .ne 13, 3) := by decide +kernel
theorem dX10_kindOf_49 : decode cX10_kindOf 49 = .ok (.aload_n 0, 1) := by decide +kernel
theorem dX10_kindOf_50 : decode cX10_kindOf 50 = .ok (.getfield 39, 3) := by decide +kernel
theorem dX10_kindOf_53 : decode cX10_kindOf 53 = .ok (.iload_n 2, 1) := by decide +kernel
theorem dX10_kindOf_54 : decode cX10_kindOf 54 = .ok (.iaload, 1) := by decide +kernel
theorem dX10_kindOf_55 : decode cX10_kindOf 55 = .ok (.iconst 2, 1) := by decide +kernel
theorem dX10_kindOf_56 : decode cX10_kindOf 56 = .ok (.if_icmp .eq 23, 3) := by decide +kernel
theorem dX10_kindOf_59 : decode cX10_kindOf 59 = .ok (.aload_n 0, 1) := by decide +kernel
theorem dX10_kindOf_60 : decode cX10_kindOf 60 = .ok (.getfield 39, 3) := by decide +kernel
theorem dX10_kindOf_63 : decode cX10_kindOf 63 = .ok (.iload_n 1, 1) := by decide +kernel
theorem dX10_kindOf_64 : decode cX10_kindOf 64 = .ok (.iaload, 1) := by decide +kernel
theorem dX10_kindOf_65 : decode cX10_kindOf 65 = .ok (.iconst 2, 1) := by decide +kernel
theorem dX10_kindOf_66 : decode cX10_kindOf 66 = .ok (.if_icmp .ne 17, 3) := by decide +kernel
theorem dX10_kindOf_69 : decode cX10_kindOf 69 = .ok (.aload_n 0, 1) := by decide +kernel
theorem dX10_kindOf_70 : decode cX10_kindOf 70 = .ok (.getfield 39, 3) := by decide +kernel
theorem dX10_kindOf_73 : decode cX10_kindOf 73 = .ok (.iload_n 2, 1) := by decide +kernel
theorem dX10_kindOf_74 : decode cX10_kindOf 74 = .ok (.iaload, 1) := by decide +kernel
theorem dX10_kindOf_75 : decode cX10_kindOf 75 = .ok (.iconst 1, 1) := by decide +kernel
theorem dX10_kindOf_76 : decode cX10_kindOf 76 = .ok (.if_icmp .ne 7, 3) := by decide +kernel
theorem dX10_kindOf_79 : decode cX10_kindOf 79 = .ok (.iconst 1, 1) := by decide +kernel
theorem dX10_kindOf_80 : decode cX10_kindOf 80 = .ok (.goto 4, 3) := by decide +kernel
theorem dX10_kindOf_83 : decode cX10_kindOf 83 = .ok (.iconst 0, 1) := by decide +kernel
theorem dX10_kindOf_84 : decode cX10_kindOf 84 = .ok (.istore_n 3, 1) := by decide +kernel
theorem dX10_kindOf_85 : decode cX10_kindOf 85 = .ok (.iload_n 3, 1) := by decide +kernel
theorem dX10_kindOf_86 : decode cX10_kindOf 86 = .ok (.ifCond .eq 7, 3) := by decide +kernel
theorem dX10_kindOf_89 : decode cX10_kindOf 89 = .ok (.iconst 1, 1) := by decide +kernel
theorem dX10_kindOf_90 : decode cX10_kindOf 90 = .ok (.goto 36, 3) := by decide +kernel
theorem dX10_kindOf_93 : decode cX10_kindOf 93 = .ok (.aload_n 0, 1) := by decide +kernel
theorem dX10_kindOf_94 : decode cX10_kindOf 94 = .ok (.getfield 39, 3) := by decide +kernel
theorem dX10_kindOf_97 : decode cX10_kindOf 97 = .ok (.iload_n 1, 1) := by decide +kernel
theorem dX10_kindOf_98 : decode cX10_kindOf 98 = .ok (.iaload, 1) := by decide +kernel
theorem dX10_kindOf_99 : decode cX10_kindOf 99 = .ok (.aload_n 0, 1) := by decide +kernel
theorem dX10_kindOf_100 : decode cX10_kindOf 100 = .ok (.getfield 39, 3) := by decide +kernel
theorem dX10_kindOf_103 : decode cX10_kindOf 103 = .ok (.iload_n 2, 1) := by decide +kernel
theorem dX10_kindOf_104 : decode cX10_kindOf 104 = .ok (.iaload, 1) := by decide +kernel
theorem dX10_kindOf_105 : decode cX10_kindOf 105 = .ok (.if_icmp .ne 19, 3) := by decide +kernel
theorem dX10_kindOf_108 : decode cX10_kindOf 108 = .ok (.aload_n 0, 1) := by decide +kernel
theorem dX10_kindOf_109 : decode cX10_kindOf 109 = .ok (.getfield 39, 3) := by decide +kernel
theorem dX10_kindOf_112 : decode cX10_kindOf 112 = .ok (.iload_n 1, 1) := by decide +kernel
theorem dX10_kindOf_113 : decode cX10_kindOf 113 = .ok (.iaload, 1) := by decide +kernel
theorem dX10_kindOf_114 : decode cX10_kindOf 114 = .ok (.invokestatic 349, 3) := by decide +kernel
theorem dX10_kindOf_117 : decode cX10_kindOf 117 = .ok (.ifCond .eq 7, 3) := by decide +kernel
theorem dX10_kindOf_120 : decode cX10_kindOf 120 = .ok (.iconst 2, 1) := by decide +kernel
theorem dX10_kindOf_121 : decode cX10_kindOf 121 = .ok (.goto 5, 3) := by decide +kernel
theorem dX10_kindOf_124 : decode cX10_kindOf 124 = .ok (.bipush (-2), 2) := by decide +kernel
theorem dX10_kindOf_126 : decode cX10_kindOf 126 = .ok (.ireturn, 1) := by decide +kernel
theorem dX10_kindOf_127 : decode cX10_kindOf 127 = .ok (.aload_n 0, 1) := by decide +kernel
theorem dX10_kindOf_128 : decode cX10_kindOf 128 = .ok (.getfield 39, 3) := by decide +kernel
theorem dX10_kindOf_131 : decode cX10_kindOf 131 = .ok (.aload_n 0, 1) := by decide +kernel
theorem dX10_kindOf_132 : decode cX10_kindOf 132 = .ok (.getfield 42, 3) := by decide +kernel
theorem dX10_kindOf_135 : decode cX10_kindOf 135 = .ok (.iload_n 1, 1) := by decide +kernel
theorem dX10_kindOf_136 : decode cX10_kindOf 136 = .ok (.iaload, 1) := by decide +kernel
theorem dX10_kindOf_137 : decode cX10_kindOf 137 = .ok (.aload_n 0, 1) := by decide +kernel
theorem dX10_kindOf_138 : decode cX10_kindOf 138 = .ok (.getfield 42, 3) := by decide +kernel
theorem dX10_kindOf_141 : decode cX10_kindOf 141 = .ok (.iload_n 2, 1) := by decide +kernel
theorem dX10_kindOf_142 : decode cX10_kindOf 142 = .ok (.iaload, 1) := by decide +kernel
theorem dX10_kindOf_143 : decode cX10_kindOf 143 = .ok (.if_icmp .ge 7, 3) := by decide +kernel
theorem dX10_kindOf_146 : decode cX10_kindOf 146 = .ok (.iload_n 1, 1) := by decide +kernel
theorem dX10_kindOf_147 : decode cX10_kindOf 147 = .ok (.goto 4, 3) := by decide +kernel
theorem dX10_kindOf_150 : decode cX10_kindOf 150 = .ok (.iload_n 2, 1) := by decide +kernel
theorem dX10_kindOf_151 : decode cX10_kindOf 151 = .ok (.iaload, 1) := by decide +kernel
theorem dX10_kindOf_152 : decode cX10_kindOf 152 = .ok (.istore_n 3, 1) := by decide +kernel
theorem dX10_kindOf_153 : decode cX10_kindOf 153 = .ok (.iload_n 3, 1) := by decide +kernel
theorem dX10_kindOf_154 : decode cX10_kindOf 154 = .ok (.invokestatic 349, 3) := by decide +kernel
theorem dX10_kindOf_157 : decode cX10_kindOf 157 = .ok (.ifCond .ne 8, 3) := by decide +kernel
theorem dX10_kindOf_160 : decode cX10_kindOf 160 = .ok (.bipush (-2), 2) := by decide +kernel
theorem dX10_kindOf_162 : decode cX10_kindOf 162 = .ok (.goto 13, 3) := by decide +kernel
theorem dX10_kindOf_165 : decode cX10_kindOf 165 = .ok (.iload_n 3, 1) := by decide +kernel
theorem dX10_kindOf_166 : decode cX10_kindOf 166 = .ok (.iconst 3, 1) := by decide +kernel
theorem dX10_kindOf_167 : decode cX10_kindOf 167 = .ok (.if_icmp .ne 7, 3) := by decide +kernel
theorem dX10_kindOf_170 : decode cX10_kindOf 170 = .ok (.iconst 3, 1) := by decide +kernel
theorem dX10_kindOf_171 : decode cX10_kindOf 171 = .ok (.goto 4, 3) := by decide +kernel
theorem dX10_kindOf_174 : decode cX10_kindOf 174 = .ok (.iconst 4, 1) := by decide +kernel
theorem dX10_kindOf_175 : decode cX10_kindOf 175 = .ok (.ireturn, 1) := by decide +kernel
set_option maxRecDepth 20000 in
theorem ggX10_moreBy_X10_portsOf : GoodIn wsX10_moreBy wsX10_portsOf := goodIn_r _ [5] (by decide +kernel) (by decide +kernel)
set_option maxRecDepth 20000 in
theorem gX10_moreBy_X10_portsOf : GoodIn wsX10_moreBy (va_wsS RX10 352 yX10_portsOf wsX10_portsOf) := goodIn_app (goodIn_of _ (by decide +kernel)) ggX10_moreBy_X10_portsOf
theorem dX10_moreBy_0 : decode cX10_moreBy 0 = .ok (.aload_n 0, 1) := by decide +kernel
theorem dX10_moreBy_1 : decode cX10_moreBy 1 = .ok (.getfield 39, 3) := by decide +kernel
theorem dX10_moreBy_4 : decode cX10_moreBy 4 = .ok (.iload_n 1, 1) := by decide +kernel
theorem dX10_moreBy_5 : decode cX10_moreBy 5 = .ok (.iaload, 1) := by decide +kernel
theorem dX10_moreBy_6 : decode cX10_moreBy 6 = .ok (.invokestatic 352, 3) := by decide +kernel
theorem dX10_moreBy_9 : decode cX10_moreBy 9 = .ok (.iconst 1, 1) := by decide +kernel
theorem dX10_moreBy_10 : decode cX10_moreBy 10 = .ok (.isub, 1) := by decide +kernel
theorem dX10_moreBy_11 : decode cX10_moreBy 11 = .ok (.istore 4, 2) := by decide +kernel
theorem dX10_moreBy_13 : decode cX10_moreBy 13 = .ok (.aload_n 0, 1) := by decide +kernel
theorem dX10_moreBy_14 : decode cX10_moreBy 14 = .ok (.getfield 39, 3) := by decide +kernel
theorem dX10_moreBy_17 : decode cX10_moreBy 17 = .ok (.iload_n 2, 1) := by decide +kernel
theorem dX10_moreBy_18 : decode cX10_moreBy 18 = .ok (.iaload, 1) := by decide +kernel
theorem dX10_moreBy_19 : decode cX10_moreBy 19 = .ok (.invokestatic 352, 3) := by decide +kernel
theorem dX10_moreBy_22 : decode cX10_moreBy 22 = .ok (.iconst 1, 1) := by decide +kernel
theorem dX10_moreBy_23 : decode cX10_moreBy 23 = .ok (.isub, 1) := by decide +kernel
theorem dX10_moreBy_24 : decode cX10_moreBy 24 = .ok (.istore 5, 2) := by decide +kernel
theorem dX10_moreBy_26 : decode cX10_moreBy 26 = .ok (.iload_n 3, 1) := by decide +kernel
theorem dX10_moreBy_27 : decode cX10_moreBy 27 = .ok (.iconst 5, 1) := by decide +kernel
theorem dX10_moreBy_28 : decode cX10_moreBy 28 = .ok (.if_icmp .ne 24, 3) := by decide +kernel
theorem dX10_moreBy_31 : decode cX10_moreBy 31 = .ok (.aload_n 0, 1) := by decide +kernel
theorem dX10_moreBy_32 : decode cX10_moreBy 32 = .ok (.getfield 39, 3) := by decide +kernel
theorem dX10_moreBy_35 : decode cX10_moreBy 35 = .ok (.iload_n 1, 1) := by decide +kernel
theorem dX10_moreBy_36 : decode cX10_moreBy 36 = .ok (.iaload, 1) := by decide +kernel
theorem dX10_moreBy_37 : decode cX10_moreBy 37 = .ok (.bipush 6, 2) := by decide +kernel
theorem dX10_moreBy_39 : decode cX10_moreBy 39 = .ok (.if_icmp .ne 8, 3) := by decide +kernel
theorem dX10_moreBy_42 : decode cX10_moreBy 42 = .ok (.iload 5, 2) := by decide +kernel
theorem dX10_moreBy_44 : decode cX10_moreBy 44 = .ok (.goto 5, 3) := by decide +kernel
theorem dX10_moreBy_47 : decode cX10_moreBy 47 = .ok (.iload 4, 2) := by decide +kernel
theorem dX10_moreBy_49 : decode cX10_moreBy 49 = .ok (.iconst 2, 1) := by decide +kernel
theorem dX10_moreBy_50 : decode cX10_moreBy 50 = .ok (.isub, 1) := by decide +kernel
theorem dX10_moreBy_51 : decode cX10_moreBy 51 = .ok (.ireturn, 1) := by decide +kernel
theorem dX10_moreBy_52 : decode cX10_moreBy 52 = .ok (.iload_n 3, 1) := by decide +kernel
theorem dX10_moreBy_53 : decode cX10_moreBy 53 = .ok (.iconst 3, 1) := by decide +kernel
theorem dX10_moreBy_54 : decode cX10_moreBy 54 = .ok (.if_icmp .ge 8, 3) := by decide +kernel
theorem dX10_moreBy_57 : decode cX10_moreBy 57 = .ok (.bipush (-2), 2) := by decide +kernel
theorem dX10_moreBy_59 : decode cX10_moreBy 59 = .ok (.goto 10, 3) := by decide +kernel
theorem dX10_moreBy_62 : decode cX10_moreBy 62 = .ok (.iload 4, 2) := by decide +kernel
theorem dX10_moreBy_64 : decode cX10_moreBy 64 = .ok (.iload 5, 2) := by decide +kernel
theorem dX10_moreBy_66 : decode cX10_moreBy 66 = .ok (.iadd, 1) := by decide +kernel
theorem dX10_moreBy_67 : decode cX10_moreBy 67 = .ok (.iconst 2, 1) := by decide +kernel
theorem dX10_moreBy_68 : decode cX10_moreBy 68 = .ok (.isub, 1) := by decide +kernel
theorem dX10_moreBy_69 : decode cX10_moreBy 69 = .ok (.ireturn, 1) := by decide +kernel
set_option maxRecDepth 20000 in
theorem ggX10_goesAside_X10_portsOf : GoodIn wsX10_goesAside wsX10_portsOf := goodIn_r _ [8] (by decide +kernel) (by decide +kernel)
set_option maxRecDepth 20000 in
theorem gX10_goesAside_X10_portsOf : GoodIn wsX10_goesAside (va_wsS RX10 352 yX10_portsOf wsX10_portsOf) := goodIn_app (goodIn_of _ (by decide +kernel)) ggX10_goesAside_X10_portsOf
set_option maxRecDepth 20000 in
theorem ggX10_goesAside_X10_wires : GoodIn wsX10_goesAside wsX10_wires := goodIn_r _ [12, 3, 13, 14, 15, 16, 17, 18, 19, 20, 21, 22, 23, 24, 25, 26, 27, 28, 29, 30, 31, 32, 33, 34, 35, 36, 37, 38, 39, 40, 41, 42, 43, 44, 45, 46, 47, 48, 49, 50, 51, 52, 53, 54, 55, 56, 57, 58, 59, 60, 61, 62, 63, 64, 65, 66, 67, 68, 69, 70, 71, 72, 73, 74, 75, 76, 77, 78, 79, 80, 81, 82, 83, 84, 85, 86, 87, 88] (by decide +kernel) (by decide +kernel)
set_option maxRecDepth 20000 in
theorem gX10_goesAside_X10_wires : GoodIn wsX10_goesAside (wsV RX10 313 RX10 yX10_wires wsX10_wires) := goodIn_app (goodIn_of _ (by decide +kernel)) ggX10_goesAside_X10_wires
theorem dX10_goesAside_0 : decode cX10_goesAside 0 = .ok (.aload_n 0, 1) := by decide +kernel
theorem dX10_goesAside_1 : decode cX10_goesAside 1 = .ok (.getfield 39, 3) := by decide +kernel
theorem dX10_goesAside_4 : decode cX10_goesAside 4 = .ok (.iload_n 2, 1) := by decide +kernel
theorem dX10_goesAside_5 : decode cX10_goesAside 5 = .ok (.aload_n 0, 1) := by decide +kernel
theorem dX10_goesAside_6 : decode cX10_goesAside 6 = .ok (.getfield 39, 3) := by decide +kernel
theorem dX10_goesAside_9 : decode cX10_goesAside 9 = .ok (.iload_n 1, 1) := by decide +kernel
theorem dX10_goesAside_10 : decode cX10_goesAside 10 = .ok (.iaload, 1) := by decide +kernel
theorem dX10_goesAside_11 : decode cX10_goesAside 11 = .ok (.iastore, 1) := by decide +kernel
theorem dX10_goesAside_12 : decode cX10_goesAside 12 = .ok (.aload_n 0, 1) := by decide +kernel
theorem dX10_goesAside_13 : decode cX10_goesAside 13 = .ok (.getfield 42, 3) := by decide +kernel
theorem dX10_goesAside_16 : decode cX10_goesAside 16 = .ok (.iload_n 2, 1) := by decide +kernel
theorem dX10_goesAside_17 : decode cX10_goesAside 17 = .ok (.aload_n 0, 1) := by decide +kernel
theorem dX10_goesAside_18 : decode cX10_goesAside 18 = .ok (.getfield 42, 3) := by decide +kernel
theorem dX10_goesAside_21 : decode cX10_goesAside 21 = .ok (.iload_n 1, 1) := by decide +kernel
theorem dX10_goesAside_22 : decode cX10_goesAside 22 = .ok (.iaload, 1) := by decide +kernel
theorem dX10_goesAside_23 : decode cX10_goesAside 23 = .ok (.iastore, 1) := by decide +kernel
theorem dX10_goesAside_24 : decode cX10_goesAside 24 = .ok (.iconst 0, 1) := by decide +kernel
theorem dX10_goesAside_25 : decode cX10_goesAside 25 = .ok (.istore_n 3, 1) := by decide +kernel
theorem dX10_goesAside_26 : decode cX10_goesAside 26 = .ok (.iload_n 3, 1) := by decide +kernel
theorem dX10_goesAside_27 : decode cX10_goesAside 27 = .ok (.aload_n 0, 1) := by decide +kernel
theorem dX10_goesAside_28 : decode cX10_goesAside 28 = .ok (.getfield 39, 3) := by decide +kernel
theorem dX10_goesAside_31 : decode cX10_goesAside 31 = .ok (.iload_n 1, 1) := by decide +kernel
theorem dX10_goesAside_32 : decode cX10_goesAside 32 = .ok (.iaload, 1) := by decide +kernel
theorem dX10_goesAside_33 : decode cX10_goesAside 33 = .ok (.invokestatic 352, 3) := by decide +kernel
theorem dX10_goesAside_36 : decode cX10_goesAside 36 = .ok (.if_icmp .ge 61, 3) := by decide +kernel
theorem dX10_goesAside_39 : decode cX10_goesAside 39 = .ok (.aload_n 0, 1) := by decide +kernel
theorem dX10_goesAside_40 : decode cX10_goesAside 40 = .ok (.getfield 45, 3) := by decide +kernel
theorem dX10_goesAside_43 : decode cX10_goesAside 43 = .ok (.iconst 4, 1) := by decide +kernel
theorem dX10_goesAside_44 : decode cX10_goesAside 44 = .ok (.iload_n 1, 1) := by decide +kernel
theorem dX10_goesAside_45 : decode cX10_goesAside 45 = .ok (.imul, 1) := by decide +kernel
theorem dX10_goesAside_46 : decode cX10_goesAside 46 = .ok (.iload_n 3, 1) := by decide +kernel
theorem dX10_goesAside_47 : decode cX10_goesAside 47 = .ok (.iadd, 1) := by decide +kernel
theorem dX10_goesAside_48 : decode cX10_goesAside 48 = .ok (.iaload, 1) := by decide +kernel
theorem dX10_goesAside_49 : decode cX10_goesAside 49 = .ok (.istore 4, 2) := by decide +kernel
theorem dX10_goesAside_51 : decode cX10_goesAside 51 = .ok (.iload 4, 2) := by decide +kernel
theorem dX10_goesAside_53 : decode cX10_goesAside 53 = .ok (.iconst 4, 1) := by decide +kernel
theorem dX10_goesAside_54 : decode cX10_goesAside 54 = .ok (.idiv, 1) := by decide +kernel
theorem dX10_goesAside_55 : decode cX10_goesAside 55 = .ok (.iload_n 1, 1) := by decide +kernel
theorem dX10_goesAside_56 : decode cX10_goesAside 56 = .ok (.if_icmp .ne 24, 3) := by decide +kernel
theorem dX10_goesAside_59 : decode cX10_goesAside 59 = .ok (.aload_n 0, 1) := by decide +kernel
theorem dX10_goesAside_60 : decode cX10_goesAside 60 = .ok (.getfield 45, 3) := by decide +kernel
theorem dX10_goesAside_63 : decode cX10_goesAside 63 = .ok (.iconst 4, 1) := by decide +kernel
theorem dX10_goesAside_64 : decode cX10_goesAside 64 = .ok (.iload_n 2, 1) := by decide +kernel
theorem dX10_goesAside_65 : decode cX10_goesAside 65 = .ok (.imul, 1) := by decide +kernel
theorem dX10_goesAside_66 : decode cX10_goesAside 66 = .ok (.iload_n 3, 1) := by decide +kernel
theorem dX10_goesAside_67 : decode cX10_goesAside 67 = .ok (.iadd, 1) := by decide +kernel
theorem dX10_goesAside_68 : decode cX10_goesAside 68 = .ok (.iconst 4, 1) := by decide +kernel
theorem dX10_goesAside_69 : decode cX10_goesAside 69 = .ok (.iload_n 2, 1) := by decide +kernel
theorem dX10_goesAside_70 : decode cX10_goesAside 70 = .ok (.imul, 1) := by decide +kernel
theorem dX10_goesAside_71 : decode cX10_goesAside 71 = .ok (.iload 4, 2) := by decide +kernel
theorem dX10_goesAside_73 : decode cX10_goesAside 73 = .ok (.iconst 4, 1) := by decide +kernel
theorem dX10_goesAside_74 : decode cX10_goesAside 74 = .ok (.irem, 1) := by decide +kernel
theorem dX10_goesAside_75 : decode cX10_goesAside 75 = .ok (.iadd, 1) := by decide +kernel
theorem dX10_goesAside_76 : decode cX10_goesAside 76 = .ok (.iastore, 1) := by decide +kernel
theorem dX10_goesAside_77 : decode cX10_goesAside 77 = .ok (.goto 14, 3) := by decide +kernel
theorem dX10_goesAside_80 : decode cX10_goesAside 80 = .ok (.aload_n 0, 1) := by decide +kernel
theorem dX10_goesAside_81 : decode cX10_goesAside 81 = .ok (.iconst 4, 1) := by decide +kernel
theorem dX10_goesAside_82 : decode cX10_goesAside 82 = .ok (.iload_n 2, 1) := by decide +kernel
theorem dX10_goesAside_83 : decode cX10_goesAside 83 = .ok (.imul, 1) := by decide +kernel
theorem dX10_goesAside_84 : decode cX10_goesAside 84 = .ok (.iload_n 3, 1) := by decide +kernel
theorem dX10_goesAside_85 : decode cX10_goesAside 85 = .ok (.iadd, 1) := by decide +kernel
theorem dX10_goesAside_86 : decode cX10_goesAside 86 = .ok (.iload 4, 2) := by decide +kernel
theorem dX10_goesAside_88 : decode cX10_goesAside 88 = .ok (.invokevirtual 313, 3) := by decide +kernel
theorem dX10_goesAside_91 : decode cX10_goesAside 91 = .ok (.iinc 3 1, 3) := by decide +kernel
theorem dX10_goesAside_94 : decode cX10_goesAside 94 = .ok (.goto (-68), 3) := by decide +kernel
theorem dX10_goesAside_97 : decode cX10_goesAside 97 = .ok (.aload_n 0, 1) := by decide +kernel
theorem dX10_goesAside_98 : decode cX10_goesAside 98 = .ok (.getfield 39, 3) := by decide +kernel
theorem dX10_goesAside_101 : decode cX10_goesAside 101 = .ok (.iload_n 1, 1) := by decide +kernel
theorem dX10_goesAside_102 : decode cX10_goesAside 102 = .ok (.iconst (-1), 1) := by decide +kernel
theorem dX10_goesAside_103 : decode cX10_goesAside 103 = .ok (.iastore, 1) := by decide +kernel
theorem dX10_goesAside_104 : decode cX10_goesAside 104 = .ok (.aload_n 0, 1) := by decide +kernel
theorem dX10_goesAside_105 : decode cX10_goesAside 105 = .ok (.dup, 1) := by decide +kernel
theorem dX10_goesAside_106 : decode cX10_goesAside 106 = .ok (.getfield 281, 3) := by decide +kernel
theorem dX10_goesAside_109 : decode cX10_goesAside 109 = .ok (.iconst 1, 1) := by decide +kernel
theorem dX10_goesAside_110 : decode cX10_goesAside 110 = .ok (.isub, 1) := by decide +kernel
theorem dX10_goesAside_111 : decode cX10_goesAside 111 = .ok (.putfield 281, 3) := by decide +kernel
theorem dX10_goesAside_114 : decode cX10_goesAside 114 = .ok (.return_, 1) := by decide +kernel
set_option maxRecDepth 20000 in
theorem ggX10_inPlaceOf_X10_wires : GoodIn wsX10_inPlaceOf wsX10_wires := goodIn_r _ [6, 1, 7, 8, 9, 10, 11, 12, 13, 14, 15, 16, 17, 18, 19, 20, 21, 22, 23, 24, 25, 26, 27, 28, 29, 30, 31, 32, 33, 34, 35, 36, 37, 38, 39, 40, 41, 42, 43, 44, 45, 46, 47, 48, 49, 50, 51, 52, 53, 54, 55, 56, 57, 58, 59, 60, 61, 62, 63, 64, 65, 66, 67, 68, 69, 70, 71, 72, 73, 74, 75, 76, 77, 78, 79, 80, 81, 82] (by decide +kernel) (by decide +kernel)
set_option maxRecDepth 20000 in
theorem gX10_inPlaceOf_X10_wires : GoodIn wsX10_inPlaceOf (wsV RX10 313 RX10 yX10_wires wsX10_wires) := goodIn_app (goodIn_of _ (by decide +kernel)) ggX10_inPlaceOf_X10_wires
theorem dX10_inPlaceOf_0 : decode cX10_inPlaceOf 0 = .ok (.aload_n 0, 1) := by decide +kernel
theorem dX10_inPlaceOf_1 : decode cX10_inPlaceOf 1 = .ok (.iload_n 2, 1) := by decide +kernel
theorem dX10_inPlaceOf_2 : decode cX10_inPlaceOf 2 = .ok (.aload_n 0, 1) := by decide +kernel
theorem dX10_inPlaceOf_3 : decode cX10_inPlaceOf 3 = .ok (.getfield 45, 3) := by decide +kernel
theorem dX10_inPlaceOf_6 : decode cX10_inPlaceOf 6 = .ok (.iload_n 1, 1) := by decide +kernel
theorem dX10_inPlaceOf_7 : decode cX10_inPlaceOf 7 = .ok (.iaload, 1) := by decide +kernel
theorem dX10_inPlaceOf_8 : decode cX10_inPlaceOf 8 = .ok (.invokevirtual 313, 3) := by decide +kernel
theorem dX10_inPlaceOf_11 : decode cX10_inPlaceOf 11 = .ok (.return_, 1) := by decide +kernel
set_option maxRecDepth 20000 in
theorem ggX10_joins_X10_wires : GoodIn wsX10_joins wsX10_wires := goodIn_r _ [6, 1, 7, 8, 9, 10, 11, 12, 13, 14, 15, 16, 17, 18, 19, 20, 21, 22, 23, 24, 25, 26, 27, 28, 29, 30, 31, 32, 33, 34, 35, 36, 37, 38, 39, 40, 41, 42, 43, 44, 45, 46, 47, 48, 49, 50, 51, 52, 53, 54, 55, 56, 57, 58, 59, 60, 61, 62, 63, 64, 65, 66, 67, 68, 69, 70, 71, 72, 73, 74, 75, 76, 77, 78, 79, 80, 81, 82] (by decide +kernel) (by decide +kernel)
set_option maxRecDepth 20000 in
theorem gX10_joins_X10_wires : GoodIn wsX10_joins (wsV RX10 313 RX10 yX10_wires wsX10_wires) := goodIn_app (goodIn_of _ (by decide +kernel)) ggX10_joins_X10_wires
theorem dX10_joins_0 : decode cX10_joins 0 = .ok (.aload_n 0, 1) := by decide +kernel
theorem dX10_joins_1 : decode cX10_joins 1 = .ok (.getfield 45, 3) := by decide +kernel
theorem dX10_joins_4 : decode cX10_joins 4 = .ok (.iload_n 1, 1) := by decide +kernel
theorem dX10_joins_5 : decode cX10_joins 5 = .ok (.iaload, 1) := by decide +kernel
theorem dX10_joins_6 : decode cX10_joins 6 = .ok (.istore_n 3, 1) := by decide +kernel
theorem dX10_joins_7 : decode cX10_joins 7 = .ok (.aload_n 0, 1) := by decide +kernel
theorem dX10_joins_8 : decode cX10_joins 8 = .ok (.getfield 45, 3) := by decide +kernel
theorem dX10_joins_11 : decode cX10_joins 11 = .ok (.iload_n 2, 1) := by decide +kernel
theorem dX10_joins_12 : decode cX10_joins 12 = .ok (.iaload, 1) := by decide +kernel
theorem dX10_joins_13 : decode cX10_joins 13 = .ok (.istore 4, 2) := by decide +kernel
theorem dX10_joins_15 : decode cX10_joins 15 = .ok (.aload_n 0, 1) := by decide +kernel
theorem dX10_joins_16 : decode cX10_joins 16 = .ok (.iload_n 3, 1) := by decide +kernel
theorem dX10_joins_17 : decode cX10_joins 17 = .ok (.iload 4, 2) := by decide +kernel
theorem dX10_joins_19 : decode cX10_joins 19 = .ok (.invokevirtual 313, 3) := by decide +kernel
theorem dX10_joins_22 : decode cX10_joins 22 = .ok (.return_, 1) := by decide +kernel
set_option maxRecDepth 20000 in
theorem ggX10_erases_X10_portsOf : GoodIn wsX10_erases wsX10_portsOf := goodIn_r _ [5] (by decide +kernel) (by decide +kernel)
set_option maxRecDepth 20000 in
theorem gX10_erases_X10_portsOf : GoodIn wsX10_erases (va_wsS RX10 352 yX10_portsOf wsX10_portsOf) := goodIn_app (goodIn_of _ (by decide +kernel)) ggX10_erases_X10_portsOf
set_option maxRecDepth 20000 in
theorem ggX10_erases_X10_newNode : GoodIn wsX10_erases wsX10_newNode := goodIn_r _ [9, 10, 1, 11, 12, 22, 23, 24, 25, 26, 27, 28, 29, 30, 31, 32, 33, 34, 35, 36, 37, 38, 39, 40, 41, 42, 43, 44, 45, 46, 47, 48, 49, 50, 51, 52, 53, 54, 55, 56, 57, 58, 59, 60, 61, 62, 63, 64, 65, 66, 67, 68, 69, 70, 71, 72, 73, 74, 75, 76, 77, 78, 79, 80, 81, 82, 83, 84, 85, 86, 87, 88, 89, 90, 91, 92, 93, 94, 95, 96, 97] (by decide +kernel) (by decide +kernel)
set_option maxRecDepth 20000 in
theorem gX10_erases_X10_newNode : GoodIn wsX10_erases (wsV RX10 307 RX10 yX10_newNode wsX10_newNode) := goodIn_app (goodIn_of _ (by decide +kernel)) ggX10_erases_X10_newNode
set_option maxRecDepth 20000 in
theorem ggX10_erases_X10_inPlaceOf : GoodIn wsX10_erases wsX10_inPlaceOf := goodIn_r _ [16, 17, 18, 19, 20, 4, 21, 22, 23, 24, 25, 26, 27, 28, 29, 30, 31, 32, 33, 34, 35, 36, 37, 38, 39, 40, 41, 42, 43, 44, 45, 46, 47, 48, 49, 50, 51, 52, 53, 54, 55, 56, 57, 58, 59, 60, 61, 62, 63, 64, 65, 66, 67, 68, 69, 70, 71, 72, 73, 74, 75, 76, 77, 78, 79, 80, 81, 82, 83, 84, 85, 86, 87, 88, 89, 90, 91, 92, 93, 94, 95, 96, 97] (by decide +kernel) (by decide +kernel)
set_option maxRecDepth 20000 in
theorem gX10_erases_X10_inPlaceOf : GoodIn wsX10_erases (wsV RX10 355 RX10 yX10_inPlaceOf wsX10_inPlaceOf) := goodIn_app (goodIn_of _ (by decide +kernel)) ggX10_erases_X10_inPlaceOf
theorem dX10_erases_0 : decode cX10_erases 0 = .ok (.iconst 1, 1) := by decide +kernel
theorem dX10_erases_1 : decode cX10_erases 1 = .ok (.istore_n 2, 1) := by decide +kernel
theorem dX10_erases_2 : decode cX10_erases 2 = .ok (.iload_n 2, 1) := by decide +kernel
theorem dX10_erases_3 : decode cX10_erases 3 = .ok (.aload_n 0, 1) := by decide +kernel
theorem dX10_erases_4 : decode cX10_erases 4 = .ok (.getfield 39, 3) := by decide +kernel
theorem dX10_erases_7 : decode cX10_erases 7 = .ok (.iload_n 1, 1) := by decide +kernel
theorem dX10_erases_8 : decode cX10_erases 8 = .ok (.iaload, 1) := by decide +kernel
theorem dX10_erases_9 : decode cX10_erases 9 = .ok (.invokestatic 352, 3) := by decide +kernel
theorem dX10_erases_12 : decode cX10_erases 12 = .ok (.if_icmp .ge 27, 3) := by decide +kernel
theorem dX10_erases_15 : decode cX10_erases 15 = .ok (.aload_n 0, 1) := by decide +kernel
theorem dX10_erases_16 : decode cX10_erases 16 = .ok (.iconst 4, 1) := by decide +kernel
theorem dX10_erases_17 : decode cX10_erases 17 = .ok (.iload_n 1, 1) := by decide +kernel
theorem dX10_erases_18 : decode cX10_erases 18 = .ok (.imul, 1) := by decide +kernel
theorem dX10_erases_19 : decode cX10_erases 19 = .ok (.iload_n 2, 1) := by decide +kernel
theorem dX10_erases_20 : decode cX10_erases 20 = .ok (.iadd, 1) := by decide +kernel
theorem dX10_erases_21 : decode cX10_erases 21 = .ok (.iconst 4, 1) := by decide +kernel
theorem dX10_erases_22 : decode cX10_erases 22 = .ok (.aload_n 0, 1) := by decide +kernel
theorem dX10_erases_23 : decode cX10_erases 23 = .ok (.bipush 6, 2) := by decide +kernel
theorem dX10_erases_25 : decode cX10_erases 25 = .ok (.iconst 0, 1) := by decide +kernel
theorem dX10_erases_26 : decode cX10_erases 26 = .ok (.invokevirtual 307, 3) := by decide +kernel
theorem dX10_erases_29 : decode cX10_erases 29 = .ok (.imul, 1) := by decide +kernel
theorem dX10_erases_30 : decode cX10_erases 30 = .ok (.invokevirtual 355, 3) := by decide +kernel
theorem dX10_erases_33 : decode cX10_erases 33 = .ok (.iinc 2 1, 3) := by decide +kernel
theorem dX10_erases_36 : decode cX10_erases 36 = .ok (.goto (-34), 3) := by decide +kernel
theorem dX10_erases_39 : decode cX10_erases 39 = .ok (.return_, 1) := by decide +kernel
set_option maxRecDepth 20000 in
theorem ggX10_goesThrough_X10_portsOf : GoodIn wsX10_goesThrough wsX10_portsOf := goodIn_r _ [8] (by decide +kernel) (by decide +kernel)
set_option maxRecDepth 20000 in
theorem gX10_goesThrough_X10_portsOf : GoodIn wsX10_goesThrough (va_wsS RX10 352 yX10_portsOf wsX10_portsOf) := goodIn_app (goodIn_of _ (by decide +kernel)) ggX10_goesThrough_X10_portsOf
set_option maxRecDepth 20000 in
theorem ggX10_goesThrough_X10_newNode : GoodIn wsX10_goesThrough wsX10_newNode := goodIn_r _ [12, 13, 1, 3, 14, 24, 25, 26, 27, 28, 29, 30, 31, 32, 33, 34, 35, 36, 37, 38, 39, 40, 41, 42, 43, 44, 45, 46, 47, 48, 49, 50, 51, 52, 53, 54, 55, 56, 57, 58, 59, 60, 61, 62, 63, 64, 65, 66, 67, 68, 69, 70, 71, 72, 73, 74, 75, 76, 77, 78, 79, 80, 81, 82, 83, 84, 85, 86, 87, 88, 89, 90, 91, 92, 93, 94, 95, 96, 97, 98, 99] (by decide +kernel) (by decide +kernel)
set_option maxRecDepth 20000 in
theorem gX10_goesThrough_X10_newNode : GoodIn wsX10_goesThrough (wsV RX10 307 RX10 yX10_newNode wsX10_newNode) := goodIn_app (goodIn_of _ (by decide +kernel)) ggX10_goesThrough_X10_newNode
set_option maxRecDepth 20000 in
theorem ggX10_goesThrough_X10_inPlaceOf : GoodIn wsX10_goesThrough wsX10_inPlaceOf := goodIn_r _ [18, 19, 20, 21, 22, 7, 23, 24, 25, 26, 27, 28, 29, 30, 31, 32, 33, 34, 35, 36, 37, 38, 39, 40, 41, 42, 43, 44, 45, 46, 47, 48, 49, 50, 51, 52, 53, 54, 55, 56, 57, 58, 59, 60, 61, 62, 63, 64, 65, 66, 67, 68, 69, 70, 71, 72, 73, 74, 75, 76, 77, 78, 79, 80, 81, 82, 83, 84, 85, 86, 87, 88, 89, 90, 91, 92, 93, 94, 95, 96, 97, 98, 99] (by decide +kernel) (by decide +kernel)
set_option maxRecDepth 20000 in
theorem gX10_goesThrough_X10_inPlaceOf : GoodIn wsX10_goesThrough (wsV RX10 355 RX10 yX10_inPlaceOf wsX10_inPlaceOf) := goodIn_app (goodIn_of _ (by decide +kernel)) ggX10_goesThrough_X10_inPlaceOf
set_option maxRecDepth 20000 in
theorem ggX10_goesThrough_X10_wires : GoodIn wsX10_goesThrough wsX10_wires := goodIn_r _ [23, 19, 24, 25, 26, 27, 28, 29, 30, 31, 32, 33, 34, 35, 36, 37, 38, 39, 40, 41, 42, 43, 44, 45, 46, 47, 48, 49, 50, 51, 52, 53, 54, 55, 56, 57, 58, 59, 60, 61, 62, 63, 64, 65, 66, 67, 68, 69, 70, 71, 72, 73, 74, 75, 76, 77, 78, 79, 80, 81, 82, 83, 84, 85, 86, 87, 88, 89, 90, 91, 92, 93, 94, 95, 96, 97, 98, 99] (by decide +kernel) (by decide +kernel)
set_option maxRecDepth 20000 in
theorem gX10_goesThrough_X10_wires : GoodIn wsX10_goesThrough (wsV RX10 313 RX10 yX10_wires wsX10_wires) := goodIn_app (goodIn_of _ (by decide +kernel)) ggX10_goesThrough_X10_wires
theorem dX10_goesThrough_0 : decode cX10_goesThrough 0 = .ok (.aload_n 0, 1) := by decide +kernel
theorem dX10_goesThrough_1 : decode cX10_goesThrough 1 = .ok (.getfield 39, 3) := by decide +kernel
theorem dX10_goesThrough_4 : decode cX10_goesThrough 4 = .ok (.iload_n 1, 1) := by decide +kernel
theorem dX10_goesThrough_5 : decode cX10_goesThrough 5 = .ok (.iaload, 1) := by decide +kernel
theorem dX10_goesThrough_6 : decode cX10_goesThrough 6 = .ok (.iconst 4, 1) := by decide +kernel
theorem dX10_goesThrough_7 : decode cX10_goesThrough 7 = .ok (.if_icmp .ne 7, 3) := by decide +kernel
theorem dX10_goesThrough_10 : decode cX10_goesThrough 10 = .ok (.iconst 1, 1) := by decide +kernel
theorem dX10_goesThrough_11 : decode cX10_goesThrough 11 = .ok (.goto 18, 3) := by decide +kernel
theorem dX10_goesThrough_14 : decode cX10_goesThrough 14 = .ok (.aload_n 0, 1) := by decide +kernel
theorem dX10_goesThrough_15 : decode cX10_goesThrough 15 = .ok (.getfield 39, 3) := by decide +kernel
theorem dX10_goesThrough_18 : decode cX10_goesThrough 18 = .ok (.iload_n 1, 1) := by decide +kernel
theorem dX10_goesThrough_19 : decode cX10_goesThrough 19 = .ok (.iaload, 1) := by decide +kernel
theorem dX10_goesThrough_20 : decode cX10_goesThrough 20 = .ok (.iconst 5, 1) := by decide +kernel
theorem dX10_goesThrough_21 : decode cX10_goesThrough 21 = .ok (.if_icmp .ne 7, 3) := by decide +kernel
theorem dX10_goesThrough_24 : decode cX10_goesThrough 24 = .ok (.iconst (-1), 1) := by decide +kernel
theorem dX10_goesThrough_25 : decode cX10_goesThrough 25 = .ok (.goto 4, 3) := by decide +kernel
theorem dX10_goesThrough_28 : decode cX10_goesThrough 28 = .ok (.iconst 0, 1) := by decide +kernel
theorem dX10_goesThrough_29 : decode cX10_goesThrough 29 = .ok (.istore_n 3, 1) := by decide +kernel
theorem dX10_goesThrough_30 : decode cX10_goesThrough 30 = .ok (.aload_n 0, 1) := by decide +kernel
theorem dX10_goesThrough_31 : decode cX10_goesThrough 31 = .ok (.getfield 39, 3) := by decide +kernel
theorem dX10_goesThrough_34 : decode cX10_goesThrough 34 = .ok (.iload_n 1, 1) := by decide +kernel
theorem dX10_goesThrough_35 : decode cX10_goesThrough 35 = .ok (.iaload, 1) := by decide +kernel
theorem dX10_goesThrough_36 : decode cX10_goesThrough 36 = .ok (.invokestatic 352, 3) := by decide +kernel
theorem dX10_goesThrough_39 : decode cX10_goesThrough 39 = .ok (.iconst 1, 1) := by decide +kernel
theorem dX10_goesThrough_40 : decode cX10_goesThrough 40 = .ok (.isub, 1) := by decide +kernel
theorem dX10_goesThrough_41 : decode cX10_goesThrough 41 = .ok (.istore 4, 2) := by decide +kernel
theorem dX10_goesThrough_43 : decode cX10_goesThrough 43 = .ok (.aload_n 0, 1) := by decide +kernel
theorem dX10_goesThrough_44 : decode cX10_goesThrough 44 = .ok (.getfield 39, 3) := by decide +kernel
theorem dX10_goesThrough_47 : decode cX10_goesThrough 47 = .ok (.iload_n 2, 1) := by decide +kernel
theorem dX10_goesThrough_48 : decode cX10_goesThrough 48 = .ok (.iaload, 1) := by decide +kernel
theorem dX10_goesThrough_49 : decode cX10_goesThrough 49 = .ok (.invokestatic 352, 3) := by decide +kernel
theorem dX10_goesThrough_52 : decode cX10_goesThrough 52 = .ok (.iconst 1, 1) := by decide +kernel
theorem dX10_goesThrough_53 : decode cX10_goesThrough 53 = .ok (.isub, 1) := by decide +kernel
theorem dX10_goesThrough_54 : decode cX10_goesThrough 54 = .ok (.istore 5, 2) := by decide +kernel
theorem dX10_goesThrough_56 : decode cX10_goesThrough 56 = .ok (.iconst 0, 1) := by decide +kernel
theorem dX10_goesThrough_57 : decode cX10_goesThrough 57 = .ok (.istore 6, 2) := by decide +kernel
theorem dX10_goesThrough_59 : decode cX10_goesThrough 59 = .ok (.iload 6, 2) := by decide +kernel
theorem dX10_goesThrough_61 : decode cX10_goesThrough 61 = .ok (.iload 4, 2) := by decide +kernel
theorem dX10_goesThrough_63 : decode cX10_goesThrough 63 = .ok (.if_icmp .ge 55, 3) := by decide +kernel
theorem dX10_goesThrough_66 : decode cX10_goesThrough 66 = .ok (.aload_n 0, 1) := by decide +kernel
theorem dX10_goesThrough_67 : decode cX10_goesThrough 67 = .ok (.getfield 66, 3) := by decide +kernel
theorem dX10_goesThrough_70 : decode cX10_goesThrough 70 = .ok (.iload 6, 2) := by decide +kernel
theorem dX10_goesThrough_72 : decode cX10_goesThrough 72 = .ok (.aload_n 0, 1) := by decide +kernel
theorem dX10_goesThrough_73 : decode cX10_goesThrough 73 = .ok (.aload_n 0, 1) := by decide +kernel
theorem dX10_goesThrough_74 : decode cX10_goesThrough 74 = .ok (.getfield 39, 3) := by decide +kernel
theorem dX10_goesThrough_77 : decode cX10_goesThrough 77 = .ok (.iload_n 2, 1) := by decide +kernel
theorem dX10_goesThrough_78 : decode cX10_goesThrough 78 = .ok (.iaload, 1) := by decide +kernel
theorem dX10_goesThrough_79 : decode cX10_goesThrough 79 = .ok (.aload_n 0, 1) := by decide +kernel
theorem dX10_goesThrough_80 : decode cX10_goesThrough 80 = .ok (.getfield 42, 3) := by decide +kernel
theorem dX10_goesThrough_83 : decode cX10_goesThrough 83 = .ok (.iload_n 2, 1) := by decide +kernel
theorem dX10_goesThrough_84 : decode cX10_goesThrough 84 = .ok (.iaload, 1) := by decide +kernel
theorem dX10_goesThrough_85 : decode cX10_goesThrough 85 = .ok (.iload_n 3, 1) := by decide +kernel
theorem dX10_goesThrough_86 : decode cX10_goesThrough 86 = .ok (.iadd, 1) := by decide +kernel
theorem dX10_goesThrough_87 : decode cX10_goesThrough 87 = .ok (.invokevirtual 307, 3) := by decide +kernel
theorem dX10_goesThrough_90 : decode cX10_goesThrough 90 = .ok (.iastore, 1) := by decide +kernel
theorem dX10_goesThrough_91 : decode cX10_goesThrough 91 = .ok (.aload_n 0, 1) := by decide +kernel
theorem dX10_goesThrough_92 : decode cX10_goesThrough 92 = .ok (.iconst 4, 1) := by decide +kernel
theorem dX10_goesThrough_93 : decode cX10_goesThrough 93 = .ok (.iload_n 1, 1) := by decide +kernel
theorem dX10_goesThrough_94 : decode cX10_goesThrough 94 = .ok (.imul, 1) := by decide +kernel
theorem dX10_goesThrough_95 : decode cX10_goesThrough 95 = .ok (.iload 6, 2) := by decide +kernel
theorem dX10_goesThrough_97 : decode cX10_goesThrough 97 = .ok (.iadd, 1) := by decide +kernel
theorem dX10_goesThrough_98 : decode cX10_goesThrough 98 = .ok (.iconst 1, 1) := by decide +kernel
theorem dX10_goesThrough_99 : decode cX10_goesThrough 99 = .ok (.iadd, 1) := by decide +kernel
theorem dX10_goesThrough_100 : decode cX10_goesThrough 100 = .ok (.iconst 4, 1) := by decide +kernel
theorem dX10_goesThrough_101 : decode cX10_goesThrough 101 = .ok (.aload_n 0, 1) := by decide +kernel
theorem dX10_goesThrough_102 : decode cX10_goesThrough 102 = .ok (.getfield 66, 3) := by decide +kernel
theorem dX10_goesThrough_105 : decode cX10_goesThrough 105 = .ok (.iload 6, 2) := by decide +kernel
theorem dX10_goesThrough_107 : decode cX10_goesThrough 107 = .ok (.iaload, 1) := by decide +kernel
theorem dX10_goesThrough_108 : decode cX10_goesThrough 108 = .ok (.imul, 1) := by decide +kernel
theorem dX10_goesThrough_109 : decode cX10_goesThrough 109 = .ok (.invokevirtual 355, 3) := by decide +kernel
theorem dX10_goesThrough_112 : decode cX10_goesThrough 112 = .ok (.iinc 6 1, 3) := by decide +kernel
theorem dX10_goesThrough_115 : decode cX10_goesThrough 115 = .ok (.goto (-56), 3) := by decide +kernel
theorem dX10_goesThrough_118 : decode cX10_goesThrough 118 = .ok (.iconst 0, 1) := by decide +kernel
theorem dX10_goesThrough_119 : decode cX10_goesThrough 119 = .ok (.istore 6, 2) := by decide +kernel
theorem dX10_goesThrough_121 : decode cX10_goesThrough 121 = .ok (.iload 6, 2) := by decide +kernel
theorem dX10_goesThrough_123 : decode cX10_goesThrough 123 = .ok (.iload 5, 2) := by decide +kernel
theorem dX10_goesThrough_125 : decode cX10_goesThrough 125 = .ok (.if_icmp .ge 53, 3) := by decide +kernel
theorem dX10_goesThrough_128 : decode cX10_goesThrough 128 = .ok (.aload_n 0, 1) := by decide +kernel
theorem dX10_goesThrough_129 : decode cX10_goesThrough 129 = .ok (.getfield 69, 3) := by decide +kernel
theorem dX10_goesThrough_132 : decode cX10_goesThrough 132 = .ok (.iload 6, 2) := by decide +kernel
theorem dX10_goesThrough_134 : decode cX10_goesThrough 134 = .ok (.aload_n 0, 1) := by decide +kernel
theorem dX10_goesThrough_135 : decode cX10_goesThrough 135 = .ok (.aload_n 0, 1) := by decide +kernel
theorem dX10_goesThrough_136 : decode cX10_goesThrough 136 = .ok (.getfield 39, 3) := by decide +kernel
theorem dX10_goesThrough_139 : decode cX10_goesThrough 139 = .ok (.iload_n 1, 1) := by decide +kernel
theorem dX10_goesThrough_140 : decode cX10_goesThrough 140 = .ok (.iaload, 1) := by decide +kernel
theorem dX10_goesThrough_141 : decode cX10_goesThrough 141 = .ok (.aload_n 0, 1) := by decide +kernel
theorem dX10_goesThrough_142 : decode cX10_goesThrough 142 = .ok (.getfield 42, 3) := by decide +kernel
theorem dX10_goesThrough_145 : decode cX10_goesThrough 145 = .ok (.iload_n 1, 1) := by decide +kernel
theorem dX10_goesThrough_146 : decode cX10_goesThrough 146 = .ok (.iaload, 1) := by decide +kernel
theorem dX10_goesThrough_147 : decode cX10_goesThrough 147 = .ok (.invokevirtual 307, 3) := by decide +kernel
theorem dX10_goesThrough_150 : decode cX10_goesThrough 150 = .ok (.iastore, 1) := by decide +kernel
theorem dX10_goesThrough_151 : decode cX10_goesThrough 151 = .ok (.aload_n 0, 1) := by decide +kernel
theorem dX10_goesThrough_152 : decode cX10_goesThrough 152 = .ok (.iconst 4, 1) := by decide +kernel
theorem dX10_goesThrough_153 : decode cX10_goesThrough 153 = .ok (.iload_n 2, 1) := by decide +kernel
theorem dX10_goesThrough_154 : decode cX10_goesThrough 154 = .ok (.imul, 1) := by decide +kernel
theorem dX10_goesThrough_155 : decode cX10_goesThrough 155 = .ok (.iload 6, 2) := by decide +kernel
theorem dX10_goesThrough_157 : decode cX10_goesThrough 157 = .ok (.iadd, 1) := by decide +kernel
theorem dX10_goesThrough_158 : decode cX10_goesThrough 158 = .ok (.iconst 1, 1) := by decide +kernel
theorem dX10_goesThrough_159 : decode cX10_goesThrough 159 = .ok (.iadd, 1) := by decide +kernel
theorem dX10_goesThrough_160 : decode cX10_goesThrough 160 = .ok (.iconst 4, 1) := by decide +kernel
theorem dX10_goesThrough_161 : decode cX10_goesThrough 161 = .ok (.aload_n 0, 1) := by decide +kernel
theorem dX10_goesThrough_162 : decode cX10_goesThrough 162 = .ok (.getfield 69, 3) := by decide +kernel
theorem dX10_goesThrough_165 : decode cX10_goesThrough 165 = .ok (.iload 6, 2) := by decide +kernel
theorem dX10_goesThrough_167 : decode cX10_goesThrough 167 = .ok (.iaload, 1) := by decide +kernel
theorem dX10_goesThrough_168 : decode cX10_goesThrough 168 = .ok (.imul, 1) := by decide +kernel
theorem dX10_goesThrough_169 : decode cX10_goesThrough 169 = .ok (.invokevirtual 355, 3) := by decide +kernel
theorem dX10_goesThrough_172 : decode cX10_goesThrough 172 = .ok (.iinc 6 1, 3) := by decide +kernel
theorem dX10_goesThrough_175 : decode cX10_goesThrough 175 = .ok (.goto (-54), 3) := by decide +kernel
theorem dX10_goesThrough_178 : decode cX10_goesThrough 178 = .ok (.iconst 0, 1) := by decide +kernel
theorem dX10_goesThrough_179 : decode cX10_goesThrough 179 = .ok (.istore 6, 2) := by decide +kernel
theorem dX10_goesThrough_181 : decode cX10_goesThrough 181 = .ok (.iload 6, 2) := by decide +kernel
theorem dX10_goesThrough_183 : decode cX10_goesThrough 183 = .ok (.iload 4, 2) := by decide +kernel
theorem dX10_goesThrough_185 : decode cX10_goesThrough 185 = .ok (.if_icmp .ge 57, 3) := by decide +kernel
theorem dX10_goesThrough_188 : decode cX10_goesThrough 188 = .ok (.iconst 0, 1) := by decide +kernel
theorem dX10_goesThrough_189 : decode cX10_goesThrough 189 = .ok (.istore 7, 2) := by decide +kernel
theorem dX10_goesThrough_191 : decode cX10_goesThrough 191 = .ok (.iload 7, 2) := by decide +kernel
theorem dX10_goesThrough_193 : decode cX10_goesThrough 193 = .ok (.iload 5, 2) := by decide +kernel
theorem dX10_goesThrough_195 : decode cX10_goesThrough 195 = .ok (.if_icmp .ge 41, 3) := by decide +kernel
theorem dX10_goesThrough_198 : decode cX10_goesThrough 198 = .ok (.aload_n 0, 1) := by decide +kernel
theorem dX10_goesThrough_199 : decode cX10_goesThrough 199 = .ok (.iconst 4, 1) := by decide +kernel
theorem dX10_goesThrough_200 : decode cX10_goesThrough 200 = .ok (.aload_n 0, 1) := by decide +kernel
theorem dX10_goesThrough_201 : decode cX10_goesThrough 201 = .ok (.getfield 66, 3) := by decide +kernel
theorem dX10_goesThrough_204 : decode cX10_goesThrough 204 = .ok (.iload 6, 2) := by decide +kernel
theorem dX10_goesThrough_206 : decode cX10_goesThrough 206 = .ok (.iaload, 1) := by decide +kernel
theorem dX10_goesThrough_207 : decode cX10_goesThrough 207 = .ok (.imul, 1) := by decide +kernel
theorem dX10_goesThrough_208 : decode cX10_goesThrough 208 = .ok (.iload 7, 2) := by decide +kernel
theorem dX10_goesThrough_210 : decode cX10_goesThrough 210 = .ok (.iadd, 1) := by decide +kernel
theorem dX10_goesThrough_211 : decode cX10_goesThrough 211 = .ok (.iconst 1, 1) := by decide +kernel
theorem dX10_goesThrough_212 : decode cX10_goesThrough 212 = .ok (.iadd, 1) := by decide +kernel
theorem dX10_goesThrough_213 : decode cX10_goesThrough 213 = .ok (.iconst 4, 1) := by decide +kernel
theorem dX10_goesThrough_214 : decode cX10_goesThrough 214 = .ok (.aload_n 0, 1) := by decide +kernel
theorem dX10_goesThrough_215 : decode cX10_goesThrough 215 = .ok (.getfield 69, 3) := by decide +kernel
theorem dX10_goesThrough_218 : decode cX10_goesThrough 218 = .ok (.iload 7, 2) := by decide +kernel
theorem dX10_goesThrough_220 : decode cX10_goesThrough 220 = .ok (.iaload, 1) := by decide +kernel
theorem dX10_goesThrough_221 : decode cX10_goesThrough 221 = .ok (.imul, 1) := by decide +kernel
theorem dX10_goesThrough_222 : decode cX10_goesThrough 222 = .ok (.iload 6, 2) := by decide +kernel
theorem dX10_goesThrough_224 : decode cX10_goesThrough 224 = .ok (.iadd, 1) := by decide +kernel
theorem dX10_goesThrough_225 : decode cX10_goesThrough 225 = .ok (.iconst 1, 1) := by decide +kernel
theorem dX10_goesThrough_226 : decode cX10_goesThrough 226 = .ok (.iadd, 1) := by decide +kernel
theorem dX10_goesThrough_227 : decode cX10_goesThrough 227 = .ok (.invokevirtual 313, 3) := by decide +kernel
theorem dX10_goesThrough_230 : decode cX10_goesThrough 230 = .ok (.iinc 7 1, 3) := by decide +kernel
theorem dX10_goesThrough_233 : decode cX10_goesThrough 233 = .ok (.goto (-42), 3) := by decide +kernel
theorem dX10_goesThrough_236 : decode cX10_goesThrough 236 = .ok (.iinc 6 1, 3) := by decide +kernel
theorem dX10_goesThrough_239 : decode cX10_goesThrough 239 = .ok (.goto (-58), 3) := by decide +kernel
theorem dX10_goesThrough_242 : decode cX10_goesThrough 242 = .ok (.return_, 1) := by decide +kernel
set_option maxRecDepth 20000 in
theorem ggX10_works_X10_kindOf : GoodIn wsX10_works wsX10_kindOf := goodIn_r _ [10, 3, 4, 11, 12, 9, 13, 52, 53, 54, 55, 56, 57, 58, 59, 60, 61, 62, 63, 64, 65, 66, 67, 68, 69, 70, 71, 72, 73, 74, 75, 76, 77, 78, 79, 80, 81, 82, 83, 84, 85, 86, 87, 88, 89, 90, 91, 92, 93, 94, 95, 96, 97, 98, 99, 100, 101, 102, 103, 104, 105, 106, 107, 108, 109, 110, 111, 112, 113, 114, 115, 116, 117, 118, 119, 120, 121, 122, 123, 124, 125, 126, 127] (by decide +kernel) (by decide +kernel)
set_option maxRecDepth 20000 in
theorem gX10_works_X10_kindOf : GoodIn wsX10_works (wsV RX10 358 RX10 yX10_kindOf wsX10_kindOf) := goodIn_app (goodIn_of _ (by decide +kernel)) ggX10_works_X10_kindOf
set_option maxRecDepth 20000 in
theorem ggX10_works_X10_moreBy : GoodIn wsX10_works wsX10_moreBy := goodIn_r _ [17, 3, 18, 19, 9, 20, 52, 53, 54, 55, 56, 57, 58, 59, 60, 61, 62, 63, 64, 65, 66, 67, 68, 69, 70, 71, 72, 73, 74, 75, 76, 77, 78, 79, 80, 81, 82, 83, 84, 85, 86, 87, 88, 89, 90, 91, 92, 93, 94, 95, 96, 97, 98, 99, 100, 101, 102, 103, 104, 105, 106, 107, 108, 109, 110, 111, 112, 113, 114, 115, 116, 117, 118, 119, 120, 121, 122, 123, 124, 125, 126, 127] (by decide +kernel) (by decide +kernel)
set_option maxRecDepth 20000 in
theorem gX10_works_X10_moreBy : GoodIn wsX10_works (wsV RX10 361 RX10 yX10_moreBy wsX10_moreBy) := goodIn_app (goodIn_of _ (by decide +kernel)) ggX10_works_X10_moreBy
set_option maxRecDepth 20000 in
theorem ggX10_works_X10_goesAside : GoodIn wsX10_works wsX10_goesAside := goodIn_r _ [24, 3, 4, 1, 2, 18, 19, 9, 20, 25, 26, 27, 28, 52, 53, 54, 55, 56, 57, 58, 59, 60, 61, 62, 63, 64, 65, 66, 67, 68, 69, 70, 71, 72, 73, 74, 75, 76, 77, 78, 79, 80, 81, 82, 83, 84, 85, 86, 87, 88, 89, 90, 91, 92, 93, 94, 95, 96, 97, 98, 99, 100, 101, 102, 103, 104, 105, 106, 107, 108, 109, 110, 111, 112, 113, 114, 115, 116, 117, 118, 119, 120, 121, 122, 123, 124, 125, 126, 127] (by decide +kernel) (by decide +kernel)
set_option maxRecDepth 20000 in
theorem gX10_works_X10_goesAside : GoodIn wsX10_works (wsV RX10 364 RX10 yX10_goesAside wsX10_goesAside) := goodIn_app (goodIn_of _ (by decide +kernel)) ggX10_works_X10_goesAside
set_option maxRecDepth 20000 in
theorem ggX10_works_X10_erases : GoodIn wsX10_works wsX10_erases := goodIn_r _ [32, 3, 18, 19, 9, 20, 33, 34, 35, 36, 37, 4, 2, 38, 39, 40, 41, 1, 25, 26, 27, 28, 52, 53, 54, 55, 56, 57, 58, 59, 60, 61, 62, 63, 64, 65, 66, 67, 68, 69, 70, 71, 72, 73, 74, 75, 76, 77, 78, 79, 80, 81, 82, 83, 84, 85, 86, 87, 88, 89, 90, 91, 92, 93, 94, 95, 96, 97, 98, 99, 100, 101, 102, 103, 104, 105, 106, 107, 108, 109, 110, 111, 112, 113, 114, 115, 116, 117, 118, 119, 120, 121, 122, 123, 124, 125, 126, 127] (by decide +kernel) (by decide +kernel)
set_option maxRecDepth 20000 in
theorem gX10_works_X10_erases : GoodIn wsX10_works (wsV RX10 367 RX10 yX10_erases wsX10_erases) := goodIn_app (goodIn_of _ (by decide +kernel)) ggX10_works_X10_erases
set_option maxRecDepth 20000 in
theorem ggX10_works_X10_portsOf : GoodIn wsX10_works wsX10_portsOf := goodIn_r _ [20] (by decide +kernel) (by decide +kernel)
set_option maxRecDepth 20000 in
theorem gX10_works_X10_portsOf : GoodIn wsX10_works (va_wsS RX10 352 yX10_portsOf wsX10_portsOf) := goodIn_app (goodIn_of _ (by decide +kernel)) ggX10_works_X10_portsOf
set_option maxRecDepth 20000 in
theorem ggX10_works_X10_joins : GoodIn wsX10_works wsX10_joins := goodIn_r _ [45, 1, 25, 26, 27, 9, 28, 52, 53, 54, 55, 56, 57, 58, 59, 60, 61, 62, 63, 64, 65, 66, 67, 68, 69, 70, 71, 72, 73, 74, 75, 76, 77, 78, 79, 80, 81, 82, 83, 84, 85, 86, 87, 88, 89, 90, 91, 92, 93, 94, 95, 96, 97, 98, 99, 100, 101, 102, 103, 104, 105, 106, 107, 108, 109, 110, 111, 112, 113, 114, 115, 116, 117, 118, 119, 120, 121, 122, 123, 124, 125, 126, 127] (by decide +kernel) (by decide +kernel)
set_option maxRecDepth 20000 in
theorem gX10_works_X10_joins : GoodIn wsX10_works (wsV RX10 370 RX10 yX10_joins wsX10_joins) := goodIn_app (goodIn_of _ (by decide +kernel)) ggX10_works_X10_joins
set_option maxRecDepth 20000 in
theorem ggX10_works_X10_goesThrough : GoodIn wsX10_works wsX10_goesThrough := goodIn_r _ [49, 3, 50, 4, 51, 18, 19, 9, 20, 33, 34, 35, 36, 37, 2, 38, 39, 40, 41, 1, 25, 26, 27, 28, 52, 53, 54, 55, 56, 57, 58, 59, 60, 61, 62, 63, 64, 65, 66, 67, 68, 69, 70, 71, 72, 73, 74, 75, 76, 77, 78, 79, 80, 81, 82, 83, 84, 85, 86, 87, 88, 89, 90, 91, 92, 93, 94, 95, 96, 97, 98, 99, 100, 101, 102, 103, 104, 105, 106, 107, 108, 109, 110, 111, 112, 113, 114, 115, 116, 117, 118, 119, 120, 121, 122, 123, 124, 125, 126, 127] (by decide +kernel) (by decide +kernel)
set_option maxRecDepth 20000 in
theorem gX10_works_X10_goesThrough : GoodIn wsX10_works (wsV RX10 373 RX10 yX10_goesThrough wsX10_goesThrough) := goodIn_app (goodIn_of _ (by decide +kernel)) ggX10_works_X10_goesThrough
theorem dX10_works_0 : decode cX10_works 0 = .ok (.aload_n 0, 1) := by decide +kernel
theorem dX10_works_1 : decode cX10_works 1 = .ok (.getfield 45, 3) := by decide +kernel
theorem dX10_works_4 : decode cX10_works 4 = .ok (.iconst 4, 1) := by decide +kernel
theorem dX10_works_5 : decode cX10_works 5 = .ok (.iload_n 1, 1) := by decide +kernel
theorem dX10_works_6 : decode cX10_works 6 = .ok (.imul, 1) := by decide +kernel
theorem dX10_works_7 : decode cX10_works 7 = .ok (.iaload, 1) := by decide +kernel
theorem dX10_works_8 : decode cX10_works 8 = .ok (.iconst 4, 1) := by decide +kernel
theorem dX10_works_9 : decode cX10_works 9 = .ok (.idiv, 1) := by decide +kernel
theorem dX10_works_10 : decode cX10_works 10 = .ok (.istore_n 2, 1) := by decide +kernel
theorem dX10_works_11 : decode cX10_works 11 = .ok (.aload_n 0, 1) := by decide +kernel
theorem dX10_works_12 : decode cX10_works 12 = .ok (.iload_n 1, 1) := by decide +kernel
theorem dX10_works_13 : decode cX10_works 13 = .ok (.iload_n 2, 1) := by decide +kernel
theorem dX10_works_14 : decode cX10_works 14 = .ok (.invokevirtual 358, 3) := by decide +kernel
theorem dX10_works_17 : decode cX10_works 17 = .ok (.istore_n 3, 1) := by decide +kernel
theorem dX10_works_18 : decode cX10_works 18 = .ok (.iload_n 3, 1) := by decide +kernel
theorem dX10_works_19 : decode cX10_works 19 = .ok (.bipush (-2), 2) := by decide +kernel
theorem dX10_works_21 : decode cX10_works 21 = .ok (.if_icmp .ne 6, 3) := by decide +kernel
theorem dX10_works_24 : decode cX10_works 24 = .ok (.bipush (-2), 2) := by decide +kernel
theorem dX10_works_26 : decode cX10_works 26 = .ok (.ireturn, 1) := by decide +kernel
theorem dX10_works_27 : decode cX10_works 27 = .ok (.aload_n 0, 1) := by decide +kernel
theorem dX10_works_28 : decode cX10_works 28 = .ok (.getfield 281, 3) := by decide +kernel
theorem dX10_works_31 : decode cX10_works 31 = .ok (.aload_n 0, 1) := by decide +kernel
theorem dX10_works_32 : decode cX10_works 32 = .ok (.iload_n 1, 1) := by decide +kernel
theorem dX10_works_33 : decode cX10_works 33 = .ok (.iload_n 2, 1) := by decide +kernel
theorem dX10_works_34 : decode cX10_works 34 = .ok (.iload_n 3, 1) := by decide +kernel
theorem dX10_works_35 : decode cX10_works 35 = .ok (.invokevirtual 361, 3) := by decide +kernel
theorem dX10_works_38 : decode cX10_works 38 = .ok (.iadd, 1) := by decide +kernel
theorem dX10_works_39 : decode cX10_works 39 = .ok (.sipush 400, 3) := by decide +kernel
theorem dX10_works_42 : decode cX10_works 42 = .ok (.if_icmp .le 5, 3) := by decide +kernel
theorem dX10_works_45 : decode cX10_works 45 = .ok (.iconst (-1), 1) := by decide +kernel
theorem dX10_works_46 : decode cX10_works 46 = .ok (.ireturn, 1) := by decide +kernel
theorem dX10_works_47 : decode cX10_works 47 = .ok (.aload_n 0, 1) := by decide +kernel
theorem dX10_works_48 : decode cX10_works 48 = .ok (.iload_n 1, 1) := by decide +kernel
theorem dX10_works_49 : decode cX10_works 49 = .ok (.sipush 8000, 3) := by decide +kernel
theorem dX10_works_52 : decode cX10_works 52 = .ok (.invokevirtual 364, 3) := by decide +kernel
theorem dX10_works_55 : decode cX10_works 55 = .ok (.aload_n 0, 1) := by decide +kernel
theorem dX10_works_56 : decode cX10_works 56 = .ok (.iload_n 2, 1) := by decide +kernel
theorem dX10_works_57 : decode cX10_works 57 = .ok (.sipush 8001, 3) := by decide +kernel
theorem dX10_works_60 : decode cX10_works 60 = .ok (.invokevirtual 364, 3) := by decide +kernel
theorem dX10_works_63 : decode cX10_works 63 = .ok (.sipush 8000, 3) := by decide +kernel
theorem dX10_works_66 : decode cX10_works 66 = .ok (.istore 4, 2) := by decide +kernel
theorem dX10_works_68 : decode cX10_works 68 = .ok (.sipush 8001, 3) := by decide +kernel
theorem dX10_works_71 : decode cX10_works 71 = .ok (.istore 5, 2) := by decide +kernel
theorem dX10_works_73 : decode cX10_works 73 = .ok (.iload_n 3, 1) := by decide +kernel
theorem dX10_works_74 : decode cX10_works 74 = .ok (.tableswitch 129 1 5 #[84, 84, 129, 129, 34], 34) := by decide +kernel
theorem dX10_works_108 : decode cX10_works 108 = .ok (.aload_n 0, 1) := by decide +kernel
theorem dX10_works_109 : decode cX10_works 109 = .ok (.getfield 39, 3) := by decide +kernel
theorem dX10_works_112 : decode cX10_works 112 = .ok (.iload 4, 2) := by decide +kernel
theorem dX10_works_114 : decode cX10_works 114 = .ok (.iaload, 1) := by decide +kernel
theorem dX10_works_115 : decode cX10_works 115 = .ok (.bipush 6, 2) := by decide +kernel
theorem dX10_works_117 : decode cX10_works 117 = .ok (.if_icmp .ne 15, 3) := by decide +kernel
theorem dX10_works_120 : decode cX10_works 120 = .ok (.aload_n 0, 1) := by decide +kernel
theorem dX10_works_121 : decode cX10_works 121 = .ok (.getfield 39, 3) := by decide +kernel
theorem dX10_works_124 : decode cX10_works 124 = .ok (.iload 5, 2) := by decide +kernel
theorem dX10_works_126 : decode cX10_works 126 = .ok (.iaload, 1) := by decide +kernel
theorem dX10_works_127 : decode cX10_works 127 = .ok (.bipush 6, 2) := by decide +kernel
theorem dX10_works_129 : decode cX10_works 129 = .ok (.if_icmp .eq 126, 3) := by decide +kernel
theorem dX10_works_132 : decode cX10_works 132 = .ok (.aload_n 0, 1) := by decide +kernel
theorem dX10_works_133 : decode cX10_works 133 = .ok (.aload_n 0, 1) := by decide +kernel
theorem dX10_works_134 : decode cX10_works 134 = .ok (.getfield 39, 3) := by decide +kernel
theorem dX10_works_137 : decode cX10_works 137 = .ok (.iload 4, 2) := by decide +kernel
theorem dX10_works_139 : decode cX10_works 139 = .ok (.iaload, 1) := by decide +kernel
theorem dX10_works_140 : decode cX10_works 140 = .ok (.bipush 6, 2) := by decide +kernel
theorem dX10_works_142 : decode cX10_works 142 = .ok (.if_icmp .ne 8, 3) := by decide +kernel
theorem dX10_works_145 : decode cX10_works 145 = .ok (.iload 5, 2) := by decide +kernel
theorem dX10_works_147 : decode cX10_works 147 = .ok (.goto 5, 3) := by decide +kernel
theorem dX10_works_150 : decode cX10_works 150 = .ok (.iload 4, 2) := by decide +kernel
theorem dX10_works_152 : decode cX10_works 152 = .ok (.invokevirtual 367, 3) := by decide +kernel
theorem dX10_works_155 : decode cX10_works 155 = .ok (.goto 100, 3) := by decide +kernel
theorem dX10_works_158 : decode cX10_works 158 = .ok (.iconst 1, 1) := by decide +kernel
theorem dX10_works_159 : decode cX10_works 159 = .ok (.istore 6, 2) := by decide +kernel
theorem dX10_works_161 : decode cX10_works 161 = .ok (.iload 6, 2) := by decide +kernel
theorem dX10_works_163 : decode cX10_works 163 = .ok (.aload_n 0, 1) := by decide +kernel
theorem dX10_works_164 : decode cX10_works 164 = .ok (.getfield 39, 3) := by decide +kernel
theorem dX10_works_167 : decode cX10_works 167 = .ok (.iload 4, 2) := by decide +kernel
theorem dX10_works_169 : decode cX10_works 169 = .ok (.iaload, 1) := by decide +kernel
theorem dX10_works_170 : decode cX10_works 170 = .ok (.invokestatic 352, 3) := by decide +kernel
theorem dX10_works_173 : decode cX10_works 173 = .ok (.if_icmp .ge 27, 3) := by decide +kernel
theorem dX10_works_176 : decode cX10_works 176 = .ok (.aload_n 0, 1) := by decide +kernel
theorem dX10_works_177 : decode cX10_works 177 = .ok (.iconst 4, 1) := by decide +kernel
theorem dX10_works_178 : decode cX10_works 178 = .ok (.iload 4, 2) := by decide +kernel
theorem dX10_works_180 : decode cX10_works 180 = .ok (.imul, 1) := by decide +kernel
theorem dX10_works_181 : decode cX10_works 181 = .ok (.iload 6, 2) := by decide +kernel
theorem dX10_works_183 : decode cX10_works 183 = .ok (.iadd, 1) := by decide +kernel
theorem dX10_works_184 : decode cX10_works 184 = .ok (.iconst 4, 1) := by decide +kernel
theorem dX10_works_185 : decode cX10_works 185 = .ok (.iload 5, 2) := by decide +kernel
theorem dX10_works_187 : decode cX10_works 187 = .ok (.imul, 1) := by decide +kernel
theorem dX10_works_188 : decode cX10_works 188 = .ok (.iload 6, 2) := by decide +kernel
theorem dX10_works_190 : decode cX10_works 190 = .ok (.iadd, 1) := by decide +kernel
theorem dX10_works_191 : decode cX10_works 191 = .ok (.invokevirtual 370, 3) := by decide +kernel
theorem dX10_works_194 : decode cX10_works 194 = .ok (.iinc 6 1, 3) := by decide +kernel
theorem dX10_works_197 : decode cX10_works 197 = .ok (.goto (-36), 3) := by decide +kernel
theorem dX10_works_200 : decode cX10_works 200 = .ok (.goto 55, 3) := by decide +kernel
theorem dX10_works_203 : decode cX10_works 203 = .ok (.aload_n 0, 1) := by decide +kernel
theorem dX10_works_204 : decode cX10_works 204 = .ok (.aload_n 0, 1) := by decide +kernel
theorem dX10_works_205 : decode cX10_works 205 = .ok (.getfield 42, 3) := by decide +kernel
theorem dX10_works_208 : decode cX10_works 208 = .ok (.iload 4, 2) := by decide +kernel
theorem dX10_works_210 : decode cX10_works 210 = .ok (.iaload, 1) := by decide +kernel
theorem dX10_works_211 : decode cX10_works 211 = .ok (.aload_n 0, 1) := by decide +kernel
theorem dX10_works_212 : decode cX10_works 212 = .ok (.getfield 42, 3) := by decide +kernel
theorem dX10_works_215 : decode cX10_works 215 = .ok (.iload 5, 2) := by decide +kernel
theorem dX10_works_217 : decode cX10_works 217 = .ok (.iaload, 1) := by decide +kernel
theorem dX10_works_218 : decode cX10_works 218 = .ok (.if_icmp .ge 8, 3) := by decide +kernel
theorem dX10_works_221 : decode cX10_works 221 = .ok (.iload 4, 2) := by decide +kernel
theorem dX10_works_223 : decode cX10_works 223 = .ok (.goto 5, 3) := by decide +kernel
theorem dX10_works_226 : decode cX10_works 226 = .ok (.iload 5, 2) := by decide +kernel
theorem dX10_works_228 : decode cX10_works 228 = .ok (.aload_n 0, 1) := by decide +kernel
theorem dX10_works_229 : decode cX10_works 229 = .ok (.getfield 42, 3) := by decide +kernel
theorem dX10_works_232 : decode cX10_works 232 = .ok (.iload 4, 2) := by decide +kernel
theorem dX10_works_234 : decode cX10_works 234 = .ok (.iaload, 1) := by decide +kernel
theorem dX10_works_235 : decode cX10_works 235 = .ok (.aload_n 0, 1) := by decide +kernel
theorem dX10_works_236 : decode cX10_works 236 = .ok (.getfield 42, 3) := by decide +kernel
theorem dX10_works_239 : decode cX10_works 239 = .ok (.iload 5, 2) := by decide +kernel
theorem dX10_works_241 : decode cX10_works 241 = .ok (.iaload, 1) := by decide +kernel
theorem dX10_works_242 : decode cX10_works 242 = .ok (.if_icmp .ge 8, 3) := by decide +kernel
theorem dX10_works_245 : decode cX10_works 245 = .ok (.iload 5, 2) := by decide +kernel
theorem dX10_works_247 : decode cX10_works 247 = .ok (.goto 5, 3) := by decide +kernel
theorem dX10_works_250 : decode cX10_works 250 = .ok (.iload 4, 2) := by decide +kernel
theorem dX10_works_252 : decode cX10_works 252 = .ok (.invokevirtual 373, 3) := by decide +kernel
theorem dX10_works_255 : decode cX10_works 255 = .ok (.aload_n 0, 1) := by decide +kernel
theorem dX10_works_256 : decode cX10_works 256 = .ok (.aload_n 0, 1) := by decide +kernel
theorem dX10_works_257 : decode cX10_works 257 = .ok (.getfield 281, 3) := by decide +kernel
theorem dX10_works_260 : decode cX10_works 260 = .ok (.aload_n 0, 1) := by decide +kernel
theorem dX10_works_261 : decode cX10_works 261 = .ok (.getfield 316, 3) := by decide +kernel
theorem dX10_works_264 : decode cX10_works 264 = .ok (.if_icmp .le 10, 3) := by decide +kernel
theorem dX10_works_267 : decode cX10_works 267 = .ok (.aload_n 0, 1) := by decide +kernel
theorem dX10_works_268 : decode cX10_works 268 = .ok (.getfield 281, 3) := by decide +kernel
theorem dX10_works_271 : decode cX10_works 271 = .ok (.goto 7, 3) := by decide +kernel
theorem dX10_works_274 : decode cX10_works 274 = .ok (.aload_n 0, 1) := by decide +kernel
theorem dX10_works_275 : decode cX10_works 275 = .ok (.getfield 316, 3) := by decide +kernel
theorem dX10_works_278 : decode cX10_works 278 = .ok (.putfield 316, 3) := by decide +kernel
theorem dX10_works_281 : decode cX10_works 281 = .ok (.iload_n 3, 1) := by decide +kernel
theorem dX10_works_282 : decode cX10_works 282 = .ok (.ireturn, 1) := by decide +kernel
set_option maxRecDepth 20000 in
theorem ggX10_steps_X10_chosen : GoodIn wsX10_steps wsX10_chosen := goodIn_r _ [6, 7, 8, 9, 10, 11, 5, 12, 13, 14, 15, 16, 17, 18, 19, 20, 21, 22, 23, 24, 25, 26, 27, 28, 29, 30, 31, 32, 33, 34, 35, 36, 37, 38, 39, 40, 41, 42, 43, 44, 45, 46, 47, 48, 49, 50, 51, 52, 53, 54, 55, 56, 57, 58, 59, 60, 61, 62, 63, 64, 65, 66, 67, 68, 69, 70, 71, 72, 73, 74, 75, 76, 77, 78, 79, 80, 81, 82, 83, 84, 85, 86, 87, 88, 89, 90, 91, 92, 93, 94, 95, 96, 97, 98, 99, 100, 101, 102, 103, 104, 105, 106, 107, 108, 109, 110, 111, 112, 113, 114, 115, 116, 117, 118, 169, 170, 171, 172, 173, 174, 175, 176, 177, 178, 179, 180, 181, 182, 183, 184, 185, 186, 187, 188, 189, 190, 191, 192, 193, 194, 195, 196, 197, 198, 199, 200, 201, 202, 203, 204, 205, 206, 207, 208, 209, 210, 211, 212, 213, 214, 215, 216, 217, 218, 219, 220, 221, 222, 223, 224, 225, 226, 227, 228, 229, 230, 231, 232, 233, 234, 235, 236, 237, 238, 239, 240, 241, 242, 243, 244] (by decide +kernel) (by decide +kernel)
set_option maxRecDepth 20000 in
theorem gX10_steps_X10_chosen : GoodIn wsX10_steps (wsV RX10 376 RX10 yX10_chosen wsX10_chosen) := goodIn_app (goodIn_of _ (by decide +kernel)) ggX10_steps_X10_chosen
set_option maxRecDepth 20000 in
theorem ggX10_steps_X10_works : GoodIn wsX10_steps wsX10_works := goodIn_r _ [122, 21, 123, 22, 28, 124, 125, 126, 127, 5, 128, 129, 130, 131, 132, 133, 134, 135, 136, 137, 138, 139, 140, 141, 142, 143, 144, 145, 146, 147, 148, 149, 150, 151, 152, 153, 154, 8, 155, 156, 157, 158, 159, 160, 161, 162, 163, 164, 165, 166, 167, 168, 169, 170, 171, 172, 173, 174, 175, 176, 177, 178, 179, 180, 181, 182, 183, 184, 185, 186, 187, 188, 189, 190, 191, 192, 193, 194, 195, 196, 197, 198, 199, 200, 201, 202, 203, 204, 205, 206, 207, 208, 209, 210, 211, 212, 213, 214, 215, 216, 217, 218, 219, 220, 221, 222, 223, 224, 225, 226, 227, 228, 229, 230, 231, 232, 233, 234, 235, 236, 237, 238, 239, 240, 241, 242, 243, 244] (by decide +kernel) (by decide +kernel)
set_option maxRecDepth 20000 in
theorem gX10_steps_X10_works : GoodIn wsX10_steps (wsV RX10 379 RX10 yX10_works wsX10_works) := goodIn_app (goodIn_of _ (by decide +kernel)) ggX10_steps_X10_works
theorem dX10_steps_0 : decode cX10_steps 0 = .ok (.aload_n 0, 1) := by decide +kernel
theorem dX10_steps_1 : decode cX10_steps 1 = .ok (.iload_n 1, 1) := by decide +kernel
theorem dX10_steps_2 : decode cX10_steps 2 = .ok (.invokevirtual 376, 3) := by decide +kernel
theorem dX10_steps_5 : decode cX10_steps 5 = .ok (.istore_n 2, 1) := by decide +kernel
theorem dX10_steps_6 : decode cX10_steps 6 = .ok (.iload_n 2, 1) := by decide +kernel
theorem dX10_steps_7 : decode cX10_steps 7 = .ok (.iconst (-1), 1) := by decide +kernel
theorem dX10_steps_8 : decode cX10_steps 8 = .ok (.if_icmp .ne 5, 3) := by decide +kernel
theorem dX10_steps_11 : decode cX10_steps 11 = .ok (.iconst 0, 1) := by decide +kernel
theorem dX10_steps_12 : decode cX10_steps 12 = .ok (.ireturn, 1) := by decide +kernel
theorem dX10_steps_13 : decode cX10_steps 13 = .ok (.aload_n 0, 1) := by decide +kernel
theorem dX10_steps_14 : decode cX10_steps 14 = .ok (.iload_n 2, 1) := by decide +kernel
theorem dX10_steps_15 : decode cX10_steps 15 = .ok (.invokevirtual 379, 3) := by decide +kernel
theorem dX10_steps_18 : decode cX10_steps 18 = .ok (.istore_n 3, 1) := by decide +kernel
theorem dX10_steps_19 : decode cX10_steps 19 = .ok (.iload_n 3, 1) := by decide +kernel
theorem dX10_steps_20 : decode cX10_steps 20 = .ok (.ifCond .le 23, 3) := by decide +kernel
theorem dX10_steps_23 : decode cX10_steps 23 = .ok (.aload_n 0, 1) := by decide +kernel
theorem dX10_steps_24 : decode cX10_steps 24 = .ok (.getfield 51, 3) := by decide +kernel
theorem dX10_steps_27 : decode cX10_steps 27 = .ok (.iconst 0, 1) := by decide +kernel
theorem dX10_steps_28 : decode cX10_steps 28 = .ok (.dup2, 1) := by decide +kernel
theorem dX10_steps_29 : decode cX10_steps 29 = .ok (.iaload, 1) := by decide +kernel
theorem dX10_steps_30 : decode cX10_steps 30 = .ok (.iconst 1, 1) := by decide +kernel
theorem dX10_steps_31 : decode cX10_steps 31 = .ok (.iadd, 1) := by decide +kernel
theorem dX10_steps_32 : decode cX10_steps 32 = .ok (.iastore, 1) := by decide +kernel
theorem dX10_steps_33 : decode cX10_steps 33 = .ok (.aload_n 0, 1) := by decide +kernel
theorem dX10_steps_34 : decode cX10_steps 34 = .ok (.getfield 51, 3) := by decide +kernel
theorem dX10_steps_37 : decode cX10_steps 37 = .ok (.iload_n 3, 1) := by decide +kernel
theorem dX10_steps_38 : decode cX10_steps 38 = .ok (.dup2, 1) := by decide +kernel
theorem dX10_steps_39 : decode cX10_steps 39 = .ok (.iaload, 1) := by decide +kernel
theorem dX10_steps_40 : decode cX10_steps 40 = .ok (.iconst 1, 1) := by decide +kernel
theorem dX10_steps_41 : decode cX10_steps 41 = .ok (.iadd, 1) := by decide +kernel
theorem dX10_steps_42 : decode cX10_steps 42 = .ok (.iastore, 1) := by decide +kernel
theorem dX10_steps_43 : decode cX10_steps 43 = .ok (.iload_n 3, 1) := by decide +kernel
theorem dX10_steps_44 : decode cX10_steps 44 = .ok (.ireturn, 1) := by decide +kernel
set_option maxRecDepth 20000 in
theorem ggX10_isWay_X10_isIn : GoodIn wsX10_isWay wsX10_isIn := goodIn_r _ [4] (by decide +kernel) (by decide +kernel)
set_option maxRecDepth 20000 in
theorem gX10_isWay_X10_isIn : GoodIn wsX10_isWay (va_wsS RX10 154 yX10_isIn wsX10_isIn) := goodIn_app (goodIn_of _ (by decide +kernel)) ggX10_isWay_X10_isIn
theorem dX10_isWay_0 : decode cX10_isWay 0 = .ok (.iload_n 0, 1) := by decide +kernel
theorem dX10_isWay_1 : decode cX10_isWay 1 = .ok (.iconst 0, 1) := by decide +kernel
theorem dX10_isWay_2 : decode cX10_isWay 2 = .ok (.iconst 2, 1) := by decide +kernel
theorem dX10_isWay_3 : decode cX10_isWay 3 = .ok (.invokestatic 154, 3) := by decide +kernel
theorem dX10_isWay_6 : decode cX10_isWay 6 = .ok (.ireturn, 1) := by decide +kernel
set_option maxRecDepth 20000 in
theorem ggX10_step_X10_isWay : GoodIn wsX10_step wsX10_isWay := goodIn_r _ [5, 6, 7, 4, 8] (by decide +kernel) (by decide +kernel)
set_option maxRecDepth 20000 in
theorem gX10_step_X10_isWay : GoodIn wsX10_step (va_wsS RX10 382 yX10_isWay wsX10_isWay) := goodIn_app (goodIn_of _ (by decide +kernel)) ggX10_step_X10_isWay
set_option maxRecDepth 20000 in
theorem ggX10_step_X10_right : GoodIn wsX10_step wsX10_right := goodIn_r _ [12, 1, 181, 182, 183, 184, 185, 186, 187, 188, 189, 190, 191, 192, 193, 194, 195, 196, 197, 198, 199, 200, 201, 202, 203, 204, 205, 206, 207, 208, 209, 210, 211, 212, 213, 214, 215, 216, 217, 218, 219, 220, 221, 222, 223, 224, 225, 226, 227, 228, 229, 230, 231, 232, 233, 234, 235, 236, 237, 238, 239, 240, 241, 242, 243, 244, 245, 246, 247, 248, 249, 250, 251, 252, 253, 254, 255, 256] (by decide +kernel) (by decide +kernel)
set_option maxRecDepth 20000 in
theorem gX10_step_X10_right : GoodIn wsX10_step (wsV RX10 269 RX10 yX10_right wsX10_right) := goodIn_app (goodIn_of _ (by decide +kernel)) ggX10_step_X10_right
set_option maxRecDepth 20000 in
theorem ggX10_step_X10_steps : GoodIn wsX10_step wsX10_steps := goodIn_r _ [16, 17, 18, 19, 20, 4, 21, 22, 23, 24, 25, 26, 27, 28, 29, 30, 31, 32, 33, 34, 35, 36, 37, 38, 39, 40, 41, 42, 43, 44, 45, 46, 47, 48, 49, 50, 51, 52, 53, 54, 55, 56, 57, 58, 59, 60, 61, 62, 63, 64, 65, 66, 67, 68, 69, 70, 71, 72, 73, 74, 75, 76, 77, 78, 79, 80, 81, 82, 83, 84, 85, 86, 87, 88, 89, 90, 91, 92, 93, 94, 95, 96, 97, 98, 99, 100, 101, 102, 103, 104, 105, 106, 107, 108, 109, 110, 111, 112, 113, 114, 115, 116, 117, 118, 119, 120, 121, 122, 123, 124, 125, 126, 127, 128, 129, 130, 6, 7, 8, 131, 132, 133, 134, 135, 136, 137, 138, 139, 140, 141, 142, 143, 144, 145, 146, 147, 148, 149, 150, 151, 152, 153, 154, 155, 156, 157, 158, 159, 160, 161, 162, 163, 164, 165, 166, 167, 168, 169, 170, 171, 172, 173, 174, 175, 176, 177, 178, 179, 180, 181, 182, 183, 184, 185, 186, 187, 188, 189, 190, 191, 192, 193, 194, 195, 196, 197, 198, 199, 200, 201, 202, 203, 204, 205, 206, 207, 208, 209, 210, 211, 212, 213, 214, 215, 216, 217, 218, 219, 220, 221, 222, 223, 224, 225, 226, 227, 228, 229, 230, 231, 232, 233, 234, 235, 236, 237, 238, 239, 240, 241, 242, 243, 244, 245, 246, 247, 248, 249, 250, 251, 252, 253, 254, 255, 256] (by decide +kernel) (by decide +kernel)
set_option maxRecDepth 20000 in
theorem gX10_step_X10_steps : GoodIn wsX10_step (wsV RX10 385 RX10 yX10_steps wsX10_steps) := goodIn_app (goodIn_of _ (by decide +kernel)) ggX10_step_X10_steps
theorem dX10_step_0 : decode cX10_step 0 = .ok (.aload_n 0, 1) := by decide +kernel
theorem dX10_step_1 : decode cX10_step 1 = .ok (.iconst 0, 1) := by decide +kernel
theorem dX10_step_2 : decode cX10_step 2 = .ok (.putfield 141, 3) := by decide +kernel
theorem dX10_step_5 : decode cX10_step 5 = .ok (.aload_n 0, 1) := by decide +kernel
theorem dX10_step_6 : decode cX10_step 6 = .ok (.iload_n 1, 1) := by decide +kernel
theorem dX10_step_7 : decode cX10_step 7 = .ok (.invokestatic 382, 3) := by decide +kernel
theorem dX10_step_10 : decode cX10_step 10 = .ok (.iconst 1, 1) := by decide +kernel
theorem dX10_step_11 : decode cX10_step 11 = .ok (.invokevirtual 269, 3) := by decide +kernel
theorem dX10_step_14 : decode cX10_step 14 = .ok (.ifCond .eq 11, 3) := by decide +kernel
theorem dX10_step_17 : decode cX10_step 17 = .ok (.aload_n 0, 1) := by decide +kernel
theorem dX10_step_18 : decode cX10_step 18 = .ok (.iload_n 1, 1) := by decide +kernel
theorem dX10_step_19 : decode cX10_step 19 = .ok (.invokevirtual 385, 3) := by decide +kernel
theorem dX10_step_22 : decode cX10_step 22 = .ok (.goto 4, 3) := by decide +kernel
theorem dX10_step_25 : decode cX10_step 25 = .ok (.iconst 0, 1) := by decide +kernel
theorem dX10_step_26 : decode cX10_step 26 = .ok (.ireturn, 1) := by decide +kernel
set_option maxRecDepth 20000 in
theorem ggX10_run_X10_isWay : GoodIn wsX10_run wsX10_isWay := goodIn_r _ [5, 6, 7, 4, 8] (by decide +kernel) (by decide +kernel)
set_option maxRecDepth 20000 in
theorem gX10_run_X10_isWay : GoodIn wsX10_run (va_wsS RX10 382 yX10_isWay wsX10_isWay) := goodIn_app (goodIn_of _ (by decide +kernel)) ggX10_run_X10_isWay
set_option maxRecDepth 20000 in
theorem ggX10_run_X10_isIn : GoodIn wsX10_run wsX10_isIn := goodIn_r _ [8] (by decide +kernel) (by decide +kernel)
set_option maxRecDepth 20000 in
theorem gX10_run_X10_isIn : GoodIn wsX10_run (va_wsS RX10 154 yX10_isIn wsX10_isIn) := goodIn_app (goodIn_of _ (by decide +kernel)) ggX10_run_X10_isIn
set_option maxRecDepth 20000 in
theorem ggX10_run_X10_right : GoodIn wsX10_run wsX10_right := goodIn_r _ [12, 1, 181, 182, 183, 184, 185, 186, 187, 188, 189, 190, 191, 192, 193, 194, 195, 196, 197, 198, 199, 200, 201, 202, 203, 204, 205, 206, 207, 208, 209, 210, 211, 212, 213, 214, 215, 216, 217, 218, 219, 220, 221, 222, 223, 224, 225, 226, 227, 228, 229, 230, 231, 232, 233, 234, 235, 236, 237, 238, 239, 240, 241, 242, 243, 244, 245, 246, 247, 248, 249, 250, 251, 252, 253, 254, 255, 256] (by decide +kernel) (by decide +kernel)
set_option maxRecDepth 20000 in
theorem gX10_run_X10_right : GoodIn wsX10_run (wsV RX10 269 RX10 yX10_right wsX10_right) := goodIn_app (goodIn_of _ (by decide +kernel)) ggX10_run_X10_right
set_option maxRecDepth 20000 in
theorem ggX10_run_X10_steps : GoodIn wsX10_run wsX10_steps := goodIn_r _ [16, 17, 18, 19, 20, 4, 21, 22, 23, 24, 25, 26, 27, 28, 29, 30, 31, 32, 33, 34, 35, 36, 37, 38, 39, 40, 41, 42, 43, 44, 45, 46, 47, 48, 49, 50, 51, 52, 53, 54, 55, 56, 57, 58, 59, 60, 61, 62, 63, 64, 65, 66, 67, 68, 69, 70, 71, 72, 73, 74, 75, 76, 77, 78, 79, 80, 81, 82, 83, 84, 85, 86, 87, 88, 89, 90, 91, 92, 93, 94, 95, 96, 97, 98, 99, 100, 101, 102, 103, 104, 105, 106, 107, 108, 109, 110, 111, 112, 113, 114, 115, 116, 117, 118, 119, 120, 121, 122, 123, 124, 125, 126, 127, 128, 129, 130, 6, 7, 8, 131, 132, 133, 134, 135, 136, 137, 138, 139, 140, 141, 142, 143, 144, 145, 146, 147, 148, 149, 150, 151, 152, 153, 154, 155, 156, 157, 158, 159, 160, 161, 162, 163, 164, 165, 166, 167, 168, 169, 170, 171, 172, 173, 174, 175, 176, 177, 178, 179, 180, 181, 182, 183, 184, 185, 186, 187, 188, 189, 190, 191, 192, 193, 194, 195, 196, 197, 198, 199, 200, 201, 202, 203, 204, 205, 206, 207, 208, 209, 210, 211, 212, 213, 214, 215, 216, 217, 218, 219, 220, 221, 222, 223, 224, 225, 226, 227, 228, 229, 230, 231, 232, 233, 234, 235, 236, 237, 238, 239, 240, 241, 242, 243, 244, 245, 246, 247, 248, 249, 250, 251, 252, 253, 254, 255, 256] (by decide +kernel) (by decide +kernel)
set_option maxRecDepth 20000 in
theorem gX10_run_X10_steps : GoodIn wsX10_run (wsV RX10 385 RX10 yX10_steps wsX10_steps) := goodIn_app (goodIn_of _ (by decide +kernel)) ggX10_run_X10_steps
theorem dX10_run_0 : decode cX10_run 0 = .ok (.aload_n 0, 1) := by decide +kernel
theorem dX10_run_1 : decode cX10_run 1 = .ok (.iconst 0, 1) := by decide +kernel
theorem dX10_run_2 : decode cX10_run 2 = .ok (.putfield 141, 3) := by decide +kernel
theorem dX10_run_5 : decode cX10_run 5 = .ok (.aload_n 0, 1) := by decide +kernel
theorem dX10_run_6 : decode cX10_run 6 = .ok (.iload_n 1, 1) := by decide +kernel
theorem dX10_run_7 : decode cX10_run 7 = .ok (.invokestatic 382, 3) := by decide +kernel
theorem dX10_run_10 : decode cX10_run 10 = .ok (.ifCond .eq 17, 3) := by decide +kernel
theorem dX10_run_13 : decode cX10_run 13 = .ok (.iload_n 2, 1) := by decide +kernel
theorem dX10_run_14 : decode cX10_run 14 = .ok (.iconst 0, 1) := by decide +kernel
theorem dX10_run_15 : decode cX10_run 15 = .ok (.bipush 60, 2) := by decide +kernel
theorem dX10_run_17 : decode cX10_run 17 = .ok (.invokestatic 154, 3) := by decide +kernel
theorem dX10_run_20 : decode cX10_run 20 = .ok (.ifCond .eq 7, 3) := by decide +kernel
theorem dX10_run_23 : decode cX10_run 23 = .ok (.iconst 1, 1) := by decide +kernel
theorem dX10_run_24 : decode cX10_run 24 = .ok (.goto 4, 3) := by decide +kernel
theorem dX10_run_27 : decode cX10_run 27 = .ok (.iconst 0, 1) := by decide +kernel
theorem dX10_run_28 : decode cX10_run 28 = .ok (.iconst 1, 1) := by decide +kernel
theorem dX10_run_29 : decode cX10_run 29 = .ok (.invokevirtual 269, 3) := by decide +kernel
theorem dX10_run_32 : decode cX10_run 32 = .ok (.ifCond .ne 5, 3) := by decide +kernel
theorem dX10_run_35 : decode cX10_run 35 = .ok (.iconst 0, 1) := by decide +kernel
theorem dX10_run_36 : decode cX10_run 36 = .ok (.ireturn, 1) := by decide +kernel
theorem dX10_run_37 : decode cX10_run 37 = .ok (.iconst 0, 1) := by decide +kernel
theorem dX10_run_38 : decode cX10_run 38 = .ok (.istore_n 3, 1) := by decide +kernel
theorem dX10_run_39 : decode cX10_run 39 = .ok (.iload_n 3, 1) := by decide +kernel
theorem dX10_run_40 : decode cX10_run 40 = .ok (.iload_n 2, 1) := by decide +kernel
theorem dX10_run_41 : decode cX10_run 41 = .ok (.if_icmp .ge 17, 3) := by decide +kernel
theorem dX10_run_44 : decode cX10_run 44 = .ok (.aload_n 0, 1) := by decide +kernel
theorem dX10_run_45 : decode cX10_run 45 = .ok (.iload_n 1, 1) := by decide +kernel
theorem dX10_run_46 : decode cX10_run 46 = .ok (.invokevirtual 385, 3) := by decide +kernel
theorem dX10_run_49 : decode cX10_run 49 = .ok (.ifCond .le 9, 3) := by decide +kernel
theorem dX10_run_52 : decode cX10_run 52 = .ok (.iinc 3 1, 3) := by decide +kernel
theorem dX10_run_55 : decode cX10_run 55 = .ok (.goto (-16), 3) := by decide +kernel
theorem dX10_run_58 : decode cX10_run 58 = .ok (.iload_n 3, 1) := by decide +kernel
theorem dX10_run_59 : decode cX10_run 59 = .ok (.ireturn, 1) := by decide +kernel
set_option maxRecDepth 20000 in
theorem ggX10_tries_X10_keepsNet : GoodIn wsX10_tries wsX10_keepsNet := goodIn_r _ [9, 3, 10, 11, 12, 13, 14, 15, 16, 17, 18, 183, 184, 185, 186, 187, 188, 189, 190, 191, 192, 193, 194, 195, 196, 197, 198, 199, 200, 201, 202, 203, 204, 205, 206, 207, 208, 209, 210, 211, 212, 213, 214, 215, 216, 217, 218, 219, 220, 221, 222, 223, 224, 225, 226, 227, 228, 229, 230, 231, 232, 233, 234, 235, 236, 237, 238, 239, 240, 241, 242, 243, 244, 245, 246, 247, 248, 249, 250, 251, 252, 253, 254, 255, 256, 257, 258] (by decide +kernel) (by decide +kernel)
set_option maxRecDepth 20000 in
theorem gX10_tries_X10_keepsNet : GoodIn wsX10_tries (wsV RX10 325 RX10 yX10_keepsNet wsX10_keepsNet) := goodIn_app (goodIn_of _ (by decide +kernel)) ggX10_tries_X10_keepsNet
set_option maxRecDepth 20000 in
theorem ggX10_tries_X10_chosen : GoodIn wsX10_tries wsX10_chosen := goodIn_r _ [22, 23, 11, 24, 25, 26, 8, 27, 28, 29, 30, 31, 32, 33, 34, 35, 18, 14, 36, 37, 38, 39, 40, 16, 41, 42, 43, 44, 45, 46, 47, 48, 49, 50, 51, 52, 53, 54, 55, 56, 57, 58, 59, 60, 61, 62, 63, 64, 65, 66, 67, 68, 69, 70, 71, 72, 73, 74, 75, 76, 77, 78, 79, 80, 81, 82, 83, 84, 85, 86, 87, 88, 89, 90, 91, 92, 93, 94, 95, 96, 97, 98, 99, 100, 101, 102, 103, 104, 105, 106, 107, 108, 109, 110, 111, 112, 113, 114, 115, 116, 117, 118, 119, 120, 121, 122, 123, 124, 125, 126, 127, 128, 129, 130, 183, 184, 185, 186, 187, 188, 189, 190, 191, 192, 193, 194, 195, 196, 197, 198, 199, 200, 201, 202, 203, 204, 205, 206, 207, 208, 209, 210, 211, 212, 213, 214, 215, 216, 217, 218, 219, 220, 221, 222, 223, 224, 225, 226, 227, 228, 229, 230, 231, 232, 233, 234, 235, 236, 237, 238, 239, 240, 241, 242, 243, 244, 245, 246, 247, 248, 249, 250, 251, 252, 253, 254, 255, 256, 257, 258] (by decide +kernel) (by decide +kernel)
set_option maxRecDepth 20000 in
theorem gX10_tries_X10_chosen : GoodIn wsX10_tries (wsV RX10 376 RX10 yX10_chosen wsX10_chosen) := goodIn_app (goodIn_of _ (by decide +kernel)) ggX10_tries_X10_chosen
set_option maxRecDepth 20000 in
theorem ggX10_tries_X10_works : GoodIn wsX10_tries wsX10_works := goodIn_r _ [134, 18, 3, 14, 16, 1, 135, 136, 137, 8, 138, 139, 140, 141, 142, 143, 144, 145, 146, 147, 148, 149, 150, 151, 152, 153, 154, 155, 156, 157, 158, 159, 160, 161, 162, 163, 164, 11, 165, 166, 167, 168, 169, 170, 171, 172, 173, 174, 175, 176, 177, 178, 183, 184, 185, 186, 187, 188, 189, 190, 191, 192, 193, 194, 195, 196, 197, 198, 199, 200, 201, 202, 203, 204, 205, 206, 207, 208, 209, 210, 211, 212, 213, 214, 215, 216, 217, 218, 219, 220, 221, 222, 223, 224, 225, 226, 227, 228, 229, 230, 231, 232, 233, 234, 235, 236, 237, 238, 239, 240, 241, 242, 243, 244, 245, 246, 247, 248, 249, 250, 251, 252, 253, 254, 255, 256, 257, 258] (by decide +kernel) (by decide +kernel)
set_option maxRecDepth 20000 in
theorem gX10_tries_X10_works : GoodIn wsX10_tries (wsV RX10 379 RX10 yX10_works wsX10_works) := goodIn_app (goodIn_of _ (by decide +kernel)) ggX10_tries_X10_works
set_option maxRecDepth 20000 in
theorem ggX10_tries_X10_comesNet : GoodIn wsX10_tries wsX10_comesNet := goodIn_r _ [182, 14, 10, 3, 12, 11, 13, 16, 15, 18, 17, 183, 184, 185, 186, 187, 188, 189, 190, 191, 192, 193, 194, 195, 196, 197, 198, 199, 200, 201, 202, 203, 204, 205, 206, 207, 208, 209, 210, 211, 212, 213, 214, 215, 216, 217, 218, 219, 220, 221, 222, 223, 224, 225, 226, 227, 228, 229, 230, 231, 232, 233, 234, 235, 236, 237, 238, 239, 240, 241, 242, 243, 244, 245, 246, 247, 248, 249, 250, 251, 252, 253, 254, 255, 256, 257, 258] (by decide +kernel) (by decide +kernel)
set_option maxRecDepth 20000 in
theorem gX10_tries_X10_comesNet : GoodIn wsX10_tries (wsV RX10 331 RX10 yX10_comesNet wsX10_comesNet) := goodIn_app (goodIn_of _ (by decide +kernel)) ggX10_tries_X10_comesNet
theorem dX10_tries_0 : decode cX10_tries 0 = .ok (.aload_n 0, 1) := by decide +kernel
theorem dX10_tries_1 : decode cX10_tries 1 = .ok (.invokevirtual 325, 3) := by decide +kernel
theorem dX10_tries_4 : decode cX10_tries 4 = .ok (.aload_n 0, 1) := by decide +kernel
theorem dX10_tries_5 : decode cX10_tries 5 = .ok (.getfield 316, 3) := by decide +kernel
theorem dX10_tries_8 : decode cX10_tries 8 = .ok (.istore_n 2, 1) := by decide +kernel
theorem dX10_tries_9 : decode cX10_tries 9 = .ok (.aload_n 0, 1) := by decide +kernel
theorem dX10_tries_10 : decode cX10_tries 10 = .ok (.getfield 51, 3) := by decide +kernel
theorem dX10_tries_13 : decode cX10_tries 13 = .ok (.iconst 1, 1) := by decide +kernel
theorem dX10_tries_14 : decode cX10_tries 14 = .ok (.iaload, 1) := by decide +kernel
theorem dX10_tries_15 : decode cX10_tries 15 = .ok (.istore_n 3, 1) := by decide +kernel
theorem dX10_tries_16 : decode cX10_tries 16 = .ok (.aload_n 0, 1) := by decide +kernel
theorem dX10_tries_17 : decode cX10_tries 17 = .ok (.aload_n 0, 1) := by decide +kernel
theorem dX10_tries_18 : decode cX10_tries 18 = .ok (.getfield 281, 3) := by decide +kernel
theorem dX10_tries_21 : decode cX10_tries 21 = .ok (.putfield 316, 3) := by decide +kernel
theorem dX10_tries_24 : decode cX10_tries 24 = .ok (.iconst 0, 1) := by decide +kernel
theorem dX10_tries_25 : decode cX10_tries 25 = .ok (.istore 4, 2) := by decide +kernel
theorem dX10_tries_27 : decode cX10_tries 27 = .ok (.iconst 1, 1) := by decide +kernel
theorem dX10_tries_28 : decode cX10_tries 28 = .ok (.istore 5, 2) := by decide +kernel
theorem dX10_tries_30 : decode cX10_tries 30 = .ok (.iload 4, 2) := by decide +kernel
theorem dX10_tries_32 : decode cX10_tries 32 = .ok (.sipush 400, 3) := by decide +kernel
theorem dX10_tries_35 : decode cX10_tries 35 = .ok (.if_icmp .ge 65, 3) := by decide +kernel
theorem dX10_tries_38 : decode cX10_tries 38 = .ok (.iload 5, 2) := by decide +kernel
theorem dX10_tries_40 : decode cX10_tries 40 = .ok (.ifCond .le 60, 3) := by decide +kernel
theorem dX10_tries_43 : decode cX10_tries 43 = .ok (.aload_n 0, 1) := by decide +kernel
theorem dX10_tries_44 : decode cX10_tries 44 = .ok (.iload_n 1, 1) := by decide +kernel
theorem dX10_tries_45 : decode cX10_tries 45 = .ok (.invokevirtual 376, 3) := by decide +kernel
theorem dX10_tries_48 : decode cX10_tries 48 = .ok (.istore 6, 2) := by decide +kernel
theorem dX10_tries_50 : decode cX10_tries 50 = .ok (.iload 6, 2) := by decide +kernel
theorem dX10_tries_52 : decode cX10_tries 52 = .ok (.iconst (-1), 1) := by decide +kernel
theorem dX10_tries_53 : decode cX10_tries 53 = .ok (.if_icmp .ne 7, 3) := by decide +kernel
theorem dX10_tries_56 : decode cX10_tries 56 = .ok (.iconst 0, 1) := by decide +kernel
theorem dX10_tries_57 : decode cX10_tries 57 = .ok (.goto 9, 3) := by decide +kernel
theorem dX10_tries_60 : decode cX10_tries 60 = .ok (.aload_n 0, 1) := by decide +kernel
theorem dX10_tries_61 : decode cX10_tries 61 = .ok (.iload 6, 2) := by decide +kernel
theorem dX10_tries_63 : decode cX10_tries 63 = .ok (.invokevirtual 379, 3) := by decide +kernel
theorem dX10_tries_66 : decode cX10_tries 66 = .ok (.istore 5, 2) := by decide +kernel
theorem dX10_tries_68 : decode cX10_tries 68 = .ok (.iload_n 3, 1) := by decide +kernel
theorem dX10_tries_69 : decode cX10_tries 69 = .ok (.iload 5, 2) := by decide +kernel
theorem dX10_tries_71 : decode cX10_tries 71 = .ok (.iconst 1, 1) := by decide +kernel
theorem dX10_tries_72 : decode cX10_tries 72 = .ok (.if_icmp .ne 7, 3) := by decide +kernel
theorem dX10_tries_75 : decode cX10_tries 75 = .ok (.iconst 1, 1) := by decide +kernel
theorem dX10_tries_76 : decode cX10_tries 76 = .ok (.goto 4, 3) := by decide +kernel
theorem dX10_tries_79 : decode cX10_tries 79 = .ok (.iconst 0, 1) := by decide +kernel
theorem dX10_tries_80 : decode cX10_tries 80 = .ok (.iadd, 1) := by decide +kernel
theorem dX10_tries_81 : decode cX10_tries 81 = .ok (.istore_n 3, 1) := by decide +kernel
theorem dX10_tries_82 : decode cX10_tries 82 = .ok (.iload 4, 2) := by decide +kernel
theorem dX10_tries_84 : decode cX10_tries 84 = .ok (.iload 5, 2) := by decide +kernel
theorem dX10_tries_86 : decode cX10_tries 86 = .ok (.ifCond .le 7, 3) := by decide +kernel
theorem dX10_tries_89 : decode cX10_tries 89 = .ok (.iconst 1, 1) := by decide +kernel
theorem dX10_tries_90 : decode cX10_tries 90 = .ok (.goto 4, 3) := by decide +kernel
theorem dX10_tries_93 : decode cX10_tries 93 = .ok (.iconst 0, 1) := by decide +kernel
theorem dX10_tries_94 : decode cX10_tries 94 = .ok (.iadd, 1) := by decide +kernel
theorem dX10_tries_95 : decode cX10_tries 95 = .ok (.istore 4, 2) := by decide +kernel
theorem dX10_tries_97 : decode cX10_tries 97 = .ok (.goto (-67), 3) := by decide +kernel
theorem dX10_tries_100 : decode cX10_tries 100 = .ok (.aload_n 0, 1) := by decide +kernel
theorem dX10_tries_101 : decode cX10_tries 101 = .ok (.getfield 72, 3) := by decide +kernel
theorem dX10_tries_104 : decode cX10_tries 104 = .ok (.iconst 0, 1) := by decide +kernel
theorem dX10_tries_105 : decode cX10_tries 105 = .ok (.iload 4, 2) := by decide +kernel
theorem dX10_tries_107 : decode cX10_tries 107 = .ok (.iastore, 1) := by decide +kernel
theorem dX10_tries_108 : decode cX10_tries 108 = .ok (.aload_n 0, 1) := by decide +kernel
theorem dX10_tries_109 : decode cX10_tries 109 = .ok (.getfield 72, 3) := by decide +kernel
theorem dX10_tries_112 : decode cX10_tries 112 = .ok (.iconst 1, 1) := by decide +kernel
theorem dX10_tries_113 : decode cX10_tries 113 = .ok (.iload_n 3, 1) := by decide +kernel
theorem dX10_tries_114 : decode cX10_tries 114 = .ok (.aload_n 0, 1) := by decide +kernel
theorem dX10_tries_115 : decode cX10_tries 115 = .ok (.getfield 51, 3) := by decide +kernel
theorem dX10_tries_118 : decode cX10_tries 118 = .ok (.iconst 1, 1) := by decide +kernel
theorem dX10_tries_119 : decode cX10_tries 119 = .ok (.iaload, 1) := by decide +kernel
theorem dX10_tries_120 : decode cX10_tries 120 = .ok (.isub, 1) := by decide +kernel
theorem dX10_tries_121 : decode cX10_tries 121 = .ok (.iastore, 1) := by decide +kernel
theorem dX10_tries_122 : decode cX10_tries 122 = .ok (.aload_n 0, 1) := by decide +kernel
theorem dX10_tries_123 : decode cX10_tries 123 = .ok (.getfield 72, 3) := by decide +kernel
theorem dX10_tries_126 : decode cX10_tries 126 = .ok (.iconst 2, 1) := by decide +kernel
theorem dX10_tries_127 : decode cX10_tries 127 = .ok (.aload_n 0, 1) := by decide +kernel
theorem dX10_tries_128 : decode cX10_tries 128 = .ok (.getfield 316, 3) := by decide +kernel
theorem dX10_tries_131 : decode cX10_tries 131 = .ok (.iastore, 1) := by decide +kernel
theorem dX10_tries_132 : decode cX10_tries 132 = .ok (.aload_n 0, 1) := by decide +kernel
theorem dX10_tries_133 : decode cX10_tries 133 = .ok (.getfield 72, 3) := by decide +kernel
theorem dX10_tries_136 : decode cX10_tries 136 = .ok (.iconst 3, 1) := by decide +kernel
theorem dX10_tries_137 : decode cX10_tries 137 = .ok (.iload 5, 2) := by decide +kernel
theorem dX10_tries_139 : decode cX10_tries 139 = .ok (.ifCond .le 7, 3) := by decide +kernel
theorem dX10_tries_142 : decode cX10_tries 142 = .ok (.iconst 1, 1) := by decide +kernel
theorem dX10_tries_143 : decode cX10_tries 143 = .ok (.goto 5, 3) := by decide +kernel
theorem dX10_tries_146 : decode cX10_tries 146 = .ok (.iload 5, 2) := by decide +kernel
theorem dX10_tries_148 : decode cX10_tries 148 = .ok (.iastore, 1) := by decide +kernel
theorem dX10_tries_149 : decode cX10_tries 149 = .ok (.aload_n 0, 1) := by decide +kernel
theorem dX10_tries_150 : decode cX10_tries 150 = .ok (.iload_n 2, 1) := by decide +kernel
theorem dX10_tries_151 : decode cX10_tries 151 = .ok (.putfield 316, 3) := by decide +kernel
theorem dX10_tries_154 : decode cX10_tries 154 = .ok (.aload_n 0, 1) := by decide +kernel
theorem dX10_tries_155 : decode cX10_tries 155 = .ok (.invokevirtual 331, 3) := by decide +kernel
theorem dX10_tries_158 : decode cX10_tries 158 = .ok (.return_, 1) := by decide +kernel
set_option maxRecDepth 20000 in
theorem ggX10_trial_X10_isWay : GoodIn wsX10_trial wsX10_isWay := goodIn_r _ [6, 7, 8, 5, 9] (by decide +kernel) (by decide +kernel)
set_option maxRecDepth 20000 in
theorem gX10_trial_X10_isWay : GoodIn wsX10_trial (va_wsS RX10 382 yX10_isWay wsX10_isWay) := goodIn_app (goodIn_of _ (by decide +kernel)) ggX10_trial_X10_isWay
set_option maxRecDepth 20000 in
theorem ggX10_trial_X10_right : GoodIn wsX10_trial wsX10_right := goodIn_r _ [13, 1, 195, 196, 197, 198, 199, 200, 201, 202, 203, 204, 205, 206, 207, 208, 209, 210, 211, 212, 213, 214, 215, 216, 217, 218, 219, 220, 221, 222, 223, 224, 225, 226, 227, 228, 229, 230, 231, 232, 233, 234, 235, 236, 237, 238, 239, 240, 241, 242, 243, 244, 245, 246, 247, 248, 249, 250, 251, 252, 253, 254, 255, 256, 257, 258, 259, 260, 261, 262, 263, 264, 265, 266, 267, 268, 269, 270] (by decide +kernel) (by decide +kernel)
set_option maxRecDepth 20000 in
theorem gX10_trial_X10_right : GoodIn wsX10_trial (wsV RX10 269 RX10 yX10_right wsX10_right) := goodIn_app (goodIn_of _ (by decide +kernel)) ggX10_trial_X10_right
set_option maxRecDepth 20000 in
theorem ggX10_trial_X10_isIn : GoodIn wsX10_trial wsX10_isIn := goodIn_r _ [9] (by decide +kernel) (by decide +kernel)
set_option maxRecDepth 20000 in
theorem gX10_trial_X10_isIn : GoodIn wsX10_trial (va_wsS RX10 154 yX10_isIn wsX10_isIn) := goodIn_app (goodIn_of _ (by decide +kernel)) ggX10_trial_X10_isIn
set_option maxRecDepth 20000 in
theorem ggX10_trial_X10_tries : GoodIn wsX10_trial wsX10_tries := goodIn_r _ [17, 18, 19, 20, 2, 21, 22, 23, 5, 24, 25, 26, 27, 28, 29, 30, 31, 32, 33, 34, 35, 36, 37, 38, 39, 40, 41, 42, 43, 44, 45, 46, 47, 48, 49, 50, 51, 52, 53, 54, 55, 56, 57, 58, 59, 60, 61, 62, 63, 64, 65, 66, 67, 68, 69, 70, 71, 72, 73, 74, 75, 76, 77, 78, 79, 80, 81, 82, 83, 84, 85, 86, 87, 88, 89, 90, 91, 92, 93, 94, 95, 96, 97, 98, 99, 100, 101, 102, 103, 104, 105, 106, 107, 108, 109, 110, 111, 112, 113, 114, 115, 116, 117, 118, 119, 120, 121, 122, 123, 124, 125, 126, 127, 128, 129, 130, 131, 132, 133, 134, 135, 136, 137, 138, 139, 140, 141, 142, 7, 8, 9, 143, 144, 145, 146, 147, 148, 149, 150, 151, 152, 153, 154, 155, 156, 157, 158, 159, 160, 161, 162, 163, 164, 165, 166, 167, 168, 169, 170, 171, 172, 173, 174, 175, 176, 177, 178, 179, 180, 181, 182, 183, 184, 185, 186, 187, 188, 189, 190, 191, 192, 193, 194, 195, 196, 197, 198, 199, 200, 201, 202, 203, 204, 205, 206, 207, 208, 209, 210, 211, 212, 213, 214, 215, 216, 217, 218, 219, 220, 221, 222, 223, 224, 225, 226, 227, 228, 229, 230, 231, 232, 233, 234, 235, 236, 237, 238, 239, 240, 241, 242, 243, 244, 245, 246, 247, 248, 249, 250, 251, 252, 253, 254, 255, 256, 257, 258, 259, 260, 261, 262, 263, 264, 265, 266, 267, 268, 269, 270] (by decide +kernel) (by decide +kernel)
set_option maxRecDepth 20000 in
theorem gX10_trial_X10_tries : GoodIn wsX10_trial (wsV RX10 388 RX10 yX10_tries wsX10_tries) := goodIn_app (goodIn_of _ (by decide +kernel)) ggX10_trial_X10_tries
theorem dX10_trial_0 : decode cX10_trial 0 = .ok (.aload_n 0, 1) := by decide +kernel
theorem dX10_trial_1 : decode cX10_trial 1 = .ok (.iconst 0, 1) := by decide +kernel
theorem dX10_trial_2 : decode cX10_trial 2 = .ok (.putfield 141, 3) := by decide +kernel
theorem dX10_trial_5 : decode cX10_trial 5 = .ok (.aload_n 0, 1) := by decide +kernel
theorem dX10_trial_6 : decode cX10_trial 6 = .ok (.iload_n 1, 1) := by decide +kernel
theorem dX10_trial_7 : decode cX10_trial 7 = .ok (.invokestatic 382, 3) := by decide +kernel
theorem dX10_trial_10 : decode cX10_trial 10 = .ok (.iconst 1, 1) := by decide +kernel
theorem dX10_trial_11 : decode cX10_trial 11 = .ok (.invokevirtual 269, 3) := by decide +kernel
theorem dX10_trial_14 : decode cX10_trial 14 = .ok (.ifCond .eq 17, 3) := by decide +kernel
theorem dX10_trial_17 : decode cX10_trial 17 = .ok (.aload_n 0, 1) := by decide +kernel
theorem dX10_trial_18 : decode cX10_trial 18 = .ok (.iload_n 2, 1) := by decide +kernel
theorem dX10_trial_19 : decode cX10_trial 19 = .ok (.iconst 0, 1) := by decide +kernel
theorem dX10_trial_20 : decode cX10_trial 20 = .ok (.iconst 3, 1) := by decide +kernel
theorem dX10_trial_21 : decode cX10_trial 21 = .ok (.invokestatic 154, 3) := by decide +kernel
theorem dX10_trial_24 : decode cX10_trial 24 = .ok (.iconst 2, 1) := by decide +kernel
theorem dX10_trial_25 : decode cX10_trial 25 = .ok (.invokevirtual 269, 3) := by decide +kernel
theorem dX10_trial_28 : decode cX10_trial 28 = .ok (.ifCond .ne 5, 3) := by decide +kernel
theorem dX10_trial_31 : decode cX10_trial 31 = .ok (.iconst 0, 1) := by decide +kernel
theorem dX10_trial_32 : decode cX10_trial 32 = .ok (.ireturn, 1) := by decide +kernel
theorem dX10_trial_33 : decode cX10_trial 33 = .ok (.aload_n 0, 1) := by decide +kernel
theorem dX10_trial_34 : decode cX10_trial 34 = .ok (.iload_n 1, 1) := by decide +kernel
theorem dX10_trial_35 : decode cX10_trial 35 = .ok (.invokevirtual 388, 3) := by decide +kernel
theorem dX10_trial_38 : decode cX10_trial 38 = .ok (.aload_n 0, 1) := by decide +kernel
theorem dX10_trial_39 : decode cX10_trial 39 = .ok (.getfield 72, 3) := by decide +kernel
theorem dX10_trial_42 : decode cX10_trial 42 = .ok (.iload_n 2, 1) := by decide +kernel
theorem dX10_trial_43 : decode cX10_trial 43 = .ok (.iaload, 1) := by decide +kernel
theorem dX10_trial_44 : decode cX10_trial 44 = .ok (.ireturn, 1) := by decide +kernel
theorem dX10_thing_0 : decode cX10_thing 0 = .ok (.iload_n 1, 1) := by decide +kernel
theorem dX10_thing_1 : decode cX10_thing 1 = .ok (.bipush 31, 2) := by decide +kernel
theorem dX10_thing_3 : decode cX10_thing 3 = .ok (.imul, 1) := by decide +kernel
theorem dX10_thing_4 : decode cX10_thing 4 = .ok (.iload_n 2, 1) := by decide +kernel
theorem dX10_thing_5 : decode cX10_thing 5 = .ok (.iadd, 1) := by decide +kernel
theorem dX10_thing_6 : decode cX10_thing 6 = .ok (.sipush 1009, 3) := by decide +kernel
theorem dX10_thing_9 : decode cX10_thing 9 = .ok (.imul, 1) := by decide +kernel
theorem dX10_thing_10 : decode cX10_thing 10 = .ok (.iload_n 3, 1) := by decide +kernel
theorem dX10_thing_11 : decode cX10_thing 11 = .ok (.iadd, 1) := by decide +kernel
theorem dX10_thing_12 : decode cX10_thing 12 = .ok (.sipush 16383, 3) := by decide +kernel
theorem dX10_thing_15 : decode cX10_thing 15 = .ok (.iand, 1) := by decide +kernel
theorem dX10_thing_16 : decode cX10_thing 16 = .ok (.istore 4, 2) := by decide +kernel
theorem dX10_thing_18 : decode cX10_thing 18 = .ok (.aload_n 0, 1) := by decide +kernel
theorem dX10_thing_19 : decode cX10_thing 19 = .ok (.getfield 87, 3) := by decide +kernel
theorem dX10_thing_22 : decode cX10_thing 22 = .ok (.iload 4, 2) := by decide +kernel
theorem dX10_thing_24 : decode cX10_thing 24 = .ok (.iaload, 1) := by decide +kernel
theorem dX10_thing_25 : decode cX10_thing 25 = .ok (.istore 5, 2) := by decide +kernel
theorem dX10_thing_27 : decode cX10_thing 27 = .ok (.iload 5, 2) := by decide +kernel
theorem dX10_thing_29 : decode cX10_thing 29 = .ok (.ifCond .eq 51, 3) := by decide +kernel
theorem dX10_thing_32 : decode cX10_thing 32 = .ok (.aload_n 0, 1) := by decide +kernel
theorem dX10_thing_33 : decode cX10_thing 33 = .ok (.getfield 75, 3) := by decide +kernel
theorem dX10_thing_36 : decode cX10_thing 36 = .ok (.iload 5, 2) := by decide +kernel
theorem dX10_thing_38 : decode cX10_thing 38 = .ok (.iaload, 1) := by decide +kernel
theorem dX10_thing_39 : decode cX10_thing 39 = .ok (.iload_n 1, 1) := by decide +kernel
theorem dX10_thing_40 : decode cX10_thing 40 = .ok (.if_icmp .ne 28, 3) := by decide +kernel
theorem dX10_thing_43 : decode cX10_thing 43 = .ok (.aload_n 0, 1) := by decide +kernel
theorem dX10_thing_44 : decode cX10_thing 44 = .ok (.getfield 78, 3) := by decide +kernel
theorem dX10_thing_47 : decode cX10_thing 47 = .ok (.iload 5, 2) := by decide +kernel
theorem dX10_thing_49 : decode cX10_thing 49 = .ok (.iaload, 1) := by decide +kernel
theorem dX10_thing_50 : decode cX10_thing 50 = .ok (.iload_n 2, 1) := by decide +kernel
theorem dX10_thing_51 : decode cX10_thing 51 = .ok (.if_icmp .ne 17, 3) := by decide +kernel
theorem dX10_thing_54 : decode cX10_thing 54 = .ok (.aload_n 0, 1) := by decide +kernel
theorem dX10_thing_55 : decode cX10_thing 55 = .ok (.getfield 81, 3) := by decide +kernel
theorem dX10_thing_58 : decode cX10_thing 58 = .ok (.iload 5, 2) := by decide +kernel
theorem dX10_thing_60 : decode cX10_thing 60 = .ok (.iaload, 1) := by decide +kernel
theorem dX10_thing_61 : decode cX10_thing 61 = .ok (.iload_n 3, 1) := by decide +kernel
theorem dX10_thing_62 : decode cX10_thing 62 = .ok (.if_icmp .ne 6, 3) := by decide +kernel
theorem dX10_thing_65 : decode cX10_thing 65 = .ok (.iload 5, 2) := by decide +kernel
theorem dX10_thing_67 : decode cX10_thing 67 = .ok (.ireturn, 1) := by decide +kernel
theorem dX10_thing_68 : decode cX10_thing 68 = .ok (.aload_n 0, 1) := by decide +kernel
theorem dX10_thing_69 : decode cX10_thing 69 = .ok (.getfield 84, 3) := by decide +kernel
theorem dX10_thing_72 : decode cX10_thing 72 = .ok (.iload 5, 2) := by decide +kernel
theorem dX10_thing_74 : decode cX10_thing 74 = .ok (.iaload, 1) := by decide +kernel
theorem dX10_thing_75 : decode cX10_thing 75 = .ok (.istore 5, 2) := by decide +kernel
theorem dX10_thing_77 : decode cX10_thing 77 = .ok (.goto (-50), 3) := by decide +kernel
theorem dX10_thing_80 : decode cX10_thing 80 = .ok (.aload_n 0, 1) := by decide +kernel
theorem dX10_thing_81 : decode cX10_thing 81 = .ok (.dup, 1) := by decide +kernel
theorem dX10_thing_82 : decode cX10_thing 82 = .ok (.getfield 391, 3) := by decide +kernel
theorem dX10_thing_85 : decode cX10_thing 85 = .ok (.iconst 1, 1) := by decide +kernel
theorem dX10_thing_86 : decode cX10_thing 86 = .ok (.iadd, 1) := by decide +kernel
theorem dX10_thing_87 : decode cX10_thing 87 = .ok (.putfield 391, 3) := by decide +kernel
theorem dX10_thing_90 : decode cX10_thing 90 = .ok (.aload_n 0, 1) := by decide +kernel
theorem dX10_thing_91 : decode cX10_thing 91 = .ok (.getfield 75, 3) := by decide +kernel
theorem dX10_thing_94 : decode cX10_thing 94 = .ok (.aload_n 0, 1) := by decide +kernel
theorem dX10_thing_95 : decode cX10_thing 95 = .ok (.getfield 391, 3) := by decide +kernel
theorem dX10_thing_98 : decode cX10_thing 98 = .ok (.iload_n 1, 1) := by decide +kernel
theorem dX10_thing_99 : decode cX10_thing 99 = .ok (.iastore, 1) := by decide +kernel
theorem dX10_thing_100 : decode cX10_thing 100 = .ok (.aload_n 0, 1) := by decide +kernel
theorem dX10_thing_101 : decode cX10_thing 101 = .ok (.getfield 78, 3) := by decide +kernel
theorem dX10_thing_104 : decode cX10_thing 104 = .ok (.aload_n 0, 1) := by decide +kernel
theorem dX10_thing_105 : decode cX10_thing 105 = .ok (.getfield 391, 3) := by decide +kernel
theorem dX10_thing_108 : decode cX10_thing 108 = .ok (.iload_n 2, 1) := by decide +kernel
theorem dX10_thing_109 : decode cX10_thing 109 = .ok (.iastore, 1) := by decide +kernel
theorem dX10_thing_110 : decode cX10_thing 110 = .ok (.aload_n 0, 1) := by decide +kernel
theorem dX10_thing_111 : decode cX10_thing 111 = .ok (.getfield 81, 3) := by decide +kernel
theorem dX10_thing_114 : decode cX10_thing 114 = .ok (.aload_n 0, 1) := by decide +kernel
theorem dX10_thing_115 : decode cX10_thing 115 = .ok (.getfield 391, 3) := by decide +kernel
theorem dX10_thing_118 : decode cX10_thing 118 = .ok (.iload_n 3, 1) := by decide +kernel
theorem dX10_thing_119 : decode cX10_thing 119 = .ok (.iastore, 1) := by decide +kernel
theorem dX10_thing_120 : decode cX10_thing 120 = .ok (.aload_n 0, 1) := by decide +kernel
theorem dX10_thing_121 : decode cX10_thing 121 = .ok (.getfield 84, 3) := by decide +kernel
theorem dX10_thing_124 : decode cX10_thing 124 = .ok (.aload_n 0, 1) := by decide +kernel
theorem dX10_thing_125 : decode cX10_thing 125 = .ok (.getfield 391, 3) := by decide +kernel
theorem dX10_thing_128 : decode cX10_thing 128 = .ok (.aload_n 0, 1) := by decide +kernel
theorem dX10_thing_129 : decode cX10_thing 129 = .ok (.getfield 87, 3) := by decide +kernel
theorem dX10_thing_132 : decode cX10_thing 132 = .ok (.iload 4, 2) := by decide +kernel
theorem dX10_thing_134 : decode cX10_thing 134 = .ok (.iaload, 1) := by decide +kernel
theorem dX10_thing_135 : decode cX10_thing 135 = .ok (.iastore, 1) := by decide +kernel
theorem dX10_thing_136 : decode cX10_thing 136 = .ok (.aload_n 0, 1) := by decide +kernel
theorem dX10_thing_137 : decode cX10_thing 137 = .ok (.getfield 87, 3) := by decide +kernel
theorem dX10_thing_140 : decode cX10_thing 140 = .ok (.iload 4, 2) := by decide +kernel
theorem dX10_thing_142 : decode cX10_thing 142 = .ok (.aload_n 0, 1) := by decide +kernel
theorem dX10_thing_143 : decode cX10_thing 143 = .ok (.getfield 391, 3) := by decide +kernel
theorem dX10_thing_146 : decode cX10_thing 146 = .ok (.iastore, 1) := by decide +kernel
theorem dX10_thing_147 : decode cX10_thing 147 = .ok (.aload_n 0, 1) := by decide +kernel
theorem dX10_thing_148 : decode cX10_thing 148 = .ok (.getfield 391, 3) := by decide +kernel
theorem dX10_thing_151 : decode cX10_thing 151 = .ok (.ireturn, 1) := by decide +kernel
theorem dX10_stackAt_0 : decode cX10_stackAt 0 = .ok (.iload_n 1, 1) := by decide +kernel
theorem dX10_stackAt_1 : decode cX10_stackAt 1 = .ok (.aload_n 0, 1) := by decide +kernel
theorem dX10_stackAt_2 : decode cX10_stackAt 2 = .ok (.getfield 394, 3) := by decide +kernel
theorem dX10_stackAt_5 : decode cX10_stackAt 5 = .ok (.if_icmp .ge 12, 3) := by decide +kernel
theorem dX10_stackAt_8 : decode cX10_stackAt 8 = .ok (.aload_n 0, 1) := by decide +kernel
theorem dX10_stackAt_9 : decode cX10_stackAt 9 = .ok (.getfield 90, 3) := by decide +kernel
theorem dX10_stackAt_12 : decode cX10_stackAt 12 = .ok (.iload_n 1, 1) := by decide +kernel
theorem dX10_stackAt_13 : decode cX10_stackAt 13 = .ok (.iaload, 1) := by decide +kernel
theorem dX10_stackAt_14 : decode cX10_stackAt 14 = .ok (.goto 4, 3) := by decide +kernel
theorem dX10_stackAt_17 : decode cX10_stackAt 17 = .ok (.iconst 0, 1) := by decide +kernel
theorem dX10_stackAt_18 : decode cX10_stackAt 18 = .ok (.ireturn, 1) := by decide +kernel
theorem dX10_setStack_0 : decode cX10_setStack 0 = .ok (.aload_n 0, 1) := by decide +kernel
theorem dX10_setStack_1 : decode cX10_setStack 1 = .ok (.getfield 394, 3) := by decide +kernel
theorem dX10_setStack_4 : decode cX10_setStack 4 = .ok (.iload_n 1, 1) := by decide +kernel
theorem dX10_setStack_5 : decode cX10_setStack 5 = .ok (.if_icmp .gt 26, 3) := by decide +kernel
theorem dX10_setStack_8 : decode cX10_setStack 8 = .ok (.aload_n 0, 1) := by decide +kernel
theorem dX10_setStack_9 : decode cX10_setStack 9 = .ok (.getfield 90, 3) := by decide +kernel
theorem dX10_setStack_12 : decode cX10_setStack 12 = .ok (.aload_n 0, 1) := by decide +kernel
theorem dX10_setStack_13 : decode cX10_setStack 13 = .ok (.getfield 394, 3) := by decide +kernel
theorem dX10_setStack_16 : decode cX10_setStack 16 = .ok (.iconst 0, 1) := by decide +kernel
theorem dX10_setStack_17 : decode cX10_setStack 17 = .ok (.iastore, 1) := by decide +kernel
theorem dX10_setStack_18 : decode cX10_setStack 18 = .ok (.aload_n 0, 1) := by decide +kernel
theorem dX10_setStack_19 : decode cX10_setStack 19 = .ok (.dup, 1) := by decide +kernel
theorem dX10_setStack_20 : decode cX10_setStack 20 = .ok (.getfield 394, 3) := by decide +kernel
theorem dX10_setStack_23 : decode cX10_setStack 23 = .ok (.iconst 1, 1) := by decide +kernel
theorem dX10_setStack_24 : decode cX10_setStack 24 = .ok (.iadd, 1) := by decide +kernel
theorem dX10_setStack_25 : decode cX10_setStack 25 = .ok (.putfield 394, 3) := by decide +kernel
theorem dX10_setStack_28 : decode cX10_setStack 28 = .ok (.goto (-28), 3) := by decide +kernel
theorem dX10_setStack_31 : decode cX10_setStack 31 = .ok (.aload_n 0, 1) := by decide +kernel
theorem dX10_setStack_32 : decode cX10_setStack 32 = .ok (.getfield 90, 3) := by decide +kernel
theorem dX10_setStack_35 : decode cX10_setStack 35 = .ok (.iload_n 1, 1) := by decide +kernel
theorem dX10_setStack_36 : decode cX10_setStack 36 = .ok (.iload_n 2, 1) := by decide +kernel
theorem dX10_setStack_37 : decode cX10_setStack 37 = .ok (.iastore, 1) := by decide +kernel
theorem dX10_setStack_38 : decode cX10_setStack 38 = .ok (.aload_n 0, 1) := by decide +kernel
theorem dX10_setStack_39 : decode cX10_setStack 39 = .ok (.getfield 394, 3) := by decide +kernel
theorem dX10_setStack_42 : decode cX10_setStack 42 = .ok (.ifCond .le 30, 3) := by decide +kernel
theorem dX10_setStack_45 : decode cX10_setStack 45 = .ok (.aload_n 0, 1) := by decide +kernel
theorem dX10_setStack_46 : decode cX10_setStack 46 = .ok (.getfield 90, 3) := by decide +kernel
theorem dX10_setStack_49 : decode cX10_setStack 49 = .ok (.aload_n 0, 1) := by decide +kernel
theorem dX10_setStack_50 : decode cX10_setStack 50 = .ok (.getfield 394, 3) := by decide +kernel
theorem dX10_setStack_53 : decode cX10_setStack 53 = .ok (.iconst 1, 1) := by decide +kernel
theorem dX10_setStack_54 : decode cX10_setStack 54 = .ok (.isub, 1) := by decide +kernel
theorem dX10_setStack_55 : decode cX10_setStack 55 = .ok (.iaload, 1) := by decide +kernel
theorem dX10_setStack_56 : decode cX10_setStack 56 = .ok (.ifCond .ne 16, 3) := by decide +kernel
theorem dX10_setStack_59 : decode cX10_setStack 59 = .ok (.aload_n 0, 1) := by decide +kernel
theorem dX10_setStack_60 : decode cX10_setStack 60 = .ok (.dup, 1) := by decide +kernel
theorem dX10_setStack_61 : decode cX10_setStack 61 = .ok (.getfield 394, 3) := by decide +kernel
theorem dX10_setStack_64 : decode cX10_setStack 64 = .ok (.iconst 1, 1) := by decide +kernel
theorem dX10_setStack_65 : decode cX10_setStack 65 = .ok (.isub, 1) := by decide +kernel
theorem dX10_setStack_66 : decode cX10_setStack 66 = .ok (.putfield 394, 3) := by decide +kernel
theorem dX10_setStack_69 : decode cX10_setStack 69 = .ok (.goto (-31), 3) := by decide +kernel
theorem dX10_setStack_72 : decode cX10_setStack 72 = .ok (.return_, 1) := by decide +kernel
theorem dX10_comesAt_0 : decode cX10_comesAt 0 = .ok (.iload_n 1, 1) := by decide +kernel
theorem dX10_comesAt_1 : decode cX10_comesAt 1 = .ok (.aload_n 0, 1) := by decide +kernel
theorem dX10_comesAt_2 : decode cX10_comesAt 2 = .ok (.getfield 394, 3) := by decide +kernel
theorem dX10_comesAt_5 : decode cX10_comesAt 5 = .ok (.if_icmp .lt 4, 3) := by decide +kernel
theorem dX10_comesAt_8 : decode cX10_comesAt 8 = .ok (.return_, 1) := by decide +kernel
theorem dX10_comesAt_9 : decode cX10_comesAt 9 = .ok (.aload_n 0, 1) := by decide +kernel
theorem dX10_comesAt_10 : decode cX10_comesAt 10 = .ok (.getfield 394, 3) := by decide +kernel
theorem dX10_comesAt_13 : decode cX10_comesAt 13 = .ok (.istore_n 2, 1) := by decide +kernel
theorem dX10_comesAt_14 : decode cX10_comesAt 14 = .ok (.iload_n 2, 1) := by decide +kernel
theorem dX10_comesAt_15 : decode cX10_comesAt 15 = .ok (.iload_n 1, 1) := by decide +kernel
theorem dX10_comesAt_16 : decode cX10_comesAt 16 = .ok (.if_icmp .le 23, 3) := by decide +kernel
theorem dX10_comesAt_19 : decode cX10_comesAt 19 = .ok (.aload_n 0, 1) := by decide +kernel
theorem dX10_comesAt_20 : decode cX10_comesAt 20 = .ok (.getfield 90, 3) := by decide +kernel
theorem dX10_comesAt_23 : decode cX10_comesAt 23 = .ok (.iload_n 2, 1) := by decide +kernel
theorem dX10_comesAt_24 : decode cX10_comesAt 24 = .ok (.aload_n 0, 1) := by decide +kernel
theorem dX10_comesAt_25 : decode cX10_comesAt 25 = .ok (.getfield 90, 3) := by decide +kernel
theorem dX10_comesAt_28 : decode cX10_comesAt 28 = .ok (.iload_n 2, 1) := by decide +kernel
theorem dX10_comesAt_29 : decode cX10_comesAt 29 = .ok (.iconst 1, 1) := by decide +kernel
theorem dX10_comesAt_30 : decode cX10_comesAt 30 = .ok (.isub, 1) := by decide +kernel
theorem dX10_comesAt_31 : decode cX10_comesAt 31 = .ok (.iaload, 1) := by decide +kernel
theorem dX10_comesAt_32 : decode cX10_comesAt 32 = .ok (.iastore, 1) := by decide +kernel
theorem dX10_comesAt_33 : decode cX10_comesAt 33 = .ok (.iinc 2 (-1), 3) := by decide +kernel
theorem dX10_comesAt_36 : decode cX10_comesAt 36 = .ok (.goto (-22), 3) := by decide +kernel
theorem dX10_comesAt_39 : decode cX10_comesAt 39 = .ok (.aload_n 0, 1) := by decide +kernel
theorem dX10_comesAt_40 : decode cX10_comesAt 40 = .ok (.getfield 90, 3) := by decide +kernel
theorem dX10_comesAt_43 : decode cX10_comesAt 43 = .ok (.iload_n 1, 1) := by decide +kernel
theorem dX10_comesAt_44 : decode cX10_comesAt 44 = .ok (.iconst 0, 1) := by decide +kernel
theorem dX10_comesAt_45 : decode cX10_comesAt 45 = .ok (.iastore, 1) := by decide +kernel
theorem dX10_comesAt_46 : decode cX10_comesAt 46 = .ok (.aload_n 0, 1) := by decide +kernel
theorem dX10_comesAt_47 : decode cX10_comesAt 47 = .ok (.dup, 1) := by decide +kernel
theorem dX10_comesAt_48 : decode cX10_comesAt 48 = .ok (.getfield 394, 3) := by decide +kernel
theorem dX10_comesAt_51 : decode cX10_comesAt 51 = .ok (.iconst 1, 1) := by decide +kernel
theorem dX10_comesAt_52 : decode cX10_comesAt 52 = .ok (.iadd, 1) := by decide +kernel
theorem dX10_comesAt_53 : decode cX10_comesAt 53 = .ok (.putfield 394, 3) := by decide +kernel
theorem dX10_comesAt_56 : decode cX10_comesAt 56 = .ok (.return_, 1) := by decide +kernel
theorem dX10_goesAt_0 : decode cX10_goesAt 0 = .ok (.iload_n 1, 1) := by decide +kernel
theorem dX10_goesAt_1 : decode cX10_goesAt 1 = .ok (.aload_n 0, 1) := by decide +kernel
theorem dX10_goesAt_2 : decode cX10_goesAt 2 = .ok (.getfield 394, 3) := by decide +kernel
theorem dX10_goesAt_5 : decode cX10_goesAt 5 = .ok (.if_icmp .lt 4, 3) := by decide +kernel
theorem dX10_goesAt_8 : decode cX10_goesAt 8 = .ok (.return_, 1) := by decide +kernel
theorem dX10_goesAt_9 : decode cX10_goesAt 9 = .ok (.iload_n 1, 1) := by decide +kernel
theorem dX10_goesAt_10 : decode cX10_goesAt 10 = .ok (.istore_n 2, 1) := by decide +kernel
theorem dX10_goesAt_11 : decode cX10_goesAt 11 = .ok (.iload_n 2, 1) := by decide +kernel
theorem dX10_goesAt_12 : decode cX10_goesAt 12 = .ok (.iconst 1, 1) := by decide +kernel
theorem dX10_goesAt_13 : decode cX10_goesAt 13 = .ok (.iadd, 1) := by decide +kernel
theorem dX10_goesAt_14 : decode cX10_goesAt 14 = .ok (.aload_n 0, 1) := by decide +kernel
theorem dX10_goesAt_15 : decode cX10_goesAt 15 = .ok (.getfield 394, 3) := by decide +kernel
theorem dX10_goesAt_18 : decode cX10_goesAt 18 = .ok (.if_icmp .ge 23, 3) := by decide +kernel
theorem dX10_goesAt_21 : decode cX10_goesAt 21 = .ok (.aload_n 0, 1) := by decide +kernel
theorem dX10_goesAt_22 : decode cX10_goesAt 22 = .ok (.getfield 90, 3) := by decide +kernel
theorem dX10_goesAt_25 : decode cX10_goesAt 25 = .ok (.iload_n 2, 1) := by decide +kernel
theorem dX10_goesAt_26 : decode cX10_goesAt 26 = .ok (.aload_n 0, 1) := by decide +kernel
theorem dX10_goesAt_27 : decode cX10_goesAt 27 = .ok (.getfield 90, 3) := by decide +kernel
theorem dX10_goesAt_30 : decode cX10_goesAt 30 = .ok (.iload_n 2, 1) := by decide +kernel
theorem dX10_goesAt_31 : decode cX10_goesAt 31 = .ok (.iconst 1, 1) := by decide +kernel
theorem dX10_goesAt_32 : decode cX10_goesAt 32 = .ok (.iadd, 1) := by decide +kernel
theorem dX10_goesAt_33 : decode cX10_goesAt 33 = .ok (.iaload, 1) := by decide +kernel
theorem dX10_goesAt_34 : decode cX10_goesAt 34 = .ok (.iastore, 1) := by decide +kernel
theorem dX10_goesAt_35 : decode cX10_goesAt 35 = .ok (.iinc 2 1, 3) := by decide +kernel
theorem dX10_goesAt_38 : decode cX10_goesAt 38 = .ok (.goto (-27), 3) := by decide +kernel
theorem dX10_goesAt_41 : decode cX10_goesAt 41 = .ok (.aload_n 0, 1) := by decide +kernel
theorem dX10_goesAt_42 : decode cX10_goesAt 42 = .ok (.dup, 1) := by decide +kernel
theorem dX10_goesAt_43 : decode cX10_goesAt 43 = .ok (.getfield 394, 3) := by decide +kernel
theorem dX10_goesAt_46 : decode cX10_goesAt 46 = .ok (.iconst 1, 1) := by decide +kernel
theorem dX10_goesAt_47 : decode cX10_goesAt 47 = .ok (.isub, 1) := by decide +kernel
theorem dX10_goesAt_48 : decode cX10_goesAt 48 = .ok (.putfield 394, 3) := by decide +kernel
theorem dX10_goesAt_51 : decode cX10_goesAt 51 = .ok (.return_, 1) := by decide +kernel
theorem dX10_waits_0 : decode cX10_waits 0 = .ok (.aload_n 0, 1) := by decide +kernel
theorem dX10_waits_1 : decode cX10_waits 1 = .ok (.getfield 397, 3) := by decide +kernel
theorem dX10_waits_4 : decode cX10_waits 4 = .ok (.ifCond .ne 7, 3) := by decide +kernel
theorem dX10_waits_7 : decode cX10_waits 7 = .ok (.iconst 0, 1) := by decide +kernel
theorem dX10_waits_8 : decode cX10_waits 8 = .ok (.goto 26, 3) := by decide +kernel
theorem dX10_waits_11 : decode cX10_waits 11 = .ok (.aload_n 0, 1) := by decide +kernel
theorem dX10_waits_12 : decode cX10_waits 12 = .ok (.getfield 99, 3) := by decide +kernel
theorem dX10_waits_15 : decode cX10_waits 15 = .ok (.aload_n 0, 1) := by decide +kernel
theorem dX10_waits_16 : decode cX10_waits 16 = .ok (.getfield 397, 3) := by decide +kernel
theorem dX10_waits_19 : decode cX10_waits 19 = .ok (.iconst 1, 1) := by decide +kernel
theorem dX10_waits_20 : decode cX10_waits 20 = .ok (.isub, 1) := by decide +kernel
theorem dX10_waits_21 : decode cX10_waits 21 = .ok (.iaload, 1) := by decide +kernel
theorem dX10_waits_22 : decode cX10_waits 22 = .ok (.aload_n 0, 1) := by decide +kernel
theorem dX10_waits_23 : decode cX10_waits 23 = .ok (.getfield 102, 3) := by decide +kernel
theorem dX10_waits_26 : decode cX10_waits 26 = .ok (.aload_n 0, 1) := by decide +kernel
theorem dX10_waits_27 : decode cX10_waits 27 = .ok (.getfield 397, 3) := by decide +kernel
theorem dX10_waits_30 : decode cX10_waits 30 = .ok (.iconst 1, 1) := by decide +kernel
theorem dX10_waits_31 : decode cX10_waits 31 = .ok (.isub, 1) := by decide +kernel
theorem dX10_waits_32 : decode cX10_waits 32 = .ok (.iaload, 1) := by decide +kernel
theorem dX10_waits_33 : decode cX10_waits 33 = .ok (.iadd, 1) := by decide +kernel
theorem dX10_waits_34 : decode cX10_waits 34 = .ok (.istore_n 2, 1) := by decide +kernel
theorem dX10_waits_35 : decode cX10_waits 35 = .ok (.aload_n 0, 1) := by decide +kernel
theorem dX10_waits_36 : decode cX10_waits 36 = .ok (.getfield 93, 3) := by decide +kernel
theorem dX10_waits_39 : decode cX10_waits 39 = .ok (.aload_n 0, 1) := by decide +kernel
theorem dX10_waits_40 : decode cX10_waits 40 = .ok (.getfield 397, 3) := by decide +kernel
theorem dX10_waits_43 : decode cX10_waits 43 = .ok (.iload_n 1, 1) := by decide +kernel
theorem dX10_waits_44 : decode cX10_waits 44 = .ok (.iastore, 1) := by decide +kernel
theorem dX10_waits_45 : decode cX10_waits 45 = .ok (.aload_n 0, 1) := by decide +kernel
theorem dX10_waits_46 : decode cX10_waits 46 = .ok (.getfield 96, 3) := by decide +kernel
theorem dX10_waits_49 : decode cX10_waits 49 = .ok (.aload_n 0, 1) := by decide +kernel
theorem dX10_waits_50 : decode cX10_waits 50 = .ok (.getfield 397, 3) := by decide +kernel
theorem dX10_waits_53 : decode cX10_waits 53 = .ok (.aload_n 0, 1) := by decide +kernel
theorem dX10_waits_54 : decode cX10_waits 54 = .ok (.getfield 400, 3) := by decide +kernel
theorem dX10_waits_57 : decode cX10_waits 57 = .ok (.iastore, 1) := by decide +kernel
theorem dX10_waits_58 : decode cX10_waits 58 = .ok (.aload_n 0, 1) := by decide +kernel
theorem dX10_waits_59 : decode cX10_waits 59 = .ok (.getfield 99, 3) := by decide +kernel
theorem dX10_waits_62 : decode cX10_waits 62 = .ok (.aload_n 0, 1) := by decide +kernel
theorem dX10_waits_63 : decode cX10_waits 63 = .ok (.getfield 397, 3) := by decide +kernel
theorem dX10_waits_66 : decode cX10_waits 66 = .ok (.iload_n 2, 1) := by decide +kernel
theorem dX10_waits_67 : decode cX10_waits 67 = .ok (.iastore, 1) := by decide +kernel
theorem dX10_waits_68 : decode cX10_waits 68 = .ok (.aload_n 0, 1) := by decide +kernel
theorem dX10_waits_69 : decode cX10_waits 69 = .ok (.getfield 102, 3) := by decide +kernel
theorem dX10_waits_72 : decode cX10_waits 72 = .ok (.aload_n 0, 1) := by decide +kernel
theorem dX10_waits_73 : decode cX10_waits 73 = .ok (.getfield 397, 3) := by decide +kernel
theorem dX10_waits_76 : decode cX10_waits 76 = .ok (.aload_n 0, 1) := by decide +kernel
theorem dX10_waits_77 : decode cX10_waits 77 = .ok (.getfield 394, 3) := by decide +kernel
theorem dX10_waits_80 : decode cX10_waits 80 = .ok (.iastore, 1) := by decide +kernel
theorem dX10_waits_81 : decode cX10_waits 81 = .ok (.iconst 0, 1) := by decide +kernel
theorem dX10_waits_82 : decode cX10_waits 82 = .ok (.istore_n 3, 1) := by decide +kernel
theorem dX10_waits_83 : decode cX10_waits 83 = .ok (.iload_n 3, 1) := by decide +kernel
theorem dX10_waits_84 : decode cX10_waits 84 = .ok (.aload_n 0, 1) := by decide +kernel
theorem dX10_waits_85 : decode cX10_waits 85 = .ok (.getfield 394, 3) := by decide +kernel
theorem dX10_waits_88 : decode cX10_waits 88 = .ok (.if_icmp .ge 23, 3) := by decide +kernel
theorem dX10_waits_91 : decode cX10_waits 91 = .ok (.aload_n 0, 1) := by decide +kernel
theorem dX10_waits_92 : decode cX10_waits 92 = .ok (.getfield 115, 3) := by decide +kernel
theorem dX10_waits_95 : decode cX10_waits 95 = .ok (.iload_n 2, 1) := by decide +kernel
theorem dX10_waits_96 : decode cX10_waits 96 = .ok (.iload_n 3, 1) := by decide +kernel
theorem dX10_waits_97 : decode cX10_waits 97 = .ok (.iadd, 1) := by decide +kernel
theorem dX10_waits_98 : decode cX10_waits 98 = .ok (.aload_n 0, 1) := by decide +kernel
theorem dX10_waits_99 : decode cX10_waits 99 = .ok (.getfield 90, 3) := by decide +kernel
theorem dX10_waits_102 : decode cX10_waits 102 = .ok (.iload_n 3, 1) := by decide +kernel
theorem dX10_waits_103 : decode cX10_waits 103 = .ok (.iaload, 1) := by decide +kernel
theorem dX10_waits_104 : decode cX10_waits 104 = .ok (.iastore, 1) := by decide +kernel
theorem dX10_waits_105 : decode cX10_waits 105 = .ok (.iinc 3 1, 3) := by decide +kernel
theorem dX10_waits_108 : decode cX10_waits 108 = .ok (.goto (-25), 3) := by decide +kernel
theorem dX10_waits_111 : decode cX10_waits 111 = .ok (.aload_n 0, 1) := by decide +kernel
theorem dX10_waits_112 : decode cX10_waits 112 = .ok (.dup, 1) := by decide +kernel
theorem dX10_waits_113 : decode cX10_waits 113 = .ok (.getfield 397, 3) := by decide +kernel
theorem dX10_waits_116 : decode cX10_waits 116 = .ok (.iconst 1, 1) := by decide +kernel
theorem dX10_waits_117 : decode cX10_waits 117 = .ok (.iadd, 1) := by decide +kernel
theorem dX10_waits_118 : decode cX10_waits 118 = .ok (.putfield 397, 3) := by decide +kernel
theorem dX10_waits_121 : decode cX10_waits 121 = .ok (.return_, 1) := by decide +kernel
theorem dX10_takesWaiting_0 : decode cX10_takesWaiting 0 = .ok (.aload_n 0, 1) := by decide +kernel
theorem dX10_takesWaiting_1 : decode cX10_takesWaiting 1 = .ok (.dup, 1) := by decide +kernel
theorem dX10_takesWaiting_2 : decode cX10_takesWaiting 2 = .ok (.getfield 397, 3) := by decide +kernel
theorem dX10_takesWaiting_5 : decode cX10_takesWaiting 5 = .ok (.iconst 1, 1) := by decide +kernel
theorem dX10_takesWaiting_6 : decode cX10_takesWaiting 6 = .ok (.isub, 1) := by decide +kernel
theorem dX10_takesWaiting_7 : decode cX10_takesWaiting 7 = .ok (.putfield 397, 3) := by decide +kernel
theorem dX10_takesWaiting_10 : decode cX10_takesWaiting 10 = .ok (.aload_n 0, 1) := by decide +kernel
theorem dX10_takesWaiting_11 : decode cX10_takesWaiting 11 = .ok (.aload_n 0, 1) := by decide +kernel
theorem dX10_takesWaiting_12 : decode cX10_takesWaiting 12 = .ok (.getfield 96, 3) := by decide +kernel
theorem dX10_takesWaiting_15 : decode cX10_takesWaiting 15 = .ok (.aload_n 0, 1) := by decide +kernel
theorem dX10_takesWaiting_16 : decode cX10_takesWaiting 16 = .ok (.getfield 397, 3) := by decide +kernel
theorem dX10_takesWaiting_19 : decode cX10_takesWaiting 19 = .ok (.iaload, 1) := by decide +kernel
theorem dX10_takesWaiting_20 : decode cX10_takesWaiting 20 = .ok (.putfield 400, 3) := by decide +kernel
theorem dX10_takesWaiting_23 : decode cX10_takesWaiting 23 = .ok (.aload_n 0, 1) := by decide +kernel
theorem dX10_takesWaiting_24 : decode cX10_takesWaiting 24 = .ok (.aload_n 0, 1) := by decide +kernel
theorem dX10_takesWaiting_25 : decode cX10_takesWaiting 25 = .ok (.getfield 102, 3) := by decide +kernel
theorem dX10_takesWaiting_28 : decode cX10_takesWaiting 28 = .ok (.aload_n 0, 1) := by decide +kernel
theorem dX10_takesWaiting_29 : decode cX10_takesWaiting 29 = .ok (.getfield 397, 3) := by decide +kernel
theorem dX10_takesWaiting_32 : decode cX10_takesWaiting 32 = .ok (.iaload, 1) := by decide +kernel
theorem dX10_takesWaiting_33 : decode cX10_takesWaiting 33 = .ok (.putfield 394, 3) := by decide +kernel
theorem dX10_takesWaiting_36 : decode cX10_takesWaiting 36 = .ok (.iconst 0, 1) := by decide +kernel
theorem dX10_takesWaiting_37 : decode cX10_takesWaiting 37 = .ok (.istore_n 1, 1) := by decide +kernel
theorem dX10_takesWaiting_38 : decode cX10_takesWaiting 38 = .ok (.iload_n 1, 1) := by decide +kernel
theorem dX10_takesWaiting_39 : decode cX10_takesWaiting 39 = .ok (.aload_n 0, 1) := by decide +kernel
