theorem dX10_drunk_10 : decode cX10_drunk 10 = .ok (.ireturn, 1) := by decide +kernel
theorem dX10_drunk_11 : decode cX10_drunk 11 = .ok (.aload_n 0, 1) := by decide +kernel
theorem dX10_drunk_12 : decode cX10_drunk 12 = .ok (.invokevirtual 136, 3) := by decide +kernel
theorem dX10_drunk_15 : decode cX10_drunk 15 = .ok (.ifCond .ne 6, 3) := by decide +kernel
theorem dX10_drunk_18 : decode cX10_drunk 18 = .ok (.bipush (-3), 2) := by decide +kernel
theorem dX10_drunk_20 : decode cX10_drunk 20 = .ok (.ireturn, 1) := by decide +kernel
theorem dX10_drunk_21 : decode cX10_drunk 21 = .ok (.aload_n 0, 1) := by decide +kernel
theorem dX10_drunk_22 : decode cX10_drunk 22 = .ok (.getfield 38, 3) := by decide +kernel
theorem dX10_drunk_25 : decode cX10_drunk 25 = .ok (.aload_n 0, 1) := by decide +kernel
theorem dX10_drunk_26 : decode cX10_drunk 26 = .ok (.getfield 12, 3) := by decide +kernel
theorem dX10_drunk_29 : decode cX10_drunk 29 = .ok (.invokevirtual 152, 3) := by decide +kernel
theorem dX10_drunk_32 : decode cX10_drunk 32 = .ok (.iconst 0, 1) := by decide +kernel
theorem dX10_drunk_33 : decode cX10_drunk 33 = .ok (.istore_n 2, 1) := by decide +kernel
theorem dX10_drunk_34 : decode cX10_drunk 34 = .ok (.bipush (-5), 2) := by decide +kernel
theorem dX10_drunk_36 : decode cX10_drunk 36 = .ok (.istore_n 3, 1) := by decide +kernel
theorem dX10_drunk_37 : decode cX10_drunk 37 = .ok (.iconst 0, 1) := by decide +kernel
theorem dX10_drunk_38 : decode cX10_drunk 38 = .ok (.istore 4, 2) := by decide +kernel
theorem dX10_drunk_40 : decode cX10_drunk 40 = .ok (.iload 4, 2) := by decide +kernel
theorem dX10_drunk_42 : decode cX10_drunk 42 = .ok (.iconst 1, 1) := by decide +kernel
theorem dX10_drunk_43 : decode cX10_drunk 43 = .ok (.aload_n 0, 1) := by decide +kernel
theorem dX10_drunk_44 : decode cX10_drunk 44 = .ok (.getfield 12, 3) := by decide +kernel
theorem dX10_drunk_47 : decode cX10_drunk 47 = .ok (.getfield 65, 3) := by decide +kernel
theorem dX10_drunk_50 : decode cX10_drunk 50 = .ok (.getfield 78, 3) := by decide +kernel
theorem dX10_drunk_53 : decode cX10_drunk 53 = .ok (.ishl, 1) := by decide +kernel
theorem dX10_drunk_54 : decode cX10_drunk 54 = .ok (.if_icmp .ge 64, 3) := by decide +kernel
theorem dX10_drunk_57 : decode cX10_drunk 57 = .ok (.aload_n 0, 1) := by decide +kernel
theorem dX10_drunk_58 : decode cX10_drunk 58 = .ok (.getfield 38, 3) := by decide +kernel
theorem dX10_drunk_61 : decode cX10_drunk 61 = .ok (.iload 4, 2) := by decide +kernel
theorem dX10_drunk_63 : decode cX10_drunk 63 = .ok (.putfield 207, 3) := by decide +kernel
theorem dX10_drunk_66 : decode cX10_drunk 66 = .ok (.aload_n 0, 1) := by decide +kernel
theorem dX10_drunk_67 : decode cX10_drunk 67 = .ok (.getfield 38, 3) := by decide +kernel
theorem dX10_drunk_70 : decode cX10_drunk 70 = .ok (.invokevirtual 189, 3) := by decide +kernel
theorem dX10_drunk_73 : decode cX10_drunk 73 = .ok (.ifCond .ne 6, 3) := by decide +kernel
theorem dX10_drunk_76 : decode cX10_drunk 76 = .ok (.goto 36, 3) := by decide +kernel
theorem dX10_drunk_79 : decode cX10_drunk 79 = .ok (.iload 4, 2) := by decide +kernel
theorem dX10_drunk_81 : decode cX10_drunk 81 = .ok (.invokestatic 210, 3) := by decide +kernel
theorem dX10_drunk_84 : decode cX10_drunk 84 = .ok (.iconst 1, 1) := by decide +kernel
theorem dX10_drunk_85 : decode cX10_drunk 85 = .ok (.if_icmp .ne 8, 3) := by decide +kernel
theorem dX10_drunk_88 : decode cX10_drunk 88 = .ok (.iload_n 2, 1) := by decide +kernel
theorem dX10_drunk_89 : decode cX10_drunk 89 = .ok (.iload 4, 2) := by decide +kernel
theorem dX10_drunk_91 : decode cX10_drunk 91 = .ok (.ior, 1) := by decide +kernel
theorem dX10_drunk_92 : decode cX10_drunk 92 = .ok (.istore_n 2, 1) := by decide +kernel
theorem dX10_drunk_93 : decode cX10_drunk 93 = .ok (.iload_n 3, 1) := by decide +kernel
theorem dX10_drunk_94 : decode cX10_drunk 94 = .ok (.ifCond .lt 15, 3) := by decide +kernel
theorem dX10_drunk_97 : decode cX10_drunk 97 = .ok (.iload 4, 2) := by decide +kernel
theorem dX10_drunk_99 : decode cX10_drunk 99 = .ok (.invokestatic 210, 3) := by decide +kernel
theorem dX10_drunk_102 : decode cX10_drunk 102 = .ok (.iload_n 3, 1) := by decide +kernel
theorem dX10_drunk_103 : decode cX10_drunk 103 = .ok (.invokestatic 210, 3) := by decide +kernel
theorem dX10_drunk_106 : decode cX10_drunk 106 = .ok (.if_icmp .le 6, 3) := by decide +kernel
theorem dX10_drunk_109 : decode cX10_drunk 109 = .ok (.iload 4, 2) := by decide +kernel
theorem dX10_drunk_111 : decode cX10_drunk 111 = .ok (.istore_n 3, 1) := by decide +kernel
theorem dX10_drunk_112 : decode cX10_drunk 112 = .ok (.iinc 4 1, 3) := by decide +kernel
theorem dX10_drunk_115 : decode cX10_drunk 115 = .ok (.goto (-75), 3) := by decide +kernel
theorem dX10_drunk_118 : decode cX10_drunk 118 = .ok (.iload_n 1, 1) := by decide +kernel
theorem dX10_drunk_119 : decode cX10_drunk 119 = .ok (.ifCond .ne 7, 3) := by decide +kernel
theorem dX10_drunk_122 : decode cX10_drunk 122 = .ok (.iload_n 2, 1) := by decide +kernel
theorem dX10_drunk_123 : decode cX10_drunk 123 = .ok (.goto 4, 3) := by decide +kernel
theorem dX10_drunk_126 : decode cX10_drunk 126 = .ok (.iload_n 3, 1) := by decide +kernel
theorem dX10_drunk_127 : decode cX10_drunk 127 = .ok (.ireturn, 1) := by decide +kernel
set_option maxRecDepth 20000 in
theorem ggX10_raised_X10_isRiver : GoodIn wsX10_raised wsX10_isRiver := goodIn_r _ [8, 2, 3, 9, 160, 161, 162, 163, 164, 165, 166, 167, 168, 169, 170, 171, 172, 173, 174, 175, 176, 177, 178, 179, 180, 181] (by decide +kernel) (by decide +kernel)
set_option maxRecDepth 20000 in
theorem gX10_raised_X10_isRiver : GoodIn wsX10_raised (wsV RX10 136 RX10 yX10_isRiver wsX10_isRiver) := goodIn_app (goodIn_of _ (by decide +kernel)) ggX10_raised_X10_isRiver
set_option maxRecDepth 20000 in
theorem ggX10_raised_X7_begin : GoodIn wsX10_raised wsX7_begin := goodIn_r _ [14, 15, 16, 17, 18, 19, 20, 21, 22, 23, 24, 25, 26, 27, 28, 29, 30, 31, 32, 33, 34, 35, 36, 37, 7, 38, 39, 40, 41, 42, 43, 44, 45, 46, 47, 48, 49, 50, 51, 52, 53, 54, 55, 56, 57, 58, 59, 60, 61, 62, 63, 182, 183, 184, 185, 186, 187, 188, 167, 168, 169, 170, 171, 172, 173, 174, 175, 176, 177, 178, 179, 180, 181, 189, 190, 191, 192, 193, 194, 195] (by decide +kernel) (by decide +kernel)
set_option maxRecDepth 20000 in
theorem gX10_raised_X7_begin : GoodIn wsX10_raised (wsV RX10 152 RX7 yX7_begin wsX7_begin) := goodIn_app (goodIn_of _ (by decide +kernel)) ggX10_raised_X7_begin
set_option maxRecDepth 20000 in
theorem ggX10_raised_X7_raiseBanks : GoodIn wsX10_raised wsX7_raiseBanks := goodIn_r _ [67, 15, 68, 69, 40, 41, 42, 182, 183, 184, 185, 186, 187, 188, 174, 175, 176, 177, 178, 179, 180, 181] (by decide +kernel) (by decide +kernel)
set_option maxRecDepth 20000 in
theorem gX10_raised_X7_raiseBanks : GoodIn wsX10_raised (wsV RX10 215 RX7 yX7_raiseBanks wsX7_raiseBanks) := goodIn_app (goodIn_of _ (by decide +kernel)) ggX10_raised_X7_raiseBanks
set_option maxRecDepth 20000 in
theorem ggX10_raised_X7_isSafe : GoodIn wsX10_raised wsX7_isSafe := goodIn_r _ [73, 15, 74, 75, 22, 76, 77, 78, 79, 13, 80, 81, 18, 82, 83, 84, 85, 86, 87, 88, 89, 21, 90, 68, 91, 92, 17, 20, 93, 94, 95, 69, 40, 41, 42, 96, 97, 98, 99, 100, 101, 102, 103, 104, 105, 106, 107, 108, 109, 110, 111, 112, 113, 114, 115, 116, 117, 118, 119, 120, 121, 122, 123, 124, 125, 126, 127, 128, 129, 130, 131, 132, 133, 134, 135, 136, 137, 138, 139, 140, 141, 142, 143, 144, 145, 146, 147, 148, 149, 150, 151, 152, 153, 154, 155, 156, 157, 158, 159, 182, 183, 184, 185, 186, 187, 188, 174, 175, 176, 177, 178, 179, 180, 181, 189, 190, 191, 192, 193, 194, 195, 196, 197, 198, 199, 200, 201, 202, 203, 204, 205, 206, 207, 208] (by decide +kernel) (by decide +kernel)
set_option maxRecDepth 20000 in
theorem gX10_raised_X7_isSafe : GoodIn wsX10_raised (wsV RX10 189 RX7 yX7_isSafe wsX7_isSafe) := goodIn_app (goodIn_of _ (by decide +kernel)) ggX10_raised_X7_isSafe
theorem dX10_raised_0 : decode cX10_raised 0 = .ok (.aload_n 0, 1) := by decide +kernel
theorem dX10_raised_1 : decode cX10_raised 1 = .ok (.invokevirtual 136, 3) := by decide +kernel
theorem dX10_raised_4 : decode cX10_raised 4 = .ok (.ifCond .ne 6, 3) := by decide +kernel
theorem dX10_raised_7 : decode cX10_raised 7 = .ok (.bipush (-3), 2) := by decide +kernel
theorem dX10_raised_9 : decode cX10_raised 9 = .ok (.ireturn, 1) := by decide +kernel
theorem dX10_raised_10 : decode cX10_raised 10 = .ok (.aload_n 0, 1) := by decide +kernel
theorem dX10_raised_11 : decode cX10_raised 11 = .ok (.getfield 38, 3) := by decide +kernel
theorem dX10_raised_14 : decode cX10_raised 14 = .ok (.aload_n 0, 1) := by decide +kernel
theorem dX10_raised_15 : decode cX10_raised 15 = .ok (.getfield 12, 3) := by decide +kernel
theorem dX10_raised_18 : decode cX10_raised 18 = .ok (.invokevirtual 152, 3) := by decide +kernel
theorem dX10_raised_21 : decode cX10_raised 21 = .ok (.iconst 0, 1) := by decide +kernel
theorem dX10_raised_22 : decode cX10_raised 22 = .ok (.istore_n 1, 1) := by decide +kernel
theorem dX10_raised_23 : decode cX10_raised 23 = .ok (.iload_n 1, 1) := by decide +kernel
theorem dX10_raised_24 : decode cX10_raised 24 = .ok (.bipush 9, 2) := by decide +kernel
theorem dX10_raised_26 : decode cX10_raised 26 = .ok (.if_icmp .gt 36, 3) := by decide +kernel
theorem dX10_raised_29 : decode cX10_raised 29 = .ok (.aload_n 0, 1) := by decide +kernel
theorem dX10_raised_30 : decode cX10_raised 30 = .ok (.getfield 38, 3) := by decide +kernel
theorem dX10_raised_33 : decode cX10_raised 33 = .ok (.aload_n 0, 1) := by decide +kernel
theorem dX10_raised_34 : decode cX10_raised 34 = .ok (.getfield 12, 3) := by decide +kernel
theorem dX10_raised_37 : decode cX10_raised 37 = .ok (.getfield 65, 3) := by decide +kernel
theorem dX10_raised_40 : decode cX10_raised 40 = .ok (.iload_n 1, 1) := by decide +kernel
theorem dX10_raised_41 : decode cX10_raised 41 = .ok (.invokevirtual 215, 3) := by decide +kernel
theorem dX10_raised_44 : decode cX10_raised 44 = .ok (.aload_n 0, 1) := by decide +kernel
theorem dX10_raised_45 : decode cX10_raised 45 = .ok (.getfield 38, 3) := by decide +kernel
theorem dX10_raised_48 : decode cX10_raised 48 = .ok (.invokevirtual 189, 3) := by decide +kernel
theorem dX10_raised_51 : decode cX10_raised 51 = .ok (.ifCond .eq 5, 3) := by decide +kernel
theorem dX10_raised_54 : decode cX10_raised 54 = .ok (.iload_n 1, 1) := by decide +kernel
theorem dX10_raised_55 : decode cX10_raised 55 = .ok (.ireturn, 1) := by decide +kernel
theorem dX10_raised_56 : decode cX10_raised 56 = .ok (.iinc 1 1, 3) := by decide +kernel
theorem dX10_raised_59 : decode cX10_raised 59 = .ok (.goto (-36), 3) := by decide +kernel
theorem dX10_raised_62 : decode cX10_raised 62 = .ok (.bipush (-5), 2) := by decide +kernel
theorem dX10_raised_64 : decode cX10_raised 64 = .ok (.ireturn, 1) := by decide +kernel
set_option maxRecDepth 20000 in
theorem ggX10_mean_X10_isRiver : GoodIn wsX10_mean wsX10_isRiver := goodIn_r _ [10, 3, 4, 5, 159, 160, 161, 162, 163, 164, 165, 166, 167, 168, 169, 170, 171, 172, 173, 174, 175, 176, 177, 178, 179, 180] (by decide +kernel) (by decide +kernel)
set_option maxRecDepth 20000 in
theorem gX10_mean_X10_isRiver : GoodIn wsX10_mean (wsV RX10 136 RX10 yX10_isRiver wsX10_isRiver) := goodIn_app (goodIn_of _ (by decide +kernel)) ggX10_mean_X10_isRiver
set_option maxRecDepth 20000 in
theorem ggX10_mean_X7_begin : GoodIn wsX10_mean wsX7_begin := goodIn_r _ [15, 16, 17, 18, 19, 20, 21, 22, 23, 24, 25, 26, 27, 28, 29, 30, 31, 32, 33, 34, 35, 36, 37, 38, 9, 39, 40, 41, 42, 43, 44, 45, 46, 47, 48, 49, 50, 51, 52, 53, 54, 55, 56, 57, 58, 59, 60, 61, 62, 63, 64, 181, 182, 183, 184, 185, 186, 187, 166, 167, 168, 169, 170, 171, 172, 173, 174, 175, 176, 177, 178, 179, 180, 188, 189, 190, 191, 192, 193, 194] (by decide +kernel) (by decide +kernel)
set_option maxRecDepth 20000 in
theorem gX10_mean_X7_begin : GoodIn wsX10_mean (wsV RX10 152 RX7 yX7_begin wsX7_begin) := goodIn_app (goodIn_of _ (by decide +kernel)) ggX10_mean_X7_begin
set_option maxRecDepth 20000 in
theorem ggX10_mean_X7_weightOver : GoodIn wsX10_mean wsX7_weightOver := goodIn_r _ [68, 23, 69, 70, 71, 14, 72, 73, 16, 19, 74, 75, 76, 77, 78, 79, 80, 22, 81, 82, 83, 84, 18, 21, 85, 86, 87, 88, 41, 42, 43, 89, 90, 91, 92, 93, 94, 95, 96, 97, 98, 99, 100, 101, 102, 103, 104, 105, 106, 107, 108, 109, 110, 111, 112, 113, 114, 115, 116, 117, 118, 119, 120, 121, 122, 123, 124, 125, 126, 127, 128, 129, 130, 131, 132, 133, 134, 135, 136, 137, 138, 9, 139, 140, 141, 142, 143, 144, 145, 146, 147, 148, 149, 150, 151, 152, 153, 154, 181, 182, 183, 184, 185, 186, 187, 188, 189, 190, 191, 192, 193, 194, 173, 174, 175, 176, 177, 178, 179, 180, 195, 196, 197, 198, 199, 200, 201, 202, 203, 204, 205, 206, 207] (by decide +kernel) (by decide +kernel)
set_option maxRecDepth 20000 in
theorem gX10_mean_X7_weightOver : GoodIn wsX10_mean (wsV RX10 221 RX7 yX7_weightOver wsX7_weightOver) := goodIn_app (goodIn_of _ (by decide +kernel)) ggX10_mean_X7_weightOver
set_option maxRecDepth 20000 in
theorem ggX10_mean_X10_powerOfTen : GoodIn wsX10_mean wsX10_powerOfTen := goodIn_r _ [139, 140] (by decide +kernel) (by decide +kernel)
set_option maxRecDepth 20000 in
theorem gX10_mean_X10_powerOfTen : GoodIn wsX10_mean (va_wsS RX10 225 yX10_powerOfTen wsX10_powerOfTen) := goodIn_app (goodIn_of _ (by decide +kernel)) ggX10_mean_X10_powerOfTen
set_option maxRecDepth 20000 in
theorem ggX10_mean_X10_commonDivisor : GoodIn wsX10_mean wsX10_commonDivisor := goodIn_r _ [158] (by decide +kernel) (by decide +kernel)
set_option maxRecDepth 20000 in
theorem gX10_mean_X10_commonDivisor : GoodIn wsX10_mean (va_wsS RX10 229 yX10_commonDivisor wsX10_commonDivisor) := goodIn_app (goodIn_of _ (by decide +kernel)) ggX10_mean_X10_commonDivisor
theorem dX10_mean_0 : decode cX10_mean 0 = .ok (.iload_n 1, 1) := by decide +kernel
theorem dX10_mean_1 : decode cX10_mean 1 = .ok (.iconst 1, 1) := by decide +kernel
theorem dX10_mean_2 : decode cX10_mean 2 = .ok (.if_icmp .lt 26, 3) := by decide +kernel
theorem dX10_mean_5 : decode cX10_mean 5 = .ok (.iload_n 1, 1) := by decide +kernel
theorem dX10_mean_6 : decode cX10_mean 6 = .ok (.iconst 3, 1) := by decide +kernel
theorem dX10_mean_7 : decode cX10_mean 7 = .ok (.if_icmp .gt 21, 3) := by decide +kernel
theorem dX10_mean_10 : decode cX10_mean 10 = .ok (.iload_n 2, 1) := by decide +kernel
theorem dX10_mean_11 : decode cX10_mean 11 = .ok (.ifCond .lt 17, 3) := by decide +kernel
theorem dX10_mean_14 : decode cX10_mean 14 = .ok (.iload_n 2, 1) := by decide +kernel
theorem dX10_mean_15 : decode cX10_mean 15 = .ok (.iconst 1, 1) := by decide +kernel
theorem dX10_mean_16 : decode cX10_mean 16 = .ok (.if_icmp .gt 12, 3) := by decide +kernel
theorem dX10_mean_19 : decode cX10_mean 19 = .ok (.iload_n 3, 1) := by decide +kernel
theorem dX10_mean_20 : decode cX10_mean 20 = .ok (.ifCond .lt 8, 3) := by decide +kernel
theorem dX10_mean_23 : decode cX10_mean 23 = .ok (.iload_n 3, 1) := by decide +kernel
theorem dX10_mean_24 : decode cX10_mean 24 = .ok (.iconst 1, 1) := by decide +kernel
theorem dX10_mean_25 : decode cX10_mean 25 = .ok (.if_icmp .le 7, 3) := by decide +kernel
theorem dX10_mean_28 : decode cX10_mean 28 = .ok (.ldc2_w 219, 3) := by decide +kernel
theorem dX10_mean_31 : decode cX10_mean 31 = .ok (.lreturn, 1) := by decide +kernel
theorem dX10_mean_32 : decode cX10_mean 32 = .ok (.aload_n 0, 1) := by decide +kernel
theorem dX10_mean_33 : decode cX10_mean 33 = .ok (.invokevirtual 136, 3) := by decide +kernel
theorem dX10_mean_36 : decode cX10_mean 36 = .ok (.ifCond .ne 7, 3) := by decide +kernel
theorem dX10_mean_39 : decode cX10_mean 39 = .ok (.ldc2_w 219, 3) := by decide +kernel
theorem dX10_mean_42 : decode cX10_mean 42 = .ok (.lreturn, 1) := by decide +kernel
theorem dX10_mean_43 : decode cX10_mean 43 = .ok (.aload_n 0, 1) := by decide +kernel
theorem dX10_mean_44 : decode cX10_mean 44 = .ok (.getfield 38, 3) := by decide +kernel
theorem dX10_mean_47 : decode cX10_mean 47 = .ok (.aload_n 0, 1) := by decide +kernel
theorem dX10_mean_48 : decode cX10_mean 48 = .ok (.getfield 12, 3) := by decide +kernel
theorem dX10_mean_51 : decode cX10_mean 51 = .ok (.invokevirtual 152, 3) := by decide +kernel
theorem dX10_mean_54 : decode cX10_mean 54 = .ok (.aload_n 0, 1) := by decide +kernel
theorem dX10_mean_55 : decode cX10_mean 55 = .ok (.getfield 38, 3) := by decide +kernel
theorem dX10_mean_58 : decode cX10_mean 58 = .ok (.iload_n 1, 1) := by decide +kernel
theorem dX10_mean_59 : decode cX10_mean 59 = .ok (.iload_n 2, 1) := by decide +kernel
theorem dX10_mean_60 : decode cX10_mean 60 = .ok (.iconst 1, 1) := by decide +kernel
theorem dX10_mean_61 : decode cX10_mean 61 = .ok (.if_icmp .ne 7, 3) := by decide +kernel
theorem dX10_mean_64 : decode cX10_mean 64 = .ok (.iconst 1, 1) := by decide +kernel
theorem dX10_mean_65 : decode cX10_mean 65 = .ok (.goto 4, 3) := by decide +kernel
theorem dX10_mean_68 : decode cX10_mean 68 = .ok (.iconst 0, 1) := by decide +kernel
theorem dX10_mean_69 : decode cX10_mean 69 = .ok (.invokevirtual 221, 3) := by decide +kernel
theorem dX10_mean_72 : decode cX10_mean 72 = .ok (.lstore 4, 2) := by decide +kernel
theorem dX10_mean_74 : decode cX10_mean 74 = .ok (.iload_n 1, 1) := by decide +kernel
theorem dX10_mean_75 : decode cX10_mean 75 = .ok (.aload_n 0, 1) := by decide +kernel
theorem dX10_mean_76 : decode cX10_mean 76 = .ok (.getfield 12, 3) := by decide +kernel
theorem dX10_mean_79 : decode cX10_mean 79 = .ok (.getfield 65, 3) := by decide +kernel
theorem dX10_mean_82 : decode cX10_mean 82 = .ok (.getfield 78, 3) := by decide +kernel
theorem dX10_mean_85 : decode cX10_mean 85 = .ok (.imul, 1) := by decide +kernel
theorem dX10_mean_86 : decode cX10_mean 86 = .ok (.invokestatic 225, 3) := by decide +kernel
theorem dX10_mean_89 : decode cX10_mean 89 = .ok (.lstore 6, 2) := by decide +kernel
theorem dX10_mean_91 : decode cX10_mean 91 = .ok (.lload 4, 2) := by decide +kernel
theorem dX10_mean_93 : decode cX10_mean 93 = .ok (.lload 6, 2) := by decide +kernel
theorem dX10_mean_95 : decode cX10_mean 95 = .ok (.invokestatic 229, 3) := by decide +kernel
theorem dX10_mean_98 : decode cX10_mean 98 = .ok (.lstore 8, 2) := by decide +kernel
theorem dX10_mean_100 : decode cX10_mean 100 = .ok (.lload 8, 2) := by decide +kernel
theorem dX10_mean_102 : decode cX10_mean 102 = .ok (.lconst 1, 1) := by decide +kernel
theorem dX10_mean_103 : decode cX10_mean 103 = .ok (.lcmp, 1) := by decide +kernel
theorem dX10_mean_104 : decode cX10_mean 104 = .ok (.ifCond .ge 7, 3) := by decide +kernel
theorem dX10_mean_107 : decode cX10_mean 107 = .ok (.ldc2_w 219, 3) := by decide +kernel
theorem dX10_mean_110 : decode cX10_mean 110 = .ok (.lreturn, 1) := by decide +kernel
theorem dX10_mean_111 : decode cX10_mean 111 = .ok (.iload_n 3, 1) := by decide +kernel
theorem dX10_mean_112 : decode cX10_mean 112 = .ok (.ifCond .ne 8, 3) := by decide +kernel
theorem dX10_mean_115 : decode cX10_mean 115 = .ok (.lload 4, 2) := by decide +kernel
theorem dX10_mean_117 : decode cX10_mean 117 = .ok (.goto 5, 3) := by decide +kernel
theorem dX10_mean_120 : decode cX10_mean 120 = .ok (.lload 6, 2) := by decide +kernel
theorem dX10_mean_122 : decode cX10_mean 122 = .ok (.lload 8, 2) := by decide +kernel
theorem dX10_mean_124 : decode cX10_mean 124 = .ok (.ldiv, 1) := by decide +kernel
theorem dX10_mean_125 : decode cX10_mean 125 = .ok (.lreturn, 1) := by decide +kernel
set_option maxRecDepth 20000 in
theorem ggX10_same_X10_isRiver : GoodIn wsX10_same wsX10_isRiver := goodIn_r _ [9, 2, 10, 11, 163, 164, 165, 166, 167, 168, 169, 177, 178, 179, 180, 181, 182, 183, 184, 185, 186, 187, 188, 189, 190, 191] (by decide +kernel) (by decide +kernel)
set_option maxRecDepth 20000 in
theorem gX10_same_X10_isRiver : GoodIn wsX10_same (wsV RX10 136 RX10 yX10_isRiver wsX10_isRiver) := goodIn_app (goodIn_of _ (by decide +kernel)) ggX10_same_X10_isRiver
set_option maxRecDepth 20000 in
theorem ggX10_same_X7_begin : GoodIn wsX10_same wsX7_begin := goodIn_r _ [16, 17, 18, 19, 20, 21, 22, 23, 24, 25, 26, 27, 28, 29, 30, 31, 32, 33, 34, 35, 36, 37, 38, 39, 8, 40, 41, 42, 43, 44, 45, 46, 47, 48, 49, 50, 51, 52, 53, 54, 55, 56, 57, 58, 59, 60, 61, 62, 63, 64, 65, 170, 171, 172, 173, 174, 175, 176, 177, 178, 179, 180, 181, 182, 183, 184, 185, 186, 187, 188, 189, 190, 191, 192, 193, 194, 195, 196, 197, 198] (by decide +kernel) (by decide +kernel)
set_option maxRecDepth 20000 in
theorem gX10_same_X7_begin : GoodIn wsX10_same (wsV RX10 152 RX7 yX7_begin wsX7_begin) := goodIn_app (goodIn_of _ (by decide +kernel)) ggX10_same_X7_begin
set_option maxRecDepth 20000 in
theorem ggX10_same_X7_isSafe : GoodIn wsX10_same wsX7_isSafe := goodIn_r _ [69, 17, 70, 71, 24, 72, 73, 74, 75, 15, 76, 77, 20, 78, 79, 80, 81, 82, 83, 84, 85, 23, 86, 87, 88, 89, 19, 22, 90, 91, 92, 93, 42, 43, 44, 94, 95, 96, 97, 98, 99, 100, 101, 102, 103, 104, 105, 106, 107, 108, 109, 110, 111, 112, 113, 114, 115, 116, 117, 118, 119, 120, 121, 122, 123, 124, 125, 126, 127, 128, 129, 130, 131, 132, 133, 134, 135, 136, 137, 138, 139, 140, 141, 142, 143, 144, 145, 146, 147, 148, 149, 150, 151, 152, 153, 154, 155, 156, 157, 170, 171, 172, 173, 174, 175, 176, 184, 185, 186, 187, 188, 189, 190, 191, 192, 193, 194, 195, 196, 197, 198, 199, 200, 201, 202, 203, 204, 205, 206, 207, 208, 209, 210, 211] (by decide +kernel) (by decide +kernel)
set_option maxRecDepth 20000 in
theorem gX10_same_X7_isSafe : GoodIn wsX10_same (wsV RX10 189 RX7 yX7_isSafe wsX7_isSafe) := goodIn_app (goodIn_of _ (by decide +kernel)) ggX10_same_X7_isSafe
set_option maxRecDepth 20000 in
theorem ggX10_same_X9_cardOf : GoodIn wsX10_same wsX9_cardOf := goodIn_r _ [62, 63, 64, 177, 178, 179, 180, 181, 182, 183] (by decide +kernel) (by decide +kernel)
set_option maxRecDepth 20000 in
theorem gX10_same_X9_cardOf : GoodIn wsX10_same (wsV RX10 94 RX9 yX9_cardOf wsX9_cardOf) := goodIn_app (goodIn_of _ (by decide +kernel)) ggX10_same_X9_cardOf
set_option maxRecDepth 20000 in
theorem ggX10_same_X7_hangAll : GoodIn wsX10_same wsX7_hangAll := goodIn_r _ [162, 19, 170, 171, 172, 173, 174, 175, 176] (by decide +kernel) (by decide +kernel)
set_option maxRecDepth 20000 in
theorem gX10_same_X7_hangAll : GoodIn wsX10_same (wsV RX10 236 RX7 yX7_hangAll wsX7_hangAll) := goodIn_app (goodIn_of _ (by decide +kernel)) ggX10_same_X7_hangAll
theorem dX10_same_0 : decode cX10_same 0 = .ok (.iload_n 1, 1) := by decide +kernel
theorem dX10_same_1 : decode cX10_same 1 = .ok (.ifCond .lt 8, 3) := by decide +kernel
theorem dX10_same_4 : decode cX10_same 4 = .ok (.iload_n 1, 1) := by decide +kernel
theorem dX10_same_5 : decode cX10_same 5 = .ok (.iconst 1, 1) := by decide +kernel
theorem dX10_same_6 : decode cX10_same 6 = .ok (.if_icmp .le 5, 3) := by decide +kernel
theorem dX10_same_9 : decode cX10_same 9 = .ok (.iconst (-1), 1) := by decide +kernel
theorem dX10_same_10 : decode cX10_same 10 = .ok (.ireturn, 1) := by decide +kernel
theorem dX10_same_11 : decode cX10_same 11 = .ok (.aload_n 0, 1) := by decide +kernel
theorem dX10_same_12 : decode cX10_same 12 = .ok (.invokevirtual 136, 3) := by decide +kernel
theorem dX10_same_15 : decode cX10_same 15 = .ok (.ifCond .ne 6, 3) := by decide +kernel
theorem dX10_same_18 : decode cX10_same 18 = .ok (.bipush (-3), 2) := by decide +kernel
theorem dX10_same_20 : decode cX10_same 20 = .ok (.ireturn, 1) := by decide +kernel
theorem dX10_same_21 : decode cX10_same 21 = .ok (.aload_n 0, 1) := by decide +kernel
theorem dX10_same_22 : decode cX10_same 22 = .ok (.getfield 38, 3) := by decide +kernel
theorem dX10_same_25 : decode cX10_same 25 = .ok (.aload_n 0, 1) := by decide +kernel
theorem dX10_same_26 : decode cX10_same 26 = .ok (.getfield 12, 3) := by decide +kernel
theorem dX10_same_29 : decode cX10_same 29 = .ok (.invokevirtual 152, 3) := by decide +kernel
theorem dX10_same_32 : decode cX10_same 32 = .ok (.iload_n 1, 1) := by decide +kernel
theorem dX10_same_33 : decode cX10_same 33 = .ok (.iconst 1, 1) := by decide +kernel
theorem dX10_same_34 : decode cX10_same 34 = .ok (.if_icmp .ne 40, 3) := by decide +kernel
theorem dX10_same_37 : decode cX10_same 37 = .ok (.aload_n 0, 1) := by decide +kernel
theorem dX10_same_38 : decode cX10_same 38 = .ok (.getfield 38, 3) := by decide +kernel
theorem dX10_same_41 : decode cX10_same 41 = .ok (.invokevirtual 189, 3) := by decide +kernel
theorem dX10_same_44 : decode cX10_same 44 = .ok (.ifCond .ne 6, 3) := by decide +kernel
theorem dX10_same_47 : decode cX10_same 47 = .ok (.bipush (-5), 2) := by decide +kernel
theorem dX10_same_49 : decode cX10_same 49 = .ok (.ireturn, 1) := by decide +kernel
theorem dX10_same_50 : decode cX10_same 50 = .ok (.aload_n 0, 1) := by decide +kernel
theorem dX10_same_51 : decode cX10_same 51 = .ok (.getfield 38, 3) := by decide +kernel
theorem dX10_same_54 : decode cX10_same 54 = .ok (.iconst 1, 1) := by decide +kernel
theorem dX10_same_55 : decode cX10_same 55 = .ok (.putfield 233, 3) := by decide +kernel
theorem dX10_same_58 : decode cX10_same 58 = .ok (.aload_n 0, 1) := by decide +kernel
theorem dX10_same_59 : decode cX10_same 59 = .ok (.getfield 38, 3) := by decide +kernel
theorem dX10_same_62 : decode cX10_same 62 = .ok (.invokevirtual 189, 3) := by decide +kernel
theorem dX10_same_65 : decode cX10_same 65 = .ok (.ifCond .eq 7, 3) := by decide +kernel
theorem dX10_same_68 : decode cX10_same 68 = .ok (.iconst 0, 1) := by decide +kernel
theorem dX10_same_69 : decode cX10_same 69 = .ok (.goto 4, 3) := by decide +kernel
theorem dX10_same_72 : decode cX10_same 72 = .ok (.iconst 1, 1) := by decide +kernel
theorem dX10_same_73 : decode cX10_same 73 = .ok (.ireturn, 1) := by decide +kernel
theorem dX10_same_74 : decode cX10_same 74 = .ok (.iconst 0, 1) := by decide +kernel
theorem dX10_same_75 : decode cX10_same 75 = .ok (.istore_n 2, 1) := by decide +kernel
theorem dX10_same_76 : decode cX10_same 76 = .ok (.iconst 0, 1) := by decide +kernel
theorem dX10_same_77 : decode cX10_same 77 = .ok (.istore_n 3, 1) := by decide +kernel
theorem dX10_same_78 : decode cX10_same 78 = .ok (.iload_n 3, 1) := by decide +kernel
theorem dX10_same_79 : decode cX10_same 79 = .ok (.aload_n 0, 1) := by decide +kernel
theorem dX10_same_80 : decode cX10_same 80 = .ok (.getfield 12, 3) := by decide +kernel
theorem dX10_same_83 : decode cX10_same 83 = .ok (.getfield 81, 3) := by decide +kernel
theorem dX10_same_86 : decode cX10_same 86 = .ok (.if_icmp .ge 40, 3) := by decide +kernel
theorem dX10_same_89 : decode cX10_same 89 = .ok (.aload_n 0, 1) := by decide +kernel
theorem dX10_same_90 : decode cX10_same 90 = .ok (.getfield 38, 3) := by decide +kernel
theorem dX10_same_93 : decode cX10_same 93 = .ok (.aload_n 0, 1) := by decide +kernel
theorem dX10_same_94 : decode cX10_same 94 = .ok (.getfield 12, 3) := by decide +kernel
theorem dX10_same_97 : decode cX10_same 97 = .ok (.iload_n 3, 1) := by decide +kernel
theorem dX10_same_98 : decode cX10_same 98 = .ok (.invokevirtual 94, 3) := by decide +kernel
theorem dX10_same_101 : decode cX10_same 101 = .ok (.invokevirtual 236, 3) := by decide +kernel
theorem dX10_same_104 : decode cX10_same 104 = .ok (.aload_n 0, 1) := by decide +kernel
theorem dX10_same_105 : decode cX10_same 105 = .ok (.getfield 38, 3) := by decide +kernel
theorem dX10_same_108 : decode cX10_same 108 = .ok (.invokevirtual 189, 3) := by decide +kernel
theorem dX10_same_111 : decode cX10_same 111 = .ok (.ifCond .eq 9, 3) := by decide +kernel
theorem dX10_same_114 : decode cX10_same 114 = .ok (.iload_n 2, 1) := by decide +kernel
theorem dX10_same_115 : decode cX10_same 115 = .ok (.iconst 1, 1) := by decide +kernel
theorem dX10_same_116 : decode cX10_same 116 = .ok (.iload_n 3, 1) := by decide +kernel
theorem dX10_same_117 : decode cX10_same 117 = .ok (.ishl, 1) := by decide +kernel
theorem dX10_same_118 : decode cX10_same 118 = .ok (.ior, 1) := by decide +kernel
theorem dX10_same_119 : decode cX10_same 119 = .ok (.istore_n 2, 1) := by decide +kernel
theorem dX10_same_120 : decode cX10_same 120 = .ok (.iinc 3 1, 3) := by decide +kernel
theorem dX10_same_123 : decode cX10_same 123 = .ok (.goto (-45), 3) := by decide +kernel
theorem dX10_same_126 : decode cX10_same 126 = .ok (.iload_n 2, 1) := by decide +kernel
theorem dX10_same_127 : decode cX10_same 127 = .ok (.ireturn, 1) := by decide +kernel
set_option maxRecDepth 20000 in
theorem ggX10_act_X9_cardOf : GoodIn wsX10_act wsX9_cardOf := goodIn_r _ [7, 8, 9, 48, 49, 50, 51, 52, 53, 54] (by decide +kernel) (by decide +kernel)
set_option maxRecDepth 20000 in
theorem gX10_act_X9_cardOf : GoodIn wsX10_act (wsV RX10 94 RX9 yX9_cardOf wsX9_cardOf) := goodIn_app (goodIn_of _ (by decide +kernel)) ggX10_act_X9_cardOf
set_option maxRecDepth 20000 in
theorem ggX10_act_X6_clear : GoodIn wsX10_act wsX6_clear := goodIn_r _ [14, 15, 55, 56] (by decide +kernel) (by decide +kernel)
set_option maxRecDepth 20000 in
theorem gX10_act_X6_clear : GoodIn wsX10_act (wsV RX10 239 RX6 yX6_clear wsX6_clear) := goodIn_app (goodIn_of _ (by decide +kernel)) ggX10_act_X6_clear
set_option maxRecDepth 20000 in
theorem ggX10_act_X6_perform : GoodIn wsX10_act wsX6_perform := goodIn_r _ [19, 20, 21, 22, 23, 13, 24, 25, 26, 27, 28, 29, 30, 31, 32, 33, 34, 35, 36, 37, 38, 39, 15, 40, 57, 58, 59, 60, 61, 62, 63, 64, 65, 55, 56] (by decide +kernel) (by decide +kernel)
set_option maxRecDepth 20000 in
theorem gX10_act_X6_perform : GoodIn wsX10_act (wsV RX10 242 RX6 yX6_perform wsX6_perform) := goodIn_app (goodIn_of _ (by decide +kernel)) ggX10_act_X6_perform
theorem dX10_act_0 : decode cX10_act 0 = .ok (.aload_n 0, 1) := by decide +kernel
theorem dX10_act_1 : decode cX10_act 1 = .ok (.getfield 12, 3) := by decide +kernel
theorem dX10_act_4 : decode cX10_act 4 = .ok (.iload_n 1, 1) := by decide +kernel
theorem dX10_act_5 : decode cX10_act 5 = .ok (.invokevirtual 94, 3) := by decide +kernel
theorem dX10_act_8 : decode cX10_act 8 = .ok (.astore 4, 2) := by decide +kernel
theorem dX10_act_10 : decode cX10_act 10 = .ok (.aload_n 0, 1) := by decide +kernel
theorem dX10_act_11 : decode cX10_act 11 = .ok (.getfield 45, 3) := by decide +kernel
theorem dX10_act_14 : decode cX10_act 14 = .ok (.invokevirtual 239, 3) := by decide +kernel
theorem dX10_act_17 : decode cX10_act 17 = .ok (.aload 4, 2) := by decide +kernel
theorem dX10_act_19 : decode cX10_act 19 = .ok (.ifnull 12, 3) := by decide +kernel
theorem dX10_act_22 : decode cX10_act 22 = .ok (.iload_n 2, 1) := by decide +kernel
theorem dX10_act_23 : decode cX10_act 23 = .ok (.ifCond .lt 8, 3) := by decide +kernel
theorem dX10_act_26 : decode cX10_act 26 = .ok (.iload_n 2, 1) := by decide +kernel
theorem dX10_act_27 : decode cX10_act 27 = .ok (.iconst 3, 1) := by decide +kernel
theorem dX10_act_28 : decode cX10_act 28 = .ok (.if_icmp .lt 5, 3) := by decide +kernel
theorem dX10_act_31 : decode cX10_act 31 = .ok (.iconst 0, 1) := by decide +kernel
theorem dX10_act_32 : decode cX10_act 32 = .ok (.ireturn, 1) := by decide +kernel
theorem dX10_act_33 : decode cX10_act 33 = .ok (.aload_n 0, 1) := by decide +kernel
theorem dX10_act_34 : decode cX10_act 34 = .ok (.getfield 45, 3) := by decide +kernel
theorem dX10_act_37 : decode cX10_act 37 = .ok (.aload 4, 2) := by decide +kernel
theorem dX10_act_39 : decode cX10_act 39 = .ok (.iload_n 2, 1) := by decide +kernel
theorem dX10_act_40 : decode cX10_act 40 = .ok (.iload_n 3, 1) := by decide +kernel
theorem dX10_act_41 : decode cX10_act 41 = .ok (.invokevirtual 242, 3) := by decide +kernel
theorem dX10_act_44 : decode cX10_act 44 = .ok (.ireturn, 1) := by decide +kernel
theorem dX10_trace_0 : decode cX10_trace 0 = .ok (.iload_n 1, 1) := by decide +kernel
theorem dX10_trace_1 : decode cX10_trace 1 = .ok (.ifCond .lt 26, 3) := by decide +kernel
theorem dX10_trace_4 : decode cX10_trace 4 = .ok (.iload_n 1, 1) := by decide +kernel
theorem dX10_trace_5 : decode cX10_trace 5 = .ok (.aload_n 0, 1) := by decide +kernel
theorem dX10_trace_6 : decode cX10_trace 6 = .ok (.getfield 45, 3) := by decide +kernel
theorem dX10_trace_9 : decode cX10_trace 9 = .ok (.getfield 246, 3) := by decide +kernel
theorem dX10_trace_12 : decode cX10_trace 12 = .ok (.if_icmp .ge 15, 3) := by decide +kernel
theorem dX10_trace_15 : decode cX10_trace 15 = .ok (.iload_n 1, 1) := by decide +kernel
theorem dX10_trace_16 : decode cX10_trace 16 = .ok (.aload_n 0, 1) := by decide +kernel
theorem dX10_trace_17 : decode cX10_trace 17 = .ok (.getfield 45, 3) := by decide +kernel
theorem dX10_trace_20 : decode cX10_trace 20 = .ok (.getfield 249, 3) := by decide +kernel
theorem dX10_trace_23 : decode cX10_trace 23 = .ok (.arraylength, 1) := by decide +kernel
theorem dX10_trace_24 : decode cX10_trace 24 = .ok (.if_icmp .lt 5, 3) := by decide +kernel
theorem dX10_trace_27 : decode cX10_trace 27 = .ok (.iconst (-1), 1) := by decide +kernel
theorem dX10_trace_28 : decode cX10_trace 28 = .ok (.ireturn, 1) := by decide +kernel
theorem dX10_trace_29 : decode cX10_trace 29 = .ok (.aload_n 0, 1) := by decide +kernel
theorem dX10_trace_30 : decode cX10_trace 30 = .ok (.getfield 45, 3) := by decide +kernel
theorem dX10_trace_33 : decode cX10_trace 33 = .ok (.getfield 249, 3) := by decide +kernel
theorem dX10_trace_36 : decode cX10_trace 36 = .ok (.iload_n 1, 1) := by decide +kernel
theorem dX10_trace_37 : decode cX10_trace 37 = .ok (.iaload, 1) := by decide +kernel
theorem dX10_trace_38 : decode cX10_trace 38 = .ok (.ireturn, 1) := by decide +kernel
set_option maxRecDepth 20000 in
theorem ggX10_as_X9_cardOf : GoodIn wsX10_as wsX9_cardOf := goodIn_r _ [7, 8, 9, 36, 37, 38, 39, 40, 41, 42] (by decide +kernel) (by decide +kernel)
set_option maxRecDepth 20000 in
theorem gX10_as_X9_cardOf : GoodIn wsX10_as (wsV RX10 94 RX9 yX9_cardOf wsX9_cardOf) := goodIn_app (goodIn_of _ (by decide +kernel)) ggX10_as_X9_cardOf
set_option maxRecDepth 20000 in
theorem ggX10_as_X0_isUnder : GoodIn wsX10_as wsX0_isUnder := goodIn_r _ [14, 15, 16, 17, 13, 18, 19, 27, 28, 29, 30, 31, 32, 33, 34, 35] (by decide +kernel) (by decide +kernel)
set_option maxRecDepth 20000 in
theorem gX10_as_X0_isUnder : GoodIn wsX10_as (wsV RX10 251 RX0 yX0_isUnder wsX0_isUnder) := goodIn_app (goodIn_of _ (by decide +kernel)) ggX10_as_X0_isUnder
theorem dX10_as_0 : decode cX10_as 0 = .ok (.aload_n 0, 1) := by decide +kernel
theorem dX10_as_1 : decode cX10_as 1 = .ok (.getfield 12, 3) := by decide +kernel
theorem dX10_as_4 : decode cX10_as 4 = .ok (.iload_n 1, 1) := by decide +kernel
theorem dX10_as_5 : decode cX10_as 5 = .ok (.invokevirtual 94, 3) := by decide +kernel
theorem dX10_as_8 : decode cX10_as 8 = .ok (.astore_n 3, 1) := by decide +kernel
theorem dX10_as_9 : decode cX10_as 9 = .ok (.aload_n 3, 1) := by decide +kernel
theorem dX10_as_10 : decode cX10_as 10 = .ok (.ifnull 13, 3) := by decide +kernel
theorem dX10_as_13 : decode cX10_as 13 = .ok (.iload_n 2, 1) := by decide +kernel
theorem dX10_as_14 : decode cX10_as 14 = .ok (.ifCond .lt 9, 3) := by decide +kernel
theorem dX10_as_17 : decode cX10_as 17 = .ok (.iload_n 2, 1) := by decide +kernel
theorem dX10_as_18 : decode cX10_as 18 = .ok (.bipush 7, 2) := by decide +kernel
theorem dX10_as_20 : decode cX10_as 20 = .ok (.if_icmp .lt 5, 3) := by decide +kernel
theorem dX10_as_23 : decode cX10_as 23 = .ok (.iconst (-1), 1) := by decide +kernel
theorem dX10_as_24 : decode cX10_as 24 = .ok (.ireturn, 1) := by decide +kernel
theorem dX10_as_25 : decode cX10_as 25 = .ok (.aload_n 3, 1) := by decide +kernel
theorem dX10_as_26 : decode cX10_as 26 = .ok (.iload_n 2, 1) := by decide +kernel
theorem dX10_as_27 : decode cX10_as 27 = .ok (.invokevirtual 251, 3) := by decide +kernel
theorem dX10_as_30 : decode cX10_as 30 = .ok (.ifCond .eq 10, 3) := by decide +kernel
theorem dX10_as_33 : decode cX10_as 33 = .ok (.aload_n 3, 1) := by decide +kernel
theorem dX10_as_34 : decode cX10_as 34 = .ok (.getfield 101, 3) := by decide +kernel
theorem dX10_as_37 : decode cX10_as 37 = .ok (.goto 5, 3) := by decide +kernel
theorem dX10_as_40 : decode cX10_as 40 = .ok (.bipush (-6), 2) := by decide +kernel
theorem dX10_as_42 : decode cX10_as 42 = .ok (.ireturn, 1) := by decide +kernel
set_option maxRecDepth 20000 in
theorem ggX10_image_X9_becomes : GoodIn wsX10_image wsX9_becomes := goodIn_r _ [9, 10, 11, 12, 13, 14, 15, 16, 17, 18, 19, 20, 21, 22, 23, 24, 25, 26, 27, 28, 29, 30, 31, 32, 33, 34, 35, 36, 37, 38, 39, 40, 41, 42, 43, 44, 45, 46, 47, 48, 49, 57, 58, 59, 60, 61, 62, 63, 64, 65, 66, 67, 68, 69, 70, 71, 72, 73, 74, 75, 76, 77, 78] (by decide +kernel) (by decide +kernel)
set_option maxRecDepth 20000 in
theorem gX10_image_X9_becomes : GoodIn wsX10_image (wsV RX10 254 RX9 yX9_becomes wsX9_becomes) := goodIn_app (goodIn_of _ (by decide +kernel)) ggX10_image_X9_becomes
theorem dX10_image_0 : decode cX10_image 0 = .ok (.aload_n 0, 1) := by decide +kernel
theorem dX10_image_1 : decode cX10_image 1 = .ok (.getfield 18, 3) := by decide +kernel
theorem dX10_image_4 : decode cX10_image 4 = .ok (.aload_n 0, 1) := by decide +kernel
theorem dX10_image_5 : decode cX10_image 5 = .ok (.getfield 12, 3) := by decide +kernel
theorem dX10_image_8 : decode cX10_image 8 = .ok (.invokevirtual 254, 3) := by decide +kernel
theorem dX10_image_11 : decode cX10_image 11 = .ok (.aload_n 0, 1) := by decide +kernel
theorem dX10_image_12 : decode cX10_image 12 = .ok (.iconst 1, 1) := by decide +kernel
theorem dX10_image_13 : decode cX10_image 13 = .ok (.putfield 49, 3) := by decide +kernel
theorem dX10_image_16 : decode cX10_image 16 = .ok (.aload_n 0, 1) := by decide +kernel
theorem dX10_image_17 : decode cX10_image 17 = .ok (.getfield 12, 3) := by decide +kernel
theorem dX10_image_20 : decode cX10_image 20 = .ok (.getfield 81, 3) := by decide +kernel
theorem dX10_image_23 : decode cX10_image 23 = .ok (.ireturn, 1) := by decide +kernel
set_option maxRecDepth 20000 in
theorem ggX10_undo_X9_becomes : GoodIn wsX10_undo wsX9_becomes := goodIn_r _ [9, 10, 11, 12, 13, 14, 15, 16, 17, 18, 19, 20, 21, 22, 23, 24, 25, 26, 27, 28, 29, 30, 31, 32, 33, 34, 35, 36, 37, 38, 39, 40, 41, 42, 43, 44, 45, 46, 47, 48, 49, 57, 58, 59, 60, 61, 62, 63, 64, 65, 66, 67, 68, 69, 70, 71, 72, 73, 74, 75, 76, 77, 78] (by decide +kernel) (by decide +kernel)
set_option maxRecDepth 20000 in
theorem gX10_undo_X9_becomes : GoodIn wsX10_undo (wsV RX10 254 RX9 yX9_becomes wsX9_becomes) := goodIn_app (goodIn_of _ (by decide +kernel)) ggX10_undo_X9_becomes
theorem dX10_undo_0 : decode cX10_undo 0 = .ok (.aload_n 0, 1) := by decide +kernel
theorem dX10_undo_1 : decode cX10_undo 1 = .ok (.getfield 49, 3) := by decide +kernel
theorem dX10_undo_4 : decode cX10_undo 4 = .ok (.ifCond .ne 6, 3) := by decide +kernel
theorem dX10_undo_7 : decode cX10_undo 7 = .ok (.bipush (-3), 2) := by decide +kernel
theorem dX10_undo_9 : decode cX10_undo 9 = .ok (.ireturn, 1) := by decide +kernel
theorem dX10_undo_10 : decode cX10_undo 10 = .ok (.aload_n 0, 1) := by decide +kernel
theorem dX10_undo_11 : decode cX10_undo 11 = .ok (.getfield 12, 3) := by decide +kernel
theorem dX10_undo_14 : decode cX10_undo 14 = .ok (.aload_n 0, 1) := by decide +kernel
theorem dX10_undo_15 : decode cX10_undo 15 = .ok (.getfield 18, 3) := by decide +kernel
theorem dX10_undo_18 : decode cX10_undo 18 = .ok (.invokevirtual 254, 3) := by decide +kernel
theorem dX10_undo_21 : decode cX10_undo 21 = .ok (.aload_n 0, 1) := by decide +kernel
theorem dX10_undo_22 : decode cX10_undo 22 = .ok (.getfield 12, 3) := by decide +kernel
theorem dX10_undo_25 : decode cX10_undo 25 = .ok (.getfield 81, 3) := by decide +kernel
theorem dX10_undo_28 : decode cX10_undo 28 = .ok (.ireturn, 1) := by decide +kernel
theorem dX10_count_0 : decode cX10_count 0 = .ok (.iload_n 1, 1) := by decide +kernel
theorem dX10_count_1 : decode cX10_count 1 = .ok (.tableswitch 78 0 4 #[35, 46, 54, 62, 70], 35) := by decide +kernel
theorem dX10_count_36 : decode cX10_count 36 = .ok (.aload_n 0, 1) := by decide +kernel
theorem dX10_count_37 : decode cX10_count 37 = .ok (.getfield 12, 3) := by decide +kernel
theorem dX10_count_40 : decode cX10_count 40 = .ok (.getfield 65, 3) := by decide +kernel
theorem dX10_count_43 : decode cX10_count 43 = .ok (.getfield 78, 3) := by decide +kernel
theorem dX10_count_46 : decode cX10_count 46 = .ok (.ireturn, 1) := by decide +kernel
theorem dX10_count_47 : decode cX10_count 47 = .ok (.aload_n 0, 1) := by decide +kernel
theorem dX10_count_48 : decode cX10_count 48 = .ok (.getfield 12, 3) := by decide +kernel
theorem dX10_count_51 : decode cX10_count 51 = .ok (.getfield 81, 3) := by decide +kernel
theorem dX10_count_54 : decode cX10_count 54 = .ok (.ireturn, 1) := by decide +kernel
theorem dX10_count_55 : decode cX10_count 55 = .ok (.aload_n 0, 1) := by decide +kernel
theorem dX10_count_56 : decode cX10_count 56 = .ok (.getfield 12, 3) := by decide +kernel
theorem dX10_count_59 : decode cX10_count 59 = .ok (.getfield 169, 3) := by decide +kernel
theorem dX10_count_62 : decode cX10_count 62 = .ok (.ireturn, 1) := by decide +kernel
theorem dX10_count_63 : decode cX10_count 63 = .ok (.aload_n 0, 1) := by decide +kernel
theorem dX10_count_64 : decode cX10_count 64 = .ok (.getfield 12, 3) := by decide +kernel
theorem dX10_count_67 : decode cX10_count 67 = .ok (.getfield 53, 3) := by decide +kernel
theorem dX10_count_70 : decode cX10_count 70 = .ok (.ireturn, 1) := by decide +kernel
theorem dX10_count_71 : decode cX10_count 71 = .ok (.aload_n 0, 1) := by decide +kernel
theorem dX10_count_72 : decode cX10_count 72 = .ok (.getfield 45, 3) := by decide +kernel
theorem dX10_count_75 : decode cX10_count 75 = .ok (.getfield 246, 3) := by decide +kernel
theorem dX10_count_78 : decode cX10_count 78 = .ok (.ireturn, 1) := by decide +kernel
theorem dX10_count_79 : decode cX10_count 79 = .ok (.iconst (-1), 1) := by decide +kernel
theorem dX10_count_80 : decode cX10_count 80 = .ok (.ireturn, 1) := by decide +kernel
theorem dX10_isRiver_0 : decode cX10_isRiver 0 = .ok (.aload_n 0, 1) := by decide +kernel
theorem dX10_isRiver_1 : decode cX10_isRiver 1 = .ok (.getfield 12, 3) := by decide +kernel
theorem dX10_isRiver_4 : decode cX10_isRiver 4 = .ok (.getfield 65, 3) := by decide +kernel
theorem dX10_isRiver_7 : decode cX10_isRiver 7 = .ok (.getfield 78, 3) := by decide +kernel
theorem dX10_isRiver_10 : decode cX10_isRiver 10 = .ok (.ifCond .le 7, 3) := by decide +kernel
theorem dX10_isRiver_13 : decode cX10_isRiver 13 = .ok (.iconst 1, 1) := by decide +kernel
theorem dX10_isRiver_14 : decode cX10_isRiver 14 = .ok (.goto 4, 3) := by decide +kernel
theorem dX10_isRiver_17 : decode cX10_isRiver 17 = .ok (.iconst 0, 1) := by decide +kernel
theorem dX10_isRiver_18 : decode cX10_isRiver 18 = .ok (.ireturn, 1) := by decide +kernel
theorem dX10_isReach_0 : decode cX10_isReach 0 = .ok (.iload_n 1, 1) := by decide +kernel
theorem dX10_isReach_1 : decode cX10_isReach 1 = .ok (.ifCond .lt 26, 3) := by decide +kernel
theorem dX10_isReach_4 : decode cX10_isReach 4 = .ok (.iload_n 1, 1) := by decide +kernel
theorem dX10_isReach_5 : decode cX10_isReach 5 = .ok (.aload_n 0, 1) := by decide +kernel
theorem dX10_isReach_6 : decode cX10_isReach 6 = .ok (.getfield 12, 3) := by decide +kernel
theorem dX10_isReach_9 : decode cX10_isReach 9 = .ok (.getfield 65, 3) := by decide +kernel
theorem dX10_isReach_12 : decode cX10_isReach 12 = .ok (.getfield 78, 3) := by decide +kernel
theorem dX10_isReach_15 : decode cX10_isReach 15 = .ok (.if_icmp .ge 12, 3) := by decide +kernel
theorem dX10_isReach_18 : decode cX10_isReach 18 = .ok (.iload_n 1, 1) := by decide +kernel
theorem dX10_isReach_19 : decode cX10_isReach 19 = .ok (.iconst 3, 1) := by decide +kernel
theorem dX10_isReach_20 : decode cX10_isReach 20 = .ok (.if_icmp .ge 7, 3) := by decide +kernel
theorem dX10_isReach_23 : decode cX10_isReach 23 = .ok (.iconst 1, 1) := by decide +kernel
theorem dX10_isReach_24 : decode cX10_isReach 24 = .ok (.goto 4, 3) := by decide +kernel
theorem dX10_isReach_27 : decode cX10_isReach 27 = .ok (.iconst 0, 1) := by decide +kernel
theorem dX10_isReach_28 : decode cX10_isReach 28 = .ok (.ireturn, 1) := by decide +kernel
theorem dX10_lowestOf_0 : decode cX10_lowestOf 0 = .ok (.iconst 0, 1) := by decide +kernel
theorem dX10_lowestOf_1 : decode cX10_lowestOf 1 = .ok (.istore_n 1, 1) := by decide +kernel
theorem dX10_lowestOf_2 : decode cX10_lowestOf 2 = .ok (.iload_n 1, 1) := by decide +kernel
theorem dX10_lowestOf_3 : decode cX10_lowestOf 3 = .ok (.bipush 32, 2) := by decide +kernel
theorem dX10_lowestOf_5 : decode cX10_lowestOf 5 = .ok (.if_icmp .ge 20, 3) := by decide +kernel
theorem dX10_lowestOf_8 : decode cX10_lowestOf 8 = .ok (.iload_n 0, 1) := by decide +kernel
theorem dX10_lowestOf_9 : decode cX10_lowestOf 9 = .ok (.iload_n 1, 1) := by decide +kernel
theorem dX10_lowestOf_10 : decode cX10_lowestOf 10 = .ok (.ishr, 1) := by decide +kernel
theorem dX10_lowestOf_11 : decode cX10_lowestOf 11 = .ok (.iconst 1, 1) := by decide +kernel
theorem dX10_lowestOf_12 : decode cX10_lowestOf 12 = .ok (.iand, 1) := by decide +kernel
theorem dX10_lowestOf_13 : decode cX10_lowestOf 13 = .ok (.iconst 1, 1) := by decide +kernel
theorem dX10_lowestOf_14 : decode cX10_lowestOf 14 = .ok (.if_icmp .ne 5, 3) := by decide +kernel
theorem dX10_lowestOf_17 : decode cX10_lowestOf 17 = .ok (.iload_n 1, 1) := by decide +kernel
theorem dX10_lowestOf_18 : decode cX10_lowestOf 18 = .ok (.ireturn, 1) := by decide +kernel
theorem dX10_lowestOf_19 : decode cX10_lowestOf 19 = .ok (.iinc 1 1, 3) := by decide +kernel
theorem dX10_lowestOf_22 : decode cX10_lowestOf 22 = .ok (.goto (-20), 3) := by decide +kernel
theorem dX10_lowestOf_25 : decode cX10_lowestOf 25 = .ok (.iconst 0, 1) := by decide +kernel
theorem dX10_lowestOf_26 : decode cX10_lowestOf 26 = .ok (.ireturn, 1) := by decide +kernel
theorem dX10_powerOfTen_0 : decode cX10_powerOfTen 0 = .ok (.lconst 1, 1) := by decide +kernel
theorem dX10_powerOfTen_1 : decode cX10_powerOfTen 1 = .ok (.lstore_n 1, 1) := by decide +kernel
theorem dX10_powerOfTen_2 : decode cX10_powerOfTen 2 = .ok (.iconst 0, 1) := by decide +kernel
theorem dX10_powerOfTen_3 : decode cX10_powerOfTen 3 = .ok (.istore_n 3, 1) := by decide +kernel
theorem dX10_powerOfTen_4 : decode cX10_powerOfTen 4 = .ok (.iload_n 3, 1) := by decide +kernel
theorem dX10_powerOfTen_5 : decode cX10_powerOfTen 5 = .ok (.iload_n 0, 1) := by decide +kernel
theorem dX10_powerOfTen_6 : decode cX10_powerOfTen 6 = .ok (.if_icmp .ge 15, 3) := by decide +kernel
theorem dX10_powerOfTen_9 : decode cX10_powerOfTen 9 = .ok (.lload_n 1, 1) := by decide +kernel
theorem dX10_powerOfTen_10 : decode cX10_powerOfTen 10 = .ok (.ldc2_w 256, 3) := by decide +kernel
theorem dX10_powerOfTen_13 : decode cX10_powerOfTen 13 = .ok (.lmul, 1) := by decide +kernel
theorem dX10_powerOfTen_14 : decode cX10_powerOfTen 14 = .ok (.lstore_n 1, 1) := by decide +kernel
theorem dX10_powerOfTen_15 : decode cX10_powerOfTen 15 = .ok (.iinc 3 1, 3) := by decide +kernel
theorem dX10_powerOfTen_18 : decode cX10_powerOfTen 18 = .ok (.goto (-14), 3) := by decide +kernel
theorem dX10_powerOfTen_21 : decode cX10_powerOfTen 21 = .ok (.lload_n 1, 1) := by decide +kernel
theorem dX10_powerOfTen_22 : decode cX10_powerOfTen 22 = .ok (.lreturn, 1) := by decide +kernel
theorem dX10_commonDivisor_0 : decode cX10_commonDivisor 0 = .ok (.lload_n 0, 1) := by decide +kernel
theorem dX10_commonDivisor_1 : decode cX10_commonDivisor 1 = .ok (.lstore 4, 2) := by decide +kernel
theorem dX10_commonDivisor_3 : decode cX10_commonDivisor 3 = .ok (.lload_n 2, 1) := by decide +kernel
theorem dX10_commonDivisor_4 : decode cX10_commonDivisor 4 = .ok (.lstore 6, 2) := by decide +kernel
theorem dX10_commonDivisor_6 : decode cX10_commonDivisor 6 = .ok (.iconst 0, 1) := by decide +kernel
theorem dX10_commonDivisor_7 : decode cX10_commonDivisor 7 = .ok (.istore 8, 2) := by decide +kernel
theorem dX10_commonDivisor_9 : decode cX10_commonDivisor 9 = .ok (.iload 8, 2) := by decide +kernel
theorem dX10_commonDivisor_11 : decode cX10_commonDivisor 11 = .ok (.bipush 100, 2) := by decide +kernel
theorem dX10_commonDivisor_13 : decode cX10_commonDivisor 13 = .ok (.if_icmp .ge 31, 3) := by decide +kernel
theorem dX10_commonDivisor_16 : decode cX10_commonDivisor 16 = .ok (.lload 6, 2) := by decide +kernel
theorem dX10_commonDivisor_18 : decode cX10_commonDivisor 18 = .ok (.lconst 0, 1) := by decide +kernel
theorem dX10_commonDivisor_19 : decode cX10_commonDivisor 19 = .ok (.lcmp, 1) := by decide +kernel
theorem dX10_commonDivisor_20 : decode cX10_commonDivisor 20 = .ok (.ifCond .eq 24, 3) := by decide +kernel
theorem dX10_commonDivisor_23 : decode cX10_commonDivisor 23 = .ok (.lload 4, 2) := by decide +kernel
theorem dX10_commonDivisor_25 : decode cX10_commonDivisor 25 = .ok (.lload 6, 2) := by decide +kernel
theorem dX10_commonDivisor_27 : decode cX10_commonDivisor 27 = .ok (.lrem, 1) := by decide +kernel
theorem dX10_commonDivisor_28 : decode cX10_commonDivisor 28 = .ok (.lstore 9, 2) := by decide +kernel
theorem dX10_commonDivisor_30 : decode cX10_commonDivisor 30 = .ok (.lload 6, 2) := by decide +kernel
theorem dX10_commonDivisor_32 : decode cX10_commonDivisor 32 = .ok (.lstore 4, 2) := by decide +kernel
theorem dX10_commonDivisor_34 : decode cX10_commonDivisor 34 = .ok (.lload 9, 2) := by decide +kernel
theorem dX10_commonDivisor_36 : decode cX10_commonDivisor 36 = .ok (.lstore 6, 2) := by decide +kernel
theorem dX10_commonDivisor_38 : decode cX10_commonDivisor 38 = .ok (.iinc 8 1, 3) := by decide +kernel
theorem dX10_commonDivisor_41 : decode cX10_commonDivisor 41 = .ok (.goto (-32), 3) := by decide +kernel
theorem dX10_commonDivisor_44 : decode cX10_commonDivisor 44 = .ok (.lload 4, 2) := by decide +kernel
theorem dX10_commonDivisor_46 : decode cX10_commonDivisor 46 = .ok (.lreturn, 1) := by decide +kernel
theorem dX10_copyRow_0 : decode cX10_copyRow 0 = .ok (.aload_n 0, 1) := by decide +kernel
theorem dX10_copyRow_1 : decode cX10_copyRow 1 = .ok (.iconst 0, 1) := by decide +kernel
theorem dX10_copyRow_2 : decode cX10_copyRow 2 = .ok (.aload_n 1, 1) := by decide +kernel
theorem dX10_copyRow_3 : decode cX10_copyRow 3 = .ok (.iconst 0, 1) := by decide +kernel
theorem dX10_copyRow_4 : decode cX10_copyRow 4 = .ok (.aload_n 0, 1) := by decide +kernel
theorem dX10_copyRow_5 : decode cX10_copyRow 5 = .ok (.arraylength, 1) := by decide +kernel
theorem dX10_copyRow_6 : decode cX10_copyRow 6 = .ok (.aload_n 1, 1) := by decide +kernel
theorem dX10_copyRow_7 : decode cX10_copyRow 7 = .ok (.arraylength, 1) := by decide +kernel
theorem dX10_copyRow_8 : decode cX10_copyRow 8 = .ok (.invokestatic 258, 3) := by decide +kernel
theorem dX10_copyRow_11 : decode cX10_copyRow 11 = .ok (.invokestatic 264, 3) := by decide +kernel
theorem dX10_copyRow_14 : decode cX10_copyRow 14 = .ok (.return_, 1) := by decide +kernel
theorem dX11_init_0 : decode cX11_init 0 = .ok (.aload_n 0, 1) := by decide +kernel
theorem dX11_init_1 : decode cX11_init 1 = .ok (.invokespecial 3, 3) := by decide +kernel
theorem dX11_init_4 : decode cX11_init 4 = .ok (.aload_n 0, 1) := by decide +kernel
theorem dX11_init_5 : decode cX11_init 5 = .ok (.sipush 1454, 3) := by decide +kernel
theorem dX11_init_8 : decode cX11_init 8 = .ok (.newarray .int, 2) := by decide +kernel
theorem dX11_init_10 : decode cX11_init 10 = .ok (.putfield 9, 3) := by decide +kernel
theorem dX11_init_13 : decode cX11_init 13 = .ok (.aload_n 0, 1) := by decide +kernel
theorem dX11_init_14 : decode cX11_init 14 = .ok (.sipush 1454, 3) := by decide +kernel
theorem dX11_init_17 : decode cX11_init 17 = .ok (.newarray .int, 2) := by decide +kernel
theorem dX11_init_19 : decode cX11_init 19 = .ok (.putfield 15, 3) := by decide +kernel
theorem dX11_init_22 : decode cX11_init 22 = .ok (.aload_n 0, 1) := by decide +kernel
theorem dX11_init_23 : decode cX11_init 23 = .ok (.iconst 3, 1) := by decide +kernel
theorem dX11_init_24 : decode cX11_init 24 = .ok (.newarray .int, 2) := by decide +kernel
theorem dX11_init_26 : decode cX11_init 26 = .ok (.putfield 18, 3) := by decide +kernel
theorem dX11_init_29 : decode cX11_init 29 = .ok (.aload_n 0, 1) := by decide +kernel
theorem dX11_init_30 : decode cX11_init 30 = .ok (.iconst 3, 1) := by decide +kernel
theorem dX11_init_31 : decode cX11_init 31 = .ok (.newarray .int, 2) := by decide +kernel
theorem dX11_init_33 : decode cX11_init 33 = .ok (.putfield 21, 3) := by decide +kernel
theorem dX11_init_36 : decode cX11_init 36 = .ok (.aload_n 0, 1) := by decide +kernel
theorem dX11_init_37 : decode cX11_init 37 = .ok (.iconst 3, 1) := by decide +kernel
theorem dX11_init_38 : decode cX11_init 38 = .ok (.newarray .int, 2) := by decide +kernel
theorem dX11_init_40 : decode cX11_init 40 = .ok (.putfield 24, 3) := by decide +kernel
theorem dX11_init_43 : decode cX11_init 43 = .ok (.aload_n 0, 1) := by decide +kernel
theorem dX11_init_44 : decode cX11_init 44 = .ok (.iconst 3, 1) := by decide +kernel
theorem dX11_init_45 : decode cX11_init 45 = .ok (.newarray .int, 2) := by decide +kernel
theorem dX11_init_47 : decode cX11_init 47 = .ok (.putfield 27, 3) := by decide +kernel
theorem dX11_init_50 : decode cX11_init 50 = .ok (.aload_n 0, 1) := by decide +kernel
theorem dX11_init_51 : decode cX11_init 51 = .ok (.iconst 3, 1) := by decide +kernel
theorem dX11_init_52 : decode cX11_init 52 = .ok (.newarray .int, 2) := by decide +kernel
theorem dX11_init_54 : decode cX11_init 54 = .ok (.putfield 30, 3) := by decide +kernel
theorem dX11_init_57 : decode cX11_init 57 = .ok (.aload_n 0, 1) := by decide +kernel
theorem dX11_init_58 : decode cX11_init 58 = .ok (.iconst 3, 1) := by decide +kernel
theorem dX11_init_59 : decode cX11_init 59 = .ok (.newarray .int, 2) := by decide +kernel
theorem dX11_init_61 : decode cX11_init 61 = .ok (.putfield 33, 3) := by decide +kernel
theorem dX11_init_64 : decode cX11_init 64 = .ok (.aload_n 0, 1) := by decide +kernel
theorem dX11_init_65 : decode cX11_init 65 = .ok (.iconst 3, 1) := by decide +kernel
theorem dX11_init_66 : decode cX11_init 66 = .ok (.newarray .int, 2) := by decide +kernel
theorem dX11_init_68 : decode cX11_init 68 = .ok (.putfield 36, 3) := by decide +kernel
theorem dX11_init_71 : decode cX11_init 71 = .ok (.aload_n 0, 1) := by decide +kernel
theorem dX11_init_72 : decode cX11_init 72 = .ok (.iconst (-1), 1) := by decide +kernel
theorem dX11_init_73 : decode cX11_init 73 = .ok (.putfield 39, 3) := by decide +kernel
theorem dX11_init_76 : decode cX11_init 76 = .ok (.aload_n 0, 1) := by decide +kernel
theorem dX11_init_77 : decode cX11_init 77 = .ok (.bipush 64, 2) := by decide +kernel
theorem dX11_init_79 : decode cX11_init 79 = .ok (.newarray .boolean, 2) := by decide +kernel
theorem dX11_init_81 : decode cX11_init 81 = .ok (.putfield 43, 3) := by decide +kernel
theorem dX11_init_84 : decode cX11_init 84 = .ok (.aload_n 0, 1) := by decide +kernel
theorem dX11_init_85 : decode cX11_init 85 = .ok (.iconst 3, 1) := by decide +kernel
theorem dX11_init_86 : decode cX11_init 86 = .ok (.newarray .int, 2) := by decide +kernel
theorem dX11_init_88 : decode cX11_init 88 = .ok (.putfield 47, 3) := by decide +kernel
theorem dX11_init_91 : decode cX11_init 91 = .ok (.aload_n 0, 1) := by decide +kernel
theorem dX11_init_92 : decode cX11_init 92 = .ok (.iconst 3, 1) := by decide +kernel
theorem dX11_init_93 : decode cX11_init 93 = .ok (.newarray .int, 2) := by decide +kernel
theorem dX11_init_95 : decode cX11_init 95 = .ok (.putfield 50, 3) := by decide +kernel
theorem dX11_init_98 : decode cX11_init 98 = .ok (.aload_n 0, 1) := by decide +kernel
theorem dX11_init_99 : decode cX11_init 99 = .ok (.bipush 20, 2) := by decide +kernel
theorem dX11_init_101 : decode cX11_init 101 = .ok (.newarray .int, 2) := by decide +kernel
theorem dX11_init_103 : decode cX11_init 103 = .ok (.putfield 53, 3) := by decide +kernel
theorem dX11_init_106 : decode cX11_init 106 = .ok (.return_, 1) := by decide +kernel
theorem dX11_in_0 : decode cX11_in 0 = .ok (.iload_n 0, 1) := by decide +kernel
theorem dX11_in_1 : decode cX11_in 1 = .ok (.iload_n 1, 1) := by decide +kernel
theorem dX11_in_2 : decode cX11_in 2 = .ok (.if_icmp .lt 12, 3) := by decide +kernel
theorem dX11_in_5 : decode cX11_in 5 = .ok (.iload_n 0, 1) := by decide +kernel
theorem dX11_in_6 : decode cX11_in 6 = .ok (.iload_n 2, 1) := by decide +kernel
theorem dX11_in_7 : decode cX11_in 7 = .ok (.if_icmp .gt 7, 3) := by decide +kernel
theorem dX11_in_10 : decode cX11_in 10 = .ok (.iconst 1, 1) := by decide +kernel
theorem dX11_in_11 : decode cX11_in 11 = .ok (.goto 4, 3) := by decide +kernel
theorem dX11_in_14 : decode cX11_in 14 = .ok (.iconst 0, 1) := by decide +kernel
theorem dX11_in_15 : decode cX11_in 15 = .ok (.ireturn, 1) := by decide +kernel
set_option maxRecDepth 20000 in
theorem ggX11_isReach_X11_in : GoodIn wsX11_isReach wsX11_in := goodIn_r _ [5] (by decide +kernel) (by decide +kernel)
set_option maxRecDepth 20000 in
theorem gX11_isReach_X11_in : GoodIn wsX11_isReach (va_wsS RX11 59 yX11_in wsX11_in) := goodIn_app (goodIn_of _ (by decide +kernel)) ggX11_isReach_X11_in
theorem dX11_isReach_0 : decode cX11_isReach 0 = .ok (.iload_n 1, 1) := by decide +kernel
theorem dX11_isReach_1 : decode cX11_isReach 1 = .ok (.iconst 0, 1) := by decide +kernel
theorem dX11_isReach_2 : decode cX11_isReach 2 = .ok (.aload_n 0, 1) := by decide +kernel
theorem dX11_isReach_3 : decode cX11_isReach 3 = .ok (.getfield 9, 3) := by decide +kernel
theorem dX11_isReach_6 : decode cX11_isReach 6 = .ok (.iconst 0, 1) := by decide +kernel
theorem dX11_isReach_7 : decode cX11_isReach 7 = .ok (.iaload, 1) := by decide +kernel
theorem dX11_isReach_8 : decode cX11_isReach 8 = .ok (.iconst 1, 1) := by decide +kernel
theorem dX11_isReach_9 : decode cX11_isReach 9 = .ok (.isub, 1) := by decide +kernel
theorem dX11_isReach_10 : decode cX11_isReach 10 = .ok (.invokestatic 59, 3) := by decide +kernel
theorem dX11_isReach_13 : decode cX11_isReach 13 = .ok (.ireturn, 1) := by decide +kernel
set_option maxRecDepth 20000 in
theorem ggX11_isCard_X11_in : GoodIn wsX11_isCard wsX11_in := goodIn_r _ [5] (by decide +kernel) (by decide +kernel)
set_option maxRecDepth 20000 in
theorem gX11_isCard_X11_in : GoodIn wsX11_isCard (va_wsS RX11 59 yX11_in wsX11_in) := goodIn_app (goodIn_of _ (by decide +kernel)) ggX11_isCard_X11_in
theorem dX11_isCard_0 : decode cX11_isCard 0 = .ok (.iload_n 1, 1) := by decide +kernel
theorem dX11_isCard_1 : decode cX11_isCard 1 = .ok (.iconst 0, 1) := by decide +kernel
theorem dX11_isCard_2 : decode cX11_isCard 2 = .ok (.aload_n 0, 1) := by decide +kernel
theorem dX11_isCard_3 : decode cX11_isCard 3 = .ok (.getfield 9, 3) := by decide +kernel
theorem dX11_isCard_6 : decode cX11_isCard 6 = .ok (.iconst 5, 1) := by decide +kernel
theorem dX11_isCard_7 : decode cX11_isCard 7 = .ok (.iaload, 1) := by decide +kernel
theorem dX11_isCard_8 : decode cX11_isCard 8 = .ok (.iconst 1, 1) := by decide +kernel
theorem dX11_isCard_9 : decode cX11_isCard 9 = .ok (.isub, 1) := by decide +kernel
theorem dX11_isCard_10 : decode cX11_isCard 10 = .ok (.invokestatic 59, 3) := by decide +kernel
theorem dX11_isCard_13 : decode cX11_isCard 13 = .ok (.ireturn, 1) := by decide +kernel
theorem dX11_isRiver_0 : decode cX11_isRiver 0 = .ok (.aload_n 0, 1) := by decide +kernel
theorem dX11_isRiver_1 : decode cX11_isRiver 1 = .ok (.getfield 9, 3) := by decide +kernel
theorem dX11_isRiver_4 : decode cX11_isRiver 4 = .ok (.iconst 0, 1) := by decide +kernel
theorem dX11_isRiver_5 : decode cX11_isRiver 5 = .ok (.iaload, 1) := by decide +kernel
theorem dX11_isRiver_6 : decode cX11_isRiver 6 = .ok (.ifCond .le 7, 3) := by decide +kernel
theorem dX11_isRiver_9 : decode cX11_isRiver 9 = .ok (.iconst 1, 1) := by decide +kernel
theorem dX11_isRiver_10 : decode cX11_isRiver 10 = .ok (.goto 4, 3) := by decide +kernel
theorem dX11_isRiver_13 : decode cX11_isRiver 13 = .ok (.iconst 0, 1) := by decide +kernel
theorem dX11_isRiver_14 : decode cX11_isRiver 14 = .ok (.ireturn, 1) := by decide +kernel
set_option maxRecDepth 20000 in
theorem ggX11_feed_X11_in : GoodIn wsX11_feed wsX11_in := goodIn_r _ [6] (by decide +kernel) (by decide +kernel)
set_option maxRecDepth 20000 in
theorem gX11_feed_X11_in : GoodIn wsX11_feed (va_wsS RX11 59 yX11_in wsX11_in) := goodIn_app (goodIn_of _ (by decide +kernel)) ggX11_feed_X11_in
theorem dX11_feed_0 : decode cX11_feed 0 = .ok (.iload_n 3, 1) := by decide +kernel
theorem dX11_feed_1 : decode cX11_feed 1 = .ok (.iconst 1, 1) := by decide +kernel
theorem dX11_feed_2 : decode cX11_feed 2 = .ok (.bipush 8, 2) := by decide +kernel
theorem dX11_feed_4 : decode cX11_feed 4 = .ok (.invokestatic 59, 3) := by decide +kernel
theorem dX11_feed_7 : decode cX11_feed 7 = .ok (.ifCond .ne 6, 3) := by decide +kernel
theorem dX11_feed_10 : decode cX11_feed 10 = .ok (.bipush (-2), 2) := by decide +kernel
theorem dX11_feed_12 : decode cX11_feed 12 = .ok (.ireturn, 1) := by decide +kernel
theorem dX11_feed_13 : decode cX11_feed 13 = .ok (.aload_n 0, 1) := by decide +kernel
theorem dX11_feed_14 : decode cX11_feed 14 = .ok (.getfield 9, 3) := by decide +kernel
theorem dX11_feed_17 : decode cX11_feed 17 = .ok (.bipush 7, 2) := by decide +kernel
theorem dX11_feed_19 : decode cX11_feed 19 = .ok (.iaload, 1) := by decide +kernel
theorem dX11_feed_20 : decode cX11_feed 20 = .ok (.iload_n 3, 1) := by decide +kernel
theorem dX11_feed_21 : decode cX11_feed 21 = .ok (.iadd, 1) := by decide +kernel
theorem dX11_feed_22 : decode cX11_feed 22 = .ok (.bipush 120, 2) := by decide +kernel
theorem dX11_feed_24 : decode cX11_feed 24 = .ok (.if_icmp .le 6, 3) := by decide +kernel
theorem dX11_feed_27 : decode cX11_feed 27 = .ok (.bipush (-4), 2) := by decide +kernel
theorem dX11_feed_29 : decode cX11_feed 29 = .ok (.ireturn, 1) := by decide +kernel
theorem dX11_feed_30 : decode cX11_feed 30 = .ok (.iload_n 3, 1) := by decide +kernel
theorem dX11_feed_31 : decode cX11_feed 31 = .ok (.iconst 1, 1) := by decide +kernel
theorem dX11_feed_32 : decode cX11_feed 32 = .ok (.isub, 1) := by decide +kernel
theorem dX11_feed_33 : decode cX11_feed 33 = .ok (.istore 4, 2) := by decide +kernel
theorem dX11_feed_35 : decode cX11_feed 35 = .ok (.iload 4, 2) := by decide +kernel
theorem dX11_feed_37 : decode cX11_feed 37 = .ok (.ifCond .lt 47, 3) := by decide +kernel
theorem dX11_feed_40 : decode cX11_feed 40 = .ok (.aload_n 0, 1) := by decide +kernel
theorem dX11_feed_41 : decode cX11_feed 41 = .ok (.getfield 9, 3) := by decide +kernel
theorem dX11_feed_44 : decode cX11_feed 44 = .ok (.bipush 10, 2) := by decide +kernel
theorem dX11_feed_46 : decode cX11_feed 46 = .ok (.aload_n 0, 1) := by decide +kernel
theorem dX11_feed_47 : decode cX11_feed 47 = .ok (.getfield 9, 3) := by decide +kernel
theorem dX11_feed_50 : decode cX11_feed 50 = .ok (.bipush 7, 2) := by decide +kernel
theorem dX11_feed_52 : decode cX11_feed 52 = .ok (.iaload, 1) := by decide +kernel
theorem dX11_feed_53 : decode cX11_feed 53 = .ok (.iadd, 1) := by decide +kernel
theorem dX11_feed_54 : decode cX11_feed 54 = .ok (.lload_n 1, 1) := by decide +kernel
theorem dX11_feed_55 : decode cX11_feed 55 = .ok (.bipush 8, 2) := by decide +kernel
theorem dX11_feed_57 : decode cX11_feed 57 = .ok (.iload 4, 2) := by decide +kernel
theorem dX11_feed_59 : decode cX11_feed 59 = .ok (.imul, 1) := by decide +kernel
theorem dX11_feed_60 : decode cX11_feed 60 = .ok (.lshr, 1) := by decide +kernel
theorem dX11_feed_61 : decode cX11_feed 61 = .ok (.ldc2_w 63, 3) := by decide +kernel
theorem dX11_feed_64 : decode cX11_feed 64 = .ok (.land, 1) := by decide +kernel
theorem dX11_feed_65 : decode cX11_feed 65 = .ok (.l2i, 1) := by decide +kernel
theorem dX11_feed_66 : decode cX11_feed 66 = .ok (.iastore, 1) := by decide +kernel
theorem dX11_feed_67 : decode cX11_feed 67 = .ok (.aload_n 0, 1) := by decide +kernel
theorem dX11_feed_68 : decode cX11_feed 68 = .ok (.getfield 9, 3) := by decide +kernel
theorem dX11_feed_71 : decode cX11_feed 71 = .ok (.bipush 7, 2) := by decide +kernel
theorem dX11_feed_73 : decode cX11_feed 73 = .ok (.dup2, 1) := by decide +kernel
theorem dX11_feed_74 : decode cX11_feed 74 = .ok (.iaload, 1) := by decide +kernel
theorem dX11_feed_75 : decode cX11_feed 75 = .ok (.iconst 1, 1) := by decide +kernel
theorem dX11_feed_76 : decode cX11_feed 76 = .ok (.iadd, 1) := by decide +kernel
theorem dX11_feed_77 : decode cX11_feed 77 = .ok (.iastore, 1) := by decide +kernel
theorem dX11_feed_78 : decode cX11_feed 78 = .ok (.iinc 4 (-1), 3) := by decide +kernel
theorem dX11_feed_81 : decode cX11_feed 81 = .ok (.goto (-46), 3) := by decide +kernel
theorem dX11_feed_84 : decode cX11_feed 84 = .ok (.aload_n 0, 1) := by decide +kernel
theorem dX11_feed_85 : decode cX11_feed 85 = .ok (.getfield 9, 3) := by decide +kernel
theorem dX11_feed_88 : decode cX11_feed 88 = .ok (.bipush 7, 2) := by decide +kernel
theorem dX11_feed_90 : decode cX11_feed 90 = .ok (.iaload, 1) := by decide +kernel
theorem dX11_feed_91 : decode cX11_feed 91 = .ok (.ireturn, 1) := by decide +kernel
theorem dX11_starts_0 : decode cX11_starts 0 = .ok (.aload_n 0, 1) := by decide +kernel
theorem dX11_starts_1 : decode cX11_starts 1 = .ok (.aload_n 0, 1) := by decide +kernel
theorem dX11_starts_2 : decode cX11_starts 2 = .ok (.getfield 9, 3) := by decide +kernel
theorem dX11_starts_5 : decode cX11_starts 5 = .ok (.bipush 7, 2) := by decide +kernel
theorem dX11_starts_7 : decode cX11_starts 7 = .ok (.iaload, 1) := by decide +kernel
theorem dX11_starts_8 : decode cX11_starts 8 = .ok (.putfield 65, 3) := by decide +kernel
theorem dX11_starts_11 : decode cX11_starts 11 = .ok (.aload_n 0, 1) := by decide +kernel
theorem dX11_starts_12 : decode cX11_starts 12 = .ok (.getfield 9, 3) := by decide +kernel
theorem dX11_starts_15 : decode cX11_starts 15 = .ok (.bipush 7, 2) := by decide +kernel
theorem dX11_starts_17 : decode cX11_starts 17 = .ok (.iconst 0, 1) := by decide +kernel
theorem dX11_starts_18 : decode cX11_starts 18 = .ok (.iastore, 1) := by decide +kernel
theorem dX11_starts_19 : decode cX11_starts 19 = .ok (.aload_n 0, 1) := by decide +kernel
theorem dX11_starts_20 : decode cX11_starts 20 = .ok (.iconst 0, 1) := by decide +kernel
theorem dX11_starts_21 : decode cX11_starts 21 = .ok (.putfield 68, 3) := by decide +kernel
theorem dX11_starts_24 : decode cX11_starts 24 = .ok (.aload_n 0, 1) := by decide +kernel
theorem dX11_starts_25 : decode cX11_starts 25 = .ok (.iconst 0, 1) := by decide +kernel
theorem dX11_starts_26 : decode cX11_starts 26 = .ok (.putfield 71, 3) := by decide +kernel
theorem dX11_starts_29 : decode cX11_starts 29 = .ok (.aload_n 0, 1) := by decide +kernel
theorem dX11_starts_30 : decode cX11_starts 30 = .ok (.iconst 0, 1) := by decide +kernel
theorem dX11_starts_31 : decode cX11_starts 31 = .ok (.putfield 75, 3) := by decide +kernel
theorem dX11_starts_34 : decode cX11_starts 34 = .ok (.return_, 1) := by decide +kernel
theorem dX11_here_0 : decode cX11_here 0 = .ok (.aload_n 0, 1) := by decide +kernel
theorem dX11_here_1 : decode cX11_here 1 = .ok (.getfield 68, 3) := by decide +kernel
theorem dX11_here_4 : decode cX11_here 4 = .ok (.aload_n 0, 1) := by decide +kernel
theorem dX11_here_5 : decode cX11_here 5 = .ok (.getfield 65, 3) := by decide +kernel
theorem dX11_here_8 : decode cX11_here 8 = .ok (.if_icmp .ge 18, 3) := by decide +kernel
theorem dX11_here_11 : decode cX11_here 11 = .ok (.aload_n 0, 1) := by decide +kernel
theorem dX11_here_12 : decode cX11_here 12 = .ok (.getfield 9, 3) := by decide +kernel
theorem dX11_here_15 : decode cX11_here 15 = .ok (.bipush 10, 2) := by decide +kernel
theorem dX11_here_17 : decode cX11_here 17 = .ok (.aload_n 0, 1) := by decide +kernel
theorem dX11_here_18 : decode cX11_here 18 = .ok (.getfield 68, 3) := by decide +kernel
theorem dX11_here_21 : decode cX11_here 21 = .ok (.iadd, 1) := by decide +kernel
theorem dX11_here_22 : decode cX11_here 22 = .ok (.iaload, 1) := by decide +kernel
theorem dX11_here_23 : decode cX11_here 23 = .ok (.goto 4, 3) := by decide +kernel
theorem dX11_here_26 : decode cX11_here 26 = .ok (.iconst (-1), 1) := by decide +kernel
theorem dX11_here_27 : decode cX11_here 27 = .ok (.ireturn, 1) := by decide +kernel
set_option maxRecDepth 20000 in
theorem ggX11_must_X11_here : GoodIn wsX11_must wsX11_here := goodIn_r _ [7, 2, 8, 9, 10, 11, 12, 13, 14, 15, 16, 17, 18, 19, 20, 21, 22, 23, 24, 25, 26, 27, 28, 29, 30, 31, 32, 33, 34, 35, 36, 37, 38, 39, 40, 41, 42, 43, 44, 45, 46, 47] (by decide +kernel) (by decide +kernel)
set_option maxRecDepth 20000 in
theorem gX11_must_X11_here : GoodIn wsX11_must (wsV RX11 78 RX11 yX11_here wsX11_here) := goodIn_app (goodIn_of _ (by decide +kernel)) ggX11_must_X11_here
theorem dX11_must_0 : decode cX11_must 0 = .ok (.aload_n 0, 1) := by decide +kernel
theorem dX11_must_1 : decode cX11_must 1 = .ok (.aload_n 0, 1) := by decide +kernel
theorem dX11_must_2 : decode cX11_must 2 = .ok (.getfield 71, 3) := by decide +kernel
theorem dX11_must_5 : decode cX11_must 5 = .ok (.ifCond .ne 11, 3) := by decide +kernel
theorem dX11_must_8 : decode cX11_must 8 = .ok (.aload_n 0, 1) := by decide +kernel
theorem dX11_must_9 : decode cX11_must 9 = .ok (.invokevirtual 78, 3) := by decide +kernel
theorem dX11_must_12 : decode cX11_must 12 = .ok (.iload_n 1, 1) := by decide +kernel
theorem dX11_must_13 : decode cX11_must 13 = .ok (.if_icmp .eq 7, 3) := by decide +kernel
theorem dX11_must_16 : decode cX11_must 16 = .ok (.iconst 1, 1) := by decide +kernel
theorem dX11_must_17 : decode cX11_must 17 = .ok (.goto 4, 3) := by decide +kernel
theorem dX11_must_20 : decode cX11_must 20 = .ok (.iconst 0, 1) := by decide +kernel
theorem dX11_must_21 : decode cX11_must 21 = .ok (.putfield 71, 3) := by decide +kernel
theorem dX11_must_24 : decode cX11_must 24 = .ok (.aload_n 0, 1) := by decide +kernel
theorem dX11_must_25 : decode cX11_must 25 = .ok (.dup, 1) := by decide +kernel
theorem dX11_must_26 : decode cX11_must 26 = .ok (.getfield 68, 3) := by decide +kernel
theorem dX11_must_29 : decode cX11_must 29 = .ok (.aload_n 0, 1) := by decide +kernel
theorem dX11_must_30 : decode cX11_must 30 = .ok (.getfield 71, 3) := by decide +kernel
theorem dX11_must_33 : decode cX11_must 33 = .ok (.ifCond .eq 7, 3) := by decide +kernel
theorem dX11_must_36 : decode cX11_must 36 = .ok (.iconst 0, 1) := by decide +kernel
theorem dX11_must_37 : decode cX11_must 37 = .ok (.goto 4, 3) := by decide +kernel
theorem dX11_must_40 : decode cX11_must 40 = .ok (.iconst 1, 1) := by decide +kernel
theorem dX11_must_41 : decode cX11_must 41 = .ok (.iadd, 1) := by decide +kernel
theorem dX11_must_42 : decode cX11_must 42 = .ok (.putfield 68, 3) := by decide +kernel
theorem dX11_must_45 : decode cX11_must 45 = .ok (.return_, 1) := by decide +kernel
set_option maxRecDepth 20000 in
theorem ggX11_spells_J0_length_8abf5 : GoodIn wsX11_spells wsJ0_length_8abf5 := goodIn_r _ [5, 6, 7, 8, 9, 4, 10, 11, 12] (by decide +kernel) (by decide +kernel)
set_option maxRecDepth 20000 in
theorem gX11_spells_J0_length_8abf5 : GoodIn wsX11_spells (wsV RX11 82 RJ0 yJ0_length_8abf5 wsJ0_length_8abf5) := goodIn_app (goodIn_of _ (by decide +kernel)) ggX11_spells_J0_length_8abf5
set_option maxRecDepth 20000 in
theorem ggX11_spells_J0_charAt_5068e : GoodIn wsX11_spells wsJ0_charAt_5068e := goodIn_r _ [16, 6, 17, 18, 19, 4, 20, 11, 12, 21, 22, 23, 24, 25, 26, 27, 28, 29, 30, 31, 32, 33, 34, 35, 36, 37, 38, 39, 40, 41, 42, 43, 44, 45, 46, 47, 48, 49] (by decide +kernel) (by decide +kernel)
set_option maxRecDepth 20000 in
theorem gX11_spells_J0_charAt_5068e : GoodIn wsX11_spells (wsV RX11 87 RJ0 yJ0_charAt_5068e wsJ0_charAt_5068e) := goodIn_app (goodIn_of _ (by decide +kernel)) ggX11_spells_J0_charAt_5068e
set_option maxRecDepth 20000 in
theorem ggX11_spells_X11_must : GoodIn wsX11_spells wsX11_must := goodIn_r _ [54, 55, 56, 57, 58, 59, 53, 60, 61, 62, 63, 64, 65, 66, 67, 68, 69, 70, 71, 72, 73, 74, 75, 76, 77, 78, 79, 80, 81, 82, 83, 84, 85, 86, 87, 88, 89, 90, 91, 92, 93, 94, 95, 96, 97, 98, 99, 100] (by decide +kernel) (by decide +kernel)
set_option maxRecDepth 20000 in
theorem gX11_spells_X11_must : GoodIn wsX11_spells (wsV RX11 91 RX11 yX11_must wsX11_must) := goodIn_app (goodIn_of _ (by decide +kernel)) ggX11_spells_X11_must
theorem dX11_spells_0 : decode cX11_spells 0 = .ok (.iconst 0, 1) := by decide +kernel
theorem dX11_spells_1 : decode cX11_spells 1 = .ok (.istore_n 2, 1) := by decide +kernel
theorem dX11_spells_2 : decode cX11_spells 2 = .ok (.iload_n 2, 1) := by decide +kernel
theorem dX11_spells_3 : decode cX11_spells 3 = .ok (.aload_n 1, 1) := by decide +kernel
theorem dX11_spells_4 : decode cX11_spells 4 = .ok (.invokevirtual 82, 3) := by decide +kernel
theorem dX11_spells_7 : decode cX11_spells 7 = .ok (.if_icmp .ge 18, 3) := by decide +kernel
theorem dX11_spells_10 : decode cX11_spells 10 = .ok (.aload_n 0, 1) := by decide +kernel
theorem dX11_spells_11 : decode cX11_spells 11 = .ok (.aload_n 1, 1) := by decide +kernel
theorem dX11_spells_12 : decode cX11_spells 12 = .ok (.iload_n 2, 1) := by decide +kernel
theorem dX11_spells_13 : decode cX11_spells 13 = .ok (.invokevirtual 87, 3) := by decide +kernel
theorem dX11_spells_16 : decode cX11_spells 16 = .ok (.invokevirtual 91, 3) := by decide +kernel
theorem dX11_spells_19 : decode cX11_spells 19 = .ok (.iinc 2 1, 3) := by decide +kernel
theorem dX11_spells_22 : decode cX11_spells 22 = .ok (.goto (-20), 3) := by decide +kernel
theorem dX11_spells_25 : decode cX11_spells 25 = .ok (.return_, 1) := by decide +kernel
set_option maxRecDepth 20000 in
theorem ggX11_figure_X11_here : GoodIn wsX11_figure wsX11_here := goodIn_r _ [7, 2, 8, 9, 13, 14, 15, 16, 17, 18, 19, 20, 21, 22, 23, 24, 25, 26, 27, 28, 29, 30, 31, 32, 33, 34, 35, 36, 37, 38, 39, 40, 41, 42, 43, 44, 45, 46, 47, 48, 49, 50] (by decide +kernel) (by decide +kernel)
set_option maxRecDepth 20000 in
theorem gX11_figure_X11_here : GoodIn wsX11_figure (wsV RX11 78 RX11 yX11_here wsX11_here) := goodIn_app (goodIn_of _ (by decide +kernel)) ggX11_figure_X11_here
set_option maxRecDepth 20000 in
theorem ggX11_figure_X11_in : GoodIn wsX11_figure wsX11_in := goodIn_r _ [12] (by decide +kernel) (by decide +kernel)
set_option maxRecDepth 20000 in
theorem gX11_figure_X11_in : GoodIn wsX11_figure (va_wsS RX11 59 yX11_in wsX11_in) := goodIn_app (goodIn_of _ (by decide +kernel)) ggX11_figure_X11_in
theorem dX11_figure_0 : decode cX11_figure 0 = .ok (.aload_n 0, 1) := by decide +kernel
theorem dX11_figure_1 : decode cX11_figure 1 = .ok (.aload_n 0, 1) := by decide +kernel
theorem dX11_figure_2 : decode cX11_figure 2 = .ok (.getfield 71, 3) := by decide +kernel
theorem dX11_figure_5 : decode cX11_figure 5 = .ok (.ifCond .ne 21, 3) := by decide +kernel
theorem dX11_figure_8 : decode cX11_figure 8 = .ok (.aload_n 0, 1) := by decide +kernel
theorem dX11_figure_9 : decode cX11_figure 9 = .ok (.invokevirtual 78, 3) := by decide +kernel
theorem dX11_figure_12 : decode cX11_figure 12 = .ok (.bipush 48, 2) := by decide +kernel
theorem dX11_figure_14 : decode cX11_figure 14 = .ok (.iload_n 1, 1) := by decide +kernel
theorem dX11_figure_15 : decode cX11_figure 15 = .ok (.iadd, 1) := by decide +kernel
theorem dX11_figure_16 : decode cX11_figure 16 = .ok (.bipush 48, 2) := by decide +kernel
theorem dX11_figure_18 : decode cX11_figure 18 = .ok (.iload_n 2, 1) := by decide +kernel
theorem dX11_figure_19 : decode cX11_figure 19 = .ok (.iadd, 1) := by decide +kernel
theorem dX11_figure_20 : decode cX11_figure 20 = .ok (.invokestatic 59, 3) := by decide +kernel
theorem dX11_figure_23 : decode cX11_figure 23 = .ok (.ifCond .ne 7, 3) := by decide +kernel
theorem dX11_figure_26 : decode cX11_figure 26 = .ok (.iconst 1, 1) := by decide +kernel
theorem dX11_figure_27 : decode cX11_figure 27 = .ok (.goto 4, 3) := by decide +kernel
theorem dX11_figure_30 : decode cX11_figure 30 = .ok (.iconst 0, 1) := by decide +kernel
theorem dX11_figure_31 : decode cX11_figure 31 = .ok (.putfield 71, 3) := by decide +kernel
theorem dX11_figure_34 : decode cX11_figure 34 = .ok (.aload_n 0, 1) := by decide +kernel
theorem dX11_figure_35 : decode cX11_figure 35 = .ok (.getfield 71, 3) := by decide +kernel
theorem dX11_figure_38 : decode cX11_figure 38 = .ok (.ifCond .eq 7, 3) := by decide +kernel
theorem dX11_figure_41 : decode cX11_figure 41 = .ok (.iconst 0, 1) := by decide +kernel
theorem dX11_figure_42 : decode cX11_figure 42 = .ok (.goto 10, 3) := by decide +kernel
theorem dX11_figure_45 : decode cX11_figure 45 = .ok (.aload_n 0, 1) := by decide +kernel
theorem dX11_figure_46 : decode cX11_figure 46 = .ok (.invokevirtual 78, 3) := by decide +kernel
theorem dX11_figure_49 : decode cX11_figure 49 = .ok (.bipush 48, 2) := by decide +kernel
theorem dX11_figure_51 : decode cX11_figure 51 = .ok (.isub, 1) := by decide +kernel
theorem dX11_figure_52 : decode cX11_figure 52 = .ok (.istore_n 3, 1) := by decide +kernel
theorem dX11_figure_53 : decode cX11_figure 53 = .ok (.aload_n 0, 1) := by decide +kernel
theorem dX11_figure_54 : decode cX11_figure 54 = .ok (.dup, 1) := by decide +kernel
theorem dX11_figure_55 : decode cX11_figure 55 = .ok (.getfield 68, 3) := by decide +kernel
theorem dX11_figure_58 : decode cX11_figure 58 = .ok (.aload_n 0, 1) := by decide +kernel
theorem dX11_figure_59 : decode cX11_figure 59 = .ok (.getfield 71, 3) := by decide +kernel
theorem dX11_figure_62 : decode cX11_figure 62 = .ok (.ifCond .eq 7, 3) := by decide +kernel
theorem dX11_figure_65 : decode cX11_figure 65 = .ok (.iconst 0, 1) := by decide +kernel
theorem dX11_figure_66 : decode cX11_figure 66 = .ok (.goto 4, 3) := by decide +kernel
theorem dX11_figure_69 : decode cX11_figure 69 = .ok (.iconst 1, 1) := by decide +kernel
theorem dX11_figure_70 : decode cX11_figure 70 = .ok (.iadd, 1) := by decide +kernel
theorem dX11_figure_71 : decode cX11_figure 71 = .ok (.putfield 68, 3) := by decide +kernel
theorem dX11_figure_74 : decode cX11_figure 74 = .ok (.iload_n 3, 1) := by decide +kernel
theorem dX11_figure_75 : decode cX11_figure 75 = .ok (.ireturn, 1) := by decide +kernel
set_option maxRecDepth 20000 in
theorem ggX11_reachHere_X11_spells : GoodIn wsX11_reachHere wsX11_spells := goodIn_r _ [10, 11, 12, 13, 14, 15, 16, 17, 18, 19, 20, 21, 22, 23, 24, 25, 26, 27, 28, 29, 30, 31, 32, 33, 34, 35, 36, 37, 38, 39, 40, 41, 42, 43, 44, 45, 46, 47, 48, 49, 50, 51, 52, 53, 54, 55, 56, 57, 58, 59, 60, 61, 62, 9, 63, 2, 64, 65, 66, 67, 68, 69, 70, 78, 79, 80, 81, 82, 83, 84, 85, 86, 87, 88, 89, 90, 91, 92, 93, 94, 95, 96, 97, 98, 99, 100, 101, 102, 103, 104, 105, 106, 107, 108, 109, 110, 111, 112, 113, 114, 115] (by decide +kernel) (by decide +kernel)
set_option maxRecDepth 20000 in
theorem gX11_reachHere_X11_spells : GoodIn wsX11_reachHere (wsV RX11 100 RX11 yX11_spells wsX11_spells) := goodIn_app (goodIn_of _ (by decide +kernel)) ggX11_reachHere_X11_spells
set_option maxRecDepth 20000 in
theorem ggX11_reachHere_X11_figure : GoodIn wsX11_reachHere wsX11_figure := goodIn_r _ [74, 2, 64, 65, 66, 67, 9, 68, 69, 70, 75, 76, 77, 78, 79, 80, 81, 82, 83, 84, 85, 86, 87, 88, 89, 90, 91, 92, 93, 94, 95, 96, 97, 98, 99, 100, 101, 102, 103, 104, 105, 106, 107, 108, 109, 110, 111, 112, 113, 114, 115] (by decide +kernel) (by decide +kernel)
set_option maxRecDepth 20000 in
theorem gX11_reachHere_X11_figure : GoodIn wsX11_reachHere (wsV RX11 104 RX11 yX11_figure wsX11_figure) := goodIn_app (goodIn_of _ (by decide +kernel)) ggX11_reachHere_X11_figure
set_option maxRecDepth 20000 in
theorem ggX11_reachHere_X11_must : GoodIn wsX11_reachHere wsX11_must := goodIn_r _ [63, 2, 64, 65, 66, 67, 9, 68, 69, 70, 78, 79, 80, 81, 82, 83, 84, 85, 86, 87, 88, 89, 90, 91, 92, 93, 94, 95, 96, 97, 98, 99, 100, 101, 102, 103, 104, 105, 106, 107, 108, 109, 110, 111, 112, 113, 114, 115] (by decide +kernel) (by decide +kernel)
set_option maxRecDepth 20000 in
theorem gX11_reachHere_X11_must : GoodIn wsX11_reachHere (wsV RX11 91 RX11 yX11_must wsX11_must) := goodIn_app (goodIn_of _ (by decide +kernel)) ggX11_reachHere_X11_must
theorem dX11_reachHere_0 : decode cX11_reachHere 0 = .ok (.aload_n 0, 1) := by decide +kernel
theorem dX11_reachHere_1 : decode cX11_reachHere 1 = .ok (.getfield 95, 3) := by decide +kernel
theorem dX11_reachHere_4 : decode cX11_reachHere 4 = .ok (.iconst 3, 1) := by decide +kernel
theorem dX11_reachHere_5 : decode cX11_reachHere 5 = .ok (.if_icmp .ne 9, 3) := by decide +kernel
theorem dX11_reachHere_8 : decode cX11_reachHere 8 = .ok (.aload_n 0, 1) := by decide +kernel
theorem dX11_reachHere_9 : decode cX11_reachHere 9 = .ok (.iconst 1, 1) := by decide +kernel
theorem dX11_reachHere_10 : decode cX11_reachHere 10 = .ok (.putfield 71, 3) := by decide +kernel
theorem dX11_reachHere_13 : decode cX11_reachHere 13 = .ok (.return_, 1) := by decide +kernel
theorem dX11_reachHere_14 : decode cX11_reachHere 14 = .ok (.aload_n 0, 1) := by decide +kernel
theorem dX11_reachHere_15 : decode cX11_reachHere 15 = .ok (.ldc 98, 2) := by decide +kernel
theorem dX11_reachHere_17 : decode cX11_reachHere 17 = .ok (.invokevirtual 100, 3) := by decide +kernel
theorem dX11_reachHere_20 : decode cX11_reachHere 20 = .ok (.aload_n 0, 1) := by decide +kernel
theorem dX11_reachHere_21 : decode cX11_reachHere 21 = .ok (.getfield 18, 3) := by decide +kernel
theorem dX11_reachHere_24 : decode cX11_reachHere 24 = .ok (.aload_n 0, 1) := by decide +kernel
theorem dX11_reachHere_25 : decode cX11_reachHere 25 = .ok (.getfield 95, 3) := by decide +kernel
theorem dX11_reachHere_28 : decode cX11_reachHere 28 = .ok (.aload_n 0, 1) := by decide +kernel
theorem dX11_reachHere_29 : decode cX11_reachHere 29 = .ok (.iconst 1, 1) := by decide +kernel
theorem dX11_reachHere_30 : decode cX11_reachHere 30 = .ok (.bipush 9, 2) := by decide +kernel
theorem dX11_reachHere_32 : decode cX11_reachHere 32 = .ok (.invokevirtual 104, 3) := by decide +kernel
theorem dX11_reachHere_35 : decode cX11_reachHere 35 = .ok (.iastore, 1) := by decide +kernel
theorem dX11_reachHere_36 : decode cX11_reachHere 36 = .ok (.aload_n 0, 1) := by decide +kernel
theorem dX11_reachHere_37 : decode cX11_reachHere 37 = .ok (.bipush 32, 2) := by decide +kernel
theorem dX11_reachHere_39 : decode cX11_reachHere 39 = .ok (.invokevirtual 91, 3) := by decide +kernel
theorem dX11_reachHere_42 : decode cX11_reachHere 42 = .ok (.aload_n 0, 1) := by decide +kernel
theorem dX11_reachHere_43 : decode cX11_reachHere 43 = .ok (.getfield 21, 3) := by decide +kernel
theorem dX11_reachHere_46 : decode cX11_reachHere 46 = .ok (.aload_n 0, 1) := by decide +kernel
theorem dX11_reachHere_47 : decode cX11_reachHere 47 = .ok (.getfield 95, 3) := by decide +kernel
theorem dX11_reachHere_50 : decode cX11_reachHere 50 = .ok (.aload_n 0, 1) := by decide +kernel
theorem dX11_reachHere_51 : decode cX11_reachHere 51 = .ok (.iconst 0, 1) := by decide +kernel
theorem dX11_reachHere_52 : decode cX11_reachHere 52 = .ok (.bipush 9, 2) := by decide +kernel
theorem dX11_reachHere_54 : decode cX11_reachHere 54 = .ok (.invokevirtual 104, 3) := by decide +kernel
theorem dX11_reachHere_57 : decode cX11_reachHere 57 = .ok (.iastore, 1) := by decide +kernel
theorem dX11_reachHere_58 : decode cX11_reachHere 58 = .ok (.aload_n 0, 1) := by decide +kernel
theorem dX11_reachHere_59 : decode cX11_reachHere 59 = .ok (.bipush 32, 2) := by decide +kernel
theorem dX11_reachHere_61 : decode cX11_reachHere 61 = .ok (.invokevirtual 91, 3) := by decide +kernel
theorem dX11_reachHere_64 : decode cX11_reachHere 64 = .ok (.aload_n 0, 1) := by decide +kernel
theorem dX11_reachHere_65 : decode cX11_reachHere 65 = .ok (.getfield 24, 3) := by decide +kernel
theorem dX11_reachHere_68 : decode cX11_reachHere 68 = .ok (.aload_n 0, 1) := by decide +kernel
theorem dX11_reachHere_69 : decode cX11_reachHere 69 = .ok (.getfield 95, 3) := by decide +kernel
theorem dX11_reachHere_72 : decode cX11_reachHere 72 = .ok (.aload_n 0, 1) := by decide +kernel
theorem dX11_reachHere_73 : decode cX11_reachHere 73 = .ok (.iconst 0, 1) := by decide +kernel
theorem dX11_reachHere_74 : decode cX11_reachHere 74 = .ok (.bipush 9, 2) := by decide +kernel
theorem dX11_reachHere_76 : decode cX11_reachHere 76 = .ok (.invokevirtual 104, 3) := by decide +kernel
theorem dX11_reachHere_79 : decode cX11_reachHere 79 = .ok (.iastore, 1) := by decide +kernel
theorem dX11_reachHere_80 : decode cX11_reachHere 80 = .ok (.aload_n 0, 1) := by decide +kernel
theorem dX11_reachHere_81 : decode cX11_reachHere 81 = .ok (.dup, 1) := by decide +kernel
theorem dX11_reachHere_82 : decode cX11_reachHere 82 = .ok (.getfield 95, 3) := by decide +kernel
theorem dX11_reachHere_85 : decode cX11_reachHere 85 = .ok (.iconst 1, 1) := by decide +kernel
theorem dX11_reachHere_86 : decode cX11_reachHere 86 = .ok (.iadd, 1) := by decide +kernel
theorem dX11_reachHere_87 : decode cX11_reachHere 87 = .ok (.putfield 95, 3) := by decide +kernel
theorem dX11_reachHere_90 : decode cX11_reachHere 90 = .ok (.return_, 1) := by decide +kernel
set_option maxRecDepth 20000 in
theorem ggX11_riverHere_X11_here : GoodIn wsX11_riverHere wsX11_here := goodIn_r _ [9, 10, 11, 12, 85, 86, 87, 88, 89, 90, 91, 92, 93, 94, 95, 96, 97, 98, 99, 100, 101, 102, 103, 104, 105, 106, 107, 108, 109, 110, 111, 112, 113, 114, 115, 116, 117, 118, 119, 120, 121, 122] (by decide +kernel) (by decide +kernel)
set_option maxRecDepth 20000 in
theorem gX11_riverHere_X11_here : GoodIn wsX11_riverHere (wsV RX11 78 RX11 yX11_here wsX11_here) := goodIn_app (goodIn_of _ (by decide +kernel)) ggX11_riverHere_X11_here
set_option maxRecDepth 20000 in
theorem ggX11_riverHere_X11_reachHere : GoodIn wsX11_riverHere wsX11_reachHere := goodIn_r _ [16, 17, 4, 18, 19, 20, 21, 22, 23, 8, 24, 25, 26, 27, 28, 29, 30, 31, 32, 33, 34, 35, 36, 37, 38, 39, 40, 41, 42, 43, 44, 45, 46, 47, 48, 49, 50, 51, 52, 53, 54, 55, 56, 57, 58, 59, 60, 61, 62, 63, 64, 65, 66, 67, 68, 69, 70, 71, 72, 73, 74, 75, 76, 77, 10, 5, 6, 7, 9, 11, 12, 78, 79, 80, 81, 82, 83, 84, 85, 86, 87, 88, 89, 90, 91, 92, 93, 94, 95, 96, 97, 98, 99, 100, 101, 102, 103, 104, 105, 106, 107, 108, 109, 110, 111, 112, 113, 114, 115, 116, 117, 118, 119, 120, 121, 122] (by decide +kernel) (by decide +kernel)
set_option maxRecDepth 20000 in
theorem gX11_riverHere_X11_reachHere : GoodIn wsX11_riverHere (wsV RX11 108 RX11 yX11_reachHere wsX11_reachHere) := goodIn_app (goodIn_of _ (by decide +kernel)) ggX11_riverHere_X11_reachHere
set_option maxRecDepth 20000 in
theorem ggX11_riverHere_X11_must : GoodIn wsX11_riverHere wsX11_must := goodIn_r _ [77, 4, 10, 5, 6, 7, 8, 9, 11, 12, 85, 86, 87, 88, 89, 90, 91, 92, 93, 94, 95, 96, 97, 98, 99, 100, 101, 102, 103, 104, 105, 106, 107, 108, 109, 110, 111, 112, 113, 114, 115, 116, 117, 118, 119, 120, 121, 122] (by decide +kernel) (by decide +kernel)
set_option maxRecDepth 20000 in
theorem gX11_riverHere_X11_must : GoodIn wsX11_riverHere (wsV RX11 91 RX11 yX11_must wsX11_must) := goodIn_app (goodIn_of _ (by decide +kernel)) ggX11_riverHere_X11_must
set_option maxRecDepth 20000 in
theorem ggX11_riverHere_X11_spells : GoodIn wsX11_riverHere wsX11_spells := goodIn_r _ [24, 25, 26, 27, 28, 29, 30, 31, 32, 33, 34, 35, 36, 37, 38, 39, 40, 41, 42, 43, 44, 45, 46, 47, 48, 49, 50, 51, 52, 53, 54, 55, 56, 57, 58, 59, 60, 61, 62, 63, 64, 65, 66, 67, 68, 69, 70, 71, 72, 73, 74, 75, 76, 8, 77, 4, 10, 5, 6, 7, 9, 11, 12, 85, 86, 87, 88, 89, 90, 91, 92, 93, 94, 95, 96, 97, 98, 99, 100, 101, 102, 103, 104, 105, 106, 107, 108, 109, 110, 111, 112, 113, 114, 115, 116, 117, 118, 119, 120, 121, 122] (by decide +kernel) (by decide +kernel)
set_option maxRecDepth 20000 in
theorem gX11_riverHere_X11_spells : GoodIn wsX11_riverHere (wsV RX11 100 RX11 yX11_spells wsX11_spells) := goodIn_app (goodIn_of _ (by decide +kernel)) ggX11_riverHere_X11_spells
set_option maxRecDepth 20000 in
theorem ggX11_riverHere_X11_figure : GoodIn wsX11_riverHere wsX11_figure := goodIn_r _ [81, 4, 10, 5, 6, 7, 8, 9, 11, 12, 82, 83, 84, 85, 86, 87, 88, 89, 90, 91, 92, 93, 94, 95, 96, 97, 98, 99, 100, 101, 102, 103, 104, 105, 106, 107, 108, 109, 110, 111, 112, 113, 114, 115, 116, 117, 118, 119, 120, 121, 122] (by decide +kernel) (by decide +kernel)
set_option maxRecDepth 20000 in
theorem gX11_riverHere_X11_figure : GoodIn wsX11_riverHere (wsV RX11 104 RX11 yX11_figure wsX11_figure) := goodIn_app (goodIn_of _ (by decide +kernel)) ggX11_riverHere_X11_figure
theorem dX11_riverHere_0 : decode cX11_riverHere 0 = .ok (.aload_n 0, 1) := by decide +kernel
theorem dX11_riverHere_1 : decode cX11_riverHere 1 = .ok (.invokevirtual 78, 3) := by decide +kernel
theorem dX11_riverHere_4 : decode cX11_riverHere 4 = .ok (.tableswitch 142 111 115 #[122, 142, 142, 36, 43], 36) := by decide +kernel
theorem dX11_riverHere_40 : decode cX11_riverHere 40 = .ok (.aload_n 0, 1) := by decide +kernel
theorem dX11_riverHere_41 : decode cX11_riverHere 41 = .ok (.invokevirtual 108, 3) := by decide +kernel
theorem dX11_riverHere_44 : decode cX11_riverHere 44 = .ok (.goto 107, 3) := by decide +kernel
theorem dX11_riverHere_47 : decode cX11_riverHere 47 = .ok (.aload_n 0, 1) := by decide +kernel
theorem dX11_riverHere_48 : decode cX11_riverHere 48 = .ok (.bipush 115, 2) := by decide +kernel
