theorem dX7_isSafe_20 : decode cX7_isSafe 20 = .ok (.putfield 32, 3) := by decide +kernel
theorem dX7_isSafe_23 : decode cX7_isSafe 23 = .ok (.aload_n 0, 1) := by decide +kernel
theorem dX7_isSafe_24 : decode cX7_isSafe 24 = .ok (.aload_n 0, 1) := by decide +kernel
theorem dX7_isSafe_25 : decode cX7_isSafe 25 = .ok (.getfield 47, 3) := by decide +kernel
theorem dX7_isSafe_28 : decode cX7_isSafe 28 = .ok (.iload_n 1, 1) := by decide +kernel
theorem dX7_isSafe_29 : decode cX7_isSafe 29 = .ok (.aload_n 0, 1) := by decide +kernel
theorem dX7_isSafe_30 : decode cX7_isSafe 30 = .ok (.getfield 12, 3) := by decide +kernel
theorem dX7_isSafe_33 : decode cX7_isSafe 33 = .ok (.getfield 92, 3) := by decide +kernel
theorem dX7_isSafe_36 : decode cX7_isSafe 36 = .ok (.invokevirtual 95, 3) := by decide +kernel
theorem dX7_isSafe_39 : decode cX7_isSafe 39 = .ok (.ifCond .eq 5, 3) := by decide +kernel
theorem dX7_isSafe_42 : decode cX7_isSafe 42 = .ok (.iconst 0, 1) := by decide +kernel
theorem dX7_isSafe_43 : decode cX7_isSafe 43 = .ok (.ireturn, 1) := by decide +kernel
theorem dX7_isSafe_44 : decode cX7_isSafe 44 = .ok (.iinc 1 1, 3) := by decide +kernel
theorem dX7_isSafe_47 : decode cX7_isSafe 47 = .ok (.goto (-45), 3) := by decide +kernel
theorem dX7_isSafe_50 : decode cX7_isSafe 50 = .ok (.aload_n 0, 1) := by decide +kernel
theorem dX7_isSafe_51 : decode cX7_isSafe 51 = .ok (.iconst 0, 1) := by decide +kernel
theorem dX7_isSafe_52 : decode cX7_isSafe 52 = .ok (.putfield 32, 3) := by decide +kernel
theorem dX7_isSafe_55 : decode cX7_isSafe 55 = .ok (.iconst 1, 1) := by decide +kernel
theorem dX7_isSafe_56 : decode cX7_isSafe 56 = .ok (.ireturn, 1) := by decide +kernel
theorem dX7_rainOf_0 : decode cX7_rainOf 0 = .ok (.aload_n 0, 1) := by decide +kernel
theorem dX7_rainOf_1 : decode cX7_rainOf 1 = .ok (.getfield 47, 3) := by decide +kernel
theorem dX7_rainOf_4 : decode cX7_rainOf 4 = .ok (.getfield 99, 3) := by decide +kernel
theorem dX7_rainOf_7 : decode cX7_rainOf 7 = .ok (.astore_n 2, 1) := by decide +kernel
theorem dX7_rainOf_8 : decode cX7_rainOf 8 = .ok (.iconst 0, 1) := by decide +kernel
theorem dX7_rainOf_9 : decode cX7_rainOf 9 = .ok (.istore_n 3, 1) := by decide +kernel
theorem dX7_rainOf_10 : decode cX7_rainOf 10 = .ok (.iload_n 3, 1) := by decide +kernel
theorem dX7_rainOf_11 : decode cX7_rainOf 11 = .ok (.iload_n 1, 1) := by decide +kernel
theorem dX7_rainOf_12 : decode cX7_rainOf 12 = .ok (.if_icmp .ge 18, 3) := by decide +kernel
theorem dX7_rainOf_15 : decode cX7_rainOf 15 = .ok (.aload_n 2, 1) := by decide +kernel
theorem dX7_rainOf_16 : decode cX7_rainOf 16 = .ok (.ifnull 14, 3) := by decide +kernel
theorem dX7_rainOf_19 : decode cX7_rainOf 19 = .ok (.aload_n 2, 1) := by decide +kernel
theorem dX7_rainOf_20 : decode cX7_rainOf 20 = .ok (.getfield 99, 3) := by decide +kernel
theorem dX7_rainOf_23 : decode cX7_rainOf 23 = .ok (.astore_n 2, 1) := by decide +kernel
theorem dX7_rainOf_24 : decode cX7_rainOf 24 = .ok (.iinc 3 1, 3) := by decide +kernel
theorem dX7_rainOf_27 : decode cX7_rainOf 27 = .ok (.goto (-17), 3) := by decide +kernel
theorem dX7_rainOf_30 : decode cX7_rainOf 30 = .ok (.aload_n 2, 1) := by decide +kernel
theorem dX7_rainOf_31 : decode cX7_rainOf 31 = .ok (.ifnonnull 8, 3) := by decide +kernel
theorem dX7_rainOf_34 : decode cX7_rainOf 34 = .ok (.bipush (-5), 2) := by decide +kernel
theorem dX7_rainOf_36 : decode cX7_rainOf 36 = .ok (.goto 7, 3) := by decide +kernel
theorem dX7_rainOf_39 : decode cX7_rainOf 39 = .ok (.aload_n 2, 1) := by decide +kernel
theorem dX7_rainOf_40 : decode cX7_rainOf 40 = .ok (.getfield 102, 3) := by decide +kernel
theorem dX7_rainOf_43 : decode cX7_rainOf 43 = .ok (.ireturn, 1) := by decide +kernel
set_option maxRecDepth 20000 in
theorem ggX7_goesOver_X7_setBoards : GoodIn wsX7_goesOver wsX7_setBoards := goodIn_r _ [9, 10, 11, 12, 13, 14, 2, 15, 16, 3, 17, 18, 19, 20, 21, 22, 23, 24, 25, 26, 27, 28, 29, 30, 31, 32, 33, 34, 35, 36, 37, 38, 39, 40, 41, 42, 43, 44, 45, 46, 47, 48, 49, 50, 51, 52, 53, 54, 55, 56, 57, 58, 59, 60, 61, 62, 63, 64, 65, 66, 67, 68, 69, 70, 71, 72, 73, 74, 75, 101, 102, 103, 104, 105, 106, 107, 94, 95, 96, 97, 98, 99, 100, 116, 117, 118, 119, 108, 109, 110, 111, 112, 113, 114, 115, 120, 121, 122, 123, 124, 125, 126, 127, 128] (by decide +kernel) (by decide +kernel)
set_option maxRecDepth 20000 in
theorem gX7_goesOver_X7_setBoards : GoodIn wsX7_goesOver (wsV RX7 105 RX7 yX7_setBoards wsX7_setBoards) := goodIn_app (goodIn_of _ (by decide +kernel)) ggX7_goesOver_X7_setBoards
set_option maxRecDepth 20000 in
theorem ggX7_goesOver_X7_mayGoOver : GoodIn wsX7_goesOver wsX7_mayGoOver := goodIn_r _ [79, 2, 3, 27, 15, 101, 102, 103, 104, 105, 106, 107, 108, 109, 110, 111, 112, 113, 114, 115, 94, 95, 96, 97, 98, 99, 100] (by decide +kernel) (by decide +kernel)
set_option maxRecDepth 20000 in
theorem gX7_goesOver_X7_mayGoOver : GoodIn wsX7_goesOver (wsV RX7 109 RX7 yX7_mayGoOver wsX7_mayGoOver) := goodIn_app (goodIn_of _ (by decide +kernel)) ggX7_goesOver_X7_mayGoOver
set_option maxRecDepth 20000 in
theorem ggX7_goesOver_J6_bitCount_0f7a4 : GoodIn wsX7_goesOver wsJ6_bitCount_0f7a4 := goodIn_r _ [83, 84, 85, 86] (by decide +kernel) (by decide +kernel)
set_option maxRecDepth 20000 in
theorem gX7_goesOver_J6_bitCount_0f7a4 : GoodIn wsX7_goesOver (va_wsS RX7 113 yJ6_bitCount_0f7a4 wsJ6_bitCount_0f7a4) := goodIn_app (goodIn_of _ (by decide +kernel)) ggX7_goesOver_J6_bitCount_0f7a4
set_option maxRecDepth 20000 in
theorem ggX7_goesOver_X7_letFall : GoodIn wsX7_goesOver wsX7_letFall := goodIn_r _ [90, 2, 3, 27, 15, 14, 21, 101, 102, 103, 104, 105, 106, 107, 108, 109, 110, 111, 112, 113, 114, 115, 94, 95, 96, 97, 98, 99, 100] (by decide +kernel) (by decide +kernel)
set_option maxRecDepth 20000 in
theorem gX7_goesOver_X7_letFall : GoodIn wsX7_goesOver (wsV RX7 119 RX7 yX7_letFall wsX7_letFall) := goodIn_app (goodIn_of _ (by decide +kernel)) ggX7_goesOver_X7_letFall
set_option maxRecDepth 20000 in
theorem ggX7_goesOver_X7_goesOver : GoodIn wsX7_goesOver wsX7_goesOver := goodIn_r _ [0, 1, 2, 3, 4, 5, 6, 7, 8, 9, 10, 11, 12, 13, 14, 15, 16, 17, 18, 19, 20, 21, 22, 23, 24, 25, 26, 27, 28, 29, 30, 31, 32, 33, 34, 35, 36, 37, 38, 39, 40, 41, 42, 43, 44, 45, 46, 47, 48, 49, 50, 51, 52, 53, 54, 55, 56, 57, 58, 59, 60, 61, 62, 63, 64, 65, 66, 67, 68, 69, 70, 71, 72, 73, 74, 75, 76, 77, 78, 79, 80, 81, 82, 83, 84, 85, 86, 87, 88, 89, 90, 91, 92, 93, 94, 95, 96, 97, 98, 99, 100, 101, 102, 103, 104, 105, 106, 107, 108, 109, 110, 111, 112, 113, 114, 115, 116, 117, 118, 119, 120, 121, 122, 123, 124, 125, 126, 127, 128] (by decide +kernel) (by decide +kernel)
set_option maxRecDepth 20000 in
theorem gX7_goesOver_X7_goesOver : GoodIn wsX7_goesOver (wsV RX7 95 RX7 yX7_goesOver wsX7_goesOver) := goodIn_app (goodIn_of _ (by decide +kernel)) ggX7_goesOver_X7_goesOver
theorem dX7_goesOver_0 : decode cX7_goesOver 0 = .ok (.aload_n 1, 1) := by decide +kernel
theorem dX7_goesOver_1 : decode cX7_goesOver 1 = .ok (.getfield 99, 3) := by decide +kernel
theorem dX7_goesOver_4 : decode cX7_goesOver 4 = .ok (.astore 4, 2) := by decide +kernel
theorem dX7_goesOver_6 : decode cX7_goesOver 6 = .ok (.aload 4, 2) := by decide +kernel
theorem dX7_goesOver_8 : decode cX7_goesOver 8 = .ok (.ifnull 8, 3) := by decide +kernel
theorem dX7_goesOver_11 : decode cX7_goesOver 11 = .ok (.iload_n 2, 1) := by decide +kernel
theorem dX7_goesOver_12 : decode cX7_goesOver 12 = .ok (.iconst 1, 1) := by decide +kernel
theorem dX7_goesOver_13 : decode cX7_goesOver 13 = .ok (.if_icmp .ge 5, 3) := by decide +kernel
theorem dX7_goesOver_16 : decode cX7_goesOver 16 = .ok (.iconst 0, 1) := by decide +kernel
theorem dX7_goesOver_17 : decode cX7_goesOver 17 = .ok (.ireturn, 1) := by decide +kernel
theorem dX7_goesOver_18 : decode cX7_goesOver 18 = .ok (.aload_n 0, 1) := by decide +kernel
theorem dX7_goesOver_19 : decode cX7_goesOver 19 = .ok (.aload_n 1, 1) := by decide +kernel
theorem dX7_goesOver_20 : decode cX7_goesOver 20 = .ok (.aload 4, 2) := by decide +kernel
theorem dX7_goesOver_22 : decode cX7_goesOver 22 = .ok (.invokevirtual 105, 3) := by decide +kernel
theorem dX7_goesOver_25 : decode cX7_goesOver 25 = .ok (.iload_n 2, 1) := by decide +kernel
theorem dX7_goesOver_26 : decode cX7_goesOver 26 = .ok (.iconst 1, 1) := by decide +kernel
theorem dX7_goesOver_27 : decode cX7_goesOver 27 = .ok (.if_icmp .ne 15, 3) := by decide +kernel
theorem dX7_goesOver_30 : decode cX7_goesOver 30 = .ok (.aload_n 0, 1) := by decide +kernel
theorem dX7_goesOver_31 : decode cX7_goesOver 31 = .ok (.aload 4, 2) := by decide +kernel
theorem dX7_goesOver_33 : decode cX7_goesOver 33 = .ok (.iload_n 3, 1) := by decide +kernel
theorem dX7_goesOver_34 : decode cX7_goesOver 34 = .ok (.invokevirtual 109, 3) := by decide +kernel
theorem dX7_goesOver_37 : decode cX7_goesOver 37 = .ok (.ifCond .ne 5, 3) := by decide +kernel
theorem dX7_goesOver_40 : decode cX7_goesOver 40 = .ok (.iconst 0, 1) := by decide +kernel
theorem dX7_goesOver_41 : decode cX7_goesOver 41 = .ok (.ireturn, 1) := by decide +kernel
theorem dX7_goesOver_42 : decode cX7_goesOver 42 = .ok (.iconst 0, 1) := by decide +kernel
theorem dX7_goesOver_43 : decode cX7_goesOver 43 = .ok (.istore 5, 2) := by decide +kernel
theorem dX7_goesOver_45 : decode cX7_goesOver 45 = .ok (.iload 5, 2) := by decide +kernel
theorem dX7_goesOver_47 : decode cX7_goesOver 47 = .ok (.iconst 1, 1) := by decide +kernel
theorem dX7_goesOver_48 : decode cX7_goesOver 48 = .ok (.aload_n 0, 1) := by decide +kernel
theorem dX7_goesOver_49 : decode cX7_goesOver 49 = .ok (.getfield 12, 3) := by decide +kernel
theorem dX7_goesOver_52 : decode cX7_goesOver 52 = .ok (.getfield 58, 3) := by decide +kernel
theorem dX7_goesOver_55 : decode cX7_goesOver 55 = .ok (.ishl, 1) := by decide +kernel
theorem dX7_goesOver_56 : decode cX7_goesOver 56 = .ok (.if_icmp .ge 74, 3) := by decide +kernel
theorem dX7_goesOver_59 : decode cX7_goesOver 59 = .ok (.iload 5, 2) := by decide +kernel
theorem dX7_goesOver_61 : decode cX7_goesOver 61 = .ok (.invokestatic 113, 3) := by decide +kernel
theorem dX7_goesOver_64 : decode cX7_goesOver 64 = .ok (.istore 6, 2) := by decide +kernel
theorem dX7_goesOver_66 : decode cX7_goesOver 66 = .ok (.iload 6, 2) := by decide +kernel
theorem dX7_goesOver_68 : decode cX7_goesOver 68 = .ok (.iload_n 3, 1) := by decide +kernel
theorem dX7_goesOver_69 : decode cX7_goesOver 69 = .ok (.if_icmp .le 6, 3) := by decide +kernel
theorem dX7_goesOver_72 : decode cX7_goesOver 72 = .ok (.goto 52, 3) := by decide +kernel
theorem dX7_goesOver_75 : decode cX7_goesOver 75 = .ok (.aload_n 0, 1) := by decide +kernel
theorem dX7_goesOver_76 : decode cX7_goesOver 76 = .ok (.aload_n 1, 1) := by decide +kernel
theorem dX7_goesOver_77 : decode cX7_goesOver 77 = .ok (.aload 4, 2) := by decide +kernel
theorem dX7_goesOver_79 : decode cX7_goesOver 79 = .ok (.iload 5, 2) := by decide +kernel
theorem dX7_goesOver_81 : decode cX7_goesOver 81 = .ok (.invokevirtual 119, 3) := by decide +kernel
theorem dX7_goesOver_84 : decode cX7_goesOver 84 = .ok (.istore 7, 2) := by decide +kernel
theorem dX7_goesOver_86 : decode cX7_goesOver 86 = .ok (.iload_n 2, 1) := by decide +kernel
theorem dX7_goesOver_87 : decode cX7_goesOver 87 = .ok (.iconst 1, 1) := by decide +kernel
theorem dX7_goesOver_88 : decode cX7_goesOver 88 = .ok (.if_icmp .ne 11, 3) := by decide +kernel
theorem dX7_goesOver_91 : decode cX7_goesOver 91 = .ok (.iload 7, 2) := by decide +kernel
theorem dX7_goesOver_93 : decode cX7_goesOver 93 = .ok (.ifCond .eq 31, 3) := by decide +kernel
theorem dX7_goesOver_96 : decode cX7_goesOver 96 = .ok (.goto 19, 3) := by decide +kernel
theorem dX7_goesOver_99 : decode cX7_goesOver 99 = .ok (.aload_n 0, 1) := by decide +kernel
theorem dX7_goesOver_100 : decode cX7_goesOver 100 = .ok (.aload 4, 2) := by decide +kernel
theorem dX7_goesOver_102 : decode cX7_goesOver 102 = .ok (.iload_n 2, 1) := by decide +kernel
theorem dX7_goesOver_103 : decode cX7_goesOver 103 = .ok (.iconst 1, 1) := by decide +kernel
theorem dX7_goesOver_104 : decode cX7_goesOver 104 = .ok (.isub, 1) := by decide +kernel
theorem dX7_goesOver_105 : decode cX7_goesOver 105 = .ok (.iload_n 3, 1) := by decide +kernel
theorem dX7_goesOver_106 : decode cX7_goesOver 106 = .ok (.iload 6, 2) := by decide +kernel
theorem dX7_goesOver_108 : decode cX7_goesOver 108 = .ok (.isub, 1) := by decide +kernel
theorem dX7_goesOver_109 : decode cX7_goesOver 109 = .ok (.invokevirtual 95, 3) := by decide +kernel
theorem dX7_goesOver_112 : decode cX7_goesOver 112 = .ok (.ifCond .eq 12, 3) := by decide +kernel
theorem dX7_goesOver_115 : decode cX7_goesOver 115 = .ok (.aload 4, 2) := by decide +kernel
theorem dX7_goesOver_117 : decode cX7_goesOver 117 = .ok (.iload 5, 2) := by decide +kernel
theorem dX7_goesOver_119 : decode cX7_goesOver 119 = .ok (.putfield 102, 3) := by decide +kernel
theorem dX7_goesOver_122 : decode cX7_goesOver 122 = .ok (.iconst 1, 1) := by decide +kernel
theorem dX7_goesOver_123 : decode cX7_goesOver 123 = .ok (.ireturn, 1) := by decide +kernel
theorem dX7_goesOver_124 : decode cX7_goesOver 124 = .ok (.iinc 5 1, 3) := by decide +kernel
theorem dX7_goesOver_127 : decode cX7_goesOver 127 = .ok (.goto (-82), 3) := by decide +kernel
theorem dX7_goesOver_130 : decode cX7_goesOver 130 = .ok (.iconst 0, 1) := by decide +kernel
theorem dX7_goesOver_131 : decode cX7_goesOver 131 = .ok (.ireturn, 1) := by decide +kernel
theorem dX7_mayGoOver_0 : decode cX7_mayGoOver 0 = .ok (.iload_n 2, 1) := by decide +kernel
theorem dX7_mayGoOver_1 : decode cX7_mayGoOver 1 = .ok (.ifCond .le 7, 3) := by decide +kernel
theorem dX7_mayGoOver_4 : decode cX7_mayGoOver 4 = .ok (.iconst 1, 1) := by decide +kernel
theorem dX7_mayGoOver_5 : decode cX7_mayGoOver 5 = .ok (.goto 4, 3) := by decide +kernel
theorem dX7_mayGoOver_8 : decode cX7_mayGoOver 8 = .ok (.iconst 0, 1) := by decide +kernel
theorem dX7_mayGoOver_9 : decode cX7_mayGoOver 9 = .ok (.istore_n 3, 1) := by decide +kernel
theorem dX7_mayGoOver_10 : decode cX7_mayGoOver 10 = .ok (.iconst 0, 1) := by decide +kernel
theorem dX7_mayGoOver_11 : decode cX7_mayGoOver 11 = .ok (.istore 4, 2) := by decide +kernel
theorem dX7_mayGoOver_13 : decode cX7_mayGoOver 13 = .ok (.iload 4, 2) := by decide +kernel
theorem dX7_mayGoOver_15 : decode cX7_mayGoOver 15 = .ok (.aload_n 0, 1) := by decide +kernel
theorem dX7_mayGoOver_16 : decode cX7_mayGoOver 16 = .ok (.getfield 12, 3) := by decide +kernel
theorem dX7_mayGoOver_19 : decode cX7_mayGoOver 19 = .ok (.getfield 58, 3) := by decide +kernel
theorem dX7_mayGoOver_22 : decode cX7_mayGoOver 22 = .ok (.if_icmp .ge 39, 3) := by decide +kernel
theorem dX7_mayGoOver_25 : decode cX7_mayGoOver 25 = .ok (.iload 4, 2) := by decide +kernel
theorem dX7_mayGoOver_27 : decode cX7_mayGoOver 27 = .ok (.iconst 3, 1) := by decide +kernel
theorem dX7_mayGoOver_28 : decode cX7_mayGoOver 28 = .ok (.if_icmp .ge 33, 3) := by decide +kernel
theorem dX7_mayGoOver_31 : decode cX7_mayGoOver 31 = .ok (.aload_n 1, 1) := by decide +kernel
theorem dX7_mayGoOver_32 : decode cX7_mayGoOver 32 = .ok (.getfield 123, 3) := by decide +kernel
theorem dX7_mayGoOver_35 : decode cX7_mayGoOver 35 = .ok (.iload 4, 2) := by decide +kernel
theorem dX7_mayGoOver_37 : decode cX7_mayGoOver 37 = .ok (.iaload, 1) := by decide +kernel
theorem dX7_mayGoOver_38 : decode cX7_mayGoOver 38 = .ok (.iload_n 3, 1) := by decide +kernel
theorem dX7_mayGoOver_39 : decode cX7_mayGoOver 39 = .ok (.iadd, 1) := by decide +kernel
theorem dX7_mayGoOver_40 : decode cX7_mayGoOver 40 = .ok (.aload_n 0, 1) := by decide +kernel
theorem dX7_mayGoOver_41 : decode cX7_mayGoOver 41 = .ok (.getfield 12, 3) := by decide +kernel
theorem dX7_mayGoOver_44 : decode cX7_mayGoOver 44 = .ok (.getfield 86, 3) := by decide +kernel
theorem dX7_mayGoOver_47 : decode cX7_mayGoOver 47 = .ok (.iload 4, 2) := by decide +kernel
theorem dX7_mayGoOver_49 : decode cX7_mayGoOver 49 = .ok (.iaload, 1) := by decide +kernel
theorem dX7_mayGoOver_50 : decode cX7_mayGoOver 50 = .ok (.if_icmp .le 5, 3) := by decide +kernel
theorem dX7_mayGoOver_53 : decode cX7_mayGoOver 53 = .ok (.iconst 1, 1) := by decide +kernel
theorem dX7_mayGoOver_54 : decode cX7_mayGoOver 54 = .ok (.ireturn, 1) := by decide +kernel
theorem dX7_mayGoOver_55 : decode cX7_mayGoOver 55 = .ok (.iinc 4 1, 3) := by decide +kernel
theorem dX7_mayGoOver_58 : decode cX7_mayGoOver 58 = .ok (.goto (-45), 3) := by decide +kernel
theorem dX7_mayGoOver_61 : decode cX7_mayGoOver 61 = .ok (.iconst 0, 1) := by decide +kernel
theorem dX7_mayGoOver_62 : decode cX7_mayGoOver 62 = .ok (.ireturn, 1) := by decide +kernel
set_option maxRecDepth 20000 in
theorem ggX7_weightOver_X7_weigh : GoodIn wsX7_weightOver wsX7_weigh := goodIn_r _ [6, 7, 8, 9, 10, 11, 12, 5, 13, 14, 15, 16, 17, 18, 19, 20, 21, 22, 23, 24, 25, 26, 27, 28, 29, 30, 31, 32, 33, 34, 35, 36, 37, 38, 39, 40, 41, 42, 43, 44, 45, 46, 47, 48, 49, 50, 51, 52, 53, 54, 55, 56, 57, 58, 59, 60, 61, 62, 63, 64, 65, 66, 67, 68, 69, 70, 71, 72, 73, 74, 75, 76, 77, 78, 79, 80, 81, 82, 83, 84, 85, 86, 87, 88, 89, 90, 91, 92, 93, 94, 95, 96, 97, 2, 3, 4, 105, 106, 107, 108, 109, 110, 111, 98, 99, 100, 101, 102, 103, 104, 112, 113, 114, 115, 116, 117, 118, 119, 120, 121, 122, 123, 124, 125, 126, 127, 128, 129, 130, 131, 132] (by decide +kernel) (by decide +kernel)
set_option maxRecDepth 20000 in
theorem gX7_weightOver_X7_weigh : GoodIn wsX7_weightOver (wsV RX7 126 RX7 yX7_weigh wsX7_weigh) := goodIn_app (goodIn_of _ (by decide +kernel)) ggX7_weightOver_X7_weigh
theorem dX7_weightOver_0 : decode cX7_weightOver 0 = .ok (.aload_n 0, 1) := by decide +kernel
theorem dX7_weightOver_1 : decode cX7_weightOver 1 = .ok (.aload_n 0, 1) := by decide +kernel
theorem dX7_weightOver_2 : decode cX7_weightOver 2 = .ok (.getfield 47, 3) := by decide +kernel
theorem dX7_weightOver_5 : decode cX7_weightOver 5 = .ok (.iload_n 1, 1) := by decide +kernel
theorem dX7_weightOver_6 : decode cX7_weightOver 6 = .ok (.iload_n 2, 1) := by decide +kernel
theorem dX7_weightOver_7 : decode cX7_weightOver 7 = .ok (.invokevirtual 126, 3) := by decide +kernel
theorem dX7_weightOver_10 : decode cX7_weightOver 10 = .ok (.lreturn, 1) := by decide +kernel
set_option maxRecDepth 20000 in
theorem ggX7_weigh_X7_setBoards : GoodIn wsX7_weigh wsX7_setBoards := goodIn_r _ [8, 9, 10, 11, 12, 13, 2, 14, 15, 3, 16, 17, 18, 19, 20, 21, 22, 23, 24, 25, 26, 27, 28, 29, 30, 31, 32, 33, 34, 35, 36, 37, 38, 39, 40, 41, 42, 43, 44, 45, 46, 47, 48, 49, 50, 51, 52, 53, 54, 55, 56, 57, 58, 59, 60, 61, 62, 63, 64, 65, 66, 67, 68, 69, 70, 71, 72, 73, 74, 103, 104, 105, 106, 107, 108, 109, 96, 97, 98, 99, 100, 101, 102, 118, 119, 120, 121, 110, 111, 112, 113, 114, 115, 116, 117, 122, 123, 124, 125, 126, 127, 128, 129, 130] (by decide +kernel) (by decide +kernel)
set_option maxRecDepth 20000 in
theorem gX7_weigh_X7_setBoards : GoodIn wsX7_weigh (wsV RX7 105 RX7 yX7_setBoards wsX7_setBoards) := goodIn_app (goodIn_of _ (by decide +kernel)) ggX7_weigh_X7_setBoards
set_option maxRecDepth 20000 in
theorem ggX7_weigh_X10_powerOfTen : GoodIn wsX7_weigh wsX10_powerOfTen := goodIn_r _ [77, 78] (by decide +kernel) (by decide +kernel)
set_option maxRecDepth 20000 in
theorem gX7_weigh_X10_powerOfTen_n130 : GoodIn wsX7_weigh (wsX10_powerOfTen) := ggX7_weigh_X10_powerOfTen
set_option maxRecDepth 20000 in
theorem ggX7_weigh_X7_letFall : GoodIn wsX7_weigh wsX7_letFall := goodIn_r _ [82, 2, 3, 26, 14, 13, 20, 103, 104, 105, 106, 107, 108, 109, 110, 111, 112, 113, 114, 115, 116, 117, 96, 97, 98, 99, 100, 101, 102] (by decide +kernel) (by decide +kernel)
set_option maxRecDepth 20000 in
theorem gX7_weigh_X7_letFall : GoodIn wsX7_weigh (wsV RX7 119 RX7 yX7_letFall wsX7_letFall) := goodIn_app (goodIn_of _ (by decide +kernel)) ggX7_weigh_X7_letFall
set_option maxRecDepth 20000 in
theorem ggX7_weigh_X7_dryMills : GoodIn wsX7_weigh wsX7_dryMills := goodIn_r _ [86, 2, 3, 13, 87, 103, 104, 105, 106, 107, 108, 109, 110, 111, 112, 113, 114, 115, 116, 117, 96, 97, 98, 99, 100, 101, 102] (by decide +kernel) (by decide +kernel)
set_option maxRecDepth 20000 in
theorem gX7_weigh_X7_dryMills : GoodIn wsX7_weigh (wsV RX7 134 RX7 yX7_dryMills wsX7_dryMills) := goodIn_app (goodIn_of _ (by decide +kernel)) ggX7_weigh_X7_dryMills
set_option maxRecDepth 20000 in
theorem ggX7_weigh_X7_weightOf : GoodIn wsX7_weigh wsX7_weightOf := goodIn_r _ [91, 2, 3, 92, 103, 104, 105, 106, 107, 108, 109, 110, 111, 112, 113, 114, 115, 116, 117] (by decide +kernel) (by decide +kernel)
set_option maxRecDepth 20000 in
theorem gX7_weigh_X7_weightOf : GoodIn wsX7_weigh (wsV RX7 138 RX7 yX7_weightOf wsX7_weightOf) := goodIn_app (goodIn_of _ (by decide +kernel)) ggX7_weigh_X7_weightOf
set_option maxRecDepth 20000 in
theorem ggX7_weigh_X7_weigh : GoodIn wsX7_weigh wsX7_weigh := goodIn_r _ [0, 1, 2, 3, 4, 5, 6, 7, 8, 9, 10, 11, 12, 13, 14, 15, 16, 17, 18, 19, 20, 21, 22, 23, 24, 25, 26, 27, 28, 29, 30, 31, 32, 33, 34, 35, 36, 37, 38, 39, 40, 41, 42, 43, 44, 45, 46, 47, 48, 49, 50, 51, 52, 53, 54, 55, 56, 57, 58, 59, 60, 61, 62, 63, 64, 65, 66, 67, 68, 69, 70, 71, 72, 73, 74, 75, 76, 77, 78, 79, 80, 81, 82, 83, 84, 85, 86, 87, 88, 89, 90, 91, 92, 93, 94, 95, 96, 97, 98, 99, 100, 101, 102, 103, 104, 105, 106, 107, 108, 109, 110, 111, 112, 113, 114, 115, 116, 117, 118, 119, 120, 121, 122, 123, 124, 125, 126, 127, 128, 129, 130] (by decide +kernel) (by decide +kernel)
set_option maxRecDepth 20000 in
theorem gX7_weigh_X7_weigh : GoodIn wsX7_weigh (wsV RX7 126 RX7 yX7_weigh wsX7_weigh) := goodIn_app (goodIn_of _ (by decide +kernel)) ggX7_weigh_X7_weigh
theorem dX7_weigh_0 : decode cX7_weigh 0 = .ok (.aload_n 1, 1) := by decide +kernel
theorem dX7_weigh_1 : decode cX7_weigh 1 = .ok (.getfield 99, 3) := by decide +kernel
theorem dX7_weigh_4 : decode cX7_weigh 4 = .ok (.astore 4, 2) := by decide +kernel
theorem dX7_weigh_6 : decode cX7_weigh 6 = .ok (.aload 4, 2) := by decide +kernel
theorem dX7_weigh_8 : decode cX7_weigh 8 = .ok (.ifnull 8, 3) := by decide +kernel
theorem dX7_weigh_11 : decode cX7_weigh 11 = .ok (.iload_n 2, 1) := by decide +kernel
theorem dX7_weigh_12 : decode cX7_weigh 12 = .ok (.iconst 1, 1) := by decide +kernel
theorem dX7_weigh_13 : decode cX7_weigh 13 = .ok (.if_icmp .ge 5, 3) := by decide +kernel
theorem dX7_weigh_16 : decode cX7_weigh 16 = .ok (.lconst 0, 1) := by decide +kernel
theorem dX7_weigh_17 : decode cX7_weigh 17 = .ok (.lreturn, 1) := by decide +kernel
theorem dX7_weigh_18 : decode cX7_weigh 18 = .ok (.aload_n 0, 1) := by decide +kernel
theorem dX7_weigh_19 : decode cX7_weigh 19 = .ok (.aload_n 1, 1) := by decide +kernel
theorem dX7_weigh_20 : decode cX7_weigh 20 = .ok (.aload 4, 2) := by decide +kernel
theorem dX7_weigh_22 : decode cX7_weigh 22 = .ok (.invokevirtual 105, 3) := by decide +kernel
theorem dX7_weigh_25 : decode cX7_weigh 25 = .ok (.aload_n 0, 1) := by decide +kernel
theorem dX7_weigh_26 : decode cX7_weigh 26 = .ok (.getfield 12, 3) := by decide +kernel
theorem dX7_weigh_29 : decode cX7_weigh 29 = .ok (.getfield 58, 3) := by decide +kernel
theorem dX7_weigh_32 : decode cX7_weigh 32 = .ok (.iload_n 2, 1) := by decide +kernel
theorem dX7_weigh_33 : decode cX7_weigh 33 = .ok (.iconst 1, 1) := by decide +kernel
theorem dX7_weigh_34 : decode cX7_weigh 34 = .ok (.isub, 1) := by decide +kernel
theorem dX7_weigh_35 : decode cX7_weigh 35 = .ok (.imul, 1) := by decide +kernel
theorem dX7_weigh_36 : decode cX7_weigh 36 = .ok (.invokestatic 130, 3) := by decide +kernel
theorem dX7_weigh_39 : decode cX7_weigh 39 = .ok (.lstore 5, 2) := by decide +kernel
theorem dX7_weigh_41 : decode cX7_weigh 41 = .ok (.lconst 0, 1) := by decide +kernel
theorem dX7_weigh_42 : decode cX7_weigh 42 = .ok (.lstore 7, 2) := by decide +kernel
theorem dX7_weigh_44 : decode cX7_weigh 44 = .ok (.iconst 0, 1) := by decide +kernel
theorem dX7_weigh_45 : decode cX7_weigh 45 = .ok (.istore 9, 2) := by decide +kernel
theorem dX7_weigh_47 : decode cX7_weigh 47 = .ok (.iload 9, 2) := by decide +kernel
theorem dX7_weigh_49 : decode cX7_weigh 49 = .ok (.iconst 1, 1) := by decide +kernel
theorem dX7_weigh_50 : decode cX7_weigh 50 = .ok (.aload_n 0, 1) := by decide +kernel
theorem dX7_weigh_51 : decode cX7_weigh 51 = .ok (.getfield 12, 3) := by decide +kernel
theorem dX7_weigh_54 : decode cX7_weigh 54 = .ok (.getfield 58, 3) := by decide +kernel
theorem dX7_weigh_57 : decode cX7_weigh 57 = .ok (.ishl, 1) := by decide +kernel
theorem dX7_weigh_58 : decode cX7_weigh 58 = .ok (.if_icmp .ge 77, 3) := by decide +kernel
theorem dX7_weigh_61 : decode cX7_weigh 61 = .ok (.aload_n 0, 1) := by decide +kernel
theorem dX7_weigh_62 : decode cX7_weigh 62 = .ok (.aload_n 1, 1) := by decide +kernel
theorem dX7_weigh_63 : decode cX7_weigh 63 = .ok (.aload 4, 2) := by decide +kernel
theorem dX7_weigh_65 : decode cX7_weigh 65 = .ok (.iload 9, 2) := by decide +kernel
theorem dX7_weigh_67 : decode cX7_weigh 67 = .ok (.invokevirtual 119, 3) := by decide +kernel
theorem dX7_weigh_70 : decode cX7_weigh 70 = .ok (.istore 10, 2) := by decide +kernel
theorem dX7_weigh_72 : decode cX7_weigh 72 = .ok (.iload_n 3, 1) := by decide +kernel
theorem dX7_weigh_73 : decode cX7_weigh 73 = .ok (.ifCond .eq 12, 3) := by decide +kernel
theorem dX7_weigh_76 : decode cX7_weigh 76 = .ok (.aload_n 0, 1) := by decide +kernel
theorem dX7_weigh_77 : decode cX7_weigh 77 = .ok (.aload 4, 2) := by decide +kernel
theorem dX7_weigh_79 : decode cX7_weigh 79 = .ok (.invokevirtual 134, 3) := by decide +kernel
theorem dX7_weigh_82 : decode cX7_weigh 82 = .ok (.goto 5, 3) := by decide +kernel
theorem dX7_weigh_85 : decode cX7_weigh 85 = .ok (.iload 10, 2) := by decide +kernel
theorem dX7_weigh_87 : decode cX7_weigh 87 = .ok (.ifCond .eq 7, 3) := by decide +kernel
theorem dX7_weigh_90 : decode cX7_weigh 90 = .ok (.iconst 1, 1) := by decide +kernel
theorem dX7_weigh_91 : decode cX7_weigh 91 = .ok (.goto 4, 3) := by decide +kernel
theorem dX7_weigh_94 : decode cX7_weigh 94 = .ok (.iconst 0, 1) := by decide +kernel
theorem dX7_weigh_95 : decode cX7_weigh 95 = .ok (.istore 11, 2) := by decide +kernel
theorem dX7_weigh_97 : decode cX7_weigh 97 = .ok (.lload 7, 2) := by decide +kernel
theorem dX7_weigh_99 : decode cX7_weigh 99 = .ok (.aload_n 0, 1) := by decide +kernel
theorem dX7_weigh_100 : decode cX7_weigh 100 = .ok (.iload 9, 2) := by decide +kernel
theorem dX7_weigh_102 : decode cX7_weigh 102 = .ok (.invokevirtual 138, 3) := by decide +kernel
theorem dX7_weigh_105 : decode cX7_weigh 105 = .ok (.iload 11, 2) := by decide +kernel
theorem dX7_weigh_107 : decode cX7_weigh 107 = .ok (.ifCond .eq 8, 3) := by decide +kernel
theorem dX7_weigh_110 : decode cX7_weigh 110 = .ok (.lload 5, 2) := by decide +kernel
theorem dX7_weigh_112 : decode cX7_weigh 112 = .ok (.goto 13, 3) := by decide +kernel
theorem dX7_weigh_115 : decode cX7_weigh 115 = .ok (.aload_n 0, 1) := by decide +kernel
theorem dX7_weigh_116 : decode cX7_weigh 116 = .ok (.aload 4, 2) := by decide +kernel
theorem dX7_weigh_118 : decode cX7_weigh 118 = .ok (.iload_n 2, 1) := by decide +kernel
theorem dX7_weigh_119 : decode cX7_weigh 119 = .ok (.iconst 1, 1) := by decide +kernel
theorem dX7_weigh_120 : decode cX7_weigh 120 = .ok (.isub, 1) := by decide +kernel
theorem dX7_weigh_121 : decode cX7_weigh 121 = .ok (.iload_n 3, 1) := by decide +kernel
theorem dX7_weigh_122 : decode cX7_weigh 122 = .ok (.invokevirtual 126, 3) := by decide +kernel
theorem dX7_weigh_125 : decode cX7_weigh 125 = .ok (.lmul, 1) := by decide +kernel
theorem dX7_weigh_126 : decode cX7_weigh 126 = .ok (.ladd, 1) := by decide +kernel
theorem dX7_weigh_127 : decode cX7_weigh 127 = .ok (.lstore 7, 2) := by decide +kernel
theorem dX7_weigh_129 : decode cX7_weigh 129 = .ok (.iinc 9 1, 3) := by decide +kernel
theorem dX7_weigh_132 : decode cX7_weigh 132 = .ok (.goto (-85), 3) := by decide +kernel
theorem dX7_weigh_135 : decode cX7_weigh 135 = .ok (.lload 7, 2) := by decide +kernel
theorem dX7_weigh_137 : decode cX7_weigh 137 = .ok (.lreturn, 1) := by decide +kernel
theorem dX7_weightOf_0 : decode cX7_weightOf 0 = .ok (.lconst 1, 1) := by decide +kernel
theorem dX7_weightOf_1 : decode cX7_weightOf 1 = .ok (.lstore_n 2, 1) := by decide +kernel
theorem dX7_weightOf_2 : decode cX7_weightOf 2 = .ok (.iconst 0, 1) := by decide +kernel
theorem dX7_weightOf_3 : decode cX7_weightOf 3 = .ok (.istore 4, 2) := by decide +kernel
theorem dX7_weightOf_5 : decode cX7_weightOf 5 = .ok (.iload 4, 2) := by decide +kernel
theorem dX7_weightOf_7 : decode cX7_weightOf 7 = .ok (.aload_n 0, 1) := by decide +kernel
theorem dX7_weightOf_8 : decode cX7_weightOf 8 = .ok (.getfield 12, 3) := by decide +kernel
theorem dX7_weightOf_11 : decode cX7_weightOf 11 = .ok (.getfield 58, 3) := by decide +kernel
theorem dX7_weightOf_14 : decode cX7_weightOf 14 = .ok (.if_icmp .ge 44, 3) := by decide +kernel
theorem dX7_weightOf_17 : decode cX7_weightOf 17 = .ok (.lload_n 2, 1) := by decide +kernel
theorem dX7_weightOf_18 : decode cX7_weightOf 18 = .ok (.iload_n 1, 1) := by decide +kernel
theorem dX7_weightOf_19 : decode cX7_weightOf 19 = .ok (.iload 4, 2) := by decide +kernel
theorem dX7_weightOf_21 : decode cX7_weightOf 21 = .ok (.ishr, 1) := by decide +kernel
theorem dX7_weightOf_22 : decode cX7_weightOf 22 = .ok (.iconst 1, 1) := by decide +kernel
theorem dX7_weightOf_23 : decode cX7_weightOf 23 = .ok (.iand, 1) := by decide +kernel
theorem dX7_weightOf_24 : decode cX7_weightOf 24 = .ok (.iconst 1, 1) := by decide +kernel
theorem dX7_weightOf_25 : decode cX7_weightOf 25 = .ok (.if_icmp .ne 14, 3) := by decide +kernel
theorem dX7_weightOf_28 : decode cX7_weightOf 28 = .ok (.aload_n 0, 1) := by decide +kernel
theorem dX7_weightOf_29 : decode cX7_weightOf 29 = .ok (.getfield 12, 3) := by decide +kernel
theorem dX7_weightOf_32 : decode cX7_weightOf 32 = .ok (.getfield 141, 3) := by decide +kernel
theorem dX7_weightOf_35 : decode cX7_weightOf 35 = .ok (.i2l, 1) := by decide +kernel
theorem dX7_weightOf_36 : decode cX7_weightOf 36 = .ok (.goto 14, 3) := by decide +kernel
theorem dX7_weightOf_39 : decode cX7_weightOf 39 = .ok (.bipush 10, 2) := by decide +kernel
theorem dX7_weightOf_41 : decode cX7_weightOf 41 = .ok (.aload_n 0, 1) := by decide +kernel
theorem dX7_weightOf_42 : decode cX7_weightOf 42 = .ok (.getfield 12, 3) := by decide +kernel
theorem dX7_weightOf_45 : decode cX7_weightOf 45 = .ok (.getfield 141, 3) := by decide +kernel
theorem dX7_weightOf_48 : decode cX7_weightOf 48 = .ok (.isub, 1) := by decide +kernel
theorem dX7_weightOf_49 : decode cX7_weightOf 49 = .ok (.i2l, 1) := by decide +kernel
theorem dX7_weightOf_50 : decode cX7_weightOf 50 = .ok (.lmul, 1) := by decide +kernel
theorem dX7_weightOf_51 : decode cX7_weightOf 51 = .ok (.lstore_n 2, 1) := by decide +kernel
theorem dX7_weightOf_52 : decode cX7_weightOf 52 = .ok (.iinc 4 1, 3) := by decide +kernel
theorem dX7_weightOf_55 : decode cX7_weightOf 55 = .ok (.goto (-50), 3) := by decide +kernel
theorem dX7_weightOf_58 : decode cX7_weightOf 58 = .ok (.lload_n 2, 1) := by decide +kernel
theorem dX7_weightOf_59 : decode cX7_weightOf 59 = .ok (.lreturn, 1) := by decide +kernel
set_option maxRecDepth 20000 in
theorem ggX7_goesBy_X7_setBoards : GoodIn wsX7_goesBy wsX7_setBoards := goodIn_r _ [7, 8, 9, 10, 11, 12, 13, 14, 15, 16, 17, 18, 19, 20, 21, 22, 23, 24, 25, 26, 27, 28, 29, 30, 31, 32, 33, 34, 35, 36, 37, 38, 39, 40, 41, 42, 43, 44, 45, 46, 47, 48, 49, 50, 51, 52, 53, 54, 55, 56, 57, 58, 59, 60, 61, 62, 63, 64, 65, 66, 67, 68, 69, 70, 71, 72, 73, 74, 75, 97, 98, 99, 100, 101, 102, 103, 104, 105, 106, 107, 108, 109, 110, 111, 112, 113, 114, 115, 116, 117, 118, 119, 120, 121, 122, 123, 124, 125, 126, 127, 128, 129, 130, 131] (by decide +kernel) (by decide +kernel)
set_option maxRecDepth 20000 in
theorem gX7_goesBy_X7_setBoards : GoodIn wsX7_goesBy (wsV RX7 105 RX7 yX7_setBoards wsX7_setBoards) := goodIn_app (goodIn_of _ (by decide +kernel)) ggX7_goesBy_X7_setBoards
set_option maxRecDepth 20000 in
theorem ggX7_goesBy_X7_letFall : GoodIn wsX7_goesBy wsX7_letFall := goodIn_r _ [79, 13, 16, 27, 14, 12, 21, 97, 98, 99, 100, 101, 102, 103, 115, 116, 117, 118, 119, 120, 121, 122, 104, 105, 106, 107, 108, 109, 110] (by decide +kernel) (by decide +kernel)
set_option maxRecDepth 20000 in
theorem gX7_goesBy_X7_letFall : GoodIn wsX7_goesBy (wsV RX7 119 RX7 yX7_letFall wsX7_letFall) := goodIn_app (goodIn_of _ (by decide +kernel)) ggX7_goesBy_X7_letFall
set_option maxRecDepth 20000 in
theorem ggX7_goesBy_X8_becomes : GoodIn wsX7_goesBy wsX8_becomes := goodIn_r _ [84, 85, 86, 87, 88, 89, 90, 91, 92, 24, 25, 26, 93, 94, 95, 96, 104, 105, 106, 107, 108, 109, 110] (by decide +kernel) (by decide +kernel)
set_option maxRecDepth 20000 in
theorem gX7_goesBy_X8_becomes : GoodIn wsX7_goesBy (wsV RX7 72 RX8 yX8_becomes wsX8_becomes) := goodIn_app (goodIn_of _ (by decide +kernel)) ggX7_goesBy_X8_becomes
theorem dX7_goesBy_0 : decode cX7_goesBy 0 = .ok (.aload_n 0, 1) := by decide +kernel
theorem dX7_goesBy_1 : decode cX7_goesBy 1 = .ok (.getfield 47, 3) := by decide +kernel
theorem dX7_goesBy_4 : decode cX7_goesBy 4 = .ok (.getfield 99, 3) := by decide +kernel
theorem dX7_goesBy_7 : decode cX7_goesBy 7 = .ok (.astore_n 2, 1) := by decide +kernel
theorem dX7_goesBy_8 : decode cX7_goesBy 8 = .ok (.aload_n 2, 1) := by decide +kernel
theorem dX7_goesBy_9 : decode cX7_goesBy 9 = .ok (.ifnonnull 5, 3) := by decide +kernel
theorem dX7_goesBy_12 : decode cX7_goesBy 12 = .ok (.iconst 0, 1) := by decide +kernel
theorem dX7_goesBy_13 : decode cX7_goesBy 13 = .ok (.ireturn, 1) := by decide +kernel
theorem dX7_goesBy_14 : decode cX7_goesBy 14 = .ok (.aload_n 0, 1) := by decide +kernel
theorem dX7_goesBy_15 : decode cX7_goesBy 15 = .ok (.aload_n 0, 1) := by decide +kernel
theorem dX7_goesBy_16 : decode cX7_goesBy 16 = .ok (.getfield 47, 3) := by decide +kernel
theorem dX7_goesBy_19 : decode cX7_goesBy 19 = .ok (.aload_n 2, 1) := by decide +kernel
theorem dX7_goesBy_20 : decode cX7_goesBy 20 = .ok (.invokevirtual 105, 3) := by decide +kernel
theorem dX7_goesBy_23 : decode cX7_goesBy 23 = .ok (.aload_n 0, 1) := by decide +kernel
theorem dX7_goesBy_24 : decode cX7_goesBy 24 = .ok (.aload_n 0, 1) := by decide +kernel
theorem dX7_goesBy_25 : decode cX7_goesBy 25 = .ok (.getfield 47, 3) := by decide +kernel
theorem dX7_goesBy_28 : decode cX7_goesBy 28 = .ok (.aload_n 2, 1) := by decide +kernel
theorem dX7_goesBy_29 : decode cX7_goesBy 29 = .ok (.iload_n 1, 1) := by decide +kernel
theorem dX7_goesBy_30 : decode cX7_goesBy 30 = .ok (.invokevirtual 119, 3) := by decide +kernel
theorem dX7_goesBy_33 : decode cX7_goesBy 33 = .ok (.istore_n 3, 1) := by decide +kernel
theorem dX7_goesBy_34 : decode cX7_goesBy 34 = .ok (.aload_n 0, 1) := by decide +kernel
theorem dX7_goesBy_35 : decode cX7_goesBy 35 = .ok (.getfield 47, 3) := by decide +kernel
theorem dX7_goesBy_38 : decode cX7_goesBy 38 = .ok (.aload_n 2, 1) := by decide +kernel
theorem dX7_goesBy_39 : decode cX7_goesBy 39 = .ok (.invokevirtual 72, 3) := by decide +kernel
theorem dX7_goesBy_42 : decode cX7_goesBy 42 = .ok (.iload_n 3, 1) := by decide +kernel
theorem dX7_goesBy_43 : decode cX7_goesBy 43 = .ok (.ireturn, 1) := by decide +kernel
set_option maxRecDepth 20000 in
theorem ggX7_boardsNext_X7_setBoards : GoodIn wsX7_boardsNext wsX7_setBoards := goodIn_r _ [8, 9, 10, 11, 12, 13, 14, 15, 16, 17, 3, 18, 19, 20, 21, 22, 23, 24, 25, 26, 27, 28, 29, 30, 31, 32, 33, 34, 35, 36, 37, 38, 39, 40, 41, 42, 43, 44, 45, 46, 47, 48, 49, 50, 51, 52, 53, 54, 55, 56, 57, 58, 59, 60, 61, 62, 63, 64, 65, 66, 67, 68, 69, 70, 71, 72, 73, 74, 75, 76, 77, 78, 79, 80, 81, 82, 83, 84, 85, 86, 87, 88, 89, 90, 91, 92, 93, 94, 95, 96, 97, 98, 99, 100, 101, 102, 103, 104, 105, 106, 107, 108, 109, 110] (by decide +kernel) (by decide +kernel)
set_option maxRecDepth 20000 in
theorem gX7_boardsNext_X7_setBoards : GoodIn wsX7_boardsNext (wsV RX7 105 RX7 yX7_setBoards wsX7_setBoards) := goodIn_app (goodIn_of _ (by decide +kernel)) ggX7_boardsNext_X7_setBoards
theorem dX7_boardsNext_0 : decode cX7_boardsNext 0 = .ok (.aload_n 0, 1) := by decide +kernel
theorem dX7_boardsNext_1 : decode cX7_boardsNext 1 = .ok (.getfield 47, 3) := by decide +kernel
theorem dX7_boardsNext_4 : decode cX7_boardsNext 4 = .ok (.getfield 99, 3) := by decide +kernel
theorem dX7_boardsNext_7 : decode cX7_boardsNext 7 = .ok (.astore_n 2, 1) := by decide +kernel
theorem dX7_boardsNext_8 : decode cX7_boardsNext 8 = .ok (.aload_n 2, 1) := by decide +kernel
theorem dX7_boardsNext_9 : decode cX7_boardsNext 9 = .ok (.ifnull 12, 3) := by decide +kernel
theorem dX7_boardsNext_12 : decode cX7_boardsNext 12 = .ok (.iload_n 1, 1) := by decide +kernel
theorem dX7_boardsNext_13 : decode cX7_boardsNext 13 = .ok (.ifCond .lt 8, 3) := by decide +kernel
theorem dX7_boardsNext_16 : decode cX7_boardsNext 16 = .ok (.iload_n 1, 1) := by decide +kernel
theorem dX7_boardsNext_17 : decode cX7_boardsNext 17 = .ok (.iconst 3, 1) := by decide +kernel
theorem dX7_boardsNext_18 : decode cX7_boardsNext 18 = .ok (.if_icmp .lt 5, 3) := by decide +kernel
theorem dX7_boardsNext_21 : decode cX7_boardsNext 21 = .ok (.iconst 0, 1) := by decide +kernel
theorem dX7_boardsNext_22 : decode cX7_boardsNext 22 = .ok (.ireturn, 1) := by decide +kernel
theorem dX7_boardsNext_23 : decode cX7_boardsNext 23 = .ok (.aload_n 0, 1) := by decide +kernel
theorem dX7_boardsNext_24 : decode cX7_boardsNext 24 = .ok (.aload_n 0, 1) := by decide +kernel
theorem dX7_boardsNext_25 : decode cX7_boardsNext 25 = .ok (.getfield 47, 3) := by decide +kernel
theorem dX7_boardsNext_28 : decode cX7_boardsNext 28 = .ok (.aload_n 2, 1) := by decide +kernel
theorem dX7_boardsNext_29 : decode cX7_boardsNext 29 = .ok (.invokevirtual 105, 3) := by decide +kernel
theorem dX7_boardsNext_32 : decode cX7_boardsNext 32 = .ok (.aload_n 2, 1) := by decide +kernel
theorem dX7_boardsNext_33 : decode cX7_boardsNext 33 = .ok (.getfield 83, 3) := by decide +kernel
theorem dX7_boardsNext_36 : decode cX7_boardsNext 36 = .ok (.iload_n 1, 1) := by decide +kernel
theorem dX7_boardsNext_37 : decode cX7_boardsNext 37 = .ok (.iaload, 1) := by decide +kernel
theorem dX7_boardsNext_38 : decode cX7_boardsNext 38 = .ok (.ireturn, 1) := by decide +kernel
set_option maxRecDepth 20000 in
theorem ggX7_setBoards_X0_boardsBy : GoodIn wsX7_setBoards wsX0_boardsBy := goodIn_r _ [25, 26, 27, 17, 18, 19, 28, 29, 30, 31, 32, 33, 34, 35, 36, 24, 37, 38, 39, 40, 41, 42, 43, 44, 45, 46, 47, 48, 49, 50, 51, 52, 53, 54, 55, 56, 57, 58, 59, 60, 61, 62, 63, 64, 65, 66, 67, 68, 95, 96, 97, 98, 99, 100, 101, 102, 103, 83, 84, 85, 86] (by decide +kernel) (by decide +kernel)
set_option maxRecDepth 20000 in
theorem gX7_setBoards_X0_boardsBy : GoodIn wsX7_setBoards (wsV RX7 161 RX0 yX0_boardsBy wsX0_boardsBy) := goodIn_app (goodIn_of _ (by decide +kernel)) ggX7_setBoards_X0_boardsBy
theorem dX7_setBoards_0 : decode cX7_setBoards 0 = .ok (.aload_n 0, 1) := by decide +kernel
theorem dX7_setBoards_1 : decode cX7_setBoards 1 = .ok (.getfield 38, 3) := by decide +kernel
theorem dX7_setBoards_4 : decode cX7_setBoards 4 = .ok (.aload_n 1, 1) := by decide +kernel
theorem dX7_setBoards_5 : decode cX7_setBoards 5 = .ok (.getfield 144, 3) := by decide +kernel
theorem dX7_setBoards_8 : decode cX7_setBoards 8 = .ok (.putfield 147, 3) := by decide +kernel
theorem dX7_setBoards_11 : decode cX7_setBoards 11 = .ok (.aload_n 0, 1) := by decide +kernel
theorem dX7_setBoards_12 : decode cX7_setBoards 12 = .ok (.getfield 38, 3) := by decide +kernel
theorem dX7_setBoards_15 : decode cX7_setBoards 15 = .ok (.aload_n 0, 1) := by decide +kernel
theorem dX7_setBoards_16 : decode cX7_setBoards 16 = .ok (.getfield 28, 3) := by decide +kernel
theorem dX7_setBoards_19 : decode cX7_setBoards 19 = .ok (.ifCond .ne 25, 3) := by decide +kernel
theorem dX7_setBoards_22 : decode cX7_setBoards 22 = .ok (.aload_n 1, 1) := by decide +kernel
theorem dX7_setBoards_23 : decode cX7_setBoards 23 = .ok (.getfield 148, 3) := by decide +kernel
theorem dX7_setBoards_26 : decode cX7_setBoards 26 = .ok (.iconst 0, 1) := by decide +kernel
theorem dX7_setBoards_27 : decode cX7_setBoards 27 = .ok (.iaload, 1) := by decide +kernel
theorem dX7_setBoards_28 : decode cX7_setBoards 28 = .ok (.aload_n 0, 1) := by decide +kernel
theorem dX7_setBoards_29 : decode cX7_setBoards 29 = .ok (.getfield 12, 3) := by decide +kernel
theorem dX7_setBoards_32 : decode cX7_setBoards 32 = .ok (.getfield 86, 3) := by decide +kernel
theorem dX7_setBoards_35 : decode cX7_setBoards 35 = .ok (.iconst 0, 1) := by decide +kernel
theorem dX7_setBoards_36 : decode cX7_setBoards 36 = .ok (.iaload, 1) := by decide +kernel
theorem dX7_setBoards_37 : decode cX7_setBoards 37 = .ok (.if_icmp .ne 7, 3) := by decide +kernel
theorem dX7_setBoards_40 : decode cX7_setBoards 40 = .ok (.iconst 1, 1) := by decide +kernel
theorem dX7_setBoards_41 : decode cX7_setBoards 41 = .ok (.goto 4, 3) := by decide +kernel
theorem dX7_setBoards_44 : decode cX7_setBoards 44 = .ok (.iconst 0, 1) := by decide +kernel
theorem dX7_setBoards_45 : decode cX7_setBoards 45 = .ok (.putfield 151, 3) := by decide +kernel
theorem dX7_setBoards_48 : decode cX7_setBoards 48 = .ok (.iconst 0, 1) := by decide +kernel
theorem dX7_setBoards_49 : decode cX7_setBoards 49 = .ok (.istore_n 3, 1) := by decide +kernel
theorem dX7_setBoards_50 : decode cX7_setBoards 50 = .ok (.iconst 0, 1) := by decide +kernel
theorem dX7_setBoards_51 : decode cX7_setBoards 51 = .ok (.istore 4, 2) := by decide +kernel
theorem dX7_setBoards_53 : decode cX7_setBoards 53 = .ok (.iload 4, 2) := by decide +kernel
theorem dX7_setBoards_55 : decode cX7_setBoards 55 = .ok (.aload_n 0, 1) := by decide +kernel
theorem dX7_setBoards_56 : decode cX7_setBoards 56 = .ok (.getfield 12, 3) := by decide +kernel
theorem dX7_setBoards_59 : decode cX7_setBoards 59 = .ok (.getfield 58, 3) := by decide +kernel
theorem dX7_setBoards_62 : decode cX7_setBoards 62 = .ok (.if_icmp .ge 136, 3) := by decide +kernel
theorem dX7_setBoards_65 : decode cX7_setBoards 65 = .ok (.iload 4, 2) := by decide +kernel
theorem dX7_setBoards_67 : decode cX7_setBoards 67 = .ok (.iconst 3, 1) := by decide +kernel
theorem dX7_setBoards_68 : decode cX7_setBoards 68 = .ok (.if_icmp .ge 130, 3) := by decide +kernel
theorem dX7_setBoards_71 : decode cX7_setBoards 71 = .ok (.aload_n 1, 1) := by decide +kernel
theorem dX7_setBoards_72 : decode cX7_setBoards 72 = .ok (.getfield 83, 3) := by decide +kernel
theorem dX7_setBoards_75 : decode cX7_setBoards 75 = .ok (.iload 4, 2) := by decide +kernel
theorem dX7_setBoards_77 : decode cX7_setBoards 77 = .ok (.iaload, 1) := by decide +kernel
theorem dX7_setBoards_78 : decode cX7_setBoards 78 = .ok (.istore 5, 2) := by decide +kernel
theorem dX7_setBoards_80 : decode cX7_setBoards 80 = .ok (.aload_n 0, 1) := by decide +kernel
theorem dX7_setBoards_81 : decode cX7_setBoards 81 = .ok (.getfield 20, 3) := by decide +kernel
theorem dX7_setBoards_84 : decode cX7_setBoards 84 = .ok (.iload 4, 2) := by decide +kernel
theorem dX7_setBoards_86 : decode cX7_setBoards 86 = .ok (.aaload, 1) := by decide +kernel
theorem dX7_setBoards_87 : decode cX7_setBoards 87 = .ok (.astore 6, 2) := by decide +kernel
theorem dX7_setBoards_89 : decode cX7_setBoards 89 = .ok (.aload 6, 2) := by decide +kernel
theorem dX7_setBoards_91 : decode cX7_setBoards 91 = .ok (.ifnull 56, 3) := by decide +kernel
theorem dX7_setBoards_94 : decode cX7_setBoards 94 = .ok (.aload_n 0, 1) := by decide +kernel
theorem dX7_setBoards_95 : decode cX7_setBoards 95 = .ok (.getfield 24, 3) := by decide +kernel
theorem dX7_setBoards_98 : decode cX7_setBoards 98 = .ok (.iload 4, 2) := by decide +kernel
theorem dX7_setBoards_100 : decode cX7_setBoards 100 = .ok (.ishr, 1) := by decide +kernel
theorem dX7_setBoards_101 : decode cX7_setBoards 101 = .ok (.iconst 1, 1) := by decide +kernel
theorem dX7_setBoards_102 : decode cX7_setBoards 102 = .ok (.iand, 1) := by decide +kernel
theorem dX7_setBoards_103 : decode cX7_setBoards 103 = .ok (.ifCond .ne 44, 3) := by decide +kernel
theorem dX7_setBoards_106 : decode cX7_setBoards 106 = .ok (.aload_n 0, 1) := by decide +kernel
theorem dX7_setBoards_107 : decode cX7_setBoards 107 = .ok (.getfield 38, 3) := by decide +kernel
theorem dX7_setBoards_110 : decode cX7_setBoards 110 = .ok (.aload_n 1, 1) := by decide +kernel
theorem dX7_setBoards_111 : decode cX7_setBoards 111 = .ok (.getfield 148, 3) := by decide +kernel
theorem dX7_setBoards_114 : decode cX7_setBoards 114 = .ok (.iload 4, 2) := by decide +kernel
theorem dX7_setBoards_116 : decode cX7_setBoards 116 = .ok (.iaload, 1) := by decide +kernel
theorem dX7_setBoards_117 : decode cX7_setBoards 117 = .ok (.putfield 154, 3) := by decide +kernel
theorem dX7_setBoards_120 : decode cX7_setBoards 120 = .ok (.aload_n 0, 1) := by decide +kernel
theorem dX7_setBoards_121 : decode cX7_setBoards 121 = .ok (.getfield 38, 3) := by decide +kernel
theorem dX7_setBoards_124 : decode cX7_setBoards 124 = .ok (.aload_n 1, 1) := by decide +kernel
theorem dX7_setBoards_125 : decode cX7_setBoards 125 = .ok (.getfield 156, 3) := by decide +kernel
theorem dX7_setBoards_128 : decode cX7_setBoards 128 = .ok (.iload 4, 2) := by decide +kernel
theorem dX7_setBoards_130 : decode cX7_setBoards 130 = .ok (.iaload, 1) := by decide +kernel
theorem dX7_setBoards_131 : decode cX7_setBoards 131 = .ok (.putfield 159, 3) := by decide +kernel
theorem dX7_setBoards_134 : decode cX7_setBoards 134 = .ok (.aload 6, 2) := by decide +kernel
theorem dX7_setBoards_136 : decode cX7_setBoards 136 = .ok (.aload_n 0, 1) := by decide +kernel
theorem dX7_setBoards_137 : decode cX7_setBoards 137 = .ok (.getfield 38, 3) := by decide +kernel
theorem dX7_setBoards_140 : decode cX7_setBoards 140 = .ok (.iload 5, 2) := by decide +kernel
theorem dX7_setBoards_142 : decode cX7_setBoards 142 = .ok (.invokevirtual 161, 3) := by decide +kernel
theorem dX7_setBoards_145 : decode cX7_setBoards 145 = .ok (.istore 5, 2) := by decide +kernel
theorem dX7_setBoards_147 : decode cX7_setBoards 147 = .ok (.aload_n 1, 1) := by decide +kernel
theorem dX7_setBoards_148 : decode cX7_setBoards 148 = .ok (.getfield 148, 3) := by decide +kernel
theorem dX7_setBoards_151 : decode cX7_setBoards 151 = .ok (.iload 4, 2) := by decide +kernel
theorem dX7_setBoards_153 : decode cX7_setBoards 153 = .ok (.iaload, 1) := by decide +kernel
theorem dX7_setBoards_154 : decode cX7_setBoards 154 = .ok (.iload 5, 2) := by decide +kernel
theorem dX7_setBoards_156 : decode cX7_setBoards 156 = .ok (.invokestatic 77, 3) := by decide +kernel
theorem dX7_setBoards_159 : decode cX7_setBoards 159 = .ok (.istore 7, 2) := by decide +kernel
theorem dX7_setBoards_161 : decode cX7_setBoards 161 = .ok (.aload_n 2, 1) := by decide +kernel
theorem dX7_setBoards_162 : decode cX7_setBoards 162 = .ok (.getfield 83, 3) := by decide +kernel
theorem dX7_setBoards_165 : decode cX7_setBoards 165 = .ok (.iload 4, 2) := by decide +kernel
theorem dX7_setBoards_167 : decode cX7_setBoards 167 = .ok (.iload 5, 2) := by decide +kernel
theorem dX7_setBoards_169 : decode cX7_setBoards 169 = .ok (.iastore, 1) := by decide +kernel
theorem dX7_setBoards_170 : decode cX7_setBoards 170 = .ok (.aload_n 2, 1) := by decide +kernel
theorem dX7_setBoards_171 : decode cX7_setBoards 171 = .ok (.getfield 123, 3) := by decide +kernel
theorem dX7_setBoards_174 : decode cX7_setBoards 174 = .ok (.iload 4, 2) := by decide +kernel
theorem dX7_setBoards_176 : decode cX7_setBoards 176 = .ok (.aload_n 1, 1) := by decide +kernel
theorem dX7_setBoards_177 : decode cX7_setBoards 177 = .ok (.getfield 148, 3) := by decide +kernel
theorem dX7_setBoards_180 : decode cX7_setBoards 180 = .ok (.iload 4, 2) := by decide +kernel
theorem dX7_setBoards_182 : decode cX7_setBoards 182 = .ok (.iaload, 1) := by decide +kernel
theorem dX7_setBoards_183 : decode cX7_setBoards 183 = .ok (.iload 7, 2) := by decide +kernel
theorem dX7_setBoards_185 : decode cX7_setBoards 185 = .ok (.isub, 1) := by decide +kernel
theorem dX7_setBoards_186 : decode cX7_setBoards 186 = .ok (.iload_n 3, 1) := by decide +kernel
theorem dX7_setBoards_187 : decode cX7_setBoards 187 = .ok (.iadd, 1) := by decide +kernel
theorem dX7_setBoards_188 : decode cX7_setBoards 188 = .ok (.iastore, 1) := by decide +kernel
theorem dX7_setBoards_189 : decode cX7_setBoards 189 = .ok (.iload 7, 2) := by decide +kernel
theorem dX7_setBoards_191 : decode cX7_setBoards 191 = .ok (.istore_n 3, 1) := by decide +kernel
theorem dX7_setBoards_192 : decode cX7_setBoards 192 = .ok (.iinc 4 1, 3) := by decide +kernel
theorem dX7_setBoards_195 : decode cX7_setBoards 195 = .ok (.goto (-142), 3) := by decide +kernel
theorem dX7_setBoards_198 : decode cX7_setBoards 198 = .ok (.aload_n 2, 1) := by decide +kernel
theorem dX7_setBoards_199 : decode cX7_setBoards 199 = .ok (.aload_n 1, 1) := by decide +kernel
theorem dX7_setBoards_200 : decode cX7_setBoards 200 = .ok (.getfield 144, 3) := by decide +kernel
theorem dX7_setBoards_203 : decode cX7_setBoards 203 = .ok (.iconst 1, 1) := by decide +kernel
theorem dX7_setBoards_204 : decode cX7_setBoards 204 = .ok (.iadd, 1) := by decide +kernel
theorem dX7_setBoards_205 : decode cX7_setBoards 205 = .ok (.putfield 144, 3) := by decide +kernel
theorem dX7_setBoards_208 : decode cX7_setBoards 208 = .ok (.return_, 1) := by decide +kernel
theorem dX7_letFall_0 : decode cX7_letFall 0 = .ok (.iconst 0, 1) := by decide +kernel
theorem dX7_letFall_1 : decode cX7_letFall 1 = .ok (.istore 4, 2) := by decide +kernel
theorem dX7_letFall_3 : decode cX7_letFall 3 = .ok (.iconst 0, 1) := by decide +kernel
theorem dX7_letFall_4 : decode cX7_letFall 4 = .ok (.istore 5, 2) := by decide +kernel
theorem dX7_letFall_6 : decode cX7_letFall 6 = .ok (.iload 5, 2) := by decide +kernel
theorem dX7_letFall_8 : decode cX7_letFall 8 = .ok (.aload_n 0, 1) := by decide +kernel
theorem dX7_letFall_9 : decode cX7_letFall 9 = .ok (.getfield 12, 3) := by decide +kernel
theorem dX7_letFall_12 : decode cX7_letFall 12 = .ok (.getfield 58, 3) := by decide +kernel
theorem dX7_letFall_15 : decode cX7_letFall 15 = .ok (.if_icmp .ge 115, 3) := by decide +kernel
theorem dX7_letFall_18 : decode cX7_letFall 18 = .ok (.iload 5, 2) := by decide +kernel
theorem dX7_letFall_20 : decode cX7_letFall 20 = .ok (.iconst 3, 1) := by decide +kernel
theorem dX7_letFall_21 : decode cX7_letFall 21 = .ok (.if_icmp .ge 109, 3) := by decide +kernel
theorem dX7_letFall_24 : decode cX7_letFall 24 = .ok (.aload_n 2, 1) := by decide +kernel
theorem dX7_letFall_25 : decode cX7_letFall 25 = .ok (.getfield 123, 3) := by decide +kernel
theorem dX7_letFall_28 : decode cX7_letFall 28 = .ok (.iload 5, 2) := by decide +kernel
theorem dX7_letFall_30 : decode cX7_letFall 30 = .ok (.iaload, 1) := by decide +kernel
theorem dX7_letFall_31 : decode cX7_letFall 31 = .ok (.iload_n 3, 1) := by decide +kernel
theorem dX7_letFall_32 : decode cX7_letFall 32 = .ok (.iload 5, 2) := by decide +kernel
theorem dX7_letFall_34 : decode cX7_letFall 34 = .ok (.ishr, 1) := by decide +kernel
theorem dX7_letFall_35 : decode cX7_letFall 35 = .ok (.iconst 1, 1) := by decide +kernel
theorem dX7_letFall_36 : decode cX7_letFall 36 = .ok (.iand, 1) := by decide +kernel
theorem dX7_letFall_37 : decode cX7_letFall 37 = .ok (.iadd, 1) := by decide +kernel
theorem dX7_letFall_38 : decode cX7_letFall 38 = .ok (.istore 6, 2) := by decide +kernel
theorem dX7_letFall_40 : decode cX7_letFall 40 = .ok (.iload 6, 2) := by decide +kernel
theorem dX7_letFall_42 : decode cX7_letFall 42 = .ok (.aload_n 0, 1) := by decide +kernel
theorem dX7_letFall_43 : decode cX7_letFall 43 = .ok (.getfield 12, 3) := by decide +kernel
theorem dX7_letFall_46 : decode cX7_letFall 46 = .ok (.getfield 86, 3) := by decide +kernel
theorem dX7_letFall_49 : decode cX7_letFall 49 = .ok (.iload 5, 2) := by decide +kernel
theorem dX7_letFall_51 : decode cX7_letFall 51 = .ok (.iaload, 1) := by decide +kernel
theorem dX7_letFall_52 : decode cX7_letFall 52 = .ok (.if_icmp .le 24, 3) := by decide +kernel
theorem dX7_letFall_55 : decode cX7_letFall 55 = .ok (.aload_n 0, 1) := by decide +kernel
theorem dX7_letFall_56 : decode cX7_letFall 56 = .ok (.getfield 12, 3) := by decide +kernel
theorem dX7_letFall_59 : decode cX7_letFall 59 = .ok (.getfield 86, 3) := by decide +kernel
theorem dX7_letFall_62 : decode cX7_letFall 62 = .ok (.iload 5, 2) := by decide +kernel
theorem dX7_letFall_64 : decode cX7_letFall 64 = .ok (.iaload, 1) := by decide +kernel
theorem dX7_letFall_65 : decode cX7_letFall 65 = .ok (.istore 6, 2) := by decide +kernel
theorem dX7_letFall_67 : decode cX7_letFall 67 = .ok (.iload 4, 2) := by decide +kernel
theorem dX7_letFall_69 : decode cX7_letFall 69 = .ok (.iconst 1, 1) := by decide +kernel
theorem dX7_letFall_70 : decode cX7_letFall 70 = .ok (.iload 5, 2) := by decide +kernel
theorem dX7_letFall_72 : decode cX7_letFall 72 = .ok (.ishl, 1) := by decide +kernel
theorem dX7_letFall_73 : decode cX7_letFall 73 = .ok (.ior, 1) := by decide +kernel
theorem dX7_letFall_74 : decode cX7_letFall 74 = .ok (.istore 4, 2) := by decide +kernel
theorem dX7_letFall_76 : decode cX7_letFall 76 = .ok (.aload_n 1, 1) := by decide +kernel
theorem dX7_letFall_77 : decode cX7_letFall 77 = .ok (.getfield 148, 3) := by decide +kernel
theorem dX7_letFall_80 : decode cX7_letFall 80 = .ok (.iload 5, 2) := by decide +kernel
theorem dX7_letFall_82 : decode cX7_letFall 82 = .ok (.iaload, 1) := by decide +kernel
theorem dX7_letFall_83 : decode cX7_letFall 83 = .ok (.istore 7, 2) := by decide +kernel
theorem dX7_letFall_85 : decode cX7_letFall 85 = .ok (.aload_n 2, 1) := by decide +kernel
theorem dX7_letFall_86 : decode cX7_letFall 86 = .ok (.getfield 148, 3) := by decide +kernel
theorem dX7_letFall_89 : decode cX7_letFall 89 = .ok (.iload 5, 2) := by decide +kernel
theorem dX7_letFall_91 : decode cX7_letFall 91 = .ok (.iload 6, 2) := by decide +kernel
theorem dX7_letFall_93 : decode cX7_letFall 93 = .ok (.iastore, 1) := by decide +kernel
theorem dX7_letFall_94 : decode cX7_letFall 94 = .ok (.aload_n 2, 1) := by decide +kernel
theorem dX7_letFall_95 : decode cX7_letFall 95 = .ok (.getfield 156, 3) := by decide +kernel
theorem dX7_letFall_98 : decode cX7_letFall 98 = .ok (.iload 5, 2) := by decide +kernel
theorem dX7_letFall_100 : decode cX7_letFall 100 = .ok (.iload 6, 2) := by decide +kernel
theorem dX7_letFall_102 : decode cX7_letFall 102 = .ok (.iload 7, 2) := by decide +kernel
theorem dX7_letFall_104 : decode cX7_letFall 104 = .ok (.if_icmp .ge 7, 3) := by decide +kernel
theorem dX7_letFall_107 : decode cX7_letFall 107 = .ok (.iconst 0, 1) := by decide +kernel
theorem dX7_letFall_108 : decode cX7_letFall 108 = .ok (.goto 15, 3) := by decide +kernel
theorem dX7_letFall_111 : decode cX7_letFall 111 = .ok (.iload 6, 2) := by decide +kernel
theorem dX7_letFall_113 : decode cX7_letFall 113 = .ok (.iload 7, 2) := by decide +kernel
theorem dX7_letFall_115 : decode cX7_letFall 115 = .ok (.if_icmp .le 7, 3) := by decide +kernel
theorem dX7_letFall_118 : decode cX7_letFall 118 = .ok (.iconst 2, 1) := by decide +kernel
theorem dX7_letFall_119 : decode cX7_letFall 119 = .ok (.goto 4, 3) := by decide +kernel
theorem dX7_letFall_122 : decode cX7_letFall 122 = .ok (.iconst 1, 1) := by decide +kernel
theorem dX7_letFall_123 : decode cX7_letFall 123 = .ok (.iastore, 1) := by decide +kernel
theorem dX7_letFall_124 : decode cX7_letFall 124 = .ok (.iinc 5 1, 3) := by decide +kernel
theorem dX7_letFall_127 : decode cX7_letFall 127 = .ok (.goto (-121), 3) := by decide +kernel
theorem dX7_letFall_130 : decode cX7_letFall 130 = .ok (.iload 4, 2) := by decide +kernel
theorem dX7_letFall_132 : decode cX7_letFall 132 = .ok (.ireturn, 1) := by decide +kernel
theorem dX7_dryMills_0 : decode cX7_dryMills 0 = .ok (.iconst 0, 1) := by decide +kernel
theorem dX7_dryMills_1 : decode cX7_dryMills 1 = .ok (.istore_n 2, 1) := by decide +kernel
theorem dX7_dryMills_2 : decode cX7_dryMills 2 = .ok (.iconst 0, 1) := by decide +kernel
theorem dX7_dryMills_3 : decode cX7_dryMills 3 = .ok (.istore_n 3, 1) := by decide +kernel
theorem dX7_dryMills_4 : decode cX7_dryMills 4 = .ok (.iload_n 3, 1) := by decide +kernel
theorem dX7_dryMills_5 : decode cX7_dryMills 5 = .ok (.aload_n 0, 1) := by decide +kernel
theorem dX7_dryMills_6 : decode cX7_dryMills 6 = .ok (.getfield 12, 3) := by decide +kernel
theorem dX7_dryMills_9 : decode cX7_dryMills 9 = .ok (.getfield 58, 3) := by decide +kernel
theorem dX7_dryMills_12 : decode cX7_dryMills 12 = .ok (.if_icmp .ge 38, 3) := by decide +kernel
theorem dX7_dryMills_15 : decode cX7_dryMills 15 = .ok (.iload_n 3, 1) := by decide +kernel
theorem dX7_dryMills_16 : decode cX7_dryMills 16 = .ok (.iconst 3, 1) := by decide +kernel
theorem dX7_dryMills_17 : decode cX7_dryMills 17 = .ok (.if_icmp .ge 33, 3) := by decide +kernel
theorem dX7_dryMills_20 : decode cX7_dryMills 20 = .ok (.aload_n 1, 1) := by decide +kernel
theorem dX7_dryMills_21 : decode cX7_dryMills 21 = .ok (.getfield 148, 3) := by decide +kernel
theorem dX7_dryMills_24 : decode cX7_dryMills 24 = .ok (.iload_n 3, 1) := by decide +kernel
theorem dX7_dryMills_25 : decode cX7_dryMills 25 = .ok (.iaload, 1) := by decide +kernel
theorem dX7_dryMills_26 : decode cX7_dryMills 26 = .ok (.aload_n 0, 1) := by decide +kernel
theorem dX7_dryMills_27 : decode cX7_dryMills 27 = .ok (.getfield 12, 3) := by decide +kernel
theorem dX7_dryMills_30 : decode cX7_dryMills 30 = .ok (.getfield 165, 3) := by decide +kernel
theorem dX7_dryMills_33 : decode cX7_dryMills 33 = .ok (.iload_n 3, 1) := by decide +kernel
theorem dX7_dryMills_34 : decode cX7_dryMills 34 = .ok (.iaload, 1) := by decide +kernel
theorem dX7_dryMills_35 : decode cX7_dryMills 35 = .ok (.if_icmp .ge 9, 3) := by decide +kernel
theorem dX7_dryMills_38 : decode cX7_dryMills 38 = .ok (.iload_n 2, 1) := by decide +kernel
theorem dX7_dryMills_39 : decode cX7_dryMills 39 = .ok (.iconst 1, 1) := by decide +kernel
theorem dX7_dryMills_40 : decode cX7_dryMills 40 = .ok (.iload_n 3, 1) := by decide +kernel
theorem dX7_dryMills_41 : decode cX7_dryMills 41 = .ok (.ishl, 1) := by decide +kernel
theorem dX7_dryMills_42 : decode cX7_dryMills 42 = .ok (.ior, 1) := by decide +kernel
theorem dX7_dryMills_43 : decode cX7_dryMills 43 = .ok (.istore_n 2, 1) := by decide +kernel
theorem dX7_dryMills_44 : decode cX7_dryMills 44 = .ok (.iinc 3 1, 3) := by decide +kernel
theorem dX7_dryMills_47 : decode cX7_dryMills 47 = .ok (.goto (-43), 3) := by decide +kernel
theorem dX7_dryMills_50 : decode cX7_dryMills 50 = .ok (.iload_n 2, 1) := by decide +kernel
theorem dX7_dryMills_51 : decode cX7_dryMills 51 = .ok (.ireturn, 1) := by decide +kernel
theorem dX7_sumOfLevels_0 : decode cX7_sumOfLevels 0 = .ok (.iconst 0, 1) := by decide +kernel
theorem dX7_sumOfLevels_1 : decode cX7_sumOfLevels 1 = .ok (.istore_n 1, 1) := by decide +kernel
theorem dX7_sumOfLevels_2 : decode cX7_sumOfLevels 2 = .ok (.iconst 0, 1) := by decide +kernel
theorem dX7_sumOfLevels_3 : decode cX7_sumOfLevels 3 = .ok (.istore_n 2, 1) := by decide +kernel
theorem dX7_sumOfLevels_4 : decode cX7_sumOfLevels 4 = .ok (.iload_n 2, 1) := by decide +kernel
theorem dX7_sumOfLevels_5 : decode cX7_sumOfLevels 5 = .ok (.aload_n 0, 1) := by decide +kernel
theorem dX7_sumOfLevels_6 : decode cX7_sumOfLevels 6 = .ok (.getfield 12, 3) := by decide +kernel
theorem dX7_sumOfLevels_9 : decode cX7_sumOfLevels 9 = .ok (.getfield 58, 3) := by decide +kernel
theorem dX7_sumOfLevels_12 : decode cX7_sumOfLevels 12 = .ok (.if_icmp .ge 26, 3) := by decide +kernel
theorem dX7_sumOfLevels_15 : decode cX7_sumOfLevels 15 = .ok (.iload_n 2, 1) := by decide +kernel
theorem dX7_sumOfLevels_16 : decode cX7_sumOfLevels 16 = .ok (.iconst 3, 1) := by decide +kernel
theorem dX7_sumOfLevels_17 : decode cX7_sumOfLevels 17 = .ok (.if_icmp .ge 21, 3) := by decide +kernel
theorem dX7_sumOfLevels_20 : decode cX7_sumOfLevels 20 = .ok (.iload_n 1, 1) := by decide +kernel
theorem dX7_sumOfLevels_21 : decode cX7_sumOfLevels 21 = .ok (.aload_n 0, 1) := by decide +kernel
theorem dX7_sumOfLevels_22 : decode cX7_sumOfLevels 22 = .ok (.getfield 47, 3) := by decide +kernel
theorem dX7_sumOfLevels_25 : decode cX7_sumOfLevels 25 = .ok (.getfield 148, 3) := by decide +kernel
theorem dX7_sumOfLevels_28 : decode cX7_sumOfLevels 28 = .ok (.iload_n 2, 1) := by decide +kernel
theorem dX7_sumOfLevels_29 : decode cX7_sumOfLevels 29 = .ok (.iaload, 1) := by decide +kernel
theorem dX7_sumOfLevels_30 : decode cX7_sumOfLevels 30 = .ok (.iadd, 1) := by decide +kernel
theorem dX7_sumOfLevels_31 : decode cX7_sumOfLevels 31 = .ok (.istore_n 1, 1) := by decide +kernel
theorem dX7_sumOfLevels_32 : decode cX7_sumOfLevels 32 = .ok (.iinc 2 1, 3) := by decide +kernel
theorem dX7_sumOfLevels_35 : decode cX7_sumOfLevels 35 = .ok (.goto (-31), 3) := by decide +kernel
theorem dX7_sumOfLevels_38 : decode cX7_sumOfLevels 38 = .ok (.iload_n 1, 1) := by decide +kernel
theorem dX7_sumOfLevels_39 : decode cX7_sumOfLevels 39 = .ok (.ireturn, 1) := by decide +kernel
theorem dX8_init_0 : decode cX8_init 0 = .ok (.aload_n 0, 1) := by decide +kernel
theorem dX8_init_1 : decode cX8_init 1 = .ok (.invokespecial 3, 3) := by decide +kernel
theorem dX8_init_4 : decode cX8_init 4 = .ok (.aload_n 0, 1) := by decide +kernel
theorem dX8_init_5 : decode cX8_init 5 = .ok (.iconst 3, 1) := by decide +kernel
theorem dX8_init_6 : decode cX8_init 6 = .ok (.newarray .int, 2) := by decide +kernel
theorem dX8_init_8 : decode cX8_init 8 = .ok (.putfield 9, 3) := by decide +kernel
theorem dX8_init_11 : decode cX8_init 11 = .ok (.aload_n 0, 1) := by decide +kernel
theorem dX8_init_12 : decode cX8_init 12 = .ok (.iconst 3, 1) := by decide +kernel
theorem dX8_init_13 : decode cX8_init 13 = .ok (.newarray .int, 2) := by decide +kernel
theorem dX8_init_15 : decode cX8_init 15 = .ok (.putfield 15, 3) := by decide +kernel
theorem dX8_init_18 : decode cX8_init 18 = .ok (.aload_n 0, 1) := by decide +kernel
theorem dX8_init_19 : decode cX8_init 19 = .ok (.iconst 3, 1) := by decide +kernel
theorem dX8_init_20 : decode cX8_init 20 = .ok (.newarray .int, 2) := by decide +kernel
theorem dX8_init_22 : decode cX8_init 22 = .ok (.putfield 18, 3) := by decide +kernel
theorem dX8_init_25 : decode cX8_init 25 = .ok (.aload_n 0, 1) := by decide +kernel
theorem dX8_init_26 : decode cX8_init 26 = .ok (.iconst 3, 1) := by decide +kernel
theorem dX8_init_27 : decode cX8_init 27 = .ok (.newarray .int, 2) := by decide +kernel
theorem dX8_init_29 : decode cX8_init 29 = .ok (.putfield 21, 3) := by decide +kernel
theorem dX8_init_32 : decode cX8_init 32 = .ok (.aload_n 0, 1) := by decide +kernel
theorem dX8_init_33 : decode cX8_init 33 = .ok (.iconst 0, 1) := by decide +kernel
theorem dX8_init_34 : decode cX8_init 34 = .ok (.putfield 24, 3) := by decide +kernel
theorem dX8_init_37 : decode cX8_init 37 = .ok (.aload_n 0, 1) := by decide +kernel
theorem dX8_init_38 : decode cX8_init 38 = .ok (.iconst 0, 1) := by decide +kernel
theorem dX8_init_39 : decode cX8_init 39 = .ok (.putfield 28, 3) := by decide +kernel
theorem dX8_init_42 : decode cX8_init 42 = .ok (.aload_n 0, 1) := by decide +kernel
theorem dX8_init_43 : decode cX8_init 43 = .ok (.aload_n 1, 1) := by decide +kernel
theorem dX8_init_44 : decode cX8_init 44 = .ok (.putfield 31, 3) := by decide +kernel
theorem dX8_init_47 : decode cX8_init 47 = .ok (.return_, 1) := by decide +kernel
set_option maxRecDepth 20000 in
theorem ggX8_becomes_X10_copyRow : GoodIn wsX8_becomes wsX10_copyRow := goodIn_r _ [7, 8, 9, 10, 11, 12, 13, 14, 15] (by decide +kernel) (by decide +kernel)
set_option maxRecDepth 20000 in
theorem gX8_becomes_X10_copyRow_n35 : GoodIn wsX8_becomes (wsX10_copyRow) := ggX8_becomes_X10_copyRow
theorem dX8_becomes_0 : decode cX8_becomes 0 = .ok (.aload_n 1, 1) := by decide +kernel
theorem dX8_becomes_1 : decode cX8_becomes 1 = .ok (.getfield 9, 3) := by decide +kernel
theorem dX8_becomes_4 : decode cX8_becomes 4 = .ok (.aload_n 0, 1) := by decide +kernel
theorem dX8_becomes_5 : decode cX8_becomes 5 = .ok (.getfield 9, 3) := by decide +kernel
theorem dX8_becomes_8 : decode cX8_becomes 8 = .ok (.invokestatic 35, 3) := by decide +kernel
theorem dX8_becomes_11 : decode cX8_becomes 11 = .ok (.aload_n 1, 1) := by decide +kernel
theorem dX8_becomes_12 : decode cX8_becomes 12 = .ok (.getfield 15, 3) := by decide +kernel
theorem dX8_becomes_15 : decode cX8_becomes 15 = .ok (.aload_n 0, 1) := by decide +kernel
theorem dX8_becomes_16 : decode cX8_becomes 16 = .ok (.getfield 15, 3) := by decide +kernel
theorem dX8_becomes_19 : decode cX8_becomes 19 = .ok (.invokestatic 35, 3) := by decide +kernel
theorem dX8_becomes_22 : decode cX8_becomes 22 = .ok (.aload_n 1, 1) := by decide +kernel
theorem dX8_becomes_23 : decode cX8_becomes 23 = .ok (.getfield 18, 3) := by decide +kernel
theorem dX8_becomes_26 : decode cX8_becomes 26 = .ok (.aload_n 0, 1) := by decide +kernel
theorem dX8_becomes_27 : decode cX8_becomes 27 = .ok (.getfield 18, 3) := by decide +kernel
theorem dX8_becomes_30 : decode cX8_becomes 30 = .ok (.invokestatic 35, 3) := by decide +kernel
theorem dX8_becomes_33 : decode cX8_becomes 33 = .ok (.aload_n 0, 1) := by decide +kernel
theorem dX8_becomes_34 : decode cX8_becomes 34 = .ok (.aload_n 1, 1) := by decide +kernel
theorem dX8_becomes_35 : decode cX8_becomes 35 = .ok (.getfield 24, 3) := by decide +kernel
theorem dX8_becomes_38 : decode cX8_becomes 38 = .ok (.putfield 24, 3) := by decide +kernel
theorem dX8_becomes_41 : decode cX8_becomes 41 = .ok (.return_, 1) := by decide +kernel
set_option maxRecDepth 20000 in
theorem ggX9_init_X3_init : GoodIn wsX9_init wsX3_init := goodIn_r _ [17, 18, 2, 3, 19, 20, 21, 22, 4, 23, 24, 25, 26, 27, 28, 29, 30, 31, 32, 33, 34, 35, 36, 37, 38, 39, 40, 48, 49, 50, 51, 52, 53, 54, 55, 56, 57, 58, 59, 60, 61, 62] (by decide +kernel) (by decide +kernel)
set_option maxRecDepth 20000 in
theorem gX9_init_X3_init_n21 : GoodIn wsX9_init (wsX3_init) := ggX9_init_X3_init
theorem dX9_init_0 : decode cX9_init 0 = .ok (.aload_n 0, 1) := by decide +kernel
theorem dX9_init_1 : decode cX9_init 1 = .ok (.invokespecial 3, 3) := by decide +kernel
theorem dX9_init_4 : decode cX9_init 4 = .ok (.aload_n 0, 1) := by decide +kernel
theorem dX9_init_5 : decode cX9_init 5 = .ok (.bipush 120, 2) := by decide +kernel
theorem dX9_init_7 : decode cX9_init 7 = .ok (.newarray .int, 2) := by decide +kernel
theorem dX9_init_9 : decode cX9_init 9 = .ok (.putfield 9, 3) := by decide +kernel
theorem dX9_init_12 : decode cX9_init 12 = .ok (.aload_n 0, 1) := by decide +kernel
theorem dX9_init_13 : decode cX9_init 13 = .ok (.iconst 0, 1) := by decide +kernel
theorem dX9_init_14 : decode cX9_init 14 = .ok (.putfield 15, 3) := by decide +kernel
theorem dX9_init_17 : decode cX9_init 17 = .ok (.aload_n 0, 1) := by decide +kernel
theorem dX9_init_18 : decode cX9_init 18 = .ok (.new 19, 3) := by decide +kernel
theorem dX9_init_21 : decode cX9_init 21 = .ok (.dup, 1) := by decide +kernel
theorem dX9_init_22 : decode cX9_init 22 = .ok (.invokespecial 21, 3) := by decide +kernel
theorem dX9_init_25 : decode cX9_init 25 = .ok (.putfield 22, 3) := by decide +kernel
theorem dX9_init_28 : decode cX9_init 28 = .ok (.aload_n 0, 1) := by decide +kernel
theorem dX9_init_29 : decode cX9_init 29 = .ok (.bipush 8, 2) := by decide +kernel
theorem dX9_init_31 : decode cX9_init 31 = .ok (.anewarray 26, 3) := by decide +kernel
theorem dX9_init_34 : decode cX9_init 34 = .ok (.putfield 28, 3) := by decide +kernel
theorem dX9_init_37 : decode cX9_init 37 = .ok (.aload_n 0, 1) := by decide +kernel
theorem dX9_init_38 : decode cX9_init 38 = .ok (.iconst 0, 1) := by decide +kernel
theorem dX9_init_39 : decode cX9_init 39 = .ok (.putfield 32, 3) := by decide +kernel
theorem dX9_init_42 : decode cX9_init 42 = .ok (.aload_n 0, 1) := by decide +kernel
theorem dX9_init_43 : decode cX9_init 43 = .ok (.bipush 10, 2) := by decide +kernel
theorem dX9_init_45 : decode cX9_init 45 = .ok (.newarray .int, 2) := by decide +kernel
theorem dX9_init_47 : decode cX9_init 47 = .ok (.putfield 35, 3) := by decide +kernel
theorem dX9_init_50 : decode cX9_init 50 = .ok (.aload_n 0, 1) := by decide +kernel
theorem dX9_init_51 : decode cX9_init 51 = .ok (.iconst 0, 1) := by decide +kernel
theorem dX9_init_52 : decode cX9_init 52 = .ok (.putfield 38, 3) := by decide +kernel
theorem dX9_init_55 : decode cX9_init 55 = .ok (.return_, 1) := by decide +kernel
set_option maxRecDepth 20000 in
theorem ggX9_becomes_X10_copyRow : GoodIn wsX9_becomes wsX10_copyRow := goodIn_r _ [10, 11, 12, 13, 14, 15, 16, 17, 18] (by decide +kernel) (by decide +kernel)
set_option maxRecDepth 20000 in
theorem gX9_becomes_X10_copyRow_n41 : GoodIn wsX9_becomes (wsX10_copyRow) := ggX9_becomes_X10_copyRow
set_option maxRecDepth 20000 in
theorem ggX9_becomes_X3_becomes : GoodIn wsX9_becomes wsX3_becomes := goodIn_r _ [23, 24, 25, 26, 27, 28, 29, 30, 31, 8, 9, 10, 11, 12, 13, 14, 15, 16, 17, 18, 32, 33, 34, 35, 36, 37, 38, 39, 40, 48, 49, 50, 51, 52, 53, 54, 55, 56, 57, 58, 59, 60, 61, 62] (by decide +kernel) (by decide +kernel)
set_option maxRecDepth 20000 in
theorem gX9_becomes_X3_becomes : GoodIn wsX9_becomes (wsV RX9 45 RX3 yX3_becomes wsX3_becomes) := goodIn_app (goodIn_of _ (by decide +kernel)) ggX9_becomes_X3_becomes
theorem dX9_becomes_0 : decode cX9_becomes 0 = .ok (.aload_n 1, 1) := by decide +kernel
theorem dX9_becomes_1 : decode cX9_becomes 1 = .ok (.getfield 9, 3) := by decide +kernel
theorem dX9_becomes_4 : decode cX9_becomes 4 = .ok (.aload_n 0, 1) := by decide +kernel
theorem dX9_becomes_5 : decode cX9_becomes 5 = .ok (.getfield 9, 3) := by decide +kernel
theorem dX9_becomes_8 : decode cX9_becomes 8 = .ok (.invokestatic 41, 3) := by decide +kernel
theorem dX9_becomes_11 : decode cX9_becomes 11 = .ok (.aload_n 0, 1) := by decide +kernel
theorem dX9_becomes_12 : decode cX9_becomes 12 = .ok (.aload_n 1, 1) := by decide +kernel
theorem dX9_becomes_13 : decode cX9_becomes 13 = .ok (.getfield 15, 3) := by decide +kernel
theorem dX9_becomes_16 : decode cX9_becomes 16 = .ok (.putfield 15, 3) := by decide +kernel
theorem dX9_becomes_19 : decode cX9_becomes 19 = .ok (.aload_n 0, 1) := by decide +kernel
theorem dX9_becomes_20 : decode cX9_becomes 20 = .ok (.getfield 22, 3) := by decide +kernel
theorem dX9_becomes_23 : decode cX9_becomes 23 = .ok (.aload_n 1, 1) := by decide +kernel
theorem dX9_becomes_24 : decode cX9_becomes 24 = .ok (.getfield 22, 3) := by decide +kernel
theorem dX9_becomes_27 : decode cX9_becomes 27 = .ok (.invokevirtual 45, 3) := by decide +kernel
theorem dX9_becomes_30 : decode cX9_becomes 30 = .ok (.iconst 0, 1) := by decide +kernel
theorem dX9_becomes_31 : decode cX9_becomes 31 = .ok (.istore_n 2, 1) := by decide +kernel
theorem dX9_becomes_32 : decode cX9_becomes 32 = .ok (.iload_n 2, 1) := by decide +kernel
theorem dX9_becomes_33 : decode cX9_becomes 33 = .ok (.aload_n 1, 1) := by decide +kernel
theorem dX9_becomes_34 : decode cX9_becomes 34 = .ok (.getfield 28, 3) := by decide +kernel
theorem dX9_becomes_37 : decode cX9_becomes 37 = .ok (.arraylength, 1) := by decide +kernel
theorem dX9_becomes_38 : decode cX9_becomes 38 = .ok (.if_icmp .ge 30, 3) := by decide +kernel
theorem dX9_becomes_41 : decode cX9_becomes 41 = .ok (.iload_n 2, 1) := by decide +kernel
theorem dX9_becomes_42 : decode cX9_becomes 42 = .ok (.aload_n 0, 1) := by decide +kernel
theorem dX9_becomes_43 : decode cX9_becomes 43 = .ok (.getfield 28, 3) := by decide +kernel
theorem dX9_becomes_46 : decode cX9_becomes 46 = .ok (.arraylength, 1) := by decide +kernel
theorem dX9_becomes_47 : decode cX9_becomes 47 = .ok (.if_icmp .ge 21, 3) := by decide +kernel
theorem dX9_becomes_50 : decode cX9_becomes 50 = .ok (.aload_n 0, 1) := by decide +kernel
theorem dX9_becomes_51 : decode cX9_becomes 51 = .ok (.getfield 28, 3) := by decide +kernel
theorem dX9_becomes_54 : decode cX9_becomes 54 = .ok (.iload_n 2, 1) := by decide +kernel
theorem dX9_becomes_55 : decode cX9_becomes 55 = .ok (.aload_n 1, 1) := by decide +kernel
theorem dX9_becomes_56 : decode cX9_becomes 56 = .ok (.getfield 28, 3) := by decide +kernel
theorem dX9_becomes_59 : decode cX9_becomes 59 = .ok (.iload_n 2, 1) := by decide +kernel
theorem dX9_becomes_60 : decode cX9_becomes 60 = .ok (.aaload, 1) := by decide +kernel
theorem dX9_becomes_61 : decode cX9_becomes 61 = .ok (.aastore, 1) := by decide +kernel
theorem dX9_becomes_62 : decode cX9_becomes 62 = .ok (.iinc 2 1, 3) := by decide +kernel
theorem dX9_becomes_65 : decode cX9_becomes 65 = .ok (.goto (-33), 3) := by decide +kernel
theorem dX9_becomes_68 : decode cX9_becomes 68 = .ok (.aload_n 0, 1) := by decide +kernel
theorem dX9_becomes_69 : decode cX9_becomes 69 = .ok (.aload_n 1, 1) := by decide +kernel
theorem dX9_becomes_70 : decode cX9_becomes 70 = .ok (.getfield 32, 3) := by decide +kernel
theorem dX9_becomes_73 : decode cX9_becomes 73 = .ok (.putfield 32, 3) := by decide +kernel
theorem dX9_becomes_76 : decode cX9_becomes 76 = .ok (.aload_n 1, 1) := by decide +kernel
theorem dX9_becomes_77 : decode cX9_becomes 77 = .ok (.getfield 35, 3) := by decide +kernel
theorem dX9_becomes_80 : decode cX9_becomes 80 = .ok (.aload_n 0, 1) := by decide +kernel
theorem dX9_becomes_81 : decode cX9_becomes 81 = .ok (.getfield 35, 3) := by decide +kernel
theorem dX9_becomes_84 : decode cX9_becomes 84 = .ok (.invokestatic 41, 3) := by decide +kernel
theorem dX9_becomes_87 : decode cX9_becomes 87 = .ok (.aload_n 0, 1) := by decide +kernel
theorem dX9_becomes_88 : decode cX9_becomes 88 = .ok (.aload_n 1, 1) := by decide +kernel
theorem dX9_becomes_89 : decode cX9_becomes 89 = .ok (.getfield 38, 3) := by decide +kernel
theorem dX9_becomes_92 : decode cX9_becomes 92 = .ok (.putfield 38, 3) := by decide +kernel
theorem dX9_becomes_95 : decode cX9_becomes 95 = .ok (.return_, 1) := by decide +kernel
theorem dX9_putByte_0 : decode cX9_putByte 0 = .ok (.aload_n 0, 1) := by decide +kernel
theorem dX9_putByte_1 : decode cX9_putByte 1 = .ok (.getfield 15, 3) := by decide +kernel
theorem dX9_putByte_4 : decode cX9_putByte 4 = .ok (.ifCond .lt 15, 3) := by decide +kernel
theorem dX9_putByte_7 : decode cX9_putByte 7 = .ok (.aload_n 0, 1) := by decide +kernel
theorem dX9_putByte_8 : decode cX9_putByte 8 = .ok (.getfield 15, 3) := by decide +kernel
theorem dX9_putByte_11 : decode cX9_putByte 11 = .ok (.aload_n 0, 1) := by decide +kernel
theorem dX9_putByte_12 : decode cX9_putByte 12 = .ok (.getfield 9, 3) := by decide +kernel
theorem dX9_putByte_15 : decode cX9_putByte 15 = .ok (.arraylength, 1) := by decide +kernel
theorem dX9_putByte_16 : decode cX9_putByte 16 = .ok (.if_icmp .lt 4, 3) := by decide +kernel
theorem dX9_putByte_19 : decode cX9_putByte 19 = .ok (.return_, 1) := by decide +kernel
theorem dX9_putByte_20 : decode cX9_putByte 20 = .ok (.aload_n 0, 1) := by decide +kernel
theorem dX9_putByte_21 : decode cX9_putByte 21 = .ok (.getfield 9, 3) := by decide +kernel
theorem dX9_putByte_24 : decode cX9_putByte 24 = .ok (.aload_n 0, 1) := by decide +kernel
theorem dX9_putByte_25 : decode cX9_putByte 25 = .ok (.getfield 15, 3) := by decide +kernel
theorem dX9_putByte_28 : decode cX9_putByte 28 = .ok (.iload_n 1, 1) := by decide +kernel
theorem dX9_putByte_29 : decode cX9_putByte 29 = .ok (.iastore, 1) := by decide +kernel
theorem dX9_putByte_30 : decode cX9_putByte 30 = .ok (.aload_n 0, 1) := by decide +kernel
theorem dX9_putByte_31 : decode cX9_putByte 31 = .ok (.dup, 1) := by decide +kernel
theorem dX9_putByte_32 : decode cX9_putByte 32 = .ok (.getfield 15, 3) := by decide +kernel
theorem dX9_putByte_35 : decode cX9_putByte 35 = .ok (.iconst 1, 1) := by decide +kernel
theorem dX9_putByte_36 : decode cX9_putByte 36 = .ok (.iadd, 1) := by decide +kernel
theorem dX9_putByte_37 : decode cX9_putByte 37 = .ok (.putfield 15, 3) := by decide +kernel
theorem dX9_putByte_40 : decode cX9_putByte 40 = .ok (.return_, 1) := by decide +kernel
theorem dX9_putCard_0 : decode cX9_putCard 0 = .ok (.aload_n 0, 1) := by decide +kernel
theorem dX9_putCard_1 : decode cX9_putCard 1 = .ok (.getfield 32, 3) := by decide +kernel
theorem dX9_putCard_4 : decode cX9_putCard 4 = .ok (.ifCond .lt 15, 3) := by decide +kernel
theorem dX9_putCard_7 : decode cX9_putCard 7 = .ok (.aload_n 0, 1) := by decide +kernel
theorem dX9_putCard_8 : decode cX9_putCard 8 = .ok (.getfield 32, 3) := by decide +kernel
theorem dX9_putCard_11 : decode cX9_putCard 11 = .ok (.aload_n 0, 1) := by decide +kernel
theorem dX9_putCard_12 : decode cX9_putCard 12 = .ok (.getfield 28, 3) := by decide +kernel
theorem dX9_putCard_15 : decode cX9_putCard 15 = .ok (.arraylength, 1) := by decide +kernel
theorem dX9_putCard_16 : decode cX9_putCard 16 = .ok (.if_icmp .lt 4, 3) := by decide +kernel
theorem dX9_putCard_19 : decode cX9_putCard 19 = .ok (.return_, 1) := by decide +kernel
theorem dX9_putCard_20 : decode cX9_putCard 20 = .ok (.aload_n 0, 1) := by decide +kernel
theorem dX9_putCard_21 : decode cX9_putCard 21 = .ok (.getfield 28, 3) := by decide +kernel
theorem dX9_putCard_24 : decode cX9_putCard 24 = .ok (.aload_n 0, 1) := by decide +kernel
theorem dX9_putCard_25 : decode cX9_putCard 25 = .ok (.getfield 32, 3) := by decide +kernel
theorem dX9_putCard_28 : decode cX9_putCard 28 = .ok (.aload_n 1, 1) := by decide +kernel
theorem dX9_putCard_29 : decode cX9_putCard 29 = .ok (.aastore, 1) := by decide +kernel
theorem dX9_putCard_30 : decode cX9_putCard 30 = .ok (.aload_n 0, 1) := by decide +kernel
theorem dX9_putCard_31 : decode cX9_putCard 31 = .ok (.dup, 1) := by decide +kernel
theorem dX9_putCard_32 : decode cX9_putCard 32 = .ok (.getfield 32, 3) := by decide +kernel
theorem dX9_putCard_35 : decode cX9_putCard 35 = .ok (.iconst 1, 1) := by decide +kernel
theorem dX9_putCard_36 : decode cX9_putCard 36 = .ok (.iadd, 1) := by decide +kernel
theorem dX9_putCard_37 : decode cX9_putCard 37 = .ok (.putfield 32, 3) := by decide +kernel
theorem dX9_putCard_40 : decode cX9_putCard 40 = .ok (.return_, 1) := by decide +kernel
theorem dX9_putRain_0 : decode cX9_putRain 0 = .ok (.aload_n 0, 1) := by decide +kernel
theorem dX9_putRain_1 : decode cX9_putRain 1 = .ok (.getfield 38, 3) := by decide +kernel
theorem dX9_putRain_4 : decode cX9_putRain 4 = .ok (.ifCond .lt 15, 3) := by decide +kernel
theorem dX9_putRain_7 : decode cX9_putRain 7 = .ok (.aload_n 0, 1) := by decide +kernel
theorem dX9_putRain_8 : decode cX9_putRain 8 = .ok (.getfield 38, 3) := by decide +kernel
theorem dX9_putRain_11 : decode cX9_putRain 11 = .ok (.aload_n 0, 1) := by decide +kernel
theorem dX9_putRain_12 : decode cX9_putRain 12 = .ok (.getfield 35, 3) := by decide +kernel
theorem dX9_putRain_15 : decode cX9_putRain 15 = .ok (.arraylength, 1) := by decide +kernel
theorem dX9_putRain_16 : decode cX9_putRain 16 = .ok (.if_icmp .lt 4, 3) := by decide +kernel
theorem dX9_putRain_19 : decode cX9_putRain 19 = .ok (.return_, 1) := by decide +kernel
theorem dX9_putRain_20 : decode cX9_putRain 20 = .ok (.aload_n 0, 1) := by decide +kernel
theorem dX9_putRain_21 : decode cX9_putRain 21 = .ok (.getfield 35, 3) := by decide +kernel
theorem dX9_putRain_24 : decode cX9_putRain 24 = .ok (.aload_n 0, 1) := by decide +kernel
theorem dX9_putRain_25 : decode cX9_putRain 25 = .ok (.getfield 38, 3) := by decide +kernel
theorem dX9_putRain_28 : decode cX9_putRain 28 = .ok (.iload_n 1, 1) := by decide +kernel
theorem dX9_putRain_29 : decode cX9_putRain 29 = .ok (.iastore, 1) := by decide +kernel
theorem dX9_putRain_30 : decode cX9_putRain 30 = .ok (.aload_n 0, 1) := by decide +kernel
theorem dX9_putRain_31 : decode cX9_putRain 31 = .ok (.dup, 1) := by decide +kernel
theorem dX9_putRain_32 : decode cX9_putRain 32 = .ok (.getfield 38, 3) := by decide +kernel
theorem dX9_putRain_35 : decode cX9_putRain 35 = .ok (.iconst 1, 1) := by decide +kernel
theorem dX9_putRain_36 : decode cX9_putRain 36 = .ok (.iadd, 1) := by decide +kernel
theorem dX9_putRain_37 : decode cX9_putRain 37 = .ok (.putfield 38, 3) := by decide +kernel
theorem dX9_putRain_40 : decode cX9_putRain 40 = .ok (.return_, 1) := by decide +kernel
theorem dX9_cardOf_0 : decode cX9_cardOf 0 = .ok (.iload_n 1, 1) := by decide +kernel
theorem dX9_cardOf_1 : decode cX9_cardOf 1 = .ok (.ifCond .lt 20, 3) := by decide +kernel
theorem dX9_cardOf_4 : decode cX9_cardOf 4 = .ok (.iload_n 1, 1) := by decide +kernel
theorem dX9_cardOf_5 : decode cX9_cardOf 5 = .ok (.aload_n 0, 1) := by decide +kernel
theorem dX9_cardOf_6 : decode cX9_cardOf 6 = .ok (.getfield 32, 3) := by decide +kernel
theorem dX9_cardOf_9 : decode cX9_cardOf 9 = .ok (.if_icmp .ge 12, 3) := by decide +kernel
theorem dX9_cardOf_12 : decode cX9_cardOf 12 = .ok (.iload_n 1, 1) := by decide +kernel
theorem dX9_cardOf_13 : decode cX9_cardOf 13 = .ok (.aload_n 0, 1) := by decide +kernel
theorem dX9_cardOf_14 : decode cX9_cardOf 14 = .ok (.getfield 28, 3) := by decide +kernel
theorem dX9_cardOf_17 : decode cX9_cardOf 17 = .ok (.arraylength, 1) := by decide +kernel
theorem dX9_cardOf_18 : decode cX9_cardOf 18 = .ok (.if_icmp .lt 5, 3) := by decide +kernel
theorem dX9_cardOf_21 : decode cX9_cardOf 21 = .ok (.aconst_null, 1) := by decide +kernel
theorem dX9_cardOf_22 : decode cX9_cardOf 22 = .ok (.areturn, 1) := by decide +kernel
theorem dX9_cardOf_23 : decode cX9_cardOf 23 = .ok (.aload_n 0, 1) := by decide +kernel
theorem dX9_cardOf_24 : decode cX9_cardOf 24 = .ok (.getfield 28, 3) := by decide +kernel
theorem dX9_cardOf_27 : decode cX9_cardOf 27 = .ok (.iload_n 1, 1) := by decide +kernel
theorem dX9_cardOf_28 : decode cX9_cardOf 28 = .ok (.aaload, 1) := by decide +kernel
theorem dX9_cardOf_29 : decode cX9_cardOf 29 = .ok (.areturn, 1) := by decide +kernel
set_option maxRecDepth 20000 in
theorem ggX10_init_X9_init : GoodIn wsX10_init wsX9_init := goodIn_r _ [27, 28, 2, 3, 29, 30, 31, 32, 33, 34, 35, 36, 37, 38, 39, 40, 41, 42, 43, 44, 45, 46, 47, 48, 49, 50, 51, 52, 53, 54, 55, 56, 57, 58, 59, 60, 61, 62, 63, 64, 65, 115, 116, 117, 118, 119, 120, 121, 153, 154, 155, 156, 157, 158, 159, 160, 161, 162, 163, 164, 165, 166, 167] (by decide +kernel) (by decide +kernel)
set_option maxRecDepth 20000 in
theorem gX10_init_X9_init_n11 : GoodIn wsX10_init (wsX9_init) := ggX10_init_X9_init
set_option maxRecDepth 20000 in
theorem ggX10_init_X4_init : GoodIn wsX10_init wsX4_init := goodIn_r _ [67, 68, 33, 34, 69, 70, 71, 72, 73, 2, 3, 29, 74, 75, 76, 77, 41, 42, 43, 44, 45, 46, 47, 48, 49, 50, 51, 52, 53, 54, 55, 56, 57, 58, 59, 60, 61, 62, 63, 64, 65, 153, 154, 155, 156, 157, 158, 159, 160, 129, 130, 131, 132, 133, 134, 135, 136, 137, 138, 139, 140, 141, 142, 143, 161, 162, 163, 164, 165, 166, 167] (by decide +kernel) (by decide +kernel)
set_option maxRecDepth 20000 in
theorem gX10_init_X4_init_n23 : GoodIn wsX10_init (wsX4_init) := ggX10_init_X4_init
set_option maxRecDepth 20000 in
theorem ggX10_init_X1_init : GoodIn wsX10_init wsX1_init := goodIn_r _ [79, 29, 80, 81, 82, 83, 84, 85, 70, 71, 72, 73, 2, 3, 74, 75, 76, 77, 134, 135, 136, 137, 138, 139, 140, 141, 142, 143, 129, 130, 131, 132, 133] (by decide +kernel) (by decide +kernel)
set_option maxRecDepth 20000 in
theorem gX10_init_X1_init_n30 : GoodIn wsX10_init (wsX1_init) := ggX10_init_X1_init
set_option maxRecDepth 20000 in
theorem ggX10_init_X7_init : GoodIn wsX10_init wsX7_init := goodIn_r _ [87, 88, 2, 3, 89, 33, 34, 90, 91, 92, 93, 94, 95, 96, 97, 98, 99, 100, 52, 53, 101, 41, 42, 43, 44, 45, 46, 47, 29, 48, 49, 50, 51, 54, 55, 56, 57, 58, 59, 60, 61, 62, 63, 64, 65, 102, 103, 104, 105, 106, 107, 108, 109, 153, 154, 155, 156, 157, 158, 159, 160, 144, 145, 146, 147, 148, 149, 150, 168, 169, 170, 171, 161, 162, 163, 164, 165, 166, 167] (by decide +kernel) (by decide +kernel)
set_option maxRecDepth 20000 in
theorem gX10_init_X7_init_n37 : GoodIn wsX10_init (wsX7_init) := ggX10_init_X7_init
set_option maxRecDepth 20000 in
theorem ggX10_init_X6_init : GoodIn wsX10_init wsX6_init := goodIn_r _ [111, 112, 2, 3, 29, 113, 114, 151, 152] (by decide +kernel) (by decide +kernel)
set_option maxRecDepth 20000 in
theorem gX10_init_X6_init_n44 : GoodIn wsX10_init (wsX6_init) := ggX10_init_X6_init
theorem dX10_init_0 : decode cX10_init 0 = .ok (.aload_n 0, 1) := by decide +kernel
theorem dX10_init_1 : decode cX10_init 1 = .ok (.invokespecial 3, 3) := by decide +kernel
theorem dX10_init_4 : decode cX10_init 4 = .ok (.aload_n 0, 1) := by decide +kernel
theorem dX10_init_5 : decode cX10_init 5 = .ok (.new 9, 3) := by decide +kernel
theorem dX10_init_8 : decode cX10_init 8 = .ok (.dup, 1) := by decide +kernel
theorem dX10_init_9 : decode cX10_init 9 = .ok (.invokespecial 11, 3) := by decide +kernel
theorem dX10_init_12 : decode cX10_init 12 = .ok (.putfield 12, 3) := by decide +kernel
theorem dX10_init_15 : decode cX10_init 15 = .ok (.aload_n 0, 1) := by decide +kernel
theorem dX10_init_16 : decode cX10_init 16 = .ok (.new 9, 3) := by decide +kernel
theorem dX10_init_19 : decode cX10_init 19 = .ok (.dup, 1) := by decide +kernel
theorem dX10_init_20 : decode cX10_init 20 = .ok (.invokespecial 11, 3) := by decide +kernel
theorem dX10_init_23 : decode cX10_init 23 = .ok (.putfield 18, 3) := by decide +kernel
theorem dX10_init_26 : decode cX10_init 26 = .ok (.aload_n 0, 1) := by decide +kernel
theorem dX10_init_27 : decode cX10_init 27 = .ok (.new 21, 3) := by decide +kernel
theorem dX10_init_30 : decode cX10_init 30 = .ok (.dup, 1) := by decide +kernel
theorem dX10_init_31 : decode cX10_init 31 = .ok (.invokespecial 23, 3) := by decide +kernel
theorem dX10_init_34 : decode cX10_init 34 = .ok (.putfield 24, 3) := by decide +kernel
theorem dX10_init_37 : decode cX10_init 37 = .ok (.aload_n 0, 1) := by decide +kernel
theorem dX10_init_38 : decode cX10_init 38 = .ok (.new 28, 3) := by decide +kernel
theorem dX10_init_41 : decode cX10_init 41 = .ok (.dup, 1) := by decide +kernel
theorem dX10_init_42 : decode cX10_init 42 = .ok (.invokespecial 30, 3) := by decide +kernel
theorem dX10_init_45 : decode cX10_init 45 = .ok (.putfield 31, 3) := by decide +kernel
theorem dX10_init_48 : decode cX10_init 48 = .ok (.aload_n 0, 1) := by decide +kernel
theorem dX10_init_49 : decode cX10_init 49 = .ok (.new 35, 3) := by decide +kernel
