theorem dX0_init_0 : decode cX0_init 0 = .ok (.aload_n 0, 1) := by decide +kernel
theorem dX0_init_1 : decode cX0_init 1 = .ok (.invokespecial 3, 3) := by decide +kernel
theorem dX0_init_4 : decode cX0_init 4 = .ok (.aload_n 0, 1) := by decide +kernel
theorem dX0_init_5 : decode cX0_init 5 = .ok (.iload_n 1, 1) := by decide +kernel
theorem dX0_init_6 : decode cX0_init 6 = .ok (.putfield 9, 3) := by decide +kernel
theorem dX0_init_9 : decode cX0_init 9 = .ok (.aload_n 0, 1) := by decide +kernel
theorem dX0_init_10 : decode cX0_init 10 = .ok (.iload_n 2, 1) := by decide +kernel
theorem dX0_init_11 : decode cX0_init 11 = .ok (.putfield 15, 3) := by decide +kernel
theorem dX0_init_14 : decode cX0_init 14 = .ok (.aload_n 0, 1) := by decide +kernel
theorem dX0_init_15 : decode cX0_init 15 = .ok (.iload_n 3, 1) := by decide +kernel
theorem dX0_init_16 : decode cX0_init 16 = .ok (.putfield 18, 3) := by decide +kernel
theorem dX0_init_19 : decode cX0_init 19 = .ok (.aload_n 0, 1) := by decide +kernel
theorem dX0_init_20 : decode cX0_init 20 = .ok (.aload 4, 2) := by decide +kernel
theorem dX0_init_22 : decode cX0_init 22 = .ok (.getfield 21, 3) := by decide +kernel
theorem dX0_init_25 : decode cX0_init 25 = .ok (.putfield 26, 3) := by decide +kernel
theorem dX0_init_28 : decode cX0_init 28 = .ok (.aload_n 0, 1) := by decide +kernel
theorem dX0_init_29 : decode cX0_init 29 = .ok (.iconst (-1), 1) := by decide +kernel
theorem dX0_init_30 : decode cX0_init 30 = .ok (.putfield 27, 3) := by decide +kernel
theorem dX0_init_33 : decode cX0_init 33 = .ok (.aload_n 0, 1) := by decide +kernel
theorem dX0_init_34 : decode cX0_init 34 = .ok (.aload 4, 2) := by decide +kernel
theorem dX0_init_36 : decode cX0_init 36 = .ok (.getfield 30, 3) := by decide +kernel
theorem dX0_init_39 : decode cX0_init 39 = .ok (.invokevirtual 34, 3) := by decide +kernel
theorem dX0_init_42 : decode cX0_init 42 = .ok (.checkcast 35, 3) := by decide +kernel
theorem dX0_init_45 : decode cX0_init 45 = .ok (.putfield 39, 3) := by decide +kernel
theorem dX0_init_48 : decode cX0_init 48 = .ok (.aload_n 0, 1) := by decide +kernel
theorem dX0_init_49 : decode cX0_init 49 = .ok (.aload 4, 2) := by decide +kernel
theorem dX0_init_51 : decode cX0_init 51 = .ok (.getfield 40, 3) := by decide +kernel
theorem dX0_init_54 : decode cX0_init 54 = .ok (.invokevirtual 34, 3) := by decide +kernel
theorem dX0_init_57 : decode cX0_init 57 = .ok (.checkcast 35, 3) := by decide +kernel
theorem dX0_init_60 : decode cX0_init 60 = .ok (.putfield 43, 3) := by decide +kernel
theorem dX0_init_63 : decode cX0_init 63 = .ok (.aload_n 0, 1) := by decide +kernel
theorem dX0_init_64 : decode cX0_init 64 = .ok (.aload 4, 2) := by decide +kernel
theorem dX0_init_66 : decode cX0_init 66 = .ok (.getfield 44, 3) := by decide +kernel
theorem dX0_init_69 : decode cX0_init 69 = .ok (.invokevirtual 34, 3) := by decide +kernel
theorem dX0_init_72 : decode cX0_init 72 = .ok (.checkcast 35, 3) := by decide +kernel
theorem dX0_init_75 : decode cX0_init 75 = .ok (.putfield 47, 3) := by decide +kernel
theorem dX0_init_78 : decode cX0_init 78 = .ok (.aload_n 0, 1) := by decide +kernel
theorem dX0_init_79 : decode cX0_init 79 = .ok (.aload 4, 2) := by decide +kernel
theorem dX0_init_81 : decode cX0_init 81 = .ok (.getfield 48, 3) := by decide +kernel
theorem dX0_init_84 : decode cX0_init 84 = .ok (.invokevirtual 34, 3) := by decide +kernel
theorem dX0_init_87 : decode cX0_init 87 = .ok (.checkcast 35, 3) := by decide +kernel
theorem dX0_init_90 : decode cX0_init 90 = .ok (.putfield 51, 3) := by decide +kernel
theorem dX0_init_93 : decode cX0_init 93 = .ok (.return_, 1) := by decide +kernel
theorem dX0_init__0 : decode cX0_init_ 0 = .ok (.aload_n 0, 1) := by decide +kernel
theorem dX0_init__1 : decode cX0_init_ 1 = .ok (.invokespecial 3, 3) := by decide +kernel
theorem dX0_init__4 : decode cX0_init_ 4 = .ok (.aload_n 0, 1) := by decide +kernel
theorem dX0_init__5 : decode cX0_init_ 5 = .ok (.aload_n 1, 1) := by decide +kernel
theorem dX0_init__6 : decode cX0_init_ 6 = .ok (.getfield 9, 3) := by decide +kernel
theorem dX0_init__9 : decode cX0_init_ 9 = .ok (.putfield 9, 3) := by decide +kernel
theorem dX0_init__12 : decode cX0_init_ 12 = .ok (.aload_n 0, 1) := by decide +kernel
theorem dX0_init__13 : decode cX0_init_ 13 = .ok (.aload_n 1, 1) := by decide +kernel
theorem dX0_init__14 : decode cX0_init_ 14 = .ok (.getfield 15, 3) := by decide +kernel
theorem dX0_init__17 : decode cX0_init_ 17 = .ok (.putfield 15, 3) := by decide +kernel
theorem dX0_init__20 : decode cX0_init_ 20 = .ok (.aload_n 0, 1) := by decide +kernel
theorem dX0_init__21 : decode cX0_init_ 21 = .ok (.iload_n 2, 1) := by decide +kernel
theorem dX0_init__22 : decode cX0_init_ 22 = .ok (.putfield 18, 3) := by decide +kernel
theorem dX0_init__25 : decode cX0_init_ 25 = .ok (.aload_n 0, 1) := by decide +kernel
theorem dX0_init__26 : decode cX0_init_ 26 = .ok (.aload_n 1, 1) := by decide +kernel
theorem dX0_init__27 : decode cX0_init_ 27 = .ok (.getfield 26, 3) := by decide +kernel
theorem dX0_init__30 : decode cX0_init_ 30 = .ok (.putfield 26, 3) := by decide +kernel
theorem dX0_init__33 : decode cX0_init_ 33 = .ok (.aload_n 0, 1) := by decide +kernel
theorem dX0_init__34 : decode cX0_init_ 34 = .ok (.iload_n 3, 1) := by decide +kernel
theorem dX0_init__35 : decode cX0_init_ 35 = .ok (.putfield 27, 3) := by decide +kernel
theorem dX0_init__38 : decode cX0_init_ 38 = .ok (.aload_n 0, 1) := by decide +kernel
theorem dX0_init__39 : decode cX0_init_ 39 = .ok (.aload_n 1, 1) := by decide +kernel
theorem dX0_init__40 : decode cX0_init_ 40 = .ok (.getfield 39, 3) := by decide +kernel
theorem dX0_init__43 : decode cX0_init_ 43 = .ok (.putfield 39, 3) := by decide +kernel
theorem dX0_init__46 : decode cX0_init_ 46 = .ok (.aload_n 0, 1) := by decide +kernel
theorem dX0_init__47 : decode cX0_init_ 47 = .ok (.aload_n 1, 1) := by decide +kernel
theorem dX0_init__48 : decode cX0_init_ 48 = .ok (.getfield 43, 3) := by decide +kernel
theorem dX0_init__51 : decode cX0_init_ 51 = .ok (.putfield 43, 3) := by decide +kernel
theorem dX0_init__54 : decode cX0_init_ 54 = .ok (.aload_n 0, 1) := by decide +kernel
theorem dX0_init__55 : decode cX0_init_ 55 = .ok (.aload_n 1, 1) := by decide +kernel
theorem dX0_init__56 : decode cX0_init_ 56 = .ok (.getfield 47, 3) := by decide +kernel
theorem dX0_init__59 : decode cX0_init_ 59 = .ok (.putfield 47, 3) := by decide +kernel
theorem dX0_init__62 : decode cX0_init_ 62 = .ok (.aload_n 0, 1) := by decide +kernel
theorem dX0_init__63 : decode cX0_init_ 63 = .ok (.aload_n 1, 1) := by decide +kernel
theorem dX0_init__64 : decode cX0_init_ 64 = .ok (.getfield 51, 3) := by decide +kernel
theorem dX0_init__67 : decode cX0_init_ 67 = .ok (.putfield 51, 3) := by decide +kernel
theorem dX0_init__70 : decode cX0_init_ 70 = .ok (.return_, 1) := by decide +kernel
theorem dX0_above_0 : decode cX0_above 0 = .ok (.iload_n 0, 1) := by decide +kernel
theorem dX0_above_1 : decode cX0_above 1 = .ok (.ifCond .lt 11, 3) := by decide +kernel
theorem dX0_above_4 : decode cX0_above 4 = .ok (.iload_n 0, 1) := by decide +kernel
theorem dX0_above_5 : decode cX0_above 5 = .ok (.getstatic 52, 3) := by decide +kernel
theorem dX0_above_8 : decode cX0_above 8 = .ok (.arraylength, 1) := by decide +kernel
theorem dX0_above_9 : decode cX0_above 9 = .ok (.if_icmp .lt 7, 3) := by decide +kernel
theorem dX0_above_12 : decode cX0_above 12 = .ok (.iconst (-1), 1) := by decide +kernel
theorem dX0_above_13 : decode cX0_above 13 = .ok (.goto 8, 3) := by decide +kernel
theorem dX0_above_16 : decode cX0_above 16 = .ok (.getstatic 52, 3) := by decide +kernel
theorem dX0_above_19 : decode cX0_above 19 = .ok (.iload_n 0, 1) := by decide +kernel
theorem dX0_above_20 : decode cX0_above 20 = .ok (.iaload, 1) := by decide +kernel
theorem dX0_above_21 : decode cX0_above 21 = .ok (.ireturn, 1) := by decide +kernel
set_option maxRecDepth 20000 in
theorem ggX0_isUnder_X0_above : GoodIn wsX0_isUnder wsX0_above := goodIn_r _ [5, 6] (by decide +kernel) (by decide +kernel)
set_option maxRecDepth 20000 in
theorem gX0_isUnder_X0_above : GoodIn wsX0_isUnder (va_wsS RX0 55 yX0_above wsX0_above) := goodIn_app (goodIn_of _ (by decide +kernel)) ggX0_isUnder_X0_above
theorem dX0_isUnder_0 : decode cX0_isUnder 0 = .ok (.aload_n 0, 1) := by decide +kernel
theorem dX0_isUnder_1 : decode cX0_isUnder 1 = .ok (.getfield 15, 3) := by decide +kernel
theorem dX0_isUnder_4 : decode cX0_isUnder 4 = .ok (.istore_n 2, 1) := by decide +kernel
theorem dX0_isUnder_5 : decode cX0_isUnder 5 = .ok (.iconst 0, 1) := by decide +kernel
theorem dX0_isUnder_6 : decode cX0_isUnder 6 = .ok (.istore_n 3, 1) := by decide +kernel
theorem dX0_isUnder_7 : decode cX0_isUnder 7 = .ok (.iload_n 3, 1) := by decide +kernel
theorem dX0_isUnder_8 : decode cX0_isUnder 8 = .ok (.bipush 7, 2) := by decide +kernel
theorem dX0_isUnder_10 : decode cX0_isUnder 10 = .ok (.if_icmp .ge 25, 3) := by decide +kernel
theorem dX0_isUnder_13 : decode cX0_isUnder 13 = .ok (.iload_n 2, 1) := by decide +kernel
theorem dX0_isUnder_14 : decode cX0_isUnder 14 = .ok (.ifCond .lt 21, 3) := by decide +kernel
theorem dX0_isUnder_17 : decode cX0_isUnder 17 = .ok (.iload_n 2, 1) := by decide +kernel
theorem dX0_isUnder_18 : decode cX0_isUnder 18 = .ok (.iload_n 1, 1) := by decide +kernel
theorem dX0_isUnder_19 : decode cX0_isUnder 19 = .ok (.if_icmp .ne 5, 3) := by decide +kernel
theorem dX0_isUnder_22 : decode cX0_isUnder 22 = .ok (.iconst 1, 1) := by decide +kernel
theorem dX0_isUnder_23 : decode cX0_isUnder 23 = .ok (.ireturn, 1) := by decide +kernel
theorem dX0_isUnder_24 : decode cX0_isUnder 24 = .ok (.iload_n 2, 1) := by decide +kernel
theorem dX0_isUnder_25 : decode cX0_isUnder 25 = .ok (.invokestatic 55, 3) := by decide +kernel
theorem dX0_isUnder_28 : decode cX0_isUnder 28 = .ok (.istore_n 2, 1) := by decide +kernel
theorem dX0_isUnder_29 : decode cX0_isUnder 29 = .ok (.iinc 3 1, 3) := by decide +kernel
theorem dX0_isUnder_32 : decode cX0_isUnder 32 = .ok (.goto (-25), 3) := by decide +kernel
theorem dX0_isUnder_35 : decode cX0_isUnder 35 = .ok (.iconst 0, 1) := by decide +kernel
theorem dX0_isUnder_36 : decode cX0_isUnder 36 = .ok (.ireturn, 1) := by decide +kernel
set_option maxRecDepth 20000 in
theorem ggX0_boardsBy_X0_byLines : GoodIn wsX0_boardsBy wsX0_byLines := goodIn_r _ [16, 17, 18, 19, 11, 20, 21, 22, 15, 23, 24, 25, 6, 7, 4, 8, 26, 27, 28, 29, 30, 31, 32, 33, 34, 35, 48, 49, 50, 51, 52, 53, 54, 55, 56, 57, 58, 59, 60] (by decide +kernel) (by decide +kernel)
set_option maxRecDepth 20000 in
theorem gX0_boardsBy_X0_byLines : GoodIn wsX0_boardsBy (wsV RX0 59 RX0 yX0_byLines wsX0_byLines) := goodIn_app (goodIn_of _ (by decide +kernel)) ggX0_boardsBy_X0_byLines
set_option maxRecDepth 20000 in
theorem ggX0_boardsBy_X0_risen : GoodIn wsX0_boardsBy wsX0_risen := goodIn_r _ [38, 39, 2, 3, 4, 5, 57, 58, 59, 60] (by decide +kernel) (by decide +kernel)
set_option maxRecDepth 20000 in
theorem gX0_boardsBy_X0_risen : GoodIn wsX0_boardsBy (va_wsS RX0 63 yX0_risen wsX0_risen) := goodIn_app (goodIn_of _ (by decide +kernel)) ggX0_boardsBy_X0_risen
set_option maxRecDepth 20000 in
theorem ggX0_boardsBy_X0_inTurn : GoodIn wsX0_boardsBy wsX0_inTurn := goodIn_r _ [43, 19, 17, 11, 18, 44, 45, 46, 47, 48, 49, 50, 51, 52, 53, 54, 55, 56] (by decide +kernel) (by decide +kernel)
set_option maxRecDepth 20000 in
theorem gX0_boardsBy_X0_inTurn : GoodIn wsX0_boardsBy (wsV RX0 84 RX0 yX0_inTurn wsX0_inTurn) := goodIn_app (goodIn_of _ (by decide +kernel)) ggX0_boardsBy_X0_inTurn
theorem dX0_boardsBy_0 : decode cX0_boardsBy 0 = .ok (.aload_n 0, 1) := by decide +kernel
theorem dX0_boardsBy_1 : decode cX0_boardsBy 1 = .ok (.getfield 15, 3) := by decide +kernel
theorem dX0_boardsBy_4 : decode cX0_boardsBy 4 = .ok (.tableswitch 127 1 6 #[40, 46, 56, 78, 96, 105], 40) := by decide +kernel
theorem dX0_boardsBy_44 : decode cX0_boardsBy 44 = .ok (.aload_n 0, 1) := by decide +kernel
theorem dX0_boardsBy_45 : decode cX0_boardsBy 45 = .ok (.aload_n 1, 1) := by decide +kernel
theorem dX0_boardsBy_46 : decode cX0_boardsBy 46 = .ok (.invokevirtual 59, 3) := by decide +kernel
theorem dX0_boardsBy_49 : decode cX0_boardsBy 49 = .ok (.ireturn, 1) := by decide +kernel
theorem dX0_boardsBy_50 : decode cX0_boardsBy 50 = .ok (.aload_n 0, 1) := by decide +kernel
theorem dX0_boardsBy_51 : decode cX0_boardsBy 51 = .ok (.aload_n 1, 1) := by decide +kernel
theorem dX0_boardsBy_52 : decode cX0_boardsBy 52 = .ok (.invokevirtual 59, 3) := by decide +kernel
theorem dX0_boardsBy_55 : decode cX0_boardsBy 55 = .ok (.aload_n 1, 1) := by decide +kernel
theorem dX0_boardsBy_56 : decode cX0_boardsBy 56 = .ok (.invokestatic 63, 3) := by decide +kernel
theorem dX0_boardsBy_59 : decode cX0_boardsBy 59 = .ok (.ireturn, 1) := by decide +kernel
theorem dX0_boardsBy_60 : decode cX0_boardsBy 60 = .ok (.iload_n 2, 1) := by decide +kernel
theorem dX0_boardsBy_61 : decode cX0_boardsBy 61 = .ok (.iconst 1, 1) := by decide +kernel
theorem dX0_boardsBy_62 : decode cX0_boardsBy 62 = .ok (.isub, 1) := by decide +kernel
theorem dX0_boardsBy_63 : decode cX0_boardsBy 63 = .ok (.iload_n 2, 1) := by decide +kernel
theorem dX0_boardsBy_64 : decode cX0_boardsBy 64 = .ok (.iconst 1, 1) := by decide +kernel
theorem dX0_boardsBy_65 : decode cX0_boardsBy 65 = .ok (.iadd, 1) := by decide +kernel
theorem dX0_boardsBy_66 : decode cX0_boardsBy 66 = .ok (.aload_n 0, 1) := by decide +kernel
theorem dX0_boardsBy_67 : decode cX0_boardsBy 67 = .ok (.aload_n 1, 1) := by decide +kernel
theorem dX0_boardsBy_68 : decode cX0_boardsBy 68 = .ok (.invokevirtual 59, 3) := by decide +kernel
theorem dX0_boardsBy_71 : decode cX0_boardsBy 71 = .ok (.aload_n 1, 1) := by decide +kernel
theorem dX0_boardsBy_72 : decode cX0_boardsBy 72 = .ok (.invokestatic 63, 3) := by decide +kernel
theorem dX0_boardsBy_75 : decode cX0_boardsBy 75 = .ok (.invokestatic 67, 3) := by decide +kernel
theorem dX0_boardsBy_78 : decode cX0_boardsBy 78 = .ok (.invokestatic 73, 3) := by decide +kernel
theorem dX0_boardsBy_81 : decode cX0_boardsBy 81 = .ok (.ireturn, 1) := by decide +kernel
theorem dX0_boardsBy_82 : decode cX0_boardsBy 82 = .ok (.aload_n 1, 1) := by decide +kernel
theorem dX0_boardsBy_83 : decode cX0_boardsBy 83 = .ok (.getfield 76, 3) := by decide +kernel
theorem dX0_boardsBy_86 : decode cX0_boardsBy 86 = .ok (.iconst 1, 1) := by decide +kernel
theorem dX0_boardsBy_87 : decode cX0_boardsBy 87 = .ok (.if_icmp .ne 7, 3) := by decide +kernel
theorem dX0_boardsBy_90 : decode cX0_boardsBy 90 = .ok (.iconst 3, 1) := by decide +kernel
theorem dX0_boardsBy_91 : decode cX0_boardsBy 91 = .ok (.goto 8, 3) := by decide +kernel
theorem dX0_boardsBy_94 : decode cX0_boardsBy 94 = .ok (.aload_n 0, 1) := by decide +kernel
theorem dX0_boardsBy_95 : decode cX0_boardsBy 95 = .ok (.aload_n 1, 1) := by decide +kernel
theorem dX0_boardsBy_96 : decode cX0_boardsBy 96 = .ok (.invokevirtual 59, 3) := by decide +kernel
theorem dX0_boardsBy_99 : decode cX0_boardsBy 99 = .ok (.ireturn, 1) := by decide +kernel
theorem dX0_boardsBy_100 : decode cX0_boardsBy 100 = .ok (.aload_n 0, 1) := by decide +kernel
theorem dX0_boardsBy_101 : decode cX0_boardsBy 101 = .ok (.aload_n 1, 1) := by decide +kernel
theorem dX0_boardsBy_102 : decode cX0_boardsBy 102 = .ok (.getfield 81, 3) := by decide +kernel
theorem dX0_boardsBy_105 : decode cX0_boardsBy 105 = .ok (.invokevirtual 84, 3) := by decide +kernel
theorem dX0_boardsBy_108 : decode cX0_boardsBy 108 = .ok (.ireturn, 1) := by decide +kernel
theorem dX0_boardsBy_109 : decode cX0_boardsBy 109 = .ok (.aload_n 1, 1) := by decide +kernel
theorem dX0_boardsBy_110 : decode cX0_boardsBy 110 = .ok (.getfield 81, 3) := by decide +kernel
theorem dX0_boardsBy_113 : decode cX0_boardsBy 113 = .ok (.iconst 1, 1) := by decide +kernel
theorem dX0_boardsBy_114 : decode cX0_boardsBy 114 = .ok (.iand, 1) := by decide +kernel
theorem dX0_boardsBy_115 : decode cX0_boardsBy 115 = .ok (.ifCond .ne 14, 3) := by decide +kernel
theorem dX0_boardsBy_118 : decode cX0_boardsBy 118 = .ok (.aload_n 0, 1) := by decide +kernel
theorem dX0_boardsBy_119 : decode cX0_boardsBy 119 = .ok (.aload_n 1, 1) := by decide +kernel
theorem dX0_boardsBy_120 : decode cX0_boardsBy 120 = .ok (.getfield 81, 3) := by decide +kernel
theorem dX0_boardsBy_123 : decode cX0_boardsBy 123 = .ok (.invokevirtual 84, 3) := by decide +kernel
theorem dX0_boardsBy_126 : decode cX0_boardsBy 126 = .ok (.goto 4, 3) := by decide +kernel
theorem dX0_boardsBy_129 : decode cX0_boardsBy 129 = .ok (.iload_n 2, 1) := by decide +kernel
theorem dX0_boardsBy_130 : decode cX0_boardsBy 130 = .ok (.ireturn, 1) := by decide +kernel
theorem dX0_boardsBy_131 : decode cX0_boardsBy 131 = .ok (.aload_n 0, 1) := by decide +kernel
theorem dX0_boardsBy_132 : decode cX0_boardsBy 132 = .ok (.getfield 18, 3) := by decide +kernel
theorem dX0_boardsBy_135 : decode cX0_boardsBy 135 = .ok (.ireturn, 1) := by decide +kernel
theorem dX0_risen_0 : decode cX0_risen 0 = .ok (.aload_n 1, 1) := by decide +kernel
theorem dX0_risen_1 : decode cX0_risen 1 = .ok (.getfield 87, 3) := by decide +kernel
theorem dX0_risen_4 : decode cX0_risen 4 = .ok (.iconst 2, 1) := by decide +kernel
theorem dX0_risen_5 : decode cX0_risen 5 = .ok (.if_icmp .ne 13, 3) := by decide +kernel
theorem dX0_risen_8 : decode cX0_risen 8 = .ok (.iconst 3, 1) := by decide +kernel
theorem dX0_risen_9 : decode cX0_risen 9 = .ok (.iload_n 0, 1) := by decide +kernel
theorem dX0_risen_10 : decode cX0_risen 10 = .ok (.iconst 1, 1) := by decide +kernel
theorem dX0_risen_11 : decode cX0_risen 11 = .ok (.iadd, 1) := by decide +kernel
theorem dX0_risen_12 : decode cX0_risen 12 = .ok (.invokestatic 67, 3) := by decide +kernel
theorem dX0_risen_15 : decode cX0_risen 15 = .ok (.goto 4, 3) := by decide +kernel
theorem dX0_risen_18 : decode cX0_risen 18 = .ok (.iload_n 0, 1) := by decide +kernel
theorem dX0_risen_19 : decode cX0_risen 19 = .ok (.ireturn, 1) := by decide +kernel
set_option maxRecDepth 20000 in
theorem ggX0_byLines_X0_lineHolds : GoodIn wsX0_byLines wsX0_lineHolds := goodIn_r _ [9, 10, 11, 12, 13, 14, 15, 16, 17, 18, 19, 20, 21, 22, 23, 24, 25, 26, 27, 28, 29, 30, 31, 32, 33, 34, 35, 36, 37, 38] (by decide +kernel) (by decide +kernel)
set_option maxRecDepth 20000 in
theorem gX0_byLines_X0_lineHolds : GoodIn wsX0_byLines (wsV RX0 90 RX0 yX0_lineHolds wsX0_lineHolds) := goodIn_app (goodIn_of _ (by decide +kernel)) ggX0_byLines_X0_lineHolds
theorem dX0_byLines_0 : decode cX0_byLines 0 = .ok (.iconst 0, 1) := by decide +kernel
theorem dX0_byLines_1 : decode cX0_byLines 1 = .ok (.istore_n 2, 1) := by decide +kernel
theorem dX0_byLines_2 : decode cX0_byLines 2 = .ok (.iload_n 2, 1) := by decide +kernel
theorem dX0_byLines_3 : decode cX0_byLines 3 = .ok (.aload_n 0, 1) := by decide +kernel
theorem dX0_byLines_4 : decode cX0_byLines 4 = .ok (.getfield 26, 3) := by decide +kernel
theorem dX0_byLines_7 : decode cX0_byLines 7 = .ok (.if_icmp .ge 42, 3) := by decide +kernel
theorem dX0_byLines_10 : decode cX0_byLines 10 = .ok (.iload_n 2, 1) := by decide +kernel
theorem dX0_byLines_11 : decode cX0_byLines 11 = .ok (.aload_n 0, 1) := by decide +kernel
theorem dX0_byLines_12 : decode cX0_byLines 12 = .ok (.getfield 39, 3) := by decide +kernel
theorem dX0_byLines_15 : decode cX0_byLines 15 = .ok (.arraylength, 1) := by decide +kernel
theorem dX0_byLines_16 : decode cX0_byLines 16 = .ok (.if_icmp .ge 33, 3) := by decide +kernel
theorem dX0_byLines_19 : decode cX0_byLines 19 = .ok (.iload_n 2, 1) := by decide +kernel
theorem dX0_byLines_20 : decode cX0_byLines 20 = .ok (.aload_n 0, 1) := by decide +kernel
theorem dX0_byLines_21 : decode cX0_byLines 21 = .ok (.getfield 27, 3) := by decide +kernel
theorem dX0_byLines_24 : decode cX0_byLines 24 = .ok (.if_icmp .eq 19, 3) := by decide +kernel
theorem dX0_byLines_27 : decode cX0_byLines 27 = .ok (.aload_n 0, 1) := by decide +kernel
theorem dX0_byLines_28 : decode cX0_byLines 28 = .ok (.iload_n 2, 1) := by decide +kernel
theorem dX0_byLines_29 : decode cX0_byLines 29 = .ok (.aload_n 1, 1) := by decide +kernel
theorem dX0_byLines_30 : decode cX0_byLines 30 = .ok (.invokevirtual 90, 3) := by decide +kernel
theorem dX0_byLines_33 : decode cX0_byLines 33 = .ok (.ifCond .eq 10, 3) := by decide +kernel
theorem dX0_byLines_36 : decode cX0_byLines 36 = .ok (.aload_n 0, 1) := by decide +kernel
theorem dX0_byLines_37 : decode cX0_byLines 37 = .ok (.getfield 39, 3) := by decide +kernel
theorem dX0_byLines_40 : decode cX0_byLines 40 = .ok (.iload_n 2, 1) := by decide +kernel
theorem dX0_byLines_41 : decode cX0_byLines 41 = .ok (.iaload, 1) := by decide +kernel
theorem dX0_byLines_42 : decode cX0_byLines 42 = .ok (.ireturn, 1) := by decide +kernel
theorem dX0_byLines_43 : decode cX0_byLines 43 = .ok (.iinc 2 1, 3) := by decide +kernel
theorem dX0_byLines_46 : decode cX0_byLines 46 = .ok (.goto (-44), 3) := by decide +kernel
theorem dX0_byLines_49 : decode cX0_byLines 49 = .ok (.aload_n 0, 1) := by decide +kernel
theorem dX0_byLines_50 : decode cX0_byLines 50 = .ok (.getfield 18, 3) := by decide +kernel
theorem dX0_byLines_53 : decode cX0_byLines 53 = .ok (.ireturn, 1) := by decide +kernel
set_option maxRecDepth 20000 in
theorem ggX0_inTurn_J9_floorMod_7cf53 : GoodIn wsX0_inTurn wsJ9_floorMod_7cf53 := goodIn_r _ [8] (by decide +kernel) (by decide +kernel)
set_option maxRecDepth 20000 in
theorem gX0_inTurn_J9_floorMod_7cf53 : GoodIn wsX0_inTurn (va_wsS RX0 94 yJ9_floorMod_7cf53 wsJ9_floorMod_7cf53) := goodIn_app (goodIn_of _ (by decide +kernel)) ggX0_inTurn_J9_floorMod_7cf53
theorem dX0_inTurn_0 : decode cX0_inTurn 0 = .ok (.aload_n 0, 1) := by decide +kernel
theorem dX0_inTurn_1 : decode cX0_inTurn 1 = .ok (.getfield 27, 3) := by decide +kernel
theorem dX0_inTurn_4 : decode cX0_inTurn 4 = .ok (.ifCond .ge 10, 3) := by decide +kernel
theorem dX0_inTurn_7 : decode cX0_inTurn 7 = .ok (.aload_n 0, 1) := by decide +kernel
theorem dX0_inTurn_8 : decode cX0_inTurn 8 = .ok (.getfield 26, 3) := by decide +kernel
theorem dX0_inTurn_11 : decode cX0_inTurn 11 = .ok (.goto 9, 3) := by decide +kernel
theorem dX0_inTurn_14 : decode cX0_inTurn 14 = .ok (.aload_n 0, 1) := by decide +kernel
theorem dX0_inTurn_15 : decode cX0_inTurn 15 = .ok (.getfield 26, 3) := by decide +kernel
theorem dX0_inTurn_18 : decode cX0_inTurn 18 = .ok (.iconst 1, 1) := by decide +kernel
theorem dX0_inTurn_19 : decode cX0_inTurn 19 = .ok (.isub, 1) := by decide +kernel
theorem dX0_inTurn_20 : decode cX0_inTurn 20 = .ok (.istore_n 2, 1) := by decide +kernel
theorem dX0_inTurn_21 : decode cX0_inTurn 21 = .ok (.iload_n 2, 1) := by decide +kernel
theorem dX0_inTurn_22 : decode cX0_inTurn 22 = .ok (.iconst 1, 1) := by decide +kernel
theorem dX0_inTurn_23 : decode cX0_inTurn 23 = .ok (.if_icmp .ge 8, 3) := by decide +kernel
theorem dX0_inTurn_26 : decode cX0_inTurn 26 = .ok (.aload_n 0, 1) := by decide +kernel
theorem dX0_inTurn_27 : decode cX0_inTurn 27 = .ok (.getfield 18, 3) := by decide +kernel
theorem dX0_inTurn_30 : decode cX0_inTurn 30 = .ok (.ireturn, 1) := by decide +kernel
theorem dX0_inTurn_31 : decode cX0_inTurn 31 = .ok (.iload_n 1, 1) := by decide +kernel
theorem dX0_inTurn_32 : decode cX0_inTurn 32 = .ok (.iload_n 2, 1) := by decide +kernel
theorem dX0_inTurn_33 : decode cX0_inTurn 33 = .ok (.invokestatic 94, 3) := by decide +kernel
theorem dX0_inTurn_36 : decode cX0_inTurn 36 = .ok (.istore_n 3, 1) := by decide +kernel
theorem dX0_inTurn_37 : decode cX0_inTurn 37 = .ok (.aload_n 0, 1) := by decide +kernel
theorem dX0_inTurn_38 : decode cX0_inTurn 38 = .ok (.getfield 27, 3) := by decide +kernel
theorem dX0_inTurn_41 : decode cX0_inTurn 41 = .ok (.ifCond .lt 14, 3) := by decide +kernel
theorem dX0_inTurn_44 : decode cX0_inTurn 44 = .ok (.iload_n 3, 1) := by decide +kernel
theorem dX0_inTurn_45 : decode cX0_inTurn 45 = .ok (.aload_n 0, 1) := by decide +kernel
theorem dX0_inTurn_46 : decode cX0_inTurn 46 = .ok (.getfield 27, 3) := by decide +kernel
theorem dX0_inTurn_49 : decode cX0_inTurn 49 = .ok (.if_icmp .lt 6, 3) := by decide +kernel
theorem dX0_inTurn_52 : decode cX0_inTurn 52 = .ok (.iinc 3 1, 3) := by decide +kernel
theorem dX0_inTurn_55 : decode cX0_inTurn 55 = .ok (.iload_n 3, 1) := by decide +kernel
theorem dX0_inTurn_56 : decode cX0_inTurn 56 = .ok (.ifCond .lt 12, 3) := by decide +kernel
theorem dX0_inTurn_59 : decode cX0_inTurn 59 = .ok (.iload_n 3, 1) := by decide +kernel
theorem dX0_inTurn_60 : decode cX0_inTurn 60 = .ok (.aload_n 0, 1) := by decide +kernel
theorem dX0_inTurn_61 : decode cX0_inTurn 61 = .ok (.getfield 39, 3) := by decide +kernel
theorem dX0_inTurn_64 : decode cX0_inTurn 64 = .ok (.arraylength, 1) := by decide +kernel
theorem dX0_inTurn_65 : decode cX0_inTurn 65 = .ok (.if_icmp .lt 10, 3) := by decide +kernel
theorem dX0_inTurn_68 : decode cX0_inTurn 68 = .ok (.aload_n 0, 1) := by decide +kernel
theorem dX0_inTurn_69 : decode cX0_inTurn 69 = .ok (.getfield 18, 3) := by decide +kernel
theorem dX0_inTurn_72 : decode cX0_inTurn 72 = .ok (.goto 9, 3) := by decide +kernel
theorem dX0_inTurn_75 : decode cX0_inTurn 75 = .ok (.aload_n 0, 1) := by decide +kernel
theorem dX0_inTurn_76 : decode cX0_inTurn 76 = .ok (.getfield 39, 3) := by decide +kernel
theorem dX0_inTurn_79 : decode cX0_inTurn 79 = .ok (.iload_n 3, 1) := by decide +kernel
theorem dX0_inTurn_80 : decode cX0_inTurn 80 = .ok (.iaload, 1) := by decide +kernel
theorem dX0_inTurn_81 : decode cX0_inTurn 81 = .ok (.ireturn, 1) := by decide +kernel
set_option maxRecDepth 20000 in
theorem ggX0_lineHolds_X5_passes : GoodIn wsX0_lineHolds wsX5_passes := goodIn_r _ [12, 13, 14, 15, 16, 26, 27, 28, 29] (by decide +kernel) (by decide +kernel)
set_option maxRecDepth 20000 in
theorem gX0_lineHolds_X5_passes : GoodIn wsX0_lineHolds (wsV RX0 97 RX5 yX5_passes wsX5_passes) := goodIn_app (goodIn_of _ (by decide +kernel)) ggX0_lineHolds_X5_passes
theorem dX0_lineHolds_0 : decode cX0_lineHolds 0 = .ok (.iload_n 1, 1) := by decide +kernel
theorem dX0_lineHolds_1 : decode cX0_lineHolds 1 = .ok (.ifCond .lt 21, 3) := by decide +kernel
theorem dX0_lineHolds_4 : decode cX0_lineHolds 4 = .ok (.iload_n 1, 1) := by decide +kernel
theorem dX0_lineHolds_5 : decode cX0_lineHolds 5 = .ok (.aload_n 0, 1) := by decide +kernel
theorem dX0_lineHolds_6 : decode cX0_lineHolds 6 = .ok (.getfield 43, 3) := by decide +kernel
theorem dX0_lineHolds_9 : decode cX0_lineHolds 9 = .ok (.arraylength, 1) := by decide +kernel
theorem dX0_lineHolds_10 : decode cX0_lineHolds 10 = .ok (.if_icmp .ge 12, 3) := by decide +kernel
theorem dX0_lineHolds_13 : decode cX0_lineHolds 13 = .ok (.iload_n 1, 1) := by decide +kernel
theorem dX0_lineHolds_14 : decode cX0_lineHolds 14 = .ok (.aload_n 0, 1) := by decide +kernel
theorem dX0_lineHolds_15 : decode cX0_lineHolds 15 = .ok (.getfield 47, 3) := by decide +kernel
theorem dX0_lineHolds_18 : decode cX0_lineHolds 18 = .ok (.arraylength, 1) := by decide +kernel
theorem dX0_lineHolds_19 : decode cX0_lineHolds 19 = .ok (.if_icmp .lt 5, 3) := by decide +kernel
theorem dX0_lineHolds_22 : decode cX0_lineHolds 22 = .ok (.iconst 0, 1) := by decide +kernel
theorem dX0_lineHolds_23 : decode cX0_lineHolds 23 = .ok (.ireturn, 1) := by decide +kernel
theorem dX0_lineHolds_24 : decode cX0_lineHolds 24 = .ok (.iconst 0, 1) := by decide +kernel
theorem dX0_lineHolds_25 : decode cX0_lineHolds 25 = .ok (.istore_n 3, 1) := by decide +kernel
theorem dX0_lineHolds_26 : decode cX0_lineHolds 26 = .ok (.iconst 0, 1) := by decide +kernel
theorem dX0_lineHolds_27 : decode cX0_lineHolds 27 = .ok (.aload_n 0, 1) := by decide +kernel
theorem dX0_lineHolds_28 : decode cX0_lineHolds 28 = .ok (.getfield 43, 3) := by decide +kernel
theorem dX0_lineHolds_31 : decode cX0_lineHolds 31 = .ok (.iload_n 1, 1) := by decide +kernel
theorem dX0_lineHolds_32 : decode cX0_lineHolds 32 = .ok (.iaload, 1) := by decide +kernel
theorem dX0_lineHolds_33 : decode cX0_lineHolds 33 = .ok (.invokestatic 73, 3) := by decide +kernel
theorem dX0_lineHolds_36 : decode cX0_lineHolds 36 = .ok (.istore 4, 2) := by decide +kernel
theorem dX0_lineHolds_38 : decode cX0_lineHolds 38 = .ok (.iload 4, 2) := by decide +kernel
theorem dX0_lineHolds_40 : decode cX0_lineHolds 40 = .ok (.aload_n 0, 1) := by decide +kernel
theorem dX0_lineHolds_41 : decode cX0_lineHolds 41 = .ok (.getfield 47, 3) := by decide +kernel
theorem dX0_lineHolds_44 : decode cX0_lineHolds 44 = .ok (.iload_n 1, 1) := by decide +kernel
theorem dX0_lineHolds_45 : decode cX0_lineHolds 45 = .ok (.iaload, 1) := by decide +kernel
theorem dX0_lineHolds_46 : decode cX0_lineHolds 46 = .ok (.if_icmp .ge 97, 3) := by decide +kernel
theorem dX0_lineHolds_49 : decode cX0_lineHolds 49 = .ok (.iload 4, 2) := by decide +kernel
theorem dX0_lineHolds_51 : decode cX0_lineHolds 51 = .ok (.aload_n 0, 1) := by decide +kernel
theorem dX0_lineHolds_52 : decode cX0_lineHolds 52 = .ok (.getfield 51, 3) := by decide +kernel
theorem dX0_lineHolds_55 : decode cX0_lineHolds 55 = .ok (.arraylength, 1) := by decide +kernel
theorem dX0_lineHolds_56 : decode cX0_lineHolds 56 = .ok (.if_icmp .ge 87, 3) := by decide +kernel
theorem dX0_lineHolds_59 : decode cX0_lineHolds 59 = .ok (.aload_n 0, 1) := by decide +kernel
theorem dX0_lineHolds_60 : decode cX0_lineHolds 60 = .ok (.getfield 51, 3) := by decide +kernel
theorem dX0_lineHolds_63 : decode cX0_lineHolds 63 = .ok (.iload 4, 2) := by decide +kernel
theorem dX0_lineHolds_65 : decode cX0_lineHolds 65 = .ok (.iaload, 1) := by decide +kernel
theorem dX0_lineHolds_66 : decode cX0_lineHolds 66 = .ok (.istore 5, 2) := by decide +kernel
theorem dX0_lineHolds_68 : decode cX0_lineHolds 68 = .ok (.iload 5, 2) := by decide +kernel
theorem dX0_lineHolds_70 : decode cX0_lineHolds 70 = .ok (.iconst (-1), 1) := by decide +kernel
theorem dX0_lineHolds_71 : decode cX0_lineHolds 71 = .ok (.if_icmp .ne 10, 3) := by decide +kernel
theorem dX0_lineHolds_74 : decode cX0_lineHolds 74 = .ok (.iload_n 3, 1) := by decide +kernel
theorem dX0_lineHolds_75 : decode cX0_lineHolds 75 = .ok (.iconst 1, 1) := by decide +kernel
theorem dX0_lineHolds_76 : decode cX0_lineHolds 76 = .ok (.ixor, 1) := by decide +kernel
theorem dX0_lineHolds_77 : decode cX0_lineHolds 77 = .ok (.istore_n 3, 1) := by decide +kernel
theorem dX0_lineHolds_78 : decode cX0_lineHolds 78 = .ok (.goto 59, 3) := by decide +kernel
theorem dX0_lineHolds_81 : decode cX0_lineHolds 81 = .ok (.iload 5, 2) := by decide +kernel
theorem dX0_lineHolds_83 : decode cX0_lineHolds 83 = .ok (.bipush (-2), 2) := by decide +kernel
theorem dX0_lineHolds_85 : decode cX0_lineHolds 85 = .ok (.if_icmp .ne 15, 3) := by decide +kernel
theorem dX0_lineHolds_88 : decode cX0_lineHolds 88 = .ok (.iload_n 3, 1) := by decide +kernel
theorem dX0_lineHolds_89 : decode cX0_lineHolds 89 = .ok (.iconst 1, 1) := by decide +kernel
theorem dX0_lineHolds_90 : decode cX0_lineHolds 90 = .ok (.ishr, 1) := by decide +kernel
theorem dX0_lineHolds_91 : decode cX0_lineHolds 91 = .ok (.iload_n 3, 1) := by decide +kernel
theorem dX0_lineHolds_92 : decode cX0_lineHolds 92 = .ok (.bipush (-2), 2) := by decide +kernel
theorem dX0_lineHolds_94 : decode cX0_lineHolds 94 = .ok (.ior, 1) := by decide +kernel
theorem dX0_lineHolds_95 : decode cX0_lineHolds 95 = .ok (.iand, 1) := by decide +kernel
theorem dX0_lineHolds_96 : decode cX0_lineHolds 96 = .ok (.istore_n 3, 1) := by decide +kernel
theorem dX0_lineHolds_97 : decode cX0_lineHolds 97 = .ok (.goto 40, 3) := by decide +kernel
theorem dX0_lineHolds_100 : decode cX0_lineHolds 100 = .ok (.iload 5, 2) := by decide +kernel
theorem dX0_lineHolds_102 : decode cX0_lineHolds 102 = .ok (.bipush (-3), 2) := by decide +kernel
theorem dX0_lineHolds_104 : decode cX0_lineHolds 104 = .ok (.if_icmp .ne 14, 3) := by decide +kernel
theorem dX0_lineHolds_107 : decode cX0_lineHolds 107 = .ok (.iload_n 3, 1) := by decide +kernel
theorem dX0_lineHolds_108 : decode cX0_lineHolds 108 = .ok (.iconst 1, 1) := by decide +kernel
theorem dX0_lineHolds_109 : decode cX0_lineHolds 109 = .ok (.ishr, 1) := by decide +kernel
theorem dX0_lineHolds_110 : decode cX0_lineHolds 110 = .ok (.iload_n 3, 1) := by decide +kernel
theorem dX0_lineHolds_111 : decode cX0_lineHolds 111 = .ok (.iconst 1, 1) := by decide +kernel
theorem dX0_lineHolds_112 : decode cX0_lineHolds 112 = .ok (.iand, 1) := by decide +kernel
theorem dX0_lineHolds_113 : decode cX0_lineHolds 113 = .ok (.ior, 1) := by decide +kernel
theorem dX0_lineHolds_114 : decode cX0_lineHolds 114 = .ok (.istore_n 3, 1) := by decide +kernel
theorem dX0_lineHolds_115 : decode cX0_lineHolds 115 = .ok (.goto 22, 3) := by decide +kernel
theorem dX0_lineHolds_118 : decode cX0_lineHolds 118 = .ok (.iload_n 3, 1) := by decide +kernel
theorem dX0_lineHolds_119 : decode cX0_lineHolds 119 = .ok (.iconst 1, 1) := by decide +kernel
theorem dX0_lineHolds_120 : decode cX0_lineHolds 120 = .ok (.ishl, 1) := by decide +kernel
theorem dX0_lineHolds_121 : decode cX0_lineHolds 121 = .ok (.aload_n 2, 1) := by decide +kernel
theorem dX0_lineHolds_122 : decode cX0_lineHolds 122 = .ok (.iload 5, 2) := by decide +kernel
theorem dX0_lineHolds_124 : decode cX0_lineHolds 124 = .ok (.invokevirtual 97, 3) := by decide +kernel
theorem dX0_lineHolds_127 : decode cX0_lineHolds 127 = .ok (.ifCond .eq 7, 3) := by decide +kernel
theorem dX0_lineHolds_130 : decode cX0_lineHolds 130 = .ok (.iconst 1, 1) := by decide +kernel
theorem dX0_lineHolds_131 : decode cX0_lineHolds 131 = .ok (.goto 4, 3) := by decide +kernel
theorem dX0_lineHolds_134 : decode cX0_lineHolds 134 = .ok (.iconst 0, 1) := by decide +kernel
theorem dX0_lineHolds_135 : decode cX0_lineHolds 135 = .ok (.ior, 1) := by decide +kernel
theorem dX0_lineHolds_136 : decode cX0_lineHolds 136 = .ok (.istore_n 3, 1) := by decide +kernel
theorem dX0_lineHolds_137 : decode cX0_lineHolds 137 = .ok (.iinc 4 1, 3) := by decide +kernel
theorem dX0_lineHolds_140 : decode cX0_lineHolds 140 = .ok (.goto (-102), 3) := by decide +kernel
theorem dX0_lineHolds_143 : decode cX0_lineHolds 143 = .ok (.iload_n 3, 1) := by decide +kernel
theorem dX0_lineHolds_144 : decode cX0_lineHolds 144 = .ok (.iconst 1, 1) := by decide +kernel
theorem dX0_lineHolds_145 : decode cX0_lineHolds 145 = .ok (.iand, 1) := by decide +kernel
theorem dX0_lineHolds_146 : decode cX0_lineHolds 146 = .ok (.iconst 1, 1) := by decide +kernel
theorem dX0_lineHolds_147 : decode cX0_lineHolds 147 = .ok (.if_icmp .ne 7, 3) := by decide +kernel
theorem dX0_lineHolds_150 : decode cX0_lineHolds 150 = .ok (.iconst 1, 1) := by decide +kernel
theorem dX0_lineHolds_151 : decode cX0_lineHolds 151 = .ok (.goto 4, 3) := by decide +kernel
theorem dX0_lineHolds_154 : decode cX0_lineHolds 154 = .ok (.iconst 0, 1) := by decide +kernel
theorem dX0_lineHolds_155 : decode cX0_lineHolds 155 = .ok (.ireturn, 1) := by decide +kernel
set_option maxRecDepth 20000 in
theorem ggX1_init_X2_init : GoodIn wsX1_init wsX2_init := goodIn_r _ [10, 11, 12, 13, 1, 14, 15, 16, 17, 18, 19, 20, 21, 22, 23, 24, 25, 26, 27, 28, 29, 30, 31, 32] (by decide +kernel) (by decide +kernel)
set_option maxRecDepth 20000 in
theorem gX1_init_X2_init_n3 : GoodIn wsX1_init (wsX2_init) := ggX1_init_X2_init
theorem dX1_init_0 : decode cX1_init 0 = .ok (.aload_n 0, 1) := by decide +kernel
theorem dX1_init_1 : decode cX1_init 1 = .ok (.invokespecial 3, 3) := by decide +kernel
theorem dX1_init_4 : decode cX1_init 4 = .ok (.aload_n 0, 1) := by decide +kernel
theorem dX1_init_5 : decode cX1_init 5 = .ok (.bipush 6, 2) := by decide +kernel
theorem dX1_init_7 : decode cX1_init 7 = .ok (.newarray .int, 2) := by decide +kernel
theorem dX1_init_9 : decode cX1_init 9 = .ok (.putfield 9, 3) := by decide +kernel
theorem dX1_init_12 : decode cX1_init 12 = .ok (.aload_n 0, 1) := by decide +kernel
theorem dX1_init_13 : decode cX1_init 13 = .ok (.bipush 6, 2) := by decide +kernel
theorem dX1_init_15 : decode cX1_init 15 = .ok (.newarray .int, 2) := by decide +kernel
theorem dX1_init_17 : decode cX1_init 17 = .ok (.putfield 15, 3) := by decide +kernel
theorem dX1_init_20 : decode cX1_init 20 = .ok (.aload_n 0, 1) := by decide +kernel
theorem dX1_init_21 : decode cX1_init 21 = .ok (.bipush 6, 2) := by decide +kernel
theorem dX1_init_23 : decode cX1_init 23 = .ok (.newarray .int, 2) := by decide +kernel
theorem dX1_init_25 : decode cX1_init 25 = .ok (.putfield 18, 3) := by decide +kernel
theorem dX1_init_28 : decode cX1_init 28 = .ok (.aload_n 0, 1) := by decide +kernel
theorem dX1_init_29 : decode cX1_init 29 = .ok (.bipush 120, 2) := by decide +kernel
theorem dX1_init_31 : decode cX1_init 31 = .ok (.newarray .int, 2) := by decide +kernel
theorem dX1_init_33 : decode cX1_init 33 = .ok (.putfield 21, 3) := by decide +kernel
theorem dX1_init_36 : decode cX1_init 36 = .ok (.aload_n 0, 1) := by decide +kernel
theorem dX1_init_37 : decode cX1_init 37 = .ok (.iconst 0, 1) := by decide +kernel
theorem dX1_init_38 : decode cX1_init 38 = .ok (.putfield 24, 3) := by decide +kernel
theorem dX1_init_41 : decode cX1_init 41 = .ok (.aload_n 0, 1) := by decide +kernel
theorem dX1_init_42 : decode cX1_init 42 = .ok (.iconst 0, 1) := by decide +kernel
theorem dX1_init_43 : decode cX1_init 43 = .ok (.putfield 28, 3) := by decide +kernel
theorem dX1_init_46 : decode cX1_init 46 = .ok (.return_, 1) := by decide +kernel
set_option maxRecDepth 20000 in
theorem ggX1_reads_X2_begin : GoodIn wsX1_reads wsX2_begin := goodIn_r _ [11, 12, 13, 14, 15, 16, 17, 18, 19, 20, 21, 22, 23, 24, 25, 26, 27, 28, 29, 30, 31, 32, 159, 160, 161, 162, 163, 164, 165, 149, 150, 151, 152, 153, 154, 155, 156, 157, 158, 166, 167, 168, 169, 170] (by decide +kernel) (by decide +kernel)
set_option maxRecDepth 20000 in
theorem gX1_reads_X2_begin_u31X1 : GoodIn wsX1_reads (va_wsU RX1 31 RX1 "SluiceCards$Reader" ⟨"SluiceCards$CardReader", "begin", "(LSluiceCards$World;)V"⟩ yX2_begin wsX2_begin) := goodIn_app (goodIn_of _ (by decide +kernel)) ggX1_reads_X2_begin
set_option maxRecDepth 20000 in
theorem ggX1_reads_X2_digit : GoodIn wsX1_reads wsX2_digit := goodIn_r _ [37, 23, 38, 39, 40, 41, 10, 42, 24, 22, 13, 43, 44, 45, 46, 47, 48, 49, 149, 150, 151, 152, 153, 154, 155, 156, 157, 158, 166, 167, 168, 169, 170] (by decide +kernel) (by decide +kernel)
set_option maxRecDepth 20000 in
theorem gX1_reads_X2_digit_u35X1 : GoodIn wsX1_reads (va_wsU RX1 35 RX1 "SluiceCards$Reader" ⟨"SluiceCards$CardReader", "digit", "(II)I"⟩ yX2_digit wsX2_digit) := goodIn_app (goodIn_of _ (by decide +kernel)) ggX1_reads_X2_digit
set_option maxRecDepth 20000 in
theorem ggX1_reads_X2_needsAll : GoodIn wsX1_reads wsX2_needsAll := goodIn_r _ [54, 55, 56, 57, 58, 59, 60, 61, 62, 63, 64, 65, 66, 67, 68, 69, 70, 71, 72, 73, 74, 75, 76, 77, 78, 79, 80, 81, 82, 83, 84, 85, 86, 87, 88, 89, 90, 91, 92, 93, 94, 95, 96, 97, 98, 99, 100, 101, 102, 103, 104, 105, 106, 107, 10, 108, 23, 38, 39, 40, 41, 42, 24, 22, 13, 43, 109, 44, 45, 46, 47, 48, 49, 149, 150, 151, 152, 153, 154, 155, 156, 157, 158, 166, 167, 168, 169, 170] (by decide +kernel) (by decide +kernel)
set_option maxRecDepth 20000 in
theorem gX1_reads_X2_needsAll_u41X1 : GoodIn wsX1_reads (va_wsU RX1 41 RX1 "SluiceCards$Reader" ⟨"SluiceCards$CardReader", "needsAll", "(Ljava/lang/String;)V"⟩ yX2_needsAll wsX2_needsAll) := goodIn_app (goodIn_of _ (by decide +kernel)) ggX1_reads_X2_needsAll
set_option maxRecDepth 20000 in
theorem ggX1_reads_X1_readEither : GoodIn wsX1_reads wsX1_readEither := goodIn_r _ [114, 115, 116, 117, 113, 118, 119, 120, 107, 10, 108, 23, 38, 39, 40, 41, 42, 24, 22, 13, 43, 121, 122, 123, 124, 2, 125, 126, 127, 128, 129, 130, 110, 111, 112, 131, 132, 133, 47, 48, 134, 135, 136, 137, 138, 55, 56, 57, 58, 59, 60, 61, 62, 63, 64, 65, 66, 67, 68, 69, 70, 71, 72, 73, 74, 75, 76, 77, 78, 79, 80, 81, 82, 83, 84, 85, 86, 87, 88, 89, 90, 91, 92, 93, 94, 95, 96, 97, 98, 99, 100, 101, 102, 103, 44, 45, 46, 49, 33, 34, 35, 36, 37, 149, 150, 151, 152, 153, 154, 155, 156, 157, 158, 166, 167, 168, 169, 170] (by decide +kernel) (by decide +kernel)
set_option maxRecDepth 20000 in
theorem gX1_reads_X1_readEither : GoodIn wsX1_reads (wsV RX1 45 RX1 yX1_readEither wsX1_readEither) := goodIn_app (goodIn_of _ (by decide +kernel)) ggX1_reads_X1_readEither
set_option maxRecDepth 20000 in
theorem ggX1_reads_X2_takes : GoodIn wsX1_reads wsX2_takes := goodIn_r _ [108, 23, 38, 39, 40, 41, 10, 42, 24, 22, 13, 43, 149, 150, 151, 152, 153, 154, 155, 156, 157, 158, 166, 167, 168, 169, 170] (by decide +kernel) (by decide +kernel)
set_option maxRecDepth 20000 in
theorem gX1_reads_X2_takes_u49X1 : GoodIn wsX1_reads (va_wsU RX1 49 RX1 "SluiceCards$Reader" ⟨"SluiceCards$CardReader", "takes", "(C)Z"⟩ yX2_takes wsX2_takes) := goodIn_app (goodIn_of _ (by decide +kernel)) ggX1_reads_X2_takes
set_option maxRecDepth 20000 in
theorem ggX1_reads_X2_needsEnd : GoodIn wsX1_reads wsX2_needsEnd := goodIn_r _ [143, 23, 22, 44, 45, 46, 47, 10, 48, 24, 49, 149, 150, 151, 152, 153, 154, 155, 156, 157, 158, 166, 167, 168, 169, 170] (by decide +kernel) (by decide +kernel)
set_option maxRecDepth 20000 in
theorem gX1_reads_X2_needsEnd_u53X1 : GoodIn wsX1_reads (va_wsU RX1 53 RX1 "SluiceCards$Reader" ⟨"SluiceCards$CardReader", "needsEnd", "()V"⟩ yX2_needsEnd wsX2_needsEnd) := goodIn_app (goodIn_of _ (by decide +kernel)) ggX1_reads_X2_needsEnd
set_option maxRecDepth 20000 in
theorem ggX1_reads_X2_faultPlace : GoodIn wsX1_reads wsX2_faultPlace := goodIn_r _ [148, 24, 149, 150, 151, 152, 153, 154, 155, 156, 157, 158, 166, 167, 168, 169, 170] (by decide +kernel) (by decide +kernel)
set_option maxRecDepth 20000 in
theorem gX1_reads_X2_faultPlace_u56X1 : GoodIn wsX1_reads (va_wsU RX1 56 RX1 "SluiceCards$Reader" ⟨"SluiceCards$CardReader", "faultPlace", "()I"⟩ yX2_faultPlace wsX2_faultPlace) := goodIn_app (goodIn_of _ (by decide +kernel)) ggX1_reads_X2_faultPlace
theorem dX1_reads_0 : decode cX1_reads 0 = .ok (.aload_n 0, 1) := by decide +kernel
theorem dX1_reads_1 : decode cX1_reads 1 = .ok (.aload_n 1, 1) := by decide +kernel
theorem dX1_reads_2 : decode cX1_reads 2 = .ok (.invokevirtual 31, 3) := by decide +kernel
theorem dX1_reads_5 : decode cX1_reads 5 = .ok (.aload_n 0, 1) := by decide +kernel
theorem dX1_reads_6 : decode cX1_reads 6 = .ok (.iconst 0, 1) := by decide +kernel
theorem dX1_reads_7 : decode cX1_reads 7 = .ok (.putfield 24, 3) := by decide +kernel
theorem dX1_reads_10 : decode cX1_reads 10 = .ok (.aload_n 0, 1) := by decide +kernel
theorem dX1_reads_11 : decode cX1_reads 11 = .ok (.iconst 0, 1) := by decide +kernel
theorem dX1_reads_12 : decode cX1_reads 12 = .ok (.putfield 28, 3) := by decide +kernel
theorem dX1_reads_15 : decode cX1_reads 15 = .ok (.iconst 1, 1) := by decide +kernel
theorem dX1_reads_16 : decode cX1_reads 16 = .ok (.istore_n 2, 1) := by decide +kernel
theorem dX1_reads_17 : decode cX1_reads 17 = .ok (.iconst 0, 1) := by decide +kernel
theorem dX1_reads_18 : decode cX1_reads 18 = .ok (.istore_n 3, 1) := by decide +kernel
theorem dX1_reads_19 : decode cX1_reads 19 = .ok (.iload_n 3, 1) := by decide +kernel
theorem dX1_reads_20 : decode cX1_reads 20 = .ok (.bipush 6, 2) := by decide +kernel
theorem dX1_reads_22 : decode cX1_reads 22 = .ok (.if_icmp .ge 87, 3) := by decide +kernel
theorem dX1_reads_25 : decode cX1_reads 25 = .ok (.iload_n 2, 1) := by decide +kernel
theorem dX1_reads_26 : decode cX1_reads 26 = .ok (.ifCond .eq 83, 3) := by decide +kernel
theorem dX1_reads_29 : decode cX1_reads 29 = .ok (.aload_n 0, 1) := by decide +kernel
theorem dX1_reads_30 : decode cX1_reads 30 = .ok (.getfield 9, 3) := by decide +kernel
theorem dX1_reads_33 : decode cX1_reads 33 = .ok (.iload_n 3, 1) := by decide +kernel
theorem dX1_reads_34 : decode cX1_reads 34 = .ok (.aload_n 0, 1) := by decide +kernel
theorem dX1_reads_35 : decode cX1_reads 35 = .ok (.iconst 0, 1) := by decide +kernel
theorem dX1_reads_36 : decode cX1_reads 36 = .ok (.iconst 3, 1) := by decide +kernel
theorem dX1_reads_37 : decode cX1_reads 37 = .ok (.invokevirtual 35, 3) := by decide +kernel
theorem dX1_reads_40 : decode cX1_reads 40 = .ok (.iastore, 1) := by decide +kernel
theorem dX1_reads_41 : decode cX1_reads 41 = .ok (.aload_n 0, 1) := by decide +kernel
theorem dX1_reads_42 : decode cX1_reads 42 = .ok (.ldc 39, 2) := by decide +kernel
theorem dX1_reads_44 : decode cX1_reads 44 = .ok (.invokevirtual 41, 3) := by decide +kernel
theorem dX1_reads_47 : decode cX1_reads 47 = .ok (.aload_n 0, 1) := by decide +kernel
theorem dX1_reads_48 : decode cX1_reads 48 = .ok (.getfield 15, 3) := by decide +kernel
theorem dX1_reads_51 : decode cX1_reads 51 = .ok (.iload_n 3, 1) := by decide +kernel
theorem dX1_reads_52 : decode cX1_reads 52 = .ok (.aload_n 0, 1) := by decide +kernel
theorem dX1_reads_53 : decode cX1_reads 53 = .ok (.getfield 28, 3) := by decide +kernel
theorem dX1_reads_56 : decode cX1_reads 56 = .ok (.iastore, 1) := by decide +kernel
theorem dX1_reads_57 : decode cX1_reads 57 = .ok (.aload_n 0, 1) := by decide +kernel
theorem dX1_reads_58 : decode cX1_reads 58 = .ok (.iconst 0, 1) := by decide +kernel
theorem dX1_reads_59 : decode cX1_reads 59 = .ok (.invokevirtual 45, 3) := by decide +kernel
theorem dX1_reads_62 : decode cX1_reads 62 = .ok (.aload_n 0, 1) := by decide +kernel
theorem dX1_reads_63 : decode cX1_reads 63 = .ok (.getfield 18, 3) := by decide +kernel
theorem dX1_reads_66 : decode cX1_reads 66 = .ok (.iload_n 3, 1) := by decide +kernel
theorem dX1_reads_67 : decode cX1_reads 67 = .ok (.aload_n 0, 1) := by decide +kernel
theorem dX1_reads_68 : decode cX1_reads 68 = .ok (.getfield 28, 3) := by decide +kernel
theorem dX1_reads_71 : decode cX1_reads 71 = .ok (.iastore, 1) := by decide +kernel
theorem dX1_reads_72 : decode cX1_reads 72 = .ok (.aload_n 0, 1) := by decide +kernel
theorem dX1_reads_73 : decode cX1_reads 73 = .ok (.iload_n 3, 1) := by decide +kernel
theorem dX1_reads_74 : decode cX1_reads 74 = .ok (.iconst 1, 1) := by decide +kernel
theorem dX1_reads_75 : decode cX1_reads 75 = .ok (.iadd, 1) := by decide +kernel
theorem dX1_reads_76 : decode cX1_reads 76 = .ok (.putfield 24, 3) := by decide +kernel
theorem dX1_reads_79 : decode cX1_reads 79 = .ok (.aload_n 0, 1) := by decide +kernel
theorem dX1_reads_80 : decode cX1_reads 80 = .ok (.getfield 24, 3) := by decide +kernel
theorem dX1_reads_83 : decode cX1_reads 83 = .ok (.bipush 6, 2) := by decide +kernel
theorem dX1_reads_85 : decode cX1_reads 85 = .ok (.if_icmp .ge 16, 3) := by decide +kernel
theorem dX1_reads_88 : decode cX1_reads 88 = .ok (.aload_n 0, 1) := by decide +kernel
theorem dX1_reads_89 : decode cX1_reads 89 = .ok (.bipush 59, 2) := by decide +kernel
theorem dX1_reads_91 : decode cX1_reads 91 = .ok (.invokevirtual 49, 3) := by decide +kernel
theorem dX1_reads_94 : decode cX1_reads 94 = .ok (.ifCond .eq 7, 3) := by decide +kernel
theorem dX1_reads_97 : decode cX1_reads 97 = .ok (.iconst 1, 1) := by decide +kernel
theorem dX1_reads_98 : decode cX1_reads 98 = .ok (.goto 4, 3) := by decide +kernel
theorem dX1_reads_101 : decode cX1_reads 101 = .ok (.iconst 0, 1) := by decide +kernel
theorem dX1_reads_102 : decode cX1_reads 102 = .ok (.istore_n 2, 1) := by decide +kernel
theorem dX1_reads_103 : decode cX1_reads 103 = .ok (.iinc 3 1, 3) := by decide +kernel
theorem dX1_reads_106 : decode cX1_reads 106 = .ok (.goto (-87), 3) := by decide +kernel
theorem dX1_reads_109 : decode cX1_reads 109 = .ok (.aload_n 0, 1) := by decide +kernel
theorem dX1_reads_110 : decode cX1_reads 110 = .ok (.invokevirtual 53, 3) := by decide +kernel
theorem dX1_reads_113 : decode cX1_reads 113 = .ok (.aload_n 0, 1) := by decide +kernel
theorem dX1_reads_114 : decode cX1_reads 114 = .ok (.invokevirtual 56, 3) := by decide +kernel
theorem dX1_reads_117 : decode cX1_reads 117 = .ok (.ireturn, 1) := by decide +kernel
set_option maxRecDepth 20000 in
theorem ggX1_readEither_X1_readBoth : GoodIn wsX1_readEither wsX1_readBoth := goodIn_r _ [27, 28, 29, 30, 4, 5, 6, 7, 8, 9, 10, 11, 12, 13, 14, 15, 16, 17, 18, 19, 20, 21, 22, 23, 24, 25, 26, 0, 1, 2, 3, 31, 32, 33, 34, 35, 36, 37, 38, 39, 40, 41, 42, 43, 44, 45, 46, 47, 48, 49, 50, 51, 52, 53, 54, 55, 56, 57, 58, 59, 60, 61, 62, 63, 64, 65, 66, 67, 68, 69, 70, 71, 72, 73, 74, 75, 76, 77, 78, 79, 80, 81, 82, 83, 84, 85, 86, 87, 88, 89, 90, 91, 92, 93, 94, 95, 96, 97, 98, 99, 100, 101, 102, 103, 104, 105, 106, 107, 108, 109, 110, 111, 112, 113, 114, 115, 116, 117] (by decide +kernel) (by decide +kernel)
set_option maxRecDepth 20000 in
theorem gX1_readEither_X1_readBoth : GoodIn wsX1_readEither (wsV RX1 60 RX1 yX1_readBoth wsX1_readBoth) := goodIn_app (goodIn_of _ (by decide +kernel)) ggX1_readEither_X1_readBoth
set_option maxRecDepth 20000 in
theorem ggX1_readEither_X2_takes : GoodIn wsX1_readEither wsX2_takes := goodIn_r _ [10, 11, 12, 13, 14, 15, 9, 16, 17, 18, 19, 20, 103, 104, 105, 106, 107, 108, 109, 110, 111, 112, 113, 114, 115, 116, 117] (by decide +kernel) (by decide +kernel)
set_option maxRecDepth 20000 in
theorem gX1_readEither_X2_takes_u49X1 : GoodIn wsX1_readEither (va_wsU RX1 49 RX1 "SluiceCards$Reader" ⟨"SluiceCards$CardReader", "takes", "(C)Z"⟩ yX2_takes wsX2_takes) := goodIn_app (goodIn_of _ (by decide +kernel)) ggX1_readEither_X2_takes
set_option maxRecDepth 20000 in
theorem ggX1_readEither_X1_putStep : GoodIn wsX1_readEither wsX1_putStep := goodIn_r _ [24, 25, 26, 103, 104, 105, 106, 107, 108, 109, 110, 111, 112] (by decide +kernel) (by decide +kernel)
set_option maxRecDepth 20000 in
theorem gX1_readEither_X1_putStep : GoodIn wsX1_readEither (wsV RX1 65 RX1 yX1_putStep wsX1_putStep) := goodIn_app (goodIn_of _ (by decide +kernel)) ggX1_readEither_X1_putStep
theorem dX1_readEither_0 : decode cX1_readEither 0 = .ok (.aload_n 0, 1) := by decide +kernel
theorem dX1_readEither_1 : decode cX1_readEither 1 = .ok (.iload_n 1, 1) := by decide +kernel
theorem dX1_readEither_2 : decode cX1_readEither 2 = .ok (.invokevirtual 60, 3) := by decide +kernel
theorem dX1_readEither_5 : decode cX1_readEither 5 = .ok (.iconst 0, 1) := by decide +kernel
theorem dX1_readEither_6 : decode cX1_readEither 6 = .ok (.istore_n 2, 1) := by decide +kernel
theorem dX1_readEither_7 : decode cX1_readEither 7 = .ok (.iload_n 2, 1) := by decide +kernel
theorem dX1_readEither_8 : decode cX1_readEither 8 = .ok (.bipush 120, 2) := by decide +kernel
theorem dX1_readEither_10 : decode cX1_readEither 10 = .ok (.if_icmp .ge 29, 3) := by decide +kernel
theorem dX1_readEither_13 : decode cX1_readEither 13 = .ok (.aload_n 0, 1) := by decide +kernel
theorem dX1_readEither_14 : decode cX1_readEither 14 = .ok (.bipush 124, 2) := by decide +kernel
theorem dX1_readEither_16 : decode cX1_readEither 16 = .ok (.invokevirtual 49, 3) := by decide +kernel
theorem dX1_readEither_19 : decode cX1_readEither 19 = .ok (.ifCond .eq 20, 3) := by decide +kernel
theorem dX1_readEither_22 : decode cX1_readEither 22 = .ok (.aload_n 0, 1) := by decide +kernel
theorem dX1_readEither_23 : decode cX1_readEither 23 = .ok (.iload_n 1, 1) := by decide +kernel
theorem dX1_readEither_24 : decode cX1_readEither 24 = .ok (.invokevirtual 60, 3) := by decide +kernel
theorem dX1_readEither_27 : decode cX1_readEither 27 = .ok (.aload_n 0, 1) := by decide +kernel
theorem dX1_readEither_28 : decode cX1_readEither 28 = .ok (.bipush (-3), 2) := by decide +kernel
theorem dX1_readEither_30 : decode cX1_readEither 30 = .ok (.invokevirtual 65, 3) := by decide +kernel
theorem dX1_readEither_33 : decode cX1_readEither 33 = .ok (.iinc 2 1, 3) := by decide +kernel
theorem dX1_readEither_36 : decode cX1_readEither 36 = .ok (.goto (-29), 3) := by decide +kernel
theorem dX1_readEither_39 : decode cX1_readEither 39 = .ok (.return_, 1) := by decide +kernel
set_option maxRecDepth 20000 in
theorem ggX1_readBoth_X1_readSingle : GoodIn wsX1_readBoth wsX1_readSingle := goodIn_r _ [31, 5, 6, 7, 8, 9, 10, 11, 12, 13, 14, 15, 16, 17, 18, 19, 20, 1, 2, 3, 4, 21, 22, 23, 24, 25, 26, 32, 33, 34, 35, 36, 37, 38, 39, 40, 41, 42, 43, 44, 45, 46, 47, 48, 49, 50, 51, 52, 53, 54, 55, 56, 57, 58, 59, 60, 61, 62, 63, 64, 65, 66, 67, 68, 69, 70, 71, 72, 73, 74, 75, 76, 77, 78, 79, 80, 81, 82, 83, 84, 85, 86, 87, 88, 89, 90, 91, 92, 93, 94, 95, 96, 97, 98, 99, 100, 101, 102, 0, 27, 28, 29, 30, 103, 104, 105, 106, 107, 108, 109, 110, 111, 112, 113, 114, 115, 116, 117] (by decide +kernel) (by decide +kernel)
set_option maxRecDepth 20000 in
theorem gX1_readBoth_X1_readSingle : GoodIn wsX1_readBoth (wsV RX1 68 RX1 yX1_readSingle wsX1_readSingle) := goodIn_app (goodIn_of _ (by decide +kernel)) ggX1_readBoth_X1_readSingle
set_option maxRecDepth 20000 in
theorem ggX1_readBoth_X2_takes : GoodIn wsX1_readBoth wsX2_takes := goodIn_r _ [10, 11, 12, 13, 14, 15, 9, 16, 17, 18, 19, 20, 103, 104, 105, 106, 107, 108, 109, 110, 111, 112, 113, 114, 115, 116, 117] (by decide +kernel) (by decide +kernel)
set_option maxRecDepth 20000 in
theorem gX1_readBoth_X2_takes_u49X1 : GoodIn wsX1_readBoth (va_wsU RX1 49 RX1 "SluiceCards$Reader" ⟨"SluiceCards$CardReader", "takes", "(C)Z"⟩ yX2_takes wsX2_takes) := goodIn_app (goodIn_of _ (by decide +kernel)) ggX1_readBoth_X2_takes
set_option maxRecDepth 20000 in
theorem ggX1_readBoth_X1_putStep : GoodIn wsX1_readBoth wsX1_putStep := goodIn_r _ [24, 25, 26, 103, 104, 105, 106, 107, 108, 109, 110, 111, 112] (by decide +kernel) (by decide +kernel)
set_option maxRecDepth 20000 in
theorem gX1_readBoth_X1_putStep : GoodIn wsX1_readBoth (wsV RX1 65 RX1 yX1_putStep wsX1_putStep) := goodIn_app (goodIn_of _ (by decide +kernel)) ggX1_readBoth_X1_putStep
theorem dX1_readBoth_0 : decode cX1_readBoth 0 = .ok (.aload_n 0, 1) := by decide +kernel
theorem dX1_readBoth_1 : decode cX1_readBoth 1 = .ok (.iload_n 1, 1) := by decide +kernel
theorem dX1_readBoth_2 : decode cX1_readBoth 2 = .ok (.invokevirtual 68, 3) := by decide +kernel
theorem dX1_readBoth_5 : decode cX1_readBoth 5 = .ok (.iconst 0, 1) := by decide +kernel
theorem dX1_readBoth_6 : decode cX1_readBoth 6 = .ok (.istore_n 2, 1) := by decide +kernel
theorem dX1_readBoth_7 : decode cX1_readBoth 7 = .ok (.iload_n 2, 1) := by decide +kernel
theorem dX1_readBoth_8 : decode cX1_readBoth 8 = .ok (.bipush 120, 2) := by decide +kernel
theorem dX1_readBoth_10 : decode cX1_readBoth 10 = .ok (.if_icmp .ge 29, 3) := by decide +kernel
theorem dX1_readBoth_13 : decode cX1_readBoth 13 = .ok (.aload_n 0, 1) := by decide +kernel
theorem dX1_readBoth_14 : decode cX1_readBoth 14 = .ok (.bipush 38, 2) := by decide +kernel
theorem dX1_readBoth_16 : decode cX1_readBoth 16 = .ok (.invokevirtual 49, 3) := by decide +kernel
theorem dX1_readBoth_19 : decode cX1_readBoth 19 = .ok (.ifCond .eq 20, 3) := by decide +kernel
theorem dX1_readBoth_22 : decode cX1_readBoth 22 = .ok (.aload_n 0, 1) := by decide +kernel
theorem dX1_readBoth_23 : decode cX1_readBoth 23 = .ok (.iload_n 1, 1) := by decide +kernel
theorem dX1_readBoth_24 : decode cX1_readBoth 24 = .ok (.invokevirtual 68, 3) := by decide +kernel
theorem dX1_readBoth_27 : decode cX1_readBoth 27 = .ok (.aload_n 0, 1) := by decide +kernel
theorem dX1_readBoth_28 : decode cX1_readBoth 28 = .ok (.bipush (-2), 2) := by decide +kernel
theorem dX1_readBoth_30 : decode cX1_readBoth 30 = .ok (.invokevirtual 65, 3) := by decide +kernel
theorem dX1_readBoth_33 : decode cX1_readBoth 33 = .ok (.iinc 2 1, 3) := by decide +kernel
theorem dX1_readBoth_36 : decode cX1_readBoth 36 = .ok (.goto (-29), 3) := by decide +kernel
theorem dX1_readBoth_39 : decode cX1_readBoth 39 = .ok (.return_, 1) := by decide +kernel
set_option maxRecDepth 20000 in
theorem ggX1_readSingle_X2_takes : GoodIn wsX1_readSingle wsX2_takes := goodIn_r _ [6, 7, 8, 9, 10, 11, 5, 12, 13, 14, 15, 16, 103, 104, 105, 106, 107, 108, 109, 110, 111, 112, 113, 114, 115, 116, 117] (by decide +kernel) (by decide +kernel)
set_option maxRecDepth 20000 in
theorem gX1_readSingle_X2_takes_u49X1 : GoodIn wsX1_readSingle (va_wsU RX1 49 RX1 "SluiceCards$Reader" ⟨"SluiceCards$CardReader", "takes", "(C)Z"⟩ yX2_takes wsX2_takes) := goodIn_app (goodIn_of _ (by decide +kernel)) ggX1_readSingle_X2_takes
set_option maxRecDepth 20000 in
theorem ggX1_readSingle_X1_readSingle : GoodIn wsX1_readSingle wsX1_readSingle := goodIn_r _ [0, 1, 2, 3, 4, 5, 6, 7, 8, 9, 10, 11, 12, 13, 14, 15, 16, 17, 18, 19, 20, 21, 22, 23, 24, 25, 26, 27, 28, 29, 30, 31, 32, 33, 34, 35, 36, 37, 38, 39, 40, 41, 42, 43, 44, 45, 46, 47, 48, 49, 50, 51, 52, 53, 54, 55, 56, 57, 58, 59, 60, 61, 62, 63, 64, 65, 66, 67, 68, 69, 70, 71, 72, 73, 74, 75, 76, 77, 78, 79, 80, 81, 82, 83, 84, 85, 86, 87, 88, 89, 90, 91, 92, 93, 94, 95, 96, 97, 98, 99, 100, 101, 102, 103, 104, 105, 106, 107, 108, 109, 110, 111, 112, 113, 114, 115, 116, 117] (by decide +kernel) (by decide +kernel)
set_option maxRecDepth 20000 in
theorem gX1_readSingle_X1_readSingle : GoodIn wsX1_readSingle (wsV RX1 68 RX1 yX1_readSingle wsX1_readSingle) := goodIn_app (goodIn_of _ (by decide +kernel)) ggX1_readSingle_X1_readSingle
set_option maxRecDepth 20000 in
theorem ggX1_readSingle_X1_putStep : GoodIn wsX1_readSingle wsX1_putStep := goodIn_r _ [24, 25, 26, 103, 104, 105, 106, 107, 108, 109, 110, 111, 112] (by decide +kernel) (by decide +kernel)
set_option maxRecDepth 20000 in
theorem gX1_readSingle_X1_putStep : GoodIn wsX1_readSingle (wsV RX1 65 RX1 yX1_putStep wsX1_putStep) := goodIn_app (goodIn_of _ (by decide +kernel)) ggX1_readSingle_X1_putStep
set_option maxRecDepth 20000 in
theorem ggX1_readSingle_X1_readEither : GoodIn wsX1_readSingle wsX1_readEither := goodIn_r _ [99, 100, 101, 102, 20, 1, 2, 3, 4, 5, 6, 7, 8, 9, 10, 11, 12, 13, 14, 15, 16, 21, 22, 23, 24, 25, 26, 98, 17, 18, 19, 0, 27, 28, 29, 30, 31, 32, 33, 34, 35, 36, 37, 38, 39, 40, 41, 42, 43, 44, 45, 46, 47, 48, 49, 50, 51, 52, 53, 54, 55, 56, 57, 58, 59, 60, 61, 62, 63, 64, 65, 66, 67, 68, 69, 70, 71, 72, 73, 74, 75, 76, 77, 78, 79, 80, 81, 82, 83, 84, 85, 86, 87, 88, 89, 90, 91, 92, 93, 94, 95, 96, 97, 103, 104, 105, 106, 107, 108, 109, 110, 111, 112, 113, 114, 115, 116, 117] (by decide +kernel) (by decide +kernel)
set_option maxRecDepth 20000 in
theorem gX1_readSingle_X1_readEither : GoodIn wsX1_readSingle (wsV RX1 45 RX1 yX1_readEither wsX1_readEither) := goodIn_app (goodIn_of _ (by decide +kernel)) ggX1_readSingle_X1_readEither
set_option maxRecDepth 20000 in
theorem ggX1_readSingle_X2_fail : GoodIn wsX1_readSingle wsX2_fail := goodIn_r _ [34, 13, 7, 103, 104, 105, 106, 107, 108, 109, 110, 111, 112, 113, 114, 115, 116, 117] (by decide +kernel) (by decide +kernel)
set_option maxRecDepth 20000 in
theorem gX1_readSingle_X2_fail_u71X1 : GoodIn wsX1_readSingle (va_wsU RX1 71 RX1 "SluiceCards$Reader" ⟨"SluiceCards$CardReader", "fail", "()V"⟩ yX2_fail wsX2_fail) := goodIn_app (goodIn_of _ (by decide +kernel)) ggX1_readSingle_X2_fail
set_option maxRecDepth 20000 in
theorem ggX1_readSingle_X2_oneOf : GoodIn wsX1_readSingle wsX2_oneOf := goodIn_r _ [39, 7, 8, 9, 10, 11, 5, 12, 13, 14, 15, 16, 40, 41, 42, 43, 44, 45, 46, 47, 48, 49, 50, 51, 52, 53, 54, 55, 56, 57, 58, 59, 60, 61, 62, 63, 64, 65, 66, 67, 68, 69, 70, 71, 72, 73, 74, 75, 76, 77, 78, 79, 80, 81, 82, 83, 84, 85, 86, 87, 88, 89, 90, 91, 33, 34, 92, 103, 104, 105, 106, 107, 108, 109, 110, 111, 112, 113, 114, 115, 116, 117] (by decide +kernel) (by decide +kernel)
set_option maxRecDepth 20000 in
theorem gX1_readSingle_X2_oneOf_u76X1 : GoodIn wsX1_readSingle (va_wsU RX1 76 RX1 "SluiceCards$Reader" ⟨"SluiceCards$CardReader", "oneOf", "(Ljava/lang/String;)I"⟩ yX2_oneOf wsX2_oneOf) := goodIn_app (goodIn_of _ (by decide +kernel)) ggX1_readSingle_X2_oneOf
set_option maxRecDepth 20000 in
theorem ggX1_readSingle_X2_digit : GoodIn wsX1_readSingle wsX2_digit := goodIn_r _ [97, 7, 8, 9, 10, 11, 5, 12, 13, 14, 15, 16, 89, 90, 91, 33, 34, 92, 103, 104, 105, 106, 107, 108, 109, 110, 111, 112, 113, 114, 115, 116, 117] (by decide +kernel) (by decide +kernel)
set_option maxRecDepth 20000 in
theorem gX1_readSingle_X2_digit_u35X1 : GoodIn wsX1_readSingle (va_wsU RX1 35 RX1 "SluiceCards$Reader" ⟨"SluiceCards$CardReader", "digit", "(II)I"⟩ yX2_digit wsX2_digit) := goodIn_app (goodIn_of _ (by decide +kernel)) ggX1_readSingle_X2_digit
theorem dX1_readSingle_0 : decode cX1_readSingle 0 = .ok (.iload_n 1, 1) := by decide +kernel
theorem dX1_readSingle_1 : decode cX1_readSingle 1 = .ok (.iconst 5, 1) := by decide +kernel
theorem dX1_readSingle_2 : decode cX1_readSingle 2 = .ok (.if_icmp .ge 7, 3) := by decide +kernel
theorem dX1_readSingle_5 : decode cX1_readSingle 5 = .ok (.iconst 1, 1) := by decide +kernel
theorem dX1_readSingle_6 : decode cX1_readSingle 6 = .ok (.goto 4, 3) := by decide +kernel
theorem dX1_readSingle_9 : decode cX1_readSingle 9 = .ok (.iconst 0, 1) := by decide +kernel
theorem dX1_readSingle_10 : decode cX1_readSingle 10 = .ok (.istore_n 2, 1) := by decide +kernel
theorem dX1_readSingle_11 : decode cX1_readSingle 11 = .ok (.iload_n 2, 1) := by decide +kernel
theorem dX1_readSingle_12 : decode cX1_readSingle 12 = .ok (.ifCond .eq 27, 3) := by decide +kernel
theorem dX1_readSingle_15 : decode cX1_readSingle 15 = .ok (.aload_n 0, 1) := by decide +kernel
theorem dX1_readSingle_16 : decode cX1_readSingle 16 = .ok (.bipush 33, 2) := by decide +kernel
theorem dX1_readSingle_18 : decode cX1_readSingle 18 = .ok (.invokevirtual 49, 3) := by decide +kernel
theorem dX1_readSingle_21 : decode cX1_readSingle 21 = .ok (.ifCond .eq 18, 3) := by decide +kernel
theorem dX1_readSingle_24 : decode cX1_readSingle 24 = .ok (.aload_n 0, 1) := by decide +kernel
theorem dX1_readSingle_25 : decode cX1_readSingle 25 = .ok (.iload_n 1, 1) := by decide +kernel
theorem dX1_readSingle_26 : decode cX1_readSingle 26 = .ok (.iconst 1, 1) := by decide +kernel
theorem dX1_readSingle_27 : decode cX1_readSingle 27 = .ok (.iadd, 1) := by decide +kernel
theorem dX1_readSingle_28 : decode cX1_readSingle 28 = .ok (.invokevirtual 68, 3) := by decide +kernel
theorem dX1_readSingle_31 : decode cX1_readSingle 31 = .ok (.aload_n 0, 1) := by decide +kernel
theorem dX1_readSingle_32 : decode cX1_readSingle 32 = .ok (.iconst (-1), 1) := by decide +kernel
theorem dX1_readSingle_33 : decode cX1_readSingle 33 = .ok (.invokevirtual 65, 3) := by decide +kernel
theorem dX1_readSingle_36 : decode cX1_readSingle 36 = .ok (.goto 76, 3) := by decide +kernel
theorem dX1_readSingle_39 : decode cX1_readSingle 39 = .ok (.iload_n 2, 1) := by decide +kernel
theorem dX1_readSingle_40 : decode cX1_readSingle 40 = .ok (.ifCond .eq 35, 3) := by decide +kernel
theorem dX1_readSingle_43 : decode cX1_readSingle 43 = .ok (.aload_n 0, 1) := by decide +kernel
theorem dX1_readSingle_44 : decode cX1_readSingle 44 = .ok (.bipush 40, 2) := by decide +kernel
theorem dX1_readSingle_46 : decode cX1_readSingle 46 = .ok (.invokevirtual 49, 3) := by decide +kernel
theorem dX1_readSingle_49 : decode cX1_readSingle 49 = .ok (.ifCond .eq 26, 3) := by decide +kernel
theorem dX1_readSingle_52 : decode cX1_readSingle 52 = .ok (.aload_n 0, 1) := by decide +kernel
theorem dX1_readSingle_53 : decode cX1_readSingle 53 = .ok (.iload_n 1, 1) := by decide +kernel
theorem dX1_readSingle_54 : decode cX1_readSingle 54 = .ok (.iconst 1, 1) := by decide +kernel
theorem dX1_readSingle_55 : decode cX1_readSingle 55 = .ok (.iadd, 1) := by decide +kernel
theorem dX1_readSingle_56 : decode cX1_readSingle 56 = .ok (.invokevirtual 45, 3) := by decide +kernel
theorem dX1_readSingle_59 : decode cX1_readSingle 59 = .ok (.aload_n 0, 1) := by decide +kernel
theorem dX1_readSingle_60 : decode cX1_readSingle 60 = .ok (.bipush 41, 2) := by decide +kernel
theorem dX1_readSingle_62 : decode cX1_readSingle 62 = .ok (.invokevirtual 49, 3) := by decide +kernel
theorem dX1_readSingle_65 : decode cX1_readSingle 65 = .ok (.ifCond .ne 47, 3) := by decide +kernel
theorem dX1_readSingle_68 : decode cX1_readSingle 68 = .ok (.aload_n 0, 1) := by decide +kernel
theorem dX1_readSingle_69 : decode cX1_readSingle 69 = .ok (.invokevirtual 71, 3) := by decide +kernel
theorem dX1_readSingle_72 : decode cX1_readSingle 72 = .ok (.goto 40, 3) := by decide +kernel
theorem dX1_readSingle_75 : decode cX1_readSingle 75 = .ok (.aload_n 0, 1) := by decide +kernel
theorem dX1_readSingle_76 : decode cX1_readSingle 76 = .ok (.ldc 74, 2) := by decide +kernel
theorem dX1_readSingle_78 : decode cX1_readSingle 78 = .ok (.invokevirtual 76, 3) := by decide +kernel
theorem dX1_readSingle_81 : decode cX1_readSingle 81 = .ok (.istore_n 3, 1) := by decide +kernel
theorem dX1_readSingle_82 : decode cX1_readSingle 82 = .ok (.aload_n 0, 1) := by decide +kernel
theorem dX1_readSingle_83 : decode cX1_readSingle 83 = .ok (.ldc 80, 2) := by decide +kernel
theorem dX1_readSingle_85 : decode cX1_readSingle 85 = .ok (.invokevirtual 76, 3) := by decide +kernel
theorem dX1_readSingle_88 : decode cX1_readSingle 88 = .ok (.istore 4, 2) := by decide +kernel
theorem dX1_readSingle_90 : decode cX1_readSingle 90 = .ok (.aload_n 0, 1) := by decide +kernel
theorem dX1_readSingle_91 : decode cX1_readSingle 91 = .ok (.iload_n 3, 1) := by decide +kernel
theorem dX1_readSingle_92 : decode cX1_readSingle 92 = .ok (.bipush 100, 2) := by decide +kernel
theorem dX1_readSingle_94 : decode cX1_readSingle 94 = .ok (.imul, 1) := by decide +kernel
theorem dX1_readSingle_95 : decode cX1_readSingle 95 = .ok (.iload 4, 2) := by decide +kernel
theorem dX1_readSingle_97 : decode cX1_readSingle 97 = .ok (.bipush 10, 2) := by decide +kernel
theorem dX1_readSingle_99 : decode cX1_readSingle 99 = .ok (.imul, 1) := by decide +kernel
theorem dX1_readSingle_100 : decode cX1_readSingle 100 = .ok (.iadd, 1) := by decide +kernel
theorem dX1_readSingle_101 : decode cX1_readSingle 101 = .ok (.aload_n 0, 1) := by decide +kernel
theorem dX1_readSingle_102 : decode cX1_readSingle 102 = .ok (.iconst 0, 1) := by decide +kernel
theorem dX1_readSingle_103 : decode cX1_readSingle 103 = .ok (.bipush 9, 2) := by decide +kernel
theorem dX1_readSingle_105 : decode cX1_readSingle 105 = .ok (.invokevirtual 35, 3) := by decide +kernel
theorem dX1_readSingle_108 : decode cX1_readSingle 108 = .ok (.iadd, 1) := by decide +kernel
theorem dX1_readSingle_109 : decode cX1_readSingle 109 = .ok (.invokevirtual 65, 3) := by decide +kernel
theorem dX1_readSingle_112 : decode cX1_readSingle 112 = .ok (.return_, 1) := by decide +kernel
theorem dX1_putStep_0 : decode cX1_putStep 0 = .ok (.aload_n 0, 1) := by decide +kernel
theorem dX1_putStep_1 : decode cX1_putStep 1 = .ok (.getfield 28, 3) := by decide +kernel
theorem dX1_putStep_4 : decode cX1_putStep 4 = .ok (.ifCond .lt 15, 3) := by decide +kernel
theorem dX1_putStep_7 : decode cX1_putStep 7 = .ok (.aload_n 0, 1) := by decide +kernel
theorem dX1_putStep_8 : decode cX1_putStep 8 = .ok (.getfield 28, 3) := by decide +kernel
theorem dX1_putStep_11 : decode cX1_putStep 11 = .ok (.aload_n 0, 1) := by decide +kernel
theorem dX1_putStep_12 : decode cX1_putStep 12 = .ok (.getfield 21, 3) := by decide +kernel
theorem dX1_putStep_15 : decode cX1_putStep 15 = .ok (.arraylength, 1) := by decide +kernel
theorem dX1_putStep_16 : decode cX1_putStep 16 = .ok (.if_icmp .lt 4, 3) := by decide +kernel
theorem dX1_putStep_19 : decode cX1_putStep 19 = .ok (.return_, 1) := by decide +kernel
theorem dX1_putStep_20 : decode cX1_putStep 20 = .ok (.aload_n 0, 1) := by decide +kernel
theorem dX1_putStep_21 : decode cX1_putStep 21 = .ok (.getfield 21, 3) := by decide +kernel
theorem dX1_putStep_24 : decode cX1_putStep 24 = .ok (.aload_n 0, 1) := by decide +kernel
theorem dX1_putStep_25 : decode cX1_putStep 25 = .ok (.getfield 28, 3) := by decide +kernel
theorem dX1_putStep_28 : decode cX1_putStep 28 = .ok (.iload_n 1, 1) := by decide +kernel
theorem dX1_putStep_29 : decode cX1_putStep 29 = .ok (.iastore, 1) := by decide +kernel
theorem dX1_putStep_30 : decode cX1_putStep 30 = .ok (.aload_n 0, 1) := by decide +kernel
theorem dX1_putStep_31 : decode cX1_putStep 31 = .ok (.dup, 1) := by decide +kernel
theorem dX1_putStep_32 : decode cX1_putStep 32 = .ok (.getfield 28, 3) := by decide +kernel
theorem dX1_putStep_35 : decode cX1_putStep 35 = .ok (.iconst 1, 1) := by decide +kernel
theorem dX1_putStep_36 : decode cX1_putStep 36 = .ok (.iadd, 1) := by decide +kernel
theorem dX1_putStep_37 : decode cX1_putStep 37 = .ok (.putfield 28, 3) := by decide +kernel
theorem dX1_putStep_40 : decode cX1_putStep 40 = .ok (.return_, 1) := by decide +kernel
theorem dX2_init_0 : decode cX2_init 0 = .ok (.aload_n 0, 1) := by decide +kernel
theorem dX2_init_1 : decode cX2_init 1 = .ok (.invokespecial 3, 3) := by decide +kernel
theorem dX2_init_4 : decode cX2_init 4 = .ok (.aload_n 0, 1) := by decide +kernel
theorem dX2_init_5 : decode cX2_init 5 = .ok (.bipush 120, 2) := by decide +kernel
theorem dX2_init_7 : decode cX2_init 7 = .ok (.newarray .int, 2) := by decide +kernel
theorem dX2_init_9 : decode cX2_init 9 = .ok (.putfield 9, 3) := by decide +kernel
theorem dX2_init_12 : decode cX2_init 12 = .ok (.aload_n 0, 1) := by decide +kernel
theorem dX2_init_13 : decode cX2_init 13 = .ok (.iconst 0, 1) := by decide +kernel
theorem dX2_init_14 : decode cX2_init 14 = .ok (.putfield 15, 3) := by decide +kernel
theorem dX2_init_17 : decode cX2_init 17 = .ok (.aload_n 0, 1) := by decide +kernel
theorem dX2_init_18 : decode cX2_init 18 = .ok (.iconst 0, 1) := by decide +kernel
theorem dX2_init_19 : decode cX2_init 19 = .ok (.putfield 19, 3) := by decide +kernel
theorem dX2_init_22 : decode cX2_init 22 = .ok (.aload_n 0, 1) := by decide +kernel
theorem dX2_init_23 : decode cX2_init 23 = .ok (.iconst (-1), 1) := by decide +kernel
theorem dX2_init_24 : decode cX2_init 24 = .ok (.putfield 22, 3) := by decide +kernel
theorem dX2_init_27 : decode cX2_init 27 = .ok (.return_, 1) := by decide +kernel
set_option maxRecDepth 20000 in
theorem ggX2_begin_X10_copyRow : GoodIn wsX2_begin wsX10_copyRow := goodIn_r _ [16, 17, 5, 6, 7, 18, 19, 20, 21] (by decide +kernel) (by decide +kernel)
set_option maxRecDepth 20000 in
theorem gX2_begin_X10_copyRow_n28 : GoodIn wsX2_begin (wsX10_copyRow) := ggX2_begin_X10_copyRow
theorem dX2_begin_0 : decode cX2_begin 0 = .ok (.aload_n 1, 1) := by decide +kernel
theorem dX2_begin_1 : decode cX2_begin 1 = .ok (.getfield 25, 3) := by decide +kernel
theorem dX2_begin_4 : decode cX2_begin 4 = .ok (.aload_n 0, 1) := by decide +kernel
theorem dX2_begin_5 : decode cX2_begin 5 = .ok (.getfield 9, 3) := by decide +kernel
theorem dX2_begin_8 : decode cX2_begin 8 = .ok (.invokestatic 28, 3) := by decide +kernel
theorem dX2_begin_11 : decode cX2_begin 11 = .ok (.aload_n 0, 1) := by decide +kernel
theorem dX2_begin_12 : decode cX2_begin 12 = .ok (.iconst 0, 1) := by decide +kernel
theorem dX2_begin_13 : decode cX2_begin 13 = .ok (.aload_n 1, 1) := by decide +kernel
theorem dX2_begin_14 : decode cX2_begin 14 = .ok (.getfield 32, 3) := by decide +kernel
theorem dX2_begin_17 : decode cX2_begin 17 = .ok (.aload_n 0, 1) := by decide +kernel
theorem dX2_begin_18 : decode cX2_begin 18 = .ok (.getfield 9, 3) := by decide +kernel
theorem dX2_begin_21 : decode cX2_begin 21 = .ok (.arraylength, 1) := by decide +kernel
theorem dX2_begin_22 : decode cX2_begin 22 = .ok (.invokestatic 35, 3) := by decide +kernel
theorem dX2_begin_25 : decode cX2_begin 25 = .ok (.invokestatic 41, 3) := by decide +kernel
theorem dX2_begin_28 : decode cX2_begin 28 = .ok (.putfield 15, 3) := by decide +kernel
theorem dX2_begin_31 : decode cX2_begin 31 = .ok (.aload_n 0, 1) := by decide +kernel
theorem dX2_begin_32 : decode cX2_begin 32 = .ok (.iconst 0, 1) := by decide +kernel
theorem dX2_begin_33 : decode cX2_begin 33 = .ok (.putfield 19, 3) := by decide +kernel
theorem dX2_begin_36 : decode cX2_begin 36 = .ok (.aload_n 0, 1) := by decide +kernel
theorem dX2_begin_37 : decode cX2_begin 37 = .ok (.iconst (-1), 1) := by decide +kernel
theorem dX2_begin_38 : decode cX2_begin 38 = .ok (.putfield 22, 3) := by decide +kernel
theorem dX2_begin_41 : decode cX2_begin 41 = .ok (.return_, 1) := by decide +kernel
theorem dX2_next_0 : decode cX2_next 0 = .ok (.aload_n 0, 1) := by decide +kernel
theorem dX2_next_1 : decode cX2_next 1 = .ok (.getfield 22, 3) := by decide +kernel
theorem dX2_next_4 : decode cX2_next 4 = .ok (.ifCond .ge 33, 3) := by decide +kernel
theorem dX2_next_7 : decode cX2_next 7 = .ok (.aload_n 0, 1) := by decide +kernel
theorem dX2_next_8 : decode cX2_next 8 = .ok (.getfield 19, 3) := by decide +kernel
theorem dX2_next_11 : decode cX2_next 11 = .ok (.ifCond .lt 26, 3) := by decide +kernel
theorem dX2_next_14 : decode cX2_next 14 = .ok (.aload_n 0, 1) := by decide +kernel
theorem dX2_next_15 : decode cX2_next 15 = .ok (.getfield 19, 3) := by decide +kernel
theorem dX2_next_18 : decode cX2_next 18 = .ok (.aload_n 0, 1) := by decide +kernel
theorem dX2_next_19 : decode cX2_next 19 = .ok (.getfield 15, 3) := by decide +kernel
theorem dX2_next_22 : decode cX2_next 22 = .ok (.if_icmp .ge 15, 3) := by decide +kernel
theorem dX2_next_25 : decode cX2_next 25 = .ok (.aload_n 0, 1) := by decide +kernel
theorem dX2_next_26 : decode cX2_next 26 = .ok (.getfield 19, 3) := by decide +kernel
theorem dX2_next_29 : decode cX2_next 29 = .ok (.aload_n 0, 1) := by decide +kernel
theorem dX2_next_30 : decode cX2_next 30 = .ok (.getfield 9, 3) := by decide +kernel
theorem dX2_next_33 : decode cX2_next 33 = .ok (.arraylength, 1) := by decide +kernel
theorem dX2_next_34 : decode cX2_next 34 = .ok (.if_icmp .lt 5, 3) := by decide +kernel
theorem dX2_next_37 : decode cX2_next 37 = .ok (.iconst (-1), 1) := by decide +kernel
theorem dX2_next_38 : decode cX2_next 38 = .ok (.ireturn, 1) := by decide +kernel
theorem dX2_next_39 : decode cX2_next 39 = .ok (.aload_n 0, 1) := by decide +kernel
theorem dX2_next_40 : decode cX2_next 40 = .ok (.getfield 9, 3) := by decide +kernel
theorem dX2_next_43 : decode cX2_next 43 = .ok (.aload_n 0, 1) := by decide +kernel
theorem dX2_next_44 : decode cX2_next 44 = .ok (.getfield 19, 3) := by decide +kernel
theorem dX2_next_47 : decode cX2_next 47 = .ok (.iaload, 1) := by decide +kernel
theorem dX2_next_48 : decode cX2_next 48 = .ok (.ireturn, 1) := by decide +kernel
set_option maxRecDepth 20000 in
theorem ggX2_takes_X2_next : GoodIn wsX2_takes wsX2_next := goodIn_r _ [7, 8, 1, 9, 10, 12, 13, 14, 15, 16, 17, 18, 19, 20, 21, 22, 23, 24, 25, 26] (by decide +kernel) (by decide +kernel)
set_option maxRecDepth 20000 in
theorem gX2_takes_X2_next_u44X1 : GoodIn wsX2_takes (va_wsU RX2 44 RX1 "SluiceCards$Reader" ⟨"SluiceCards$Reader", "next", "()I"⟩ yX2_next wsX2_next) := goodIn_app (goodIn_of _ (by decide +kernel)) ggX2_takes_X2_next
set_option maxRecDepth 20000 in
theorem gX2_takes_X2_next_u44X4 : GoodIn wsX2_takes (va_wsU RX2 44 RX4 "SluiceCards$Reader" ⟨"SluiceCards$Reader", "next", "()I"⟩ yX2_next wsX2_next) := goodIn_app (goodIn_of _ (by decide +kernel)) ggX2_takes_X2_next
theorem dX2_takes_0 : decode cX2_takes 0 = .ok (.aload_n 0, 1) := by decide +kernel
theorem dX2_takes_1 : decode cX2_takes 1 = .ok (.invokevirtual 44, 3) := by decide +kernel
theorem dX2_takes_4 : decode cX2_takes 4 = .ok (.iload_n 1, 1) := by decide +kernel
theorem dX2_takes_5 : decode cX2_takes 5 = .ok (.if_icmp .eq 5, 3) := by decide +kernel
theorem dX2_takes_8 : decode cX2_takes 8 = .ok (.iconst 0, 1) := by decide +kernel
theorem dX2_takes_9 : decode cX2_takes 9 = .ok (.ireturn, 1) := by decide +kernel
theorem dX2_takes_10 : decode cX2_takes 10 = .ok (.aload_n 0, 1) := by decide +kernel
theorem dX2_takes_11 : decode cX2_takes 11 = .ok (.dup, 1) := by decide +kernel
theorem dX2_takes_12 : decode cX2_takes 12 = .ok (.getfield 19, 3) := by decide +kernel
theorem dX2_takes_15 : decode cX2_takes 15 = .ok (.iconst 1, 1) := by decide +kernel
theorem dX2_takes_16 : decode cX2_takes 16 = .ok (.iadd, 1) := by decide +kernel
theorem dX2_takes_17 : decode cX2_takes 17 = .ok (.putfield 19, 3) := by decide +kernel
theorem dX2_takes_20 : decode cX2_takes 20 = .ok (.iconst 1, 1) := by decide +kernel
theorem dX2_takes_21 : decode cX2_takes 21 = .ok (.ireturn, 1) := by decide +kernel
set_option maxRecDepth 20000 in
theorem ggX2_needs_X2_takes : GoodIn wsX2_needs wsX2_takes := goodIn_r _ [6, 7, 8, 9, 10, 11, 5, 12, 13, 14, 15, 16, 24, 25, 26, 27, 28, 29, 30, 31, 32, 33, 34, 35, 36, 37, 38] (by decide +kernel) (by decide +kernel)
set_option maxRecDepth 20000 in
theorem gX2_needs_X2_takes_u48X1 : GoodIn wsX2_needs (va_wsU RX2 48 RX1 "SluiceCards$Reader" ⟨"SluiceCards$Reader", "takes", "(C)Z"⟩ yX2_takes wsX2_takes) := goodIn_app (goodIn_of _ (by decide +kernel)) ggX2_needs_X2_takes
set_option maxRecDepth 20000 in
theorem gX2_needs_X2_takes_u48X4 : GoodIn wsX2_needs (va_wsU RX2 48 RX4 "SluiceCards$Reader" ⟨"SluiceCards$Reader", "takes", "(C)Z"⟩ yX2_takes wsX2_takes) := goodIn_app (goodIn_of _ (by decide +kernel)) ggX2_needs_X2_takes
set_option maxRecDepth 20000 in
theorem ggX2_needs_X2_fail : GoodIn wsX2_needs wsX2_fail := goodIn_r _ [22, 13, 7, 24, 25, 26, 27, 28, 29, 30, 31, 32, 33, 34, 35, 36, 37, 38] (by decide +kernel) (by decide +kernel)
set_option maxRecDepth 20000 in
theorem gX2_needs_X2_fail_u52X1 : GoodIn wsX2_needs (va_wsU RX2 52 RX1 "SluiceCards$Reader" ⟨"SluiceCards$Reader", "fail", "()V"⟩ yX2_fail wsX2_fail) := goodIn_app (goodIn_of _ (by decide +kernel)) ggX2_needs_X2_fail
set_option maxRecDepth 20000 in
theorem gX2_needs_X2_fail_u52X4 : GoodIn wsX2_needs (va_wsU RX2 52 RX4 "SluiceCards$Reader" ⟨"SluiceCards$Reader", "fail", "()V"⟩ yX2_fail wsX2_fail) := goodIn_app (goodIn_of _ (by decide +kernel)) ggX2_needs_X2_fail
theorem dX2_needs_0 : decode cX2_needs 0 = .ok (.aload_n 0, 1) := by decide +kernel
theorem dX2_needs_1 : decode cX2_needs 1 = .ok (.iload_n 1, 1) := by decide +kernel
theorem dX2_needs_2 : decode cX2_needs 2 = .ok (.invokevirtual 48, 3) := by decide +kernel
theorem dX2_needs_5 : decode cX2_needs 5 = .ok (.ifCond .ne 7, 3) := by decide +kernel
theorem dX2_needs_8 : decode cX2_needs 8 = .ok (.aload_n 0, 1) := by decide +kernel
theorem dX2_needs_9 : decode cX2_needs 9 = .ok (.invokevirtual 52, 3) := by decide +kernel
theorem dX2_needs_12 : decode cX2_needs 12 = .ok (.return_, 1) := by decide +kernel
set_option maxRecDepth 20000 in
theorem ggX2_needsAll_J0_length_8abf5 : GoodIn wsX2_needsAll wsJ0_length_8abf5 := goodIn_r _ [5, 6, 7, 8, 9, 4, 10, 11, 12] (by decide +kernel) (by decide +kernel)
set_option maxRecDepth 20000 in
theorem gX2_needsAll_J0_length_8abf5 : GoodIn wsX2_needsAll (wsV RX2 55 RJ0 yJ0_length_8abf5 wsJ0_length_8abf5) := goodIn_app (goodIn_of _ (by decide +kernel)) ggX2_needsAll_J0_length_8abf5
set_option maxRecDepth 20000 in
theorem ggX2_needsAll_J0_charAt_5068e : GoodIn wsX2_needsAll wsJ0_charAt_5068e := goodIn_r _ [16, 6, 17, 18, 19, 4, 20, 11, 12, 21, 22, 23, 24, 25, 26, 27, 28, 29, 30, 31, 32, 33, 34, 35, 36, 37, 38, 39, 40, 41, 42, 43, 44, 45, 46, 47, 48, 49] (by decide +kernel) (by decide +kernel)
set_option maxRecDepth 20000 in
theorem gX2_needsAll_J0_charAt_5068e : GoodIn wsX2_needsAll (wsV RX2 60 RJ0 yJ0_charAt_5068e wsJ0_charAt_5068e) := goodIn_app (goodIn_of _ (by decide +kernel)) ggX2_needsAll_J0_charAt_5068e
set_option maxRecDepth 20000 in
theorem ggX2_needsAll_X2_takes : GoodIn wsX2_needsAll wsX2_takes := goodIn_r _ [55, 56, 57, 58, 59, 60, 54, 61, 62, 63, 64, 65, 73, 74, 75, 76, 77, 78, 79, 80, 81, 82, 83, 84, 85, 86, 87] (by decide +kernel) (by decide +kernel)
set_option maxRecDepth 20000 in
theorem gX2_needsAll_X2_takes_u48X1 : GoodIn wsX2_needsAll (va_wsU RX2 48 RX1 "SluiceCards$Reader" ⟨"SluiceCards$Reader", "takes", "(C)Z"⟩ yX2_takes wsX2_takes) := goodIn_app (goodIn_of _ (by decide +kernel)) ggX2_needsAll_X2_takes
set_option maxRecDepth 20000 in
theorem gX2_needsAll_X2_takes_u48X4 : GoodIn wsX2_needsAll (va_wsU RX2 48 RX4 "SluiceCards$Reader" ⟨"SluiceCards$Reader", "takes", "(C)Z"⟩ yX2_takes wsX2_takes) := goodIn_app (goodIn_of _ (by decide +kernel)) ggX2_needsAll_X2_takes
set_option maxRecDepth 20000 in
theorem ggX2_needsAll_X2_fail : GoodIn wsX2_needsAll wsX2_fail := goodIn_r _ [71, 62, 56, 73, 74, 75, 76, 77, 78, 79, 80, 81, 82, 83, 84, 85, 86, 87] (by decide +kernel) (by decide +kernel)
set_option maxRecDepth 20000 in
theorem gX2_needsAll_X2_fail_u52X1 : GoodIn wsX2_needsAll (va_wsU RX2 52 RX1 "SluiceCards$Reader" ⟨"SluiceCards$Reader", "fail", "()V"⟩ yX2_fail wsX2_fail) := goodIn_app (goodIn_of _ (by decide +kernel)) ggX2_needsAll_X2_fail
set_option maxRecDepth 20000 in
theorem gX2_needsAll_X2_fail_u52X4 : GoodIn wsX2_needsAll (va_wsU RX2 52 RX4 "SluiceCards$Reader" ⟨"SluiceCards$Reader", "fail", "()V"⟩ yX2_fail wsX2_fail) := goodIn_app (goodIn_of _ (by decide +kernel)) ggX2_needsAll_X2_fail
theorem dX2_needsAll_0 : decode cX2_needsAll 0 = .ok (.iconst 0, 1) := by decide +kernel
theorem dX2_needsAll_1 : decode cX2_needsAll 1 = .ok (.istore_n 2, 1) := by decide +kernel
theorem dX2_needsAll_2 : decode cX2_needsAll 2 = .ok (.iload_n 2, 1) := by decide +kernel
theorem dX2_needsAll_3 : decode cX2_needsAll 3 = .ok (.aload_n 1, 1) := by decide +kernel
theorem dX2_needsAll_4 : decode cX2_needsAll 4 = .ok (.invokevirtual 55, 3) := by decide +kernel
theorem dX2_needsAll_7 : decode cX2_needsAll 7 = .ok (.if_icmp .ge 25, 3) := by decide +kernel
theorem dX2_needsAll_10 : decode cX2_needsAll 10 = .ok (.aload_n 0, 1) := by decide +kernel
theorem dX2_needsAll_11 : decode cX2_needsAll 11 = .ok (.aload_n 1, 1) := by decide +kernel
theorem dX2_needsAll_12 : decode cX2_needsAll 12 = .ok (.iload_n 2, 1) := by decide +kernel
theorem dX2_needsAll_13 : decode cX2_needsAll 13 = .ok (.invokevirtual 60, 3) := by decide +kernel
theorem dX2_needsAll_16 : decode cX2_needsAll 16 = .ok (.invokevirtual 48, 3) := by decide +kernel
theorem dX2_needsAll_19 : decode cX2_needsAll 19 = .ok (.ifCond .ne 7, 3) := by decide +kernel
theorem dX2_needsAll_22 : decode cX2_needsAll 22 = .ok (.aload_n 0, 1) := by decide +kernel
theorem dX2_needsAll_23 : decode cX2_needsAll 23 = .ok (.invokevirtual 52, 3) := by decide +kernel
theorem dX2_needsAll_26 : decode cX2_needsAll 26 = .ok (.iinc 2 1, 3) := by decide +kernel
theorem dX2_needsAll_29 : decode cX2_needsAll 29 = .ok (.goto (-27), 3) := by decide +kernel
theorem dX2_needsAll_32 : decode cX2_needsAll 32 = .ok (.return_, 1) := by decide +kernel
set_option maxRecDepth 20000 in
theorem ggX2_digit_X2_next : GoodIn wsX2_digit wsX2_next := goodIn_r _ [7, 8, 1, 9, 10, 18, 19, 20, 21, 22, 23, 24, 25, 26, 27, 28, 29, 30, 31, 32] (by decide +kernel) (by decide +kernel)
set_option maxRecDepth 20000 in
theorem gX2_digit_X2_next_u44X1 : GoodIn wsX2_digit (va_wsU RX2 44 RX1 "SluiceCards$Reader" ⟨"SluiceCards$Reader", "next", "()I"⟩ yX2_next wsX2_next) := goodIn_app (goodIn_of _ (by decide +kernel)) ggX2_digit_X2_next
set_option maxRecDepth 20000 in
theorem gX2_digit_X2_next_u44X4 : GoodIn wsX2_digit (va_wsU RX2 44 RX4 "SluiceCards$Reader" ⟨"SluiceCards$Reader", "next", "()I"⟩ yX2_next wsX2_next) := goodIn_app (goodIn_of _ (by decide +kernel)) ggX2_digit_X2_next
set_option maxRecDepth 20000 in
theorem ggX2_digit_X2_fail : GoodIn wsX2_digit wsX2_fail := goodIn_r _ [16, 8, 1, 18, 19, 20, 21, 22, 23, 24, 25, 26, 27, 28, 29, 30, 31, 32] (by decide +kernel) (by decide +kernel)
set_option maxRecDepth 20000 in
theorem gX2_digit_X2_fail_u52X1 : GoodIn wsX2_digit (va_wsU RX2 52 RX1 "SluiceCards$Reader" ⟨"SluiceCards$Reader", "fail", "()V"⟩ yX2_fail wsX2_fail) := goodIn_app (goodIn_of _ (by decide +kernel)) ggX2_digit_X2_fail
set_option maxRecDepth 20000 in
theorem gX2_digit_X2_fail_u52X4 : GoodIn wsX2_digit (va_wsU RX2 52 RX4 "SluiceCards$Reader" ⟨"SluiceCards$Reader", "fail", "()V"⟩ yX2_fail wsX2_fail) := goodIn_app (goodIn_of _ (by decide +kernel)) ggX2_digit_X2_fail
theorem dX2_digit_0 : decode cX2_digit 0 = .ok (.aload_n 0, 1) := by decide +kernel
theorem dX2_digit_1 : decode cX2_digit 1 = .ok (.invokevirtual 44, 3) := by decide +kernel
theorem dX2_digit_4 : decode cX2_digit 4 = .ok (.bipush 48, 2) := by decide +kernel
theorem dX2_digit_6 : decode cX2_digit 6 = .ok (.isub, 1) := by decide +kernel
theorem dX2_digit_7 : decode cX2_digit 7 = .ok (.istore_n 3, 1) := by decide +kernel
theorem dX2_digit_8 : decode cX2_digit 8 = .ok (.iload_n 3, 1) := by decide +kernel
theorem dX2_digit_9 : decode cX2_digit 9 = .ok (.iload_n 1, 1) := by decide +kernel
theorem dX2_digit_10 : decode cX2_digit 10 = .ok (.if_icmp .lt 8, 3) := by decide +kernel
theorem dX2_digit_13 : decode cX2_digit 13 = .ok (.iload_n 3, 1) := by decide +kernel
theorem dX2_digit_14 : decode cX2_digit 14 = .ok (.iload_n 2, 1) := by decide +kernel
theorem dX2_digit_15 : decode cX2_digit 15 = .ok (.if_icmp .le 9, 3) := by decide +kernel
theorem dX2_digit_18 : decode cX2_digit 18 = .ok (.aload_n 0, 1) := by decide +kernel
theorem dX2_digit_19 : decode cX2_digit 19 = .ok (.invokevirtual 52, 3) := by decide +kernel
theorem dX2_digit_22 : decode cX2_digit 22 = .ok (.iload_n 1, 1) := by decide +kernel
theorem dX2_digit_23 : decode cX2_digit 23 = .ok (.ireturn, 1) := by decide +kernel
theorem dX2_digit_24 : decode cX2_digit 24 = .ok (.aload_n 0, 1) := by decide +kernel
theorem dX2_digit_25 : decode cX2_digit 25 = .ok (.dup, 1) := by decide +kernel
theorem dX2_digit_26 : decode cX2_digit 26 = .ok (.getfield 19, 3) := by decide +kernel
theorem dX2_digit_29 : decode cX2_digit 29 = .ok (.iconst 1, 1) := by decide +kernel
theorem dX2_digit_30 : decode cX2_digit 30 = .ok (.iadd, 1) := by decide +kernel
theorem dX2_digit_31 : decode cX2_digit 31 = .ok (.putfield 19, 3) := by decide +kernel
theorem dX2_digit_34 : decode cX2_digit 34 = .ok (.iload_n 3, 1) := by decide +kernel
theorem dX2_digit_35 : decode cX2_digit 35 = .ok (.ireturn, 1) := by decide +kernel
set_option maxRecDepth 20000 in
theorem ggX2_oneOf_X2_next : GoodIn wsX2_oneOf wsX2_next := goodIn_r _ [7, 8, 1, 9, 10, 67, 68, 69, 70, 71, 72, 73, 74, 75, 76, 77, 78, 79, 80, 81] (by decide +kernel) (by decide +kernel)
set_option maxRecDepth 20000 in
theorem gX2_oneOf_X2_next_u44X1 : GoodIn wsX2_oneOf (va_wsU RX2 44 RX1 "SluiceCards$Reader" ⟨"SluiceCards$Reader", "next", "()I"⟩ yX2_next wsX2_next) := goodIn_app (goodIn_of _ (by decide +kernel)) ggX2_oneOf_X2_next
set_option maxRecDepth 20000 in
theorem gX2_oneOf_X2_next_u44X4 : GoodIn wsX2_oneOf (va_wsU RX2 44 RX4 "SluiceCards$Reader" ⟨"SluiceCards$Reader", "next", "()I"⟩ yX2_next wsX2_next) := goodIn_app (goodIn_of _ (by decide +kernel)) ggX2_oneOf_X2_next
set_option maxRecDepth 20000 in
theorem ggX2_oneOf_J0_length_8abf5 : GoodIn wsX2_oneOf wsJ0_length_8abf5 := goodIn_r _ [16, 17, 18, 19, 20, 15, 21, 22, 23] (by decide +kernel) (by decide +kernel)
set_option maxRecDepth 20000 in
theorem gX2_oneOf_J0_length_8abf5 : GoodIn wsX2_oneOf (wsV RX2 55 RJ0 yJ0_length_8abf5 wsJ0_length_8abf5) := goodIn_app (goodIn_of _ (by decide +kernel)) ggX2_oneOf_J0_length_8abf5
set_option maxRecDepth 20000 in
theorem ggX2_oneOf_J0_charAt_5068e : GoodIn wsX2_oneOf wsJ0_charAt_5068e := goodIn_r _ [27, 17, 28, 29, 30, 15, 31, 22, 23, 32, 33, 34, 35, 36, 37, 38, 39, 40, 41, 42, 43, 44, 45, 46, 47, 48, 49, 50, 51, 52, 53, 54, 55, 56, 57, 58, 59, 60] (by decide +kernel) (by decide +kernel)
set_option maxRecDepth 20000 in
theorem gX2_oneOf_J0_charAt_5068e : GoodIn wsX2_oneOf (wsV RX2 60 RJ0 yJ0_charAt_5068e wsJ0_charAt_5068e) := goodIn_app (goodIn_of _ (by decide +kernel)) ggX2_oneOf_J0_charAt_5068e
set_option maxRecDepth 20000 in
theorem ggX2_oneOf_X2_fail : GoodIn wsX2_oneOf wsX2_fail := goodIn_r _ [65, 8, 1, 67, 68, 69, 70, 71, 72, 73, 74, 75, 76, 77, 78, 79, 80, 81] (by decide +kernel) (by decide +kernel)
set_option maxRecDepth 20000 in
theorem gX2_oneOf_X2_fail_u52X1 : GoodIn wsX2_oneOf (va_wsU RX2 52 RX1 "SluiceCards$Reader" ⟨"SluiceCards$Reader", "fail", "()V"⟩ yX2_fail wsX2_fail) := goodIn_app (goodIn_of _ (by decide +kernel)) ggX2_oneOf_X2_fail
set_option maxRecDepth 20000 in
theorem gX2_oneOf_X2_fail_u52X4 : GoodIn wsX2_oneOf (va_wsU RX2 52 RX4 "SluiceCards$Reader" ⟨"SluiceCards$Reader", "fail", "()V"⟩ yX2_fail wsX2_fail) := goodIn_app (goodIn_of _ (by decide +kernel)) ggX2_oneOf_X2_fail
theorem dX2_oneOf_0 : decode cX2_oneOf 0 = .ok (.aload_n 0, 1) := by decide +kernel
theorem dX2_oneOf_1 : decode cX2_oneOf 1 = .ok (.invokevirtual 44, 3) := by decide +kernel
theorem dX2_oneOf_4 : decode cX2_oneOf 4 = .ok (.istore_n 2, 1) := by decide +kernel
theorem dX2_oneOf_5 : decode cX2_oneOf 5 = .ok (.iconst 0, 1) := by decide +kernel
theorem dX2_oneOf_6 : decode cX2_oneOf 6 = .ok (.istore_n 3, 1) := by decide +kernel
theorem dX2_oneOf_7 : decode cX2_oneOf 7 = .ok (.iload_n 3, 1) := by decide +kernel
theorem dX2_oneOf_8 : decode cX2_oneOf 8 = .ok (.aload_n 1, 1) := by decide +kernel
theorem dX2_oneOf_9 : decode cX2_oneOf 9 = .ok (.invokevirtual 55, 3) := by decide +kernel
theorem dX2_oneOf_12 : decode cX2_oneOf 12 = .ok (.if_icmp .ge 33, 3) := by decide +kernel
theorem dX2_oneOf_15 : decode cX2_oneOf 15 = .ok (.aload_n 1, 1) := by decide +kernel
theorem dX2_oneOf_16 : decode cX2_oneOf 16 = .ok (.iload_n 3, 1) := by decide +kernel
theorem dX2_oneOf_17 : decode cX2_oneOf 17 = .ok (.invokevirtual 60, 3) := by decide +kernel
theorem dX2_oneOf_20 : decode cX2_oneOf 20 = .ok (.iload_n 2, 1) := by decide +kernel
theorem dX2_oneOf_21 : decode cX2_oneOf 21 = .ok (.if_icmp .eq 6, 3) := by decide +kernel
theorem dX2_oneOf_24 : decode cX2_oneOf 24 = .ok (.goto 15, 3) := by decide +kernel
theorem dX2_oneOf_27 : decode cX2_oneOf 27 = .ok (.aload_n 0, 1) := by decide +kernel
theorem dX2_oneOf_28 : decode cX2_oneOf 28 = .ok (.dup, 1) := by decide +kernel
theorem dX2_oneOf_29 : decode cX2_oneOf 29 = .ok (.getfield 19, 3) := by decide +kernel
theorem dX2_oneOf_32 : decode cX2_oneOf 32 = .ok (.iconst 1, 1) := by decide +kernel
theorem dX2_oneOf_33 : decode cX2_oneOf 33 = .ok (.iadd, 1) := by decide +kernel
theorem dX2_oneOf_34 : decode cX2_oneOf 34 = .ok (.putfield 19, 3) := by decide +kernel
theorem dX2_oneOf_37 : decode cX2_oneOf 37 = .ok (.iload_n 3, 1) := by decide +kernel
theorem dX2_oneOf_38 : decode cX2_oneOf 38 = .ok (.ireturn, 1) := by decide +kernel
theorem dX2_oneOf_39 : decode cX2_oneOf 39 = .ok (.iinc 3 1, 3) := by decide +kernel
theorem dX2_oneOf_42 : decode cX2_oneOf 42 = .ok (.goto (-35), 3) := by decide +kernel
theorem dX2_oneOf_45 : decode cX2_oneOf 45 = .ok (.aload_n 0, 1) := by decide +kernel
theorem dX2_oneOf_46 : decode cX2_oneOf 46 = .ok (.invokevirtual 52, 3) := by decide +kernel
theorem dX2_oneOf_49 : decode cX2_oneOf 49 = .ok (.iconst 0, 1) := by decide +kernel
theorem dX2_oneOf_50 : decode cX2_oneOf 50 = .ok (.ireturn, 1) := by decide +kernel
theorem dX2_fail_0 : decode cX2_fail 0 = .ok (.aload_n 0, 1) := by decide +kernel
theorem dX2_fail_1 : decode cX2_fail 1 = .ok (.getfield 22, 3) := by decide +kernel
theorem dX2_fail_4 : decode cX2_fail 4 = .ok (.ifCond .ge 11, 3) := by decide +kernel
theorem dX2_fail_7 : decode cX2_fail 7 = .ok (.aload_n 0, 1) := by decide +kernel
theorem dX2_fail_8 : decode cX2_fail 8 = .ok (.aload_n 0, 1) := by decide +kernel
theorem dX2_fail_9 : decode cX2_fail 9 = .ok (.getfield 19, 3) := by decide +kernel
theorem dX2_fail_12 : decode cX2_fail 12 = .ok (.putfield 22, 3) := by decide +kernel
theorem dX2_fail_15 : decode cX2_fail 15 = .ok (.return_, 1) := by decide +kernel
set_option maxRecDepth 20000 in
theorem ggX2_needsEnd_X2_fail : GoodIn wsX2_needsEnd wsX2_fail := goodIn_r _ [8, 9, 1, 11, 12, 13, 14, 15, 16, 17, 18, 19, 20, 21, 22, 23, 24, 25] (by decide +kernel) (by decide +kernel)
set_option maxRecDepth 20000 in
theorem gX2_needsEnd_X2_fail_u52X1 : GoodIn wsX2_needsEnd (va_wsU RX2 52 RX1 "SluiceCards$Reader" ⟨"SluiceCards$Reader", "fail", "()V"⟩ yX2_fail wsX2_fail) := goodIn_app (goodIn_of _ (by decide +kernel)) ggX2_needsEnd_X2_fail
set_option maxRecDepth 20000 in
theorem gX2_needsEnd_X2_fail_u52X4 : GoodIn wsX2_needsEnd (va_wsU RX2 52 RX4 "SluiceCards$Reader" ⟨"SluiceCards$Reader", "fail", "()V"⟩ yX2_fail wsX2_fail) := goodIn_app (goodIn_of _ (by decide +kernel)) ggX2_needsEnd_X2_fail
theorem dX2_needsEnd_0 : decode cX2_needsEnd 0 = .ok (.aload_n 0, 1) := by decide +kernel
theorem dX2_needsEnd_1 : decode cX2_needsEnd 1 = .ok (.getfield 19, 3) := by decide +kernel
theorem dX2_needsEnd_4 : decode cX2_needsEnd 4 = .ok (.aload_n 0, 1) := by decide +kernel
theorem dX2_needsEnd_5 : decode cX2_needsEnd 5 = .ok (.getfield 15, 3) := by decide +kernel
theorem dX2_needsEnd_8 : decode cX2_needsEnd 8 = .ok (.if_icmp .ge 7, 3) := by decide +kernel
theorem dX2_needsEnd_11 : decode cX2_needsEnd 11 = .ok (.aload_n 0, 1) := by decide +kernel
theorem dX2_needsEnd_12 : decode cX2_needsEnd 12 = .ok (.invokevirtual 52, 3) := by decide +kernel
theorem dX2_needsEnd_15 : decode cX2_needsEnd 15 = .ok (.return_, 1) := by decide +kernel
theorem dX2_faultPlace_0 : decode cX2_faultPlace 0 = .ok (.aload_n 0, 1) := by decide +kernel
