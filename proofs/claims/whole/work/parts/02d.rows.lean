theorem dX10_init_52 : decode cX10_init 52 = .ok (.dup, 1) := by decide +kernel
theorem dX10_init_53 : decode cX10_init 53 = .ok (.invokespecial 37, 3) := by decide +kernel
theorem dX10_init_56 : decode cX10_init 56 = .ok (.putfield 38, 3) := by decide +kernel
theorem dX10_init_59 : decode cX10_init 59 = .ok (.aload_n 0, 1) := by decide +kernel
theorem dX10_init_60 : decode cX10_init 60 = .ok (.new 42, 3) := by decide +kernel
theorem dX10_init_63 : decode cX10_init 63 = .ok (.dup, 1) := by decide +kernel
theorem dX10_init_64 : decode cX10_init 64 = .ok (.invokespecial 44, 3) := by decide +kernel
theorem dX10_init_67 : decode cX10_init 67 = .ok (.putfield 45, 3) := by decide +kernel
theorem dX10_init_70 : decode cX10_init 70 = .ok (.aload_n 0, 1) := by decide +kernel
theorem dX10_init_71 : decode cX10_init 71 = .ok (.iconst 0, 1) := by decide +kernel
theorem dX10_init_72 : decode cX10_init 72 = .ok (.putfield 49, 3) := by decide +kernel
theorem dX10_init_75 : decode cX10_init 75 = .ok (.return_, 1) := by decide +kernel
set_option maxRecDepth 20000 in
theorem ggX10_feed_X9_putByte : GoodIn wsX10_feed wsX9_putByte := goodIn_r _ [7, 8, 9, 17, 18, 19, 20, 21, 22, 23] (by decide +kernel) (by decide +kernel)
set_option maxRecDepth 20000 in
theorem gX10_feed_X9_putByte : GoodIn wsX10_feed (wsV RX10 57 RX9 yX9_putByte wsX9_putByte) := goodIn_app (goodIn_of _ (by decide +kernel)) ggX10_feed_X9_putByte
theorem dX10_feed_0 : decode cX10_feed 0 = .ok (.iload_n 3, 1) := by decide +kernel
theorem dX10_feed_1 : decode cX10_feed 1 = .ok (.iconst 1, 1) := by decide +kernel
theorem dX10_feed_2 : decode cX10_feed 2 = .ok (.if_icmp .lt 9, 3) := by decide +kernel
theorem dX10_feed_5 : decode cX10_feed 5 = .ok (.iload_n 3, 1) := by decide +kernel
theorem dX10_feed_6 : decode cX10_feed 6 = .ok (.bipush 8, 2) := by decide +kernel
theorem dX10_feed_8 : decode cX10_feed 8 = .ok (.if_icmp .le 6, 3) := by decide +kernel
theorem dX10_feed_11 : decode cX10_feed 11 = .ok (.bipush (-2), 2) := by decide +kernel
theorem dX10_feed_13 : decode cX10_feed 13 = .ok (.ireturn, 1) := by decide +kernel
theorem dX10_feed_14 : decode cX10_feed 14 = .ok (.aload_n 0, 1) := by decide +kernel
theorem dX10_feed_15 : decode cX10_feed 15 = .ok (.getfield 12, 3) := by decide +kernel
theorem dX10_feed_18 : decode cX10_feed 18 = .ok (.getfield 53, 3) := by decide +kernel
theorem dX10_feed_21 : decode cX10_feed 21 = .ok (.iload_n 3, 1) := by decide +kernel
theorem dX10_feed_22 : decode cX10_feed 22 = .ok (.iadd, 1) := by decide +kernel
theorem dX10_feed_23 : decode cX10_feed 23 = .ok (.bipush 120, 2) := by decide +kernel
theorem dX10_feed_25 : decode cX10_feed 25 = .ok (.if_icmp .le 6, 3) := by decide +kernel
theorem dX10_feed_28 : decode cX10_feed 28 = .ok (.bipush (-4), 2) := by decide +kernel
theorem dX10_feed_30 : decode cX10_feed 30 = .ok (.ireturn, 1) := by decide +kernel
theorem dX10_feed_31 : decode cX10_feed 31 = .ok (.iload_n 3, 1) := by decide +kernel
theorem dX10_feed_32 : decode cX10_feed 32 = .ok (.iconst 1, 1) := by decide +kernel
theorem dX10_feed_33 : decode cX10_feed 33 = .ok (.isub, 1) := by decide +kernel
theorem dX10_feed_34 : decode cX10_feed 34 = .ok (.istore 4, 2) := by decide +kernel
theorem dX10_feed_36 : decode cX10_feed 36 = .ok (.iload 4, 2) := by decide +kernel
theorem dX10_feed_38 : decode cX10_feed 38 = .ok (.ifCond .lt 28, 3) := by decide +kernel
theorem dX10_feed_41 : decode cX10_feed 41 = .ok (.aload_n 0, 1) := by decide +kernel
theorem dX10_feed_42 : decode cX10_feed 42 = .ok (.getfield 12, 3) := by decide +kernel
theorem dX10_feed_45 : decode cX10_feed 45 = .ok (.lload_n 1, 1) := by decide +kernel
theorem dX10_feed_46 : decode cX10_feed 46 = .ok (.bipush 8, 2) := by decide +kernel
theorem dX10_feed_48 : decode cX10_feed 48 = .ok (.iload 4, 2) := by decide +kernel
theorem dX10_feed_50 : decode cX10_feed 50 = .ok (.imul, 1) := by decide +kernel
theorem dX10_feed_51 : decode cX10_feed 51 = .ok (.lushr, 1) := by decide +kernel
theorem dX10_feed_52 : decode cX10_feed 52 = .ok (.l2i, 1) := by decide +kernel
theorem dX10_feed_53 : decode cX10_feed 53 = .ok (.sipush 255, 3) := by decide +kernel
theorem dX10_feed_56 : decode cX10_feed 56 = .ok (.iand, 1) := by decide +kernel
theorem dX10_feed_57 : decode cX10_feed 57 = .ok (.invokevirtual 57, 3) := by decide +kernel
theorem dX10_feed_60 : decode cX10_feed 60 = .ok (.iinc 4 (-1), 3) := by decide +kernel
theorem dX10_feed_63 : decode cX10_feed 63 = .ok (.goto (-27), 3) := by decide +kernel
theorem dX10_feed_66 : decode cX10_feed 66 = .ok (.aload_n 0, 1) := by decide +kernel
theorem dX10_feed_67 : decode cX10_feed 67 = .ok (.getfield 12, 3) := by decide +kernel
theorem dX10_feed_70 : decode cX10_feed 70 = .ok (.getfield 53, 3) := by decide +kernel
theorem dX10_feed_73 : decode cX10_feed 73 = .ok (.ireturn, 1) := by decide +kernel
set_option maxRecDepth 20000 in
theorem ggX10_river_X4_reads : GoodIn wsX10_river wsX4_reads := goodIn_r _ [11, 12, 13, 14, 15, 16, 17, 18, 19, 20, 21, 22, 23, 24, 25, 26, 27, 28, 29, 30, 31, 32, 33, 34, 35, 36, 37, 38, 39, 40, 41, 42, 43, 44, 45, 46, 47, 48, 49, 50, 51, 52, 53, 54, 10, 55, 56, 57, 58, 59, 60, 61, 62, 63, 64, 65, 66, 67, 68, 69, 70, 71, 72, 73, 74, 75, 76, 77, 78, 79, 80, 81, 82, 83, 84, 85, 86, 87, 88, 89, 90, 91, 92, 93, 94, 95, 96, 97, 98, 99, 100, 101, 102, 103, 104, 105, 106, 107, 108, 109, 110, 111, 112, 113, 114, 115, 116, 117, 118, 119, 120, 121, 122, 123, 124, 125, 126, 127, 128, 129, 130, 131, 132, 133, 134, 135, 136, 137, 138, 139, 140, 141, 142, 143, 144, 145, 146, 147, 148, 149, 150, 151, 152, 153, 154, 155, 156, 157, 158, 159, 160, 161, 162, 163, 164, 165, 166, 167, 168, 169, 170, 171, 172, 173, 174, 175, 176, 177, 178, 179, 180, 208, 209, 210, 211, 212, 213, 214, 215, 216, 217, 218, 219, 220, 201, 202, 203, 204, 205, 206, 207, 221, 222, 223, 224, 225, 226, 227, 228, 229, 230, 231, 232, 233, 234, 235, 236, 237] (by decide +kernel) (by decide +kernel)
set_option maxRecDepth 20000 in
theorem gX10_river_X4_reads : GoodIn wsX10_river (wsV RX10 61 RX4 yX4_reads wsX4_reads) := goodIn_app (goodIn_of _ (by decide +kernel)) ggX10_river_X4_reads
set_option maxRecDepth 20000 in
theorem ggX10_river_X3_becomes : GoodIn wsX10_river wsX3_becomes := goodIn_r _ [184, 46, 47, 48, 49, 150, 151, 152, 50, 33, 34, 35, 36, 24, 25, 26, 37, 38, 39, 40, 185, 186, 187, 188, 189, 190, 191, 192, 193, 213, 214, 215, 216, 217, 218, 219, 220, 231, 232, 233, 234, 235, 236, 237] (by decide +kernel) (by decide +kernel)
set_option maxRecDepth 20000 in
theorem gX10_river_X3_becomes : GoodIn wsX10_river (wsV RX10 72 RX3 yX3_becomes wsX3_becomes) := goodIn_app (goodIn_of _ (by decide +kernel)) ggX10_river_X3_becomes
theorem dX10_river_0 : decode cX10_river 0 = .ok (.aload_n 0, 1) := by decide +kernel
theorem dX10_river_1 : decode cX10_river 1 = .ok (.getfield 24, 3) := by decide +kernel
theorem dX10_river_4 : decode cX10_river 4 = .ok (.aload_n 0, 1) := by decide +kernel
theorem dX10_river_5 : decode cX10_river 5 = .ok (.getfield 12, 3) := by decide +kernel
theorem dX10_river_8 : decode cX10_river 8 = .ok (.invokevirtual 61, 3) := by decide +kernel
theorem dX10_river_11 : decode cX10_river 11 = .ok (.istore_n 1, 1) := by decide +kernel
theorem dX10_river_12 : decode cX10_river 12 = .ok (.aload_n 0, 1) := by decide +kernel
theorem dX10_river_13 : decode cX10_river 13 = .ok (.getfield 12, 3) := by decide +kernel
theorem dX10_river_16 : decode cX10_river 16 = .ok (.iconst 0, 1) := by decide +kernel
theorem dX10_river_17 : decode cX10_river 17 = .ok (.putfield 53, 3) := by decide +kernel
theorem dX10_river_20 : decode cX10_river 20 = .ok (.iload_n 1, 1) := by decide +kernel
theorem dX10_river_21 : decode cX10_river 21 = .ok (.ifCond .lt 8, 3) := by decide +kernel
theorem dX10_river_24 : decode cX10_river 24 = .ok (.bipush (-10), 2) := by decide +kernel
theorem dX10_river_26 : decode cX10_river 26 = .ok (.iload_n 1, 1) := by decide +kernel
theorem dX10_river_27 : decode cX10_river 27 = .ok (.isub, 1) := by decide +kernel
theorem dX10_river_28 : decode cX10_river 28 = .ok (.ireturn, 1) := by decide +kernel
theorem dX10_river_29 : decode cX10_river 29 = .ok (.aload_n 0, 1) := by decide +kernel
theorem dX10_river_30 : decode cX10_river 30 = .ok (.getfield 12, 3) := by decide +kernel
theorem dX10_river_33 : decode cX10_river 33 = .ok (.getfield 65, 3) := by decide +kernel
theorem dX10_river_36 : decode cX10_river 36 = .ok (.aload_n 0, 1) := by decide +kernel
theorem dX10_river_37 : decode cX10_river 37 = .ok (.getfield 24, 3) := by decide +kernel
theorem dX10_river_40 : decode cX10_river 40 = .ok (.getfield 69, 3) := by decide +kernel
theorem dX10_river_43 : decode cX10_river 43 = .ok (.invokevirtual 72, 3) := by decide +kernel
theorem dX10_river_46 : decode cX10_river 46 = .ok (.aload_n 0, 1) := by decide +kernel
theorem dX10_river_47 : decode cX10_river 47 = .ok (.getfield 12, 3) := by decide +kernel
theorem dX10_river_50 : decode cX10_river 50 = .ok (.getfield 65, 3) := by decide +kernel
theorem dX10_river_53 : decode cX10_river 53 = .ok (.getfield 78, 3) := by decide +kernel
theorem dX10_river_56 : decode cX10_river 56 = .ok (.ireturn, 1) := by decide +kernel
set_option maxRecDepth 20000 in
theorem ggX10_card_X1_reads : GoodIn wsX10_card wsX1_reads := goodIn_r _ [12, 13, 14, 15, 16, 17, 18, 19, 20, 21, 22, 23, 24, 25, 26, 27, 28, 29, 30, 31, 32, 33, 34, 35, 36, 37, 38, 39, 40, 41, 42, 43, 44, 45, 46, 47, 48, 49, 50, 51, 52, 53, 54, 55, 56, 57, 58, 59, 60, 61, 62, 63, 64, 65, 66, 67, 68, 69, 70, 71, 72, 73, 74, 75, 76, 77, 78, 79, 80, 81, 82, 83, 84, 85, 86, 87, 88, 89, 90, 91, 92, 93, 94, 95, 96, 97, 98, 99, 100, 101, 102, 103, 104, 105, 106, 107, 108, 109, 110, 111, 112, 113, 114, 115, 116, 117, 118, 119, 120, 121, 122, 123, 124, 11, 125, 126, 127, 128, 129, 130, 131, 132, 133, 134, 135, 136, 137, 138, 139, 140, 141, 142, 143, 144, 145, 146, 147, 148, 149, 150, 151, 152, 153, 154, 155, 156, 157, 158, 159, 216, 217, 218, 219, 220, 221, 222, 223, 224, 225, 200, 201, 202, 203, 204, 205, 206, 226, 227, 228, 229, 230] (by decide +kernel) (by decide +kernel)
set_option maxRecDepth 20000 in
theorem gX10_card_X1_reads : GoodIn wsX10_card (wsV RX10 84 RX1 yX1_reads wsX1_reads) := goodIn_app (goodIn_of _ (by decide +kernel)) ggX10_card_X1_reads
set_option maxRecDepth 20000 in
theorem ggX10_card_X0_init : GoodIn wsX10_card wsX0_init := goodIn_r _ [162, 163, 164, 165, 166, 167, 168, 169, 170, 171, 172, 173, 174, 175, 176, 177, 178, 179, 180, 181, 182, 183, 184, 185, 207, 208, 209, 210, 211, 212, 213, 214, 215, 216, 217, 218, 219, 220, 221, 222, 223, 224, 225] (by decide +kernel) (by decide +kernel)
set_option maxRecDepth 20000 in
theorem gX10_card_X0_init : GoodIn wsX10_card (wsX0_init) := ggX10_card_X0_init
set_option maxRecDepth 20000 in
theorem ggX10_card_X9_putCard : GoodIn wsX10_card wsX9_putCard := goodIn_r _ [190, 191, 192, 200, 201, 202, 203, 204, 205, 206] (by decide +kernel) (by decide +kernel)
set_option maxRecDepth 20000 in
theorem gX10_card_X9_putCard : GoodIn wsX10_card (wsV RX10 90 RX9 yX9_putCard wsX9_putCard) := goodIn_app (goodIn_of _ (by decide +kernel)) ggX10_card_X9_putCard
theorem dX10_card_0 : decode cX10_card 0 = .ok (.iload_n 1, 1) := by decide +kernel
theorem dX10_card_1 : decode cX10_card 1 = .ok (.ifCond .lt 9, 3) := by decide +kernel
theorem dX10_card_4 : decode cX10_card 4 = .ok (.iload_n 1, 1) := by decide +kernel
theorem dX10_card_5 : decode cX10_card 5 = .ok (.bipush 7, 2) := by decide +kernel
theorem dX10_card_7 : decode cX10_card 7 = .ok (.if_icmp .lt 5, 3) := by decide +kernel
theorem dX10_card_10 : decode cX10_card 10 = .ok (.iconst (-1), 1) := by decide +kernel
theorem dX10_card_11 : decode cX10_card 11 = .ok (.ireturn, 1) := by decide +kernel
theorem dX10_card_12 : decode cX10_card 12 = .ok (.iload_n 2, 1) := by decide +kernel
theorem dX10_card_13 : decode cX10_card 13 = .ok (.ifCond .lt 8, 3) := by decide +kernel
theorem dX10_card_16 : decode cX10_card 16 = .ok (.iload_n 2, 1) := by decide +kernel
theorem dX10_card_17 : decode cX10_card 17 = .ok (.iconst 3, 1) := by decide +kernel
theorem dX10_card_18 : decode cX10_card 18 = .ok (.if_icmp .le 6, 3) := by decide +kernel
theorem dX10_card_21 : decode cX10_card 21 = .ok (.bipush (-2), 2) := by decide +kernel
theorem dX10_card_23 : decode cX10_card 23 = .ok (.ireturn, 1) := by decide +kernel
theorem dX10_card_24 : decode cX10_card 24 = .ok (.aload_n 0, 1) := by decide +kernel
theorem dX10_card_25 : decode cX10_card 25 = .ok (.getfield 12, 3) := by decide +kernel
theorem dX10_card_28 : decode cX10_card 28 = .ok (.getfield 81, 3) := by decide +kernel
theorem dX10_card_31 : decode cX10_card 31 = .ok (.bipush 8, 2) := by decide +kernel
theorem dX10_card_33 : decode cX10_card 33 = .ok (.if_icmp .lt 6, 3) := by decide +kernel
theorem dX10_card_36 : decode cX10_card 36 = .ok (.bipush (-4), 2) := by decide +kernel
theorem dX10_card_38 : decode cX10_card 38 = .ok (.ireturn, 1) := by decide +kernel
theorem dX10_card_39 : decode cX10_card 39 = .ok (.aload_n 0, 1) := by decide +kernel
theorem dX10_card_40 : decode cX10_card 40 = .ok (.getfield 31, 3) := by decide +kernel
theorem dX10_card_43 : decode cX10_card 43 = .ok (.aload_n 0, 1) := by decide +kernel
theorem dX10_card_44 : decode cX10_card 44 = .ok (.getfield 12, 3) := by decide +kernel
theorem dX10_card_47 : decode cX10_card 47 = .ok (.invokevirtual 84, 3) := by decide +kernel
theorem dX10_card_50 : decode cX10_card 50 = .ok (.istore_n 3, 1) := by decide +kernel
theorem dX10_card_51 : decode cX10_card 51 = .ok (.aload_n 0, 1) := by decide +kernel
theorem dX10_card_52 : decode cX10_card 52 = .ok (.getfield 12, 3) := by decide +kernel
theorem dX10_card_55 : decode cX10_card 55 = .ok (.iconst 0, 1) := by decide +kernel
theorem dX10_card_56 : decode cX10_card 56 = .ok (.putfield 53, 3) := by decide +kernel
theorem dX10_card_59 : decode cX10_card 59 = .ok (.iload_n 3, 1) := by decide +kernel
theorem dX10_card_60 : decode cX10_card 60 = .ok (.ifCond .lt 8, 3) := by decide +kernel
theorem dX10_card_63 : decode cX10_card 63 = .ok (.bipush (-10), 2) := by decide +kernel
theorem dX10_card_65 : decode cX10_card 65 = .ok (.iload_n 3, 1) := by decide +kernel
theorem dX10_card_66 : decode cX10_card 66 = .ok (.isub, 1) := by decide +kernel
theorem dX10_card_67 : decode cX10_card 67 = .ok (.ireturn, 1) := by decide +kernel
theorem dX10_card_68 : decode cX10_card 68 = .ok (.aload_n 0, 1) := by decide +kernel
theorem dX10_card_69 : decode cX10_card 69 = .ok (.getfield 12, 3) := by decide +kernel
theorem dX10_card_72 : decode cX10_card 72 = .ok (.getfield 81, 3) := by decide +kernel
theorem dX10_card_75 : decode cX10_card 75 = .ok (.istore 4, 2) := by decide +kernel
theorem dX10_card_77 : decode cX10_card 77 = .ok (.aload_n 0, 1) := by decide +kernel
theorem dX10_card_78 : decode cX10_card 78 = .ok (.getfield 12, 3) := by decide +kernel
theorem dX10_card_81 : decode cX10_card 81 = .ok (.new 85, 3) := by decide +kernel
theorem dX10_card_84 : decode cX10_card 84 = .ok (.dup, 1) := by decide +kernel
theorem dX10_card_85 : decode cX10_card 85 = .ok (.iload 4, 2) := by decide +kernel
theorem dX10_card_87 : decode cX10_card 87 = .ok (.iload_n 1, 1) := by decide +kernel
theorem dX10_card_88 : decode cX10_card 88 = .ok (.iload_n 2, 1) := by decide +kernel
theorem dX10_card_89 : decode cX10_card 89 = .ok (.aload_n 0, 1) := by decide +kernel
theorem dX10_card_90 : decode cX10_card 90 = .ok (.getfield 31, 3) := by decide +kernel
theorem dX10_card_93 : decode cX10_card 93 = .ok (.invokespecial 87, 3) := by decide +kernel
theorem dX10_card_96 : decode cX10_card 96 = .ok (.invokevirtual 90, 3) := by decide +kernel
theorem dX10_card_99 : decode cX10_card 99 = .ok (.iload 4, 2) := by decide +kernel
theorem dX10_card_101 : decode cX10_card 101 = .ok (.ireturn, 1) := by decide +kernel
set_option maxRecDepth 20000 in
theorem ggX10_told_X9_cardOf : GoodIn wsX10_told wsX9_cardOf := goodIn_r _ [9, 10, 11, 28, 29, 30, 31, 32, 33, 34] (by decide +kernel) (by decide +kernel)
set_option maxRecDepth 20000 in
theorem gX10_told_X9_cardOf : GoodIn wsX10_told (wsV RX10 94 RX9 yX9_cardOf wsX9_cardOf) := goodIn_app (goodIn_of _ (by decide +kernel)) ggX10_told_X9_cardOf
theorem dX10_told_0 : decode cX10_told 0 = .ok (.aload_n 0, 1) := by decide +kernel
theorem dX10_told_1 : decode cX10_told 1 = .ok (.getfield 12, 3) := by decide +kernel
theorem dX10_told_4 : decode cX10_told 4 = .ok (.iload_n 1, 1) := by decide +kernel
theorem dX10_told_5 : decode cX10_told 5 = .ok (.invokevirtual 94, 3) := by decide +kernel
theorem dX10_told_8 : decode cX10_told 8 = .ok (.astore_n 3, 1) := by decide +kernel
theorem dX10_told_9 : decode cX10_told 9 = .ok (.aload_n 3, 1) := by decide +kernel
theorem dX10_told_10 : decode cX10_told 10 = .ok (.ifnonnull 5, 3) := by decide +kernel
theorem dX10_told_13 : decode cX10_told 13 = .ok (.iconst (-1), 1) := by decide +kernel
theorem dX10_told_14 : decode cX10_told 14 = .ok (.ireturn, 1) := by decide +kernel
theorem dX10_told_15 : decode cX10_told 15 = .ok (.iload_n 2, 1) := by decide +kernel
theorem dX10_told_16 : decode cX10_told 16 = .ok (.tableswitch 43 0 2 #[28, 33, 38], 28) := by decide +kernel
theorem dX10_told_44 : decode cX10_told 44 = .ok (.aload_n 3, 1) := by decide +kernel
theorem dX10_told_45 : decode cX10_told 45 = .ok (.getfield 98, 3) := by decide +kernel
theorem dX10_told_48 : decode cX10_told 48 = .ok (.ireturn, 1) := by decide +kernel
theorem dX10_told_49 : decode cX10_told 49 = .ok (.aload_n 3, 1) := by decide +kernel
theorem dX10_told_50 : decode cX10_told 50 = .ok (.getfield 101, 3) := by decide +kernel
theorem dX10_told_53 : decode cX10_told 53 = .ok (.ireturn, 1) := by decide +kernel
theorem dX10_told_54 : decode cX10_told 54 = .ok (.aload_n 3, 1) := by decide +kernel
theorem dX10_told_55 : decode cX10_told 55 = .ok (.getfield 104, 3) := by decide +kernel
theorem dX10_told_58 : decode cX10_told 58 = .ok (.ireturn, 1) := by decide +kernel
theorem dX10_told_59 : decode cX10_told 59 = .ok (.iconst (-1), 1) := by decide +kernel
theorem dX10_told_60 : decode cX10_told 60 = .ok (.ireturn, 1) := by decide +kernel
set_option maxRecDepth 20000 in
theorem ggX10_hang_X10_isReach : GoodIn wsX10_hang wsX10_isReach := goodIn_r _ [8, 1, 2, 9, 17, 18, 19, 20, 21, 22, 23, 24, 25, 26, 27, 28, 29, 30, 31, 32, 33, 34, 35, 36, 37, 38] (by decide +kernel) (by decide +kernel)
set_option maxRecDepth 20000 in
theorem gX10_hang_X10_isReach : GoodIn wsX10_hang (wsV RX10 107 RX10 yX10_isReach wsX10_isReach) := goodIn_app (goodIn_of _ (by decide +kernel)) ggX10_hang_X10_isReach
set_option maxRecDepth 20000 in
theorem ggX10_hang_X9_cardOf : GoodIn wsX10_hang wsX9_cardOf := goodIn_r _ [14, 15, 16, 24, 25, 26, 27, 28, 29, 30] (by decide +kernel) (by decide +kernel)
set_option maxRecDepth 20000 in
theorem gX10_hang_X9_cardOf : GoodIn wsX10_hang (wsV RX10 94 RX9 yX9_cardOf wsX9_cardOf) := goodIn_app (goodIn_of _ (by decide +kernel)) ggX10_hang_X9_cardOf
theorem dX10_hang_0 : decode cX10_hang 0 = .ok (.aload_n 0, 1) := by decide +kernel
theorem dX10_hang_1 : decode cX10_hang 1 = .ok (.iload_n 1, 1) := by decide +kernel
theorem dX10_hang_2 : decode cX10_hang 2 = .ok (.invokevirtual 107, 3) := by decide +kernel
theorem dX10_hang_5 : decode cX10_hang 5 = .ok (.ifCond .ne 5, 3) := by decide +kernel
theorem dX10_hang_8 : decode cX10_hang 8 = .ok (.iconst (-1), 1) := by decide +kernel
theorem dX10_hang_9 : decode cX10_hang 9 = .ok (.ireturn, 1) := by decide +kernel
theorem dX10_hang_10 : decode cX10_hang 10 = .ok (.iload_n 2, 1) := by decide +kernel
theorem dX10_hang_11 : decode cX10_hang 11 = .ok (.iconst (-1), 1) := by decide +kernel
theorem dX10_hang_12 : decode cX10_hang 12 = .ok (.if_icmp .eq 16, 3) := by decide +kernel
theorem dX10_hang_15 : decode cX10_hang 15 = .ok (.aload_n 0, 1) := by decide +kernel
theorem dX10_hang_16 : decode cX10_hang 16 = .ok (.getfield 12, 3) := by decide +kernel
theorem dX10_hang_19 : decode cX10_hang 19 = .ok (.iload_n 2, 1) := by decide +kernel
theorem dX10_hang_20 : decode cX10_hang 20 = .ok (.invokevirtual 94, 3) := by decide +kernel
theorem dX10_hang_23 : decode cX10_hang 23 = .ok (.ifnonnull 5, 3) := by decide +kernel
theorem dX10_hang_26 : decode cX10_hang 26 = .ok (.iconst (-1), 1) := by decide +kernel
theorem dX10_hang_27 : decode cX10_hang 27 = .ok (.ireturn, 1) := by decide +kernel
theorem dX10_hang_28 : decode cX10_hang 28 = .ok (.aload_n 0, 1) := by decide +kernel
theorem dX10_hang_29 : decode cX10_hang 29 = .ok (.getfield 12, 3) := by decide +kernel
theorem dX10_hang_32 : decode cX10_hang 32 = .ok (.getfield 65, 3) := by decide +kernel
theorem dX10_hang_35 : decode cX10_hang 35 = .ok (.getfield 111, 3) := by decide +kernel
theorem dX10_hang_38 : decode cX10_hang 38 = .ok (.astore_n 3, 1) := by decide +kernel
theorem dX10_hang_39 : decode cX10_hang 39 = .ok (.aload_n 3, 1) := by decide +kernel
theorem dX10_hang_40 : decode cX10_hang 40 = .ok (.iload_n 1, 1) := by decide +kernel
theorem dX10_hang_41 : decode cX10_hang 41 = .ok (.iaload, 1) := by decide +kernel
theorem dX10_hang_42 : decode cX10_hang 42 = .ok (.istore 4, 2) := by decide +kernel
theorem dX10_hang_44 : decode cX10_hang 44 = .ok (.aload_n 3, 1) := by decide +kernel
theorem dX10_hang_45 : decode cX10_hang 45 = .ok (.iload_n 1, 1) := by decide +kernel
theorem dX10_hang_46 : decode cX10_hang 46 = .ok (.iload_n 2, 1) := by decide +kernel
theorem dX10_hang_47 : decode cX10_hang 47 = .ok (.iastore, 1) := by decide +kernel
theorem dX10_hang_48 : decode cX10_hang 48 = .ok (.iload 4, 2) := by decide +kernel
theorem dX10_hang_50 : decode cX10_hang 50 = .ok (.ifCond .ge 8, 3) := by decide +kernel
theorem dX10_hang_53 : decode cX10_hang 53 = .ok (.bipush (-5), 2) := by decide +kernel
theorem dX10_hang_55 : decode cX10_hang 55 = .ok (.goto 5, 3) := by decide +kernel
theorem dX10_hang_58 : decode cX10_hang 58 = .ok (.iload 4, 2) := by decide +kernel
theorem dX10_hang_60 : decode cX10_hang 60 = .ok (.ireturn, 1) := by decide +kernel
set_option maxRecDepth 20000 in
theorem ggX10_of_X10_isReach : GoodIn wsX10_of wsX10_isReach := goodIn_r _ [13, 1, 2, 14, 15, 16, 17, 18, 19, 20, 21, 22, 23, 24, 25, 26, 27, 28, 29, 30, 31, 32, 33, 34, 35, 36] (by decide +kernel) (by decide +kernel)
set_option maxRecDepth 20000 in
theorem gX10_of_X10_isReach : GoodIn wsX10_of (wsV RX10 107 RX10 yX10_isReach wsX10_isReach) := goodIn_app (goodIn_of _ (by decide +kernel)) ggX10_of_X10_isReach
theorem dX10_of_0 : decode cX10_of 0 = .ok (.aload_n 0, 1) := by decide +kernel
theorem dX10_of_1 : decode cX10_of 1 = .ok (.iload_n 1, 1) := by decide +kernel
theorem dX10_of_2 : decode cX10_of 2 = .ok (.invokevirtual 107, 3) := by decide +kernel
theorem dX10_of_5 : decode cX10_of 5 = .ok (.ifCond .ne 5, 3) := by decide +kernel
theorem dX10_of_8 : decode cX10_of 8 = .ok (.iconst (-1), 1) := by decide +kernel
theorem dX10_of_9 : decode cX10_of 9 = .ok (.ireturn, 1) := by decide +kernel
theorem dX10_of_10 : decode cX10_of 10 = .ok (.aload_n 0, 1) := by decide +kernel
theorem dX10_of_11 : decode cX10_of 11 = .ok (.getfield 12, 3) := by decide +kernel
theorem dX10_of_14 : decode cX10_of 14 = .ok (.getfield 65, 3) := by decide +kernel
theorem dX10_of_17 : decode cX10_of 17 = .ok (.astore_n 3, 1) := by decide +kernel
theorem dX10_of_18 : decode cX10_of 18 = .ok (.iload_n 2, 1) := by decide +kernel
theorem dX10_of_19 : decode cX10_of 19 = .ok (.tableswitch 77 0 4 #[33, 43, 50, 57, 67], 33) := by decide +kernel
theorem dX10_of_52 : decode cX10_of 52 = .ok (.aload_n 3, 1) := by decide +kernel
theorem dX10_of_53 : decode cX10_of 53 = .ok (.getfield 115, 3) := by decide +kernel
theorem dX10_of_56 : decode cX10_of 56 = .ok (.getfield 119, 3) := by decide +kernel
theorem dX10_of_59 : decode cX10_of 59 = .ok (.iload_n 1, 1) := by decide +kernel
theorem dX10_of_60 : decode cX10_of 60 = .ok (.iaload, 1) := by decide +kernel
theorem dX10_of_61 : decode cX10_of 61 = .ok (.ireturn, 1) := by decide +kernel
theorem dX10_of_62 : decode cX10_of 62 = .ok (.aload_n 3, 1) := by decide +kernel
theorem dX10_of_63 : decode cX10_of 63 = .ok (.getfield 124, 3) := by decide +kernel
theorem dX10_of_66 : decode cX10_of 66 = .ok (.iload_n 1, 1) := by decide +kernel
theorem dX10_of_67 : decode cX10_of 67 = .ok (.iaload, 1) := by decide +kernel
theorem dX10_of_68 : decode cX10_of 68 = .ok (.ireturn, 1) := by decide +kernel
theorem dX10_of_69 : decode cX10_of 69 = .ok (.aload_n 3, 1) := by decide +kernel
theorem dX10_of_70 : decode cX10_of 70 = .ok (.getfield 127, 3) := by decide +kernel
theorem dX10_of_73 : decode cX10_of 73 = .ok (.iload_n 1, 1) := by decide +kernel
theorem dX10_of_74 : decode cX10_of 74 = .ok (.iaload, 1) := by decide +kernel
theorem dX10_of_75 : decode cX10_of 75 = .ok (.ireturn, 1) := by decide +kernel
theorem dX10_of_76 : decode cX10_of 76 = .ok (.aload_n 3, 1) := by decide +kernel
theorem dX10_of_77 : decode cX10_of 77 = .ok (.getfield 115, 3) := by decide +kernel
theorem dX10_of_80 : decode cX10_of 80 = .ok (.getfield 130, 3) := by decide +kernel
theorem dX10_of_83 : decode cX10_of 83 = .ok (.iload_n 1, 1) := by decide +kernel
theorem dX10_of_84 : decode cX10_of 84 = .ok (.iaload, 1) := by decide +kernel
theorem dX10_of_85 : decode cX10_of 85 = .ok (.ireturn, 1) := by decide +kernel
theorem dX10_of_86 : decode cX10_of 86 = .ok (.aload_n 3, 1) := by decide +kernel
theorem dX10_of_87 : decode cX10_of 87 = .ok (.getfield 115, 3) := by decide +kernel
theorem dX10_of_90 : decode cX10_of 90 = .ok (.getfield 133, 3) := by decide +kernel
theorem dX10_of_93 : decode cX10_of 93 = .ok (.iload_n 1, 1) := by decide +kernel
theorem dX10_of_94 : decode cX10_of 94 = .ok (.iaload, 1) := by decide +kernel
theorem dX10_of_95 : decode cX10_of 95 = .ok (.ireturn, 1) := by decide +kernel
theorem dX10_of_96 : decode cX10_of 96 = .ok (.iconst (-1), 1) := by decide +kernel
theorem dX10_of_97 : decode cX10_of 97 = .ok (.ireturn, 1) := by decide +kernel
set_option maxRecDepth 20000 in
theorem ggX10_stream_X10_isRiver : GoodIn wsX10_stream wsX10_isRiver := goodIn_r _ [14, 1, 2, 15, 16, 17, 18, 19, 20, 21, 22, 23, 24, 25, 26, 27, 28, 29, 30, 31, 32, 33, 34, 35, 36, 37] (by decide +kernel) (by decide +kernel)
set_option maxRecDepth 20000 in
theorem gX10_stream_X10_isRiver : GoodIn wsX10_stream (wsV RX10 136 RX10 yX10_isRiver wsX10_isRiver) := goodIn_app (goodIn_of _ (by decide +kernel)) ggX10_stream_X10_isRiver
theorem dX10_stream_0 : decode cX10_stream 0 = .ok (.iload_n 1, 1) := by decide +kernel
theorem dX10_stream_1 : decode cX10_stream 1 = .ok (.ifCond .lt 8, 3) := by decide +kernel
theorem dX10_stream_4 : decode cX10_stream 4 = .ok (.iload_n 1, 1) := by decide +kernel
theorem dX10_stream_5 : decode cX10_stream 5 = .ok (.iconst 4, 1) := by decide +kernel
theorem dX10_stream_6 : decode cX10_stream 6 = .ok (.if_icmp .le 5, 3) := by decide +kernel
theorem dX10_stream_9 : decode cX10_stream 9 = .ok (.iconst (-1), 1) := by decide +kernel
theorem dX10_stream_10 : decode cX10_stream 10 = .ok (.ireturn, 1) := by decide +kernel
theorem dX10_stream_11 : decode cX10_stream 11 = .ok (.aload_n 0, 1) := by decide +kernel
theorem dX10_stream_12 : decode cX10_stream 12 = .ok (.invokevirtual 136, 3) := by decide +kernel
theorem dX10_stream_15 : decode cX10_stream 15 = .ok (.ifCond .ne 6, 3) := by decide +kernel
theorem dX10_stream_18 : decode cX10_stream 18 = .ok (.bipush (-3), 2) := by decide +kernel
theorem dX10_stream_20 : decode cX10_stream 20 = .ok (.ireturn, 1) := by decide +kernel
theorem dX10_stream_21 : decode cX10_stream 21 = .ok (.aload_n 0, 1) := by decide +kernel
theorem dX10_stream_22 : decode cX10_stream 22 = .ok (.getfield 12, 3) := by decide +kernel
theorem dX10_stream_25 : decode cX10_stream 25 = .ok (.getfield 65, 3) := by decide +kernel
theorem dX10_stream_28 : decode cX10_stream 28 = .ok (.astore_n 2, 1) := by decide +kernel
theorem dX10_stream_29 : decode cX10_stream 29 = .ok (.iload_n 1, 1) := by decide +kernel
theorem dX10_stream_30 : decode cX10_stream 30 = .ok (.tableswitch 53 0 3 #[30, 35, 40, 45], 30) := by decide +kernel
theorem dX10_stream_60 : decode cX10_stream 60 = .ok (.aload_n 2, 1) := by decide +kernel
theorem dX10_stream_61 : decode cX10_stream 61 = .ok (.getfield 140, 3) := by decide +kernel
theorem dX10_stream_64 : decode cX10_stream 64 = .ok (.ireturn, 1) := by decide +kernel
theorem dX10_stream_65 : decode cX10_stream 65 = .ok (.aload_n 2, 1) := by decide +kernel
theorem dX10_stream_66 : decode cX10_stream 66 = .ok (.getfield 143, 3) := by decide +kernel
theorem dX10_stream_69 : decode cX10_stream 69 = .ok (.ireturn, 1) := by decide +kernel
theorem dX10_stream_70 : decode cX10_stream 70 = .ok (.aload_n 2, 1) := by decide +kernel
theorem dX10_stream_71 : decode cX10_stream 71 = .ok (.getfield 146, 3) := by decide +kernel
theorem dX10_stream_74 : decode cX10_stream 74 = .ok (.ireturn, 1) := by decide +kernel
theorem dX10_stream_75 : decode cX10_stream 75 = .ok (.aload_n 2, 1) := by decide +kernel
theorem dX10_stream_76 : decode cX10_stream 76 = .ok (.getfield 115, 3) := by decide +kernel
theorem dX10_stream_79 : decode cX10_stream 79 = .ok (.getfield 149, 3) := by decide +kernel
theorem dX10_stream_82 : decode cX10_stream 82 = .ok (.ireturn, 1) := by decide +kernel
theorem dX10_stream_83 : decode cX10_stream 83 = .ok (.aload_n 2, 1) := by decide +kernel
theorem dX10_stream_84 : decode cX10_stream 84 = .ok (.getfield 115, 3) := by decide +kernel
theorem dX10_stream_87 : decode cX10_stream 87 = .ok (.getfield 119, 3) := by decide +kernel
theorem dX10_stream_90 : decode cX10_stream 90 = .ok (.iconst 0, 1) := by decide +kernel
theorem dX10_stream_91 : decode cX10_stream 91 = .ok (.iaload, 1) := by decide +kernel
theorem dX10_stream_92 : decode cX10_stream 92 = .ok (.aload_n 2, 1) := by decide +kernel
theorem dX10_stream_93 : decode cX10_stream 93 = .ok (.getfield 124, 3) := by decide +kernel
theorem dX10_stream_96 : decode cX10_stream 96 = .ok (.iconst 0, 1) := by decide +kernel
theorem dX10_stream_97 : decode cX10_stream 97 = .ok (.iaload, 1) := by decide +kernel
theorem dX10_stream_98 : decode cX10_stream 98 = .ok (.if_icmp .ne 7, 3) := by decide +kernel
theorem dX10_stream_101 : decode cX10_stream 101 = .ok (.iconst 1, 1) := by decide +kernel
theorem dX10_stream_102 : decode cX10_stream 102 = .ok (.goto 4, 3) := by decide +kernel
theorem dX10_stream_105 : decode cX10_stream 105 = .ok (.iconst 0, 1) := by decide +kernel
theorem dX10_stream_106 : decode cX10_stream 106 = .ok (.ireturn, 1) := by decide +kernel
set_option maxRecDepth 20000 in
theorem ggX10_level_X10_isReach : GoodIn wsX10_level wsX10_isReach := goodIn_r _ [11, 1, 2, 12, 13, 14, 15, 16, 17, 18, 19, 20, 21, 22, 23, 24, 25, 26, 27, 28, 29, 30, 31, 32, 33, 34] (by decide +kernel) (by decide +kernel)
set_option maxRecDepth 20000 in
theorem gX10_level_X10_isReach : GoodIn wsX10_level (wsV RX10 107 RX10 yX10_isReach wsX10_isReach) := goodIn_app (goodIn_of _ (by decide +kernel)) ggX10_level_X10_isReach
theorem dX10_level_0 : decode cX10_level 0 = .ok (.aload_n 0, 1) := by decide +kernel
theorem dX10_level_1 : decode cX10_level 1 = .ok (.iload_n 1, 1) := by decide +kernel
theorem dX10_level_2 : decode cX10_level 2 = .ok (.invokevirtual 107, 3) := by decide +kernel
theorem dX10_level_5 : decode cX10_level 5 = .ok (.ifCond .ne 5, 3) := by decide +kernel
theorem dX10_level_8 : decode cX10_level 8 = .ok (.iconst (-1), 1) := by decide +kernel
theorem dX10_level_9 : decode cX10_level 9 = .ok (.ireturn, 1) := by decide +kernel
theorem dX10_level_10 : decode cX10_level 10 = .ok (.aload_n 0, 1) := by decide +kernel
theorem dX10_level_11 : decode cX10_level 11 = .ok (.getfield 12, 3) := by decide +kernel
theorem dX10_level_14 : decode cX10_level 14 = .ok (.getfield 65, 3) := by decide +kernel
theorem dX10_level_17 : decode cX10_level 17 = .ok (.astore_n 3, 1) := by decide +kernel
theorem dX10_level_18 : decode cX10_level 18 = .ok (.iload_n 2, 1) := by decide +kernel
theorem dX10_level_19 : decode cX10_level 19 = .ok (.ifCond .lt 13, 3) := by decide +kernel
theorem dX10_level_22 : decode cX10_level 22 = .ok (.iload_n 2, 1) := by decide +kernel
theorem dX10_level_23 : decode cX10_level 23 = .ok (.aload_n 3, 1) := by decide +kernel
theorem dX10_level_24 : decode cX10_level 24 = .ok (.getfield 124, 3) := by decide +kernel
theorem dX10_level_27 : decode cX10_level 27 = .ok (.iload_n 1, 1) := by decide +kernel
theorem dX10_level_28 : decode cX10_level 28 = .ok (.iaload, 1) := by decide +kernel
theorem dX10_level_29 : decode cX10_level 29 = .ok (.if_icmp .le 6, 3) := by decide +kernel
theorem dX10_level_32 : decode cX10_level 32 = .ok (.bipush (-2), 2) := by decide +kernel
theorem dX10_level_34 : decode cX10_level 34 = .ok (.ireturn, 1) := by decide +kernel
theorem dX10_level_35 : decode cX10_level 35 = .ok (.aload_n 3, 1) := by decide +kernel
theorem dX10_level_36 : decode cX10_level 36 = .ok (.getfield 115, 3) := by decide +kernel
theorem dX10_level_39 : decode cX10_level 39 = .ok (.getfield 119, 3) := by decide +kernel
theorem dX10_level_42 : decode cX10_level 42 = .ok (.iload_n 1, 1) := by decide +kernel
theorem dX10_level_43 : decode cX10_level 43 = .ok (.iaload, 1) := by decide +kernel
theorem dX10_level_44 : decode cX10_level 44 = .ok (.istore 4, 2) := by decide +kernel
theorem dX10_level_46 : decode cX10_level 46 = .ok (.aload_n 3, 1) := by decide +kernel
theorem dX10_level_47 : decode cX10_level 47 = .ok (.getfield 115, 3) := by decide +kernel
theorem dX10_level_50 : decode cX10_level 50 = .ok (.getfield 119, 3) := by decide +kernel
theorem dX10_level_53 : decode cX10_level 53 = .ok (.iload_n 1, 1) := by decide +kernel
theorem dX10_level_54 : decode cX10_level 54 = .ok (.iload_n 2, 1) := by decide +kernel
theorem dX10_level_55 : decode cX10_level 55 = .ok (.iastore, 1) := by decide +kernel
theorem dX10_level_56 : decode cX10_level 56 = .ok (.aload_n 3, 1) := by decide +kernel
theorem dX10_level_57 : decode cX10_level 57 = .ok (.getfield 115, 3) := by decide +kernel
theorem dX10_level_60 : decode cX10_level 60 = .ok (.getfield 133, 3) := by decide +kernel
theorem dX10_level_63 : decode cX10_level 63 = .ok (.iload_n 1, 1) := by decide +kernel
theorem dX10_level_64 : decode cX10_level 64 = .ok (.iconst 1, 1) := by decide +kernel
theorem dX10_level_65 : decode cX10_level 65 = .ok (.iastore, 1) := by decide +kernel
theorem dX10_level_66 : decode cX10_level 66 = .ok (.iload 4, 2) := by decide +kernel
theorem dX10_level_68 : decode cX10_level 68 = .ok (.ireturn, 1) := by decide +kernel
set_option maxRecDepth 20000 in
theorem ggX10_boards_X10_isReach : GoodIn wsX10_boards wsX10_isReach := goodIn_r _ [7, 2, 8, 9, 133, 134, 135, 136, 137, 138, 139, 140, 141, 142, 143, 144, 145, 146, 147, 148, 149, 150, 151, 152, 153, 154] (by decide +kernel) (by decide +kernel)
set_option maxRecDepth 20000 in
theorem gX10_boards_X10_isReach : GoodIn wsX10_boards (wsV RX10 107 RX10 yX10_isReach wsX10_isReach) := goodIn_app (goodIn_of _ (by decide +kernel)) ggX10_boards_X10_isReach
set_option maxRecDepth 20000 in
theorem ggX10_boards_X7_begin : GoodIn wsX10_boards wsX7_begin := goodIn_r _ [14, 15, 16, 17, 18, 19, 20, 21, 22, 23, 24, 25, 26, 27, 28, 29, 30, 31, 32, 33, 34, 35, 36, 37, 6, 38, 39, 40, 41, 42, 43, 44, 45, 46, 47, 48, 49, 50, 51, 52, 53, 54, 55, 56, 57, 58, 59, 60, 61, 62, 63, 155, 156, 157, 158, 159, 160, 161, 140, 141, 142, 143, 144, 145, 146, 147, 148, 149, 150, 151, 152, 153, 154, 162, 163, 164, 165, 166, 167, 168] (by decide +kernel) (by decide +kernel)
set_option maxRecDepth 20000 in
theorem gX10_boards_X7_begin : GoodIn wsX10_boards (wsV RX10 152 RX7 yX7_begin wsX7_begin) := goodIn_app (goodIn_of _ (by decide +kernel)) ggX10_boards_X7_begin
set_option maxRecDepth 20000 in
theorem ggX10_boards_X7_boardsNext : GoodIn wsX10_boards wsX7_boardsNext := goodIn_r _ [67, 22, 68, 69, 70, 71, 72, 13, 73, 74, 75, 76, 21, 77, 15, 78, 79, 18, 17, 20, 80, 81, 82, 83, 40, 41, 42, 84, 85, 86, 87, 88, 89, 90, 91, 92, 93, 94, 95, 96, 97, 98, 99, 100, 101, 102, 103, 104, 105, 106, 107, 108, 109, 110, 111, 112, 113, 114, 115, 116, 117, 118, 119, 120, 121, 122, 123, 124, 125, 126, 127, 128, 129, 130, 131, 132, 155, 156, 157, 158, 159, 160, 161, 162, 163, 164, 165, 166, 167, 168, 169, 170, 171, 172, 147, 148, 149, 150, 151, 152, 153, 154, 173, 174, 175, 176, 177, 178, 179, 180, 181] (by decide +kernel) (by decide +kernel)
set_option maxRecDepth 20000 in
theorem gX10_boards_X7_boardsNext : GoodIn wsX10_boards (wsV RX10 156 RX7 yX7_boardsNext wsX7_boardsNext) := goodIn_app (goodIn_of _ (by decide +kernel)) ggX10_boards_X7_boardsNext
theorem dX10_boards_0 : decode cX10_boards 0 = .ok (.aload_n 0, 1) := by decide +kernel
theorem dX10_boards_1 : decode cX10_boards 1 = .ok (.iload_n 1, 1) := by decide +kernel
theorem dX10_boards_2 : decode cX10_boards 2 = .ok (.invokevirtual 107, 3) := by decide +kernel
theorem dX10_boards_5 : decode cX10_boards 5 = .ok (.ifCond .ne 5, 3) := by decide +kernel
theorem dX10_boards_8 : decode cX10_boards 8 = .ok (.iconst (-1), 1) := by decide +kernel
theorem dX10_boards_9 : decode cX10_boards 9 = .ok (.ireturn, 1) := by decide +kernel
theorem dX10_boards_10 : decode cX10_boards 10 = .ok (.aload_n 0, 1) := by decide +kernel
theorem dX10_boards_11 : decode cX10_boards 11 = .ok (.getfield 38, 3) := by decide +kernel
theorem dX10_boards_14 : decode cX10_boards 14 = .ok (.aload_n 0, 1) := by decide +kernel
theorem dX10_boards_15 : decode cX10_boards 15 = .ok (.getfield 12, 3) := by decide +kernel
theorem dX10_boards_18 : decode cX10_boards 18 = .ok (.invokevirtual 152, 3) := by decide +kernel
theorem dX10_boards_21 : decode cX10_boards 21 = .ok (.aload_n 0, 1) := by decide +kernel
theorem dX10_boards_22 : decode cX10_boards 22 = .ok (.getfield 38, 3) := by decide +kernel
theorem dX10_boards_25 : decode cX10_boards 25 = .ok (.iload_n 1, 1) := by decide +kernel
theorem dX10_boards_26 : decode cX10_boards 26 = .ok (.invokevirtual 156, 3) := by decide +kernel
theorem dX10_boards_29 : decode cX10_boards 29 = .ok (.ireturn, 1) := by decide +kernel
set_option maxRecDepth 20000 in
theorem ggX10_hour_X10_isRiver : GoodIn wsX10_hour wsX10_isRiver := goodIn_r _ [11, 1, 2, 12, 141, 142, 143, 144, 145, 146, 147, 148, 149, 150, 151, 152, 153, 154, 155, 156, 157, 158, 159, 160, 161, 162] (by decide +kernel) (by decide +kernel)
set_option maxRecDepth 20000 in
theorem gX10_hour_X10_isRiver : GoodIn wsX10_hour (wsV RX10 136 RX10 yX10_isRiver wsX10_isRiver) := goodIn_app (goodIn_of _ (by decide +kernel)) ggX10_hour_X10_isRiver
set_option maxRecDepth 20000 in
theorem ggX10_hour_X7_begin : GoodIn wsX10_hour wsX7_begin := goodIn_r _ [17, 18, 19, 20, 21, 22, 23, 24, 25, 26, 27, 28, 29, 30, 31, 32, 33, 34, 35, 36, 37, 38, 39, 40, 10, 41, 42, 43, 44, 45, 46, 47, 48, 49, 50, 51, 52, 53, 54, 55, 56, 57, 58, 59, 60, 61, 62, 63, 64, 65, 66, 170, 171, 172, 173, 174, 175, 176, 148, 149, 150, 151, 152, 153, 154, 155, 156, 157, 158, 159, 160, 161, 162, 163, 164, 165, 166, 167, 168, 169] (by decide +kernel) (by decide +kernel)
set_option maxRecDepth 20000 in
theorem gX10_hour_X7_begin : GoodIn wsX10_hour (wsV RX10 152 RX7 yX7_begin wsX7_begin) := goodIn_app (goodIn_of _ (by decide +kernel)) ggX10_hour_X7_begin
set_option maxRecDepth 20000 in
theorem ggX10_hour_X7_goesBy : GoodIn wsX10_hour wsX7_goesBy := goodIn_r _ [70, 25, 71, 72, 73, 74, 16, 75, 76, 77, 78, 24, 79, 18, 80, 81, 21, 82, 20, 23, 83, 84, 85, 86, 43, 44, 45, 87, 88, 89, 90, 91, 92, 93, 94, 95, 96, 97, 98, 99, 100, 101, 102, 103, 104, 105, 106, 107, 108, 109, 110, 111, 112, 113, 114, 115, 116, 117, 118, 119, 120, 121, 122, 123, 124, 125, 126, 127, 128, 129, 130, 131, 132, 133, 134, 135, 136, 137, 138, 139, 66, 51, 52, 53, 54, 55, 56, 57, 58, 40, 10, 41, 42, 46, 47, 48, 49, 170, 171, 172, 173, 174, 175, 176, 163, 164, 165, 166, 167, 168, 169, 177, 178, 179, 180, 155, 156, 157, 158, 159, 160, 161, 162, 181, 182, 183, 184, 185, 186, 187, 188, 189] (by decide +kernel) (by decide +kernel)
set_option maxRecDepth 20000 in
theorem gX10_hour_X7_goesBy : GoodIn wsX10_hour (wsV RX10 160 RX7 yX7_goesBy wsX7_goesBy) := goodIn_app (goodIn_of _ (by decide +kernel)) ggX10_hour_X7_goesBy
set_option maxRecDepth 20000 in
theorem ggX10_hour_X8_becomes : GoodIn wsX10_hour wsX8_becomes := goodIn_r _ [54, 55, 56, 57, 58, 40, 10, 41, 42, 43, 44, 45, 46, 47, 48, 49, 163, 164, 165, 166, 167, 168, 169] (by decide +kernel) (by decide +kernel)
set_option maxRecDepth 20000 in
theorem gX10_hour_X8_becomes : GoodIn wsX10_hour (wsV RX10 166 RX8 yX8_becomes wsX8_becomes) := goodIn_app (goodIn_of _ (by decide +kernel)) ggX10_hour_X8_becomes
theorem dX10_hour_0 : decode cX10_hour 0 = .ok (.iload_n 1, 1) := by decide +kernel
theorem dX10_hour_1 : decode cX10_hour 1 = .ok (.ifCond .lt 9, 3) := by decide +kernel
theorem dX10_hour_4 : decode cX10_hour 4 = .ok (.iload_n 1, 1) := by decide +kernel
theorem dX10_hour_5 : decode cX10_hour 5 = .ok (.bipush 7, 2) := by decide +kernel
theorem dX10_hour_7 : decode cX10_hour 7 = .ok (.if_icmp .le 6, 3) := by decide +kernel
theorem dX10_hour_10 : decode cX10_hour 10 = .ok (.bipush (-2), 2) := by decide +kernel
theorem dX10_hour_12 : decode cX10_hour 12 = .ok (.ireturn, 1) := by decide +kernel
theorem dX10_hour_13 : decode cX10_hour 13 = .ok (.aload_n 0, 1) := by decide +kernel
theorem dX10_hour_14 : decode cX10_hour 14 = .ok (.invokevirtual 136, 3) := by decide +kernel
theorem dX10_hour_17 : decode cX10_hour 17 = .ok (.ifCond .eq 21, 3) := by decide +kernel
theorem dX10_hour_20 : decode cX10_hour 20 = .ok (.aload_n 0, 1) := by decide +kernel
theorem dX10_hour_21 : decode cX10_hour 21 = .ok (.getfield 12, 3) := by decide +kernel
theorem dX10_hour_24 : decode cX10_hour 24 = .ok (.getfield 65, 3) := by decide +kernel
theorem dX10_hour_27 : decode cX10_hour 27 = .ok (.getfield 115, 3) := by decide +kernel
theorem dX10_hour_30 : decode cX10_hour 30 = .ok (.getfield 149, 3) := by decide +kernel
theorem dX10_hour_33 : decode cX10_hour 33 = .ok (.bipush 99, 2) := by decide +kernel
theorem dX10_hour_35 : decode cX10_hour 35 = .ok (.if_icmp .lt 6, 3) := by decide +kernel
theorem dX10_hour_38 : decode cX10_hour 38 = .ok (.bipush (-3), 2) := by decide +kernel
theorem dX10_hour_40 : decode cX10_hour 40 = .ok (.ireturn, 1) := by decide +kernel
theorem dX10_hour_41 : decode cX10_hour 41 = .ok (.aload_n 0, 1) := by decide +kernel
theorem dX10_hour_42 : decode cX10_hour 42 = .ok (.getfield 38, 3) := by decide +kernel
theorem dX10_hour_45 : decode cX10_hour 45 = .ok (.aload_n 0, 1) := by decide +kernel
theorem dX10_hour_46 : decode cX10_hour 46 = .ok (.getfield 12, 3) := by decide +kernel
theorem dX10_hour_49 : decode cX10_hour 49 = .ok (.invokevirtual 152, 3) := by decide +kernel
theorem dX10_hour_52 : decode cX10_hour 52 = .ok (.aload_n 0, 1) := by decide +kernel
theorem dX10_hour_53 : decode cX10_hour 53 = .ok (.getfield 38, 3) := by decide +kernel
theorem dX10_hour_56 : decode cX10_hour 56 = .ok (.iload_n 1, 1) := by decide +kernel
theorem dX10_hour_57 : decode cX10_hour 57 = .ok (.invokevirtual 160, 3) := by decide +kernel
theorem dX10_hour_60 : decode cX10_hour 60 = .ok (.istore_n 2, 1) := by decide +kernel
theorem dX10_hour_61 : decode cX10_hour 61 = .ok (.aload_n 0, 1) := by decide +kernel
theorem dX10_hour_62 : decode cX10_hour 62 = .ok (.getfield 12, 3) := by decide +kernel
theorem dX10_hour_65 : decode cX10_hour 65 = .ok (.getfield 65, 3) := by decide +kernel
theorem dX10_hour_68 : decode cX10_hour 68 = .ok (.getfield 115, 3) := by decide +kernel
theorem dX10_hour_71 : decode cX10_hour 71 = .ok (.aload_n 0, 1) := by decide +kernel
theorem dX10_hour_72 : decode cX10_hour 72 = .ok (.getfield 38, 3) := by decide +kernel
theorem dX10_hour_75 : decode cX10_hour 75 = .ok (.getfield 163, 3) := by decide +kernel
theorem dX10_hour_78 : decode cX10_hour 78 = .ok (.invokevirtual 166, 3) := by decide +kernel
theorem dX10_hour_81 : decode cX10_hour 81 = .ok (.iload_n 2, 1) := by decide +kernel
theorem dX10_hour_82 : decode cX10_hour 82 = .ok (.ireturn, 1) := by decide +kernel
set_option maxRecDepth 20000 in
theorem ggX10_rain_X9_putRain : GoodIn wsX10_rain wsX9_putRain := goodIn_r _ [7, 8, 9, 17, 18, 19, 20, 21, 22, 23] (by decide +kernel) (by decide +kernel)
set_option maxRecDepth 20000 in
theorem gX10_rain_X9_putRain : GoodIn wsX10_rain (wsV RX10 172 RX9 yX9_putRain wsX9_putRain) := goodIn_app (goodIn_of _ (by decide +kernel)) ggX10_rain_X9_putRain
theorem dX10_rain_0 : decode cX10_rain 0 = .ok (.iload_n 1, 1) := by decide +kernel
theorem dX10_rain_1 : decode cX10_rain 1 = .ok (.iconst (-1), 1) := by decide +kernel
theorem dX10_rain_2 : decode cX10_rain 2 = .ok (.if_icmp .lt 9, 3) := by decide +kernel
theorem dX10_rain_5 : decode cX10_rain 5 = .ok (.iload_n 1, 1) := by decide +kernel
theorem dX10_rain_6 : decode cX10_rain 6 = .ok (.bipush 7, 2) := by decide +kernel
theorem dX10_rain_8 : decode cX10_rain 8 = .ok (.if_icmp .le 6, 3) := by decide +kernel
theorem dX10_rain_11 : decode cX10_rain 11 = .ok (.bipush (-2), 2) := by decide +kernel
theorem dX10_rain_13 : decode cX10_rain 13 = .ok (.ireturn, 1) := by decide +kernel
theorem dX10_rain_14 : decode cX10_rain 14 = .ok (.iload_n 1, 1) := by decide +kernel
theorem dX10_rain_15 : decode cX10_rain 15 = .ok (.iconst (-1), 1) := by decide +kernel
theorem dX10_rain_16 : decode cX10_rain 16 = .ok (.if_icmp .ne 13, 3) := by decide +kernel
theorem dX10_rain_19 : decode cX10_rain 19 = .ok (.aload_n 0, 1) := by decide +kernel
theorem dX10_rain_20 : decode cX10_rain 20 = .ok (.getfield 12, 3) := by decide +kernel
theorem dX10_rain_23 : decode cX10_rain 23 = .ok (.iconst 0, 1) := by decide +kernel
theorem dX10_rain_24 : decode cX10_rain 24 = .ok (.putfield 169, 3) := by decide +kernel
theorem dX10_rain_27 : decode cX10_rain 27 = .ok (.iconst 0, 1) := by decide +kernel
theorem dX10_rain_28 : decode cX10_rain 28 = .ok (.ireturn, 1) := by decide +kernel
theorem dX10_rain_29 : decode cX10_rain 29 = .ok (.aload_n 0, 1) := by decide +kernel
theorem dX10_rain_30 : decode cX10_rain 30 = .ok (.getfield 12, 3) := by decide +kernel
theorem dX10_rain_33 : decode cX10_rain 33 = .ok (.getfield 169, 3) := by decide +kernel
theorem dX10_rain_36 : decode cX10_rain 36 = .ok (.bipush 10, 2) := by decide +kernel
theorem dX10_rain_38 : decode cX10_rain 38 = .ok (.if_icmp .lt 6, 3) := by decide +kernel
theorem dX10_rain_41 : decode cX10_rain 41 = .ok (.bipush (-4), 2) := by decide +kernel
theorem dX10_rain_43 : decode cX10_rain 43 = .ok (.ireturn, 1) := by decide +kernel
theorem dX10_rain_44 : decode cX10_rain 44 = .ok (.aload_n 0, 1) := by decide +kernel
theorem dX10_rain_45 : decode cX10_rain 45 = .ok (.getfield 12, 3) := by decide +kernel
theorem dX10_rain_48 : decode cX10_rain 48 = .ok (.iload_n 1, 1) := by decide +kernel
theorem dX10_rain_49 : decode cX10_rain 49 = .ok (.invokevirtual 172, 3) := by decide +kernel
theorem dX10_rain_52 : decode cX10_rain 52 = .ok (.aload_n 0, 1) := by decide +kernel
theorem dX10_rain_53 : decode cX10_rain 53 = .ok (.getfield 12, 3) := by decide +kernel
theorem dX10_rain_56 : decode cX10_rain 56 = .ok (.getfield 169, 3) := by decide +kernel
theorem dX10_rain_59 : decode cX10_rain 59 = .ok (.ireturn, 1) := by decide +kernel
set_option maxRecDepth 20000 in
theorem ggX10_run_X10_isRiver : GoodIn wsX10_run wsX10_isRiver := goodIn_r _ [10, 2, 11, 12, 152, 153, 154, 155, 156, 157, 158, 159, 160, 161, 162, 163, 164, 165, 173, 174, 175, 176, 177, 178, 179, 180] (by decide +kernel) (by decide +kernel)
set_option maxRecDepth 20000 in
theorem gX10_run_X10_isRiver : GoodIn wsX10_run (wsV RX10 136 RX10 yX10_isRiver wsX10_isRiver) := goodIn_app (goodIn_of _ (by decide +kernel)) ggX10_run_X10_isRiver
set_option maxRecDepth 20000 in
theorem ggX10_run_X7_begin : GoodIn wsX10_run wsX7_begin := goodIn_r _ [17, 18, 19, 20, 21, 22, 23, 24, 25, 26, 27, 28, 29, 30, 31, 32, 33, 34, 35, 36, 37, 38, 39, 40, 9, 41, 42, 43, 44, 45, 46, 47, 48, 49, 50, 51, 52, 53, 54, 55, 56, 57, 58, 59, 60, 61, 62, 63, 64, 65, 66, 166, 167, 168, 169, 170, 171, 172, 159, 160, 161, 162, 163, 164, 165, 173, 174, 175, 176, 177, 178, 179, 180, 181, 182, 183, 184, 185, 186, 187] (by decide +kernel) (by decide +kernel)
set_option maxRecDepth 20000 in
theorem gX10_run_X7_begin : GoodIn wsX10_run (wsV RX10 152 RX7 yX7_begin wsX7_begin) := goodIn_app (goodIn_of _ (by decide +kernel)) ggX10_run_X7_begin
set_option maxRecDepth 20000 in
theorem ggX10_run_X7_goesBy : GoodIn wsX10_run wsX7_goesBy := goodIn_r _ [70, 25, 71, 72, 73, 74, 16, 75, 76, 77, 78, 24, 79, 18, 80, 81, 21, 82, 20, 23, 83, 84, 85, 86, 43, 44, 45, 87, 88, 89, 90, 91, 92, 93, 94, 95, 96, 97, 98, 99, 100, 101, 102, 103, 104, 105, 106, 107, 108, 109, 110, 111, 112, 113, 114, 115, 116, 117, 118, 119, 120, 121, 122, 123, 124, 125, 126, 127, 128, 129, 130, 131, 132, 133, 134, 135, 136, 137, 138, 139, 66, 51, 52, 53, 54, 55, 56, 57, 58, 40, 9, 41, 42, 46, 47, 48, 49, 166, 167, 168, 169, 170, 171, 172, 181, 182, 183, 184, 185, 186, 187, 188, 189, 190, 191, 173, 174, 175, 176, 177, 178, 179, 180, 192, 193, 194, 195, 196, 197, 198, 199, 200] (by decide +kernel) (by decide +kernel)
set_option maxRecDepth 20000 in
theorem gX10_run_X7_goesBy : GoodIn wsX10_run (wsV RX10 160 RX7 yX7_goesBy wsX7_goesBy) := goodIn_app (goodIn_of _ (by decide +kernel)) ggX10_run_X7_goesBy
set_option maxRecDepth 20000 in
theorem ggX10_run_X7_dryMills : GoodIn wsX10_run wsX7_dryMills := goodIn_r _ [143, 18, 21, 79, 144, 166, 167, 168, 169, 170, 171, 172, 173, 174, 175, 176, 177, 178, 179, 180, 181, 182, 183, 184, 185, 186, 187] (by decide +kernel) (by decide +kernel)
set_option maxRecDepth 20000 in
theorem gX10_run_X7_dryMills : GoodIn wsX10_run (wsV RX10 178 RX7 yX7_dryMills wsX7_dryMills) := goodIn_app (goodIn_of _ (by decide +kernel)) ggX10_run_X7_dryMills
set_option maxRecDepth 20000 in
theorem ggX10_run_X10_lowestOf : GoodIn wsX10_run wsX10_lowestOf := goodIn_r _ [147] (by decide +kernel) (by decide +kernel)
set_option maxRecDepth 20000 in
theorem gX10_run_X10_lowestOf : GoodIn wsX10_run (va_wsS RX10 182 yX10_lowestOf wsX10_lowestOf) := goodIn_app (goodIn_of _ (by decide +kernel)) ggX10_run_X10_lowestOf
set_option maxRecDepth 20000 in
theorem ggX10_run_X7_sumOfLevels : GoodIn wsX10_run wsX7_sumOfLevels := goodIn_r _ [151, 18, 21, 25, 79, 166, 167, 168, 169, 170, 171, 172, 173, 174, 175, 176, 177, 178, 179, 180, 181, 182, 183, 184, 185, 186, 187] (by decide +kernel) (by decide +kernel)
set_option maxRecDepth 20000 in
theorem gX10_run_X7_sumOfLevels : GoodIn wsX10_run (wsV RX10 185 RX7 yX7_sumOfLevels wsX7_sumOfLevels) := goodIn_app (goodIn_of _ (by decide +kernel)) ggX10_run_X7_sumOfLevels
theorem dX10_run_0 : decode cX10_run 0 = .ok (.iload_n 1, 1) := by decide +kernel
theorem dX10_run_1 : decode cX10_run 1 = .ok (.ifCond .lt 8, 3) := by decide +kernel
theorem dX10_run_4 : decode cX10_run 4 = .ok (.iload_n 1, 1) := by decide +kernel
theorem dX10_run_5 : decode cX10_run 5 = .ok (.iconst 2, 1) := by decide +kernel
theorem dX10_run_6 : decode cX10_run 6 = .ok (.if_icmp .le 5, 3) := by decide +kernel
theorem dX10_run_9 : decode cX10_run 9 = .ok (.iconst (-1), 1) := by decide +kernel
theorem dX10_run_10 : decode cX10_run 10 = .ok (.ireturn, 1) := by decide +kernel
theorem dX10_run_11 : decode cX10_run 11 = .ok (.aload_n 0, 1) := by decide +kernel
theorem dX10_run_12 : decode cX10_run 12 = .ok (.invokevirtual 136, 3) := by decide +kernel
theorem dX10_run_15 : decode cX10_run 15 = .ok (.ifCond .ne 6, 3) := by decide +kernel
theorem dX10_run_18 : decode cX10_run 18 = .ok (.bipush (-3), 2) := by decide +kernel
theorem dX10_run_20 : decode cX10_run 20 = .ok (.ireturn, 1) := by decide +kernel
theorem dX10_run_21 : decode cX10_run 21 = .ok (.aload_n 0, 1) := by decide +kernel
theorem dX10_run_22 : decode cX10_run 22 = .ok (.getfield 38, 3) := by decide +kernel
theorem dX10_run_25 : decode cX10_run 25 = .ok (.aload_n 0, 1) := by decide +kernel
theorem dX10_run_26 : decode cX10_run 26 = .ok (.getfield 12, 3) := by decide +kernel
theorem dX10_run_29 : decode cX10_run 29 = .ok (.invokevirtual 152, 3) := by decide +kernel
theorem dX10_run_32 : decode cX10_run 32 = .ok (.bipush (-5), 2) := by decide +kernel
theorem dX10_run_34 : decode cX10_run 34 = .ok (.istore_n 2, 1) := by decide +kernel
theorem dX10_run_35 : decode cX10_run 35 = .ok (.bipush (-5), 2) := by decide +kernel
theorem dX10_run_37 : decode cX10_run 37 = .ok (.istore_n 3, 1) := by decide +kernel
theorem dX10_run_38 : decode cX10_run 38 = .ok (.iconst 0, 1) := by decide +kernel
theorem dX10_run_39 : decode cX10_run 39 = .ok (.istore 4, 2) := by decide +kernel
theorem dX10_run_41 : decode cX10_run 41 = .ok (.iload 4, 2) := by decide +kernel
theorem dX10_run_43 : decode cX10_run 43 = .ok (.aload_n 0, 1) := by decide +kernel
theorem dX10_run_44 : decode cX10_run 44 = .ok (.getfield 12, 3) := by decide +kernel
theorem dX10_run_47 : decode cX10_run 47 = .ok (.getfield 169, 3) := by decide +kernel
theorem dX10_run_50 : decode cX10_run 50 = .ok (.if_icmp .ge 103, 3) := by decide +kernel
theorem dX10_run_53 : decode cX10_run 53 = .ok (.iload 4, 2) := by decide +kernel
theorem dX10_run_55 : decode cX10_run 55 = .ok (.aload_n 0, 1) := by decide +kernel
theorem dX10_run_56 : decode cX10_run 56 = .ok (.getfield 12, 3) := by decide +kernel
theorem dX10_run_59 : decode cX10_run 59 = .ok (.getfield 175, 3) := by decide +kernel
theorem dX10_run_62 : decode cX10_run 62 = .ok (.arraylength, 1) := by decide +kernel
theorem dX10_run_63 : decode cX10_run 63 = .ok (.if_icmp .ge 90, 3) := by decide +kernel
theorem dX10_run_66 : decode cX10_run 66 = .ok (.aload_n 0, 1) := by decide +kernel
theorem dX10_run_67 : decode cX10_run 67 = .ok (.getfield 38, 3) := by decide +kernel
theorem dX10_run_70 : decode cX10_run 70 = .ok (.aload_n 0, 1) := by decide +kernel
theorem dX10_run_71 : decode cX10_run 71 = .ok (.getfield 12, 3) := by decide +kernel
theorem dX10_run_74 : decode cX10_run 74 = .ok (.getfield 175, 3) := by decide +kernel
theorem dX10_run_77 : decode cX10_run 77 = .ok (.iload 4, 2) := by decide +kernel
theorem dX10_run_79 : decode cX10_run 79 = .ok (.iaload, 1) := by decide +kernel
theorem dX10_run_80 : decode cX10_run 80 = .ok (.invokevirtual 160, 3) := by decide +kernel
theorem dX10_run_83 : decode cX10_run 83 = .ok (.istore 5, 2) := by decide +kernel
theorem dX10_run_85 : decode cX10_run 85 = .ok (.aload_n 0, 1) := by decide +kernel
theorem dX10_run_86 : decode cX10_run 86 = .ok (.getfield 38, 3) := by decide +kernel
theorem dX10_run_89 : decode cX10_run 89 = .ok (.aload_n 0, 1) := by decide +kernel
theorem dX10_run_90 : decode cX10_run 90 = .ok (.getfield 38, 3) := by decide +kernel
theorem dX10_run_93 : decode cX10_run 93 = .ok (.getfield 163, 3) := by decide +kernel
theorem dX10_run_96 : decode cX10_run 96 = .ok (.invokevirtual 178, 3) := by decide +kernel
theorem dX10_run_99 : decode cX10_run 99 = .ok (.istore 6, 2) := by decide +kernel
theorem dX10_run_101 : decode cX10_run 101 = .ok (.iload_n 2, 1) := by decide +kernel
theorem dX10_run_102 : decode cX10_run 102 = .ok (.bipush (-5), 2) := by decide +kernel
theorem dX10_run_104 : decode cX10_run 104 = .ok (.if_icmp .ne 20, 3) := by decide +kernel
theorem dX10_run_107 : decode cX10_run 107 = .ok (.iload 5, 2) := by decide +kernel
theorem dX10_run_109 : decode cX10_run 109 = .ok (.ifCond .eq 15, 3) := by decide +kernel
theorem dX10_run_112 : decode cX10_run 112 = .ok (.iload 4, 2) := by decide +kernel
theorem dX10_run_114 : decode cX10_run 114 = .ok (.bipush 10, 2) := by decide +kernel
theorem dX10_run_116 : decode cX10_run 116 = .ok (.imul, 1) := by decide +kernel
theorem dX10_run_117 : decode cX10_run 117 = .ok (.iload 5, 2) := by decide +kernel
theorem dX10_run_119 : decode cX10_run 119 = .ok (.invokestatic 182, 3) := by decide +kernel
theorem dX10_run_122 : decode cX10_run 122 = .ok (.iadd, 1) := by decide +kernel
theorem dX10_run_123 : decode cX10_run 123 = .ok (.istore_n 2, 1) := by decide +kernel
theorem dX10_run_124 : decode cX10_run 124 = .ok (.iload_n 3, 1) := by decide +kernel
theorem dX10_run_125 : decode cX10_run 125 = .ok (.bipush (-5), 2) := by decide +kernel
theorem dX10_run_127 : decode cX10_run 127 = .ok (.if_icmp .ne 20, 3) := by decide +kernel
theorem dX10_run_130 : decode cX10_run 130 = .ok (.iload 6, 2) := by decide +kernel
theorem dX10_run_132 : decode cX10_run 132 = .ok (.ifCond .eq 15, 3) := by decide +kernel
theorem dX10_run_135 : decode cX10_run 135 = .ok (.iload 4, 2) := by decide +kernel
theorem dX10_run_137 : decode cX10_run 137 = .ok (.bipush 10, 2) := by decide +kernel
theorem dX10_run_139 : decode cX10_run 139 = .ok (.imul, 1) := by decide +kernel
theorem dX10_run_140 : decode cX10_run 140 = .ok (.iload 6, 2) := by decide +kernel
theorem dX10_run_142 : decode cX10_run 142 = .ok (.invokestatic 182, 3) := by decide +kernel
theorem dX10_run_145 : decode cX10_run 145 = .ok (.iadd, 1) := by decide +kernel
theorem dX10_run_146 : decode cX10_run 146 = .ok (.istore_n 3, 1) := by decide +kernel
theorem dX10_run_147 : decode cX10_run 147 = .ok (.iinc 4 1, 3) := by decide +kernel
theorem dX10_run_150 : decode cX10_run 150 = .ok (.goto (-109), 3) := by decide +kernel
theorem dX10_run_153 : decode cX10_run 153 = .ok (.iload_n 1, 1) := by decide +kernel
theorem dX10_run_154 : decode cX10_run 154 = .ok (.ifCond .ne 7, 3) := by decide +kernel
theorem dX10_run_157 : decode cX10_run 157 = .ok (.iload_n 2, 1) := by decide +kernel
theorem dX10_run_158 : decode cX10_run 158 = .ok (.goto 19, 3) := by decide +kernel
theorem dX10_run_161 : decode cX10_run 161 = .ok (.iload_n 1, 1) := by decide +kernel
theorem dX10_run_162 : decode cX10_run 162 = .ok (.iconst 1, 1) := by decide +kernel
theorem dX10_run_163 : decode cX10_run 163 = .ok (.if_icmp .ne 7, 3) := by decide +kernel
theorem dX10_run_166 : decode cX10_run 166 = .ok (.iload_n 3, 1) := by decide +kernel
theorem dX10_run_167 : decode cX10_run 167 = .ok (.goto 10, 3) := by decide +kernel
theorem dX10_run_170 : decode cX10_run 170 = .ok (.aload_n 0, 1) := by decide +kernel
theorem dX10_run_171 : decode cX10_run 171 = .ok (.getfield 38, 3) := by decide +kernel
theorem dX10_run_174 : decode cX10_run 174 = .ok (.invokevirtual 185, 3) := by decide +kernel
theorem dX10_run_177 : decode cX10_run 177 = .ok (.ireturn, 1) := by decide +kernel
set_option maxRecDepth 20000 in
theorem ggX10_holds_X10_isRiver : GoodIn wsX10_holds wsX10_isRiver := goodIn_r _ [7, 2, 8, 9, 156, 157, 158, 159, 160, 161, 162, 163, 164, 165, 166, 167, 168, 169, 170, 171, 172, 173, 174, 175, 176, 177] (by decide +kernel) (by decide +kernel)
set_option maxRecDepth 20000 in
theorem gX10_holds_X10_isRiver : GoodIn wsX10_holds (wsV RX10 136 RX10 yX10_isRiver wsX10_isRiver) := goodIn_app (goodIn_of _ (by decide +kernel)) ggX10_holds_X10_isRiver
set_option maxRecDepth 20000 in
theorem ggX10_holds_X7_begin : GoodIn wsX10_holds wsX7_begin := goodIn_r _ [14, 15, 16, 17, 18, 19, 20, 21, 22, 23, 24, 25, 26, 27, 28, 29, 30, 31, 32, 33, 34, 35, 36, 37, 6, 38, 39, 40, 41, 42, 43, 44, 45, 46, 47, 48, 49, 50, 51, 52, 53, 54, 55, 56, 57, 58, 59, 60, 61, 62, 63, 178, 179, 180, 181, 182, 183, 184, 163, 164, 165, 166, 167, 168, 169, 170, 171, 172, 173, 174, 175, 176, 177, 185, 186, 187, 188, 189, 190, 191] (by decide +kernel) (by decide +kernel)
set_option maxRecDepth 20000 in
theorem gX10_holds_X7_begin : GoodIn wsX10_holds (wsV RX10 152 RX7 yX7_begin wsX7_begin) := goodIn_app (goodIn_of _ (by decide +kernel)) ggX10_holds_X7_begin
set_option maxRecDepth 20000 in
theorem ggX10_holds_X7_isSafe : GoodIn wsX10_holds wsX7_isSafe := goodIn_r _ [67, 15, 68, 69, 22, 70, 71, 72, 73, 13, 74, 75, 18, 76, 77, 78, 79, 80, 81, 82, 83, 21, 84, 85, 86, 87, 17, 20, 88, 89, 90, 91, 40, 41, 42, 92, 93, 94, 95, 96, 97, 98, 99, 100, 101, 102, 103, 104, 105, 106, 107, 108, 109, 110, 111, 112, 113, 114, 115, 116, 117, 118, 119, 120, 121, 122, 123, 124, 125, 126, 127, 128, 129, 130, 131, 132, 133, 134, 135, 136, 137, 138, 139, 140, 141, 142, 143, 144, 145, 146, 147, 148, 149, 150, 151, 152, 153, 154, 155, 178, 179, 180, 181, 182, 183, 184, 170, 171, 172, 173, 174, 175, 176, 177, 185, 186, 187, 188, 189, 190, 191, 192, 193, 194, 195, 196, 197, 198, 199, 200, 201, 202, 203, 204] (by decide +kernel) (by decide +kernel)
set_option maxRecDepth 20000 in
theorem gX10_holds_X7_isSafe : GoodIn wsX10_holds (wsV RX10 189 RX7 yX7_isSafe wsX7_isSafe) := goodIn_app (goodIn_of _ (by decide +kernel)) ggX10_holds_X7_isSafe
theorem dX10_holds_0 : decode cX10_holds 0 = .ok (.aload_n 0, 1) := by decide +kernel
theorem dX10_holds_1 : decode cX10_holds 1 = .ok (.invokevirtual 136, 3) := by decide +kernel
theorem dX10_holds_4 : decode cX10_holds 4 = .ok (.ifCond .ne 6, 3) := by decide +kernel
theorem dX10_holds_7 : decode cX10_holds 7 = .ok (.bipush (-3), 2) := by decide +kernel
theorem dX10_holds_9 : decode cX10_holds 9 = .ok (.ireturn, 1) := by decide +kernel
theorem dX10_holds_10 : decode cX10_holds 10 = .ok (.aload_n 0, 1) := by decide +kernel
theorem dX10_holds_11 : decode cX10_holds 11 = .ok (.getfield 38, 3) := by decide +kernel
theorem dX10_holds_14 : decode cX10_holds 14 = .ok (.aload_n 0, 1) := by decide +kernel
theorem dX10_holds_15 : decode cX10_holds 15 = .ok (.getfield 12, 3) := by decide +kernel
theorem dX10_holds_18 : decode cX10_holds 18 = .ok (.invokevirtual 152, 3) := by decide +kernel
theorem dX10_holds_21 : decode cX10_holds 21 = .ok (.aload_n 0, 1) := by decide +kernel
theorem dX10_holds_22 : decode cX10_holds 22 = .ok (.getfield 38, 3) := by decide +kernel
theorem dX10_holds_25 : decode cX10_holds 25 = .ok (.invokevirtual 189, 3) := by decide +kernel
theorem dX10_holds_28 : decode cX10_holds 28 = .ok (.ifCond .eq 7, 3) := by decide +kernel
theorem dX10_holds_31 : decode cX10_holds 31 = .ok (.iconst 1, 1) := by decide +kernel
theorem dX10_holds_32 : decode cX10_holds 32 = .ok (.goto 4, 3) := by decide +kernel
theorem dX10_holds_35 : decode cX10_holds 35 = .ok (.iconst 0, 1) := by decide +kernel
theorem dX10_holds_36 : decode cX10_holds 36 = .ok (.ireturn, 1) := by decide +kernel
set_option maxRecDepth 20000 in
theorem ggX10_fails_X10_isRiver : GoodIn wsX10_fails wsX10_isRiver := goodIn_r _ [8, 2, 9, 10, 161, 162, 163, 164, 165, 166, 167, 175, 176, 177, 178, 179, 180, 181, 182, 183, 184, 185, 186, 187, 188, 189] (by decide +kernel) (by decide +kernel)
set_option maxRecDepth 20000 in
theorem gX10_fails_X10_isRiver : GoodIn wsX10_fails (wsV RX10 136 RX10 yX10_isRiver wsX10_isRiver) := goodIn_app (goodIn_of _ (by decide +kernel)) ggX10_fails_X10_isRiver
set_option maxRecDepth 20000 in
theorem ggX10_fails_X7_begin : GoodIn wsX10_fails wsX7_begin := goodIn_r _ [15, 16, 17, 18, 19, 20, 21, 22, 23, 24, 25, 26, 27, 28, 29, 30, 31, 32, 33, 34, 35, 36, 37, 38, 7, 39, 40, 41, 42, 43, 44, 45, 46, 47, 48, 49, 50, 51, 52, 53, 54, 55, 56, 57, 58, 59, 60, 61, 62, 63, 64, 168, 169, 170, 171, 172, 173, 174, 175, 176, 177, 178, 179, 180, 181, 182, 183, 184, 185, 186, 187, 188, 189, 190, 191, 192, 193, 194, 195, 196] (by decide +kernel) (by decide +kernel)
set_option maxRecDepth 20000 in
theorem gX10_fails_X7_begin : GoodIn wsX10_fails (wsV RX10 152 RX7 yX7_begin wsX7_begin) := goodIn_app (goodIn_of _ (by decide +kernel)) ggX10_fails_X7_begin
set_option maxRecDepth 20000 in
theorem ggX10_fails_X7_isSafe : GoodIn wsX10_fails wsX7_isSafe := goodIn_r _ [68, 16, 69, 70, 23, 71, 72, 73, 74, 14, 75, 76, 19, 77, 78, 79, 80, 81, 82, 83, 84, 22, 85, 86, 87, 88, 18, 21, 89, 90, 91, 92, 41, 42, 43, 93, 94, 95, 96, 97, 98, 99, 100, 101, 102, 103, 104, 105, 106, 107, 108, 109, 110, 111, 112, 113, 114, 115, 116, 117, 118, 119, 120, 121, 122, 123, 124, 125, 126, 127, 128, 129, 130, 131, 132, 133, 134, 135, 136, 137, 138, 139, 140, 141, 142, 143, 144, 145, 146, 147, 148, 149, 150, 151, 152, 153, 154, 155, 156, 168, 169, 170, 171, 172, 173, 174, 182, 183, 184, 185, 186, 187, 188, 189, 190, 191, 192, 193, 194, 195, 196, 197, 198, 199, 200, 201, 202, 203, 204, 205, 206, 207, 208, 209] (by decide +kernel) (by decide +kernel)
set_option maxRecDepth 20000 in
theorem gX10_fails_X7_isSafe : GoodIn wsX10_fails (wsV RX10 189 RX7 yX7_isSafe wsX7_isSafe) := goodIn_app (goodIn_of _ (by decide +kernel)) ggX10_fails_X7_isSafe
set_option maxRecDepth 20000 in
theorem ggX10_fails_X7_rainOf : GoodIn wsX10_fails wsX7_rainOf := goodIn_r _ [160, 23, 76, 77, 168, 169, 170, 171, 172, 173, 174, 190, 191, 192, 193, 194, 195, 196] (by decide +kernel) (by decide +kernel)
set_option maxRecDepth 20000 in
theorem gX10_fails_X7_rainOf : GoodIn wsX10_fails (wsV RX10 195 RX7 yX7_rainOf wsX7_rainOf) := goodIn_app (goodIn_of _ (by decide +kernel)) ggX10_fails_X7_rainOf
theorem dX10_fails_0 : decode cX10_fails 0 = .ok (.iload_n 1, 1) := by decide +kernel
theorem dX10_fails_1 : decode cX10_fails 1 = .ok (.iconst (-1), 1) := by decide +kernel
theorem dX10_fails_2 : decode cX10_fails 2 = .ok (.if_icmp .lt 8, 3) := by decide +kernel
theorem dX10_fails_5 : decode cX10_fails 5 = .ok (.iload_n 1, 1) := by decide +kernel
theorem dX10_fails_6 : decode cX10_fails 6 = .ok (.iconst 3, 1) := by decide +kernel
theorem dX10_fails_7 : decode cX10_fails 7 = .ok (.if_icmp .lt 5, 3) := by decide +kernel
theorem dX10_fails_10 : decode cX10_fails 10 = .ok (.iconst (-1), 1) := by decide +kernel
theorem dX10_fails_11 : decode cX10_fails 11 = .ok (.ireturn, 1) := by decide +kernel
theorem dX10_fails_12 : decode cX10_fails 12 = .ok (.aload_n 0, 1) := by decide +kernel
theorem dX10_fails_13 : decode cX10_fails 13 = .ok (.invokevirtual 136, 3) := by decide +kernel
theorem dX10_fails_16 : decode cX10_fails 16 = .ok (.ifCond .ne 6, 3) := by decide +kernel
theorem dX10_fails_19 : decode cX10_fails 19 = .ok (.bipush (-3), 2) := by decide +kernel
theorem dX10_fails_21 : decode cX10_fails 21 = .ok (.ireturn, 1) := by decide +kernel
theorem dX10_fails_22 : decode cX10_fails 22 = .ok (.aload_n 0, 1) := by decide +kernel
theorem dX10_fails_23 : decode cX10_fails 23 = .ok (.getfield 38, 3) := by decide +kernel
theorem dX10_fails_26 : decode cX10_fails 26 = .ok (.aload_n 0, 1) := by decide +kernel
theorem dX10_fails_27 : decode cX10_fails 27 = .ok (.getfield 12, 3) := by decide +kernel
theorem dX10_fails_30 : decode cX10_fails 30 = .ok (.invokevirtual 152, 3) := by decide +kernel
theorem dX10_fails_33 : decode cX10_fails 33 = .ok (.aload_n 0, 1) := by decide +kernel
theorem dX10_fails_34 : decode cX10_fails 34 = .ok (.getfield 38, 3) := by decide +kernel
theorem dX10_fails_37 : decode cX10_fails 37 = .ok (.invokevirtual 189, 3) := by decide +kernel
theorem dX10_fails_40 : decode cX10_fails 40 = .ok (.ifCond .ne 14, 3) := by decide +kernel
theorem dX10_fails_43 : decode cX10_fails 43 = .ok (.iload_n 1, 1) := by decide +kernel
theorem dX10_fails_44 : decode cX10_fails 44 = .ok (.aload_n 0, 1) := by decide +kernel
theorem dX10_fails_45 : decode cX10_fails 45 = .ok (.getfield 38, 3) := by decide +kernel
theorem dX10_fails_48 : decode cX10_fails 48 = .ok (.getfield 192, 3) := by decide +kernel
theorem dX10_fails_51 : decode cX10_fails 51 = .ok (.if_icmp .lt 6, 3) := by decide +kernel
theorem dX10_fails_54 : decode cX10_fails 54 = .ok (.bipush (-5), 2) := by decide +kernel
theorem dX10_fails_56 : decode cX10_fails 56 = .ok (.ireturn, 1) := by decide +kernel
theorem dX10_fails_57 : decode cX10_fails 57 = .ok (.iload_n 1, 1) := by decide +kernel
theorem dX10_fails_58 : decode cX10_fails 58 = .ok (.iconst (-1), 1) := by decide +kernel
theorem dX10_fails_59 : decode cX10_fails 59 = .ok (.if_icmp .ne 13, 3) := by decide +kernel
theorem dX10_fails_62 : decode cX10_fails 62 = .ok (.aload_n 0, 1) := by decide +kernel
theorem dX10_fails_63 : decode cX10_fails 63 = .ok (.getfield 38, 3) := by decide +kernel
theorem dX10_fails_66 : decode cX10_fails 66 = .ok (.getfield 192, 3) := by decide +kernel
theorem dX10_fails_69 : decode cX10_fails 69 = .ok (.goto 11, 3) := by decide +kernel
theorem dX10_fails_72 : decode cX10_fails 72 = .ok (.aload_n 0, 1) := by decide +kernel
theorem dX10_fails_73 : decode cX10_fails 73 = .ok (.getfield 38, 3) := by decide +kernel
theorem dX10_fails_76 : decode cX10_fails 76 = .ok (.iload_n 1, 1) := by decide +kernel
theorem dX10_fails_77 : decode cX10_fails 77 = .ok (.invokevirtual 195, 3) := by decide +kernel
theorem dX10_fails_80 : decode cX10_fails 80 = .ok (.ireturn, 1) := by decide +kernel
set_option maxRecDepth 20000 in
theorem ggX10_fixed_X10_isReach : GoodIn wsX10_fixed wsX10_isReach := goodIn_r _ [11, 2, 3, 4, 166, 167, 168, 169, 170, 171, 172, 173, 174, 175, 176, 177, 178, 179, 180, 181, 182, 183, 184, 185, 186, 187] (by decide +kernel) (by decide +kernel)
set_option maxRecDepth 20000 in
theorem gX10_fixed_X10_isReach : GoodIn wsX10_fixed (wsV RX10 107 RX10 yX10_isReach wsX10_isReach) := goodIn_app (goodIn_of _ (by decide +kernel)) ggX10_fixed_X10_isReach
set_option maxRecDepth 20000 in
theorem ggX10_fixed_X10_isRiver : GoodIn wsX10_fixed wsX10_isRiver := goodIn_r _ [15, 2, 3, 4, 166, 167, 168, 169, 170, 171, 172, 173, 174, 175, 176, 177, 178, 179, 180, 181, 182, 183, 184, 185, 186, 187] (by decide +kernel) (by decide +kernel)
set_option maxRecDepth 20000 in
theorem gX10_fixed_X10_isRiver : GoodIn wsX10_fixed (wsV RX10 136 RX10 yX10_isRiver wsX10_isRiver) := goodIn_app (goodIn_of _ (by decide +kernel)) ggX10_fixed_X10_isRiver
set_option maxRecDepth 20000 in
theorem ggX10_fixed_X7_begin : GoodIn wsX10_fixed wsX7_begin := goodIn_r _ [20, 21, 22, 23, 24, 25, 26, 27, 28, 29, 30, 31, 32, 33, 34, 35, 36, 37, 38, 39, 40, 41, 42, 43, 10, 44, 45, 46, 47, 48, 49, 50, 51, 52, 53, 54, 55, 56, 57, 58, 59, 60, 61, 62, 63, 64, 65, 66, 67, 68, 69, 188, 189, 190, 191, 192, 193, 194, 173, 174, 175, 176, 177, 178, 179, 180, 181, 182, 183, 184, 185, 186, 187, 195, 196, 197, 198, 199, 200, 201] (by decide +kernel) (by decide +kernel)
set_option maxRecDepth 20000 in
theorem gX10_fixed_X7_begin : GoodIn wsX10_fixed (wsV RX10 152 RX7 yX7_begin wsX7_begin) := goodIn_app (goodIn_of _ (by decide +kernel)) ggX10_fixed_X7_begin
set_option maxRecDepth 20000 in
theorem ggX10_fixed_X7_fixBoards : GoodIn wsX10_fixed wsX7_fixBoards := goodIn_r _ [73, 26, 21, 24, 74, 46, 47, 48, 28, 75, 188, 189, 190, 191, 192, 193, 194, 180, 181, 182, 183, 184, 185, 186, 187, 195, 196, 197, 198, 199, 200, 201] (by decide +kernel) (by decide +kernel)
set_option maxRecDepth 20000 in
theorem gX10_fixed_X7_fixBoards : GoodIn wsX10_fixed (wsV RX10 198 RX7 yX7_fixBoards wsX7_fixBoards) := goodIn_app (goodIn_of _ (by decide +kernel)) ggX10_fixed_X7_fixBoards
set_option maxRecDepth 20000 in
theorem ggX10_fixed_X7_isSafe : GoodIn wsX10_fixed wsX7_isSafe := goodIn_r _ [79, 21, 80, 81, 28, 82, 83, 84, 85, 19, 86, 87, 24, 88, 89, 90, 91, 92, 93, 94, 95, 27, 96, 97, 98, 75, 23, 26, 99, 100, 101, 74, 46, 47, 48, 102, 103, 104, 105, 106, 107, 108, 109, 110, 111, 112, 113, 114, 115, 116, 117, 118, 119, 120, 121, 122, 123, 124, 125, 126, 127, 128, 129, 130, 131, 132, 133, 134, 135, 136, 137, 138, 139, 140, 141, 142, 143, 144, 145, 146, 147, 148, 149, 150, 151, 152, 153, 154, 155, 156, 157, 158, 159, 160, 161, 162, 163, 164, 165, 188, 189, 190, 191, 192, 193, 194, 180, 181, 182, 183, 184, 185, 186, 187, 195, 196, 197, 198, 199, 200, 201, 202, 203, 204, 205, 206, 207, 208, 209, 210, 211, 212, 213, 214] (by decide +kernel) (by decide +kernel)
set_option maxRecDepth 20000 in
theorem gX10_fixed_X7_isSafe : GoodIn wsX10_fixed (wsV RX10 189 RX7 yX7_isSafe wsX7_isSafe) := goodIn_app (goodIn_of _ (by decide +kernel)) ggX10_fixed_X7_isSafe
theorem dX10_fixed_0 : decode cX10_fixed 0 = .ok (.iload_n 1, 1) := by decide +kernel
theorem dX10_fixed_1 : decode cX10_fixed 1 = .ok (.iconst (-1), 1) := by decide +kernel
theorem dX10_fixed_2 : decode cX10_fixed 2 = .ok (.if_icmp .eq 13, 3) := by decide +kernel
theorem dX10_fixed_5 : decode cX10_fixed 5 = .ok (.aload_n 0, 1) := by decide +kernel
theorem dX10_fixed_6 : decode cX10_fixed 6 = .ok (.iload_n 1, 1) := by decide +kernel
theorem dX10_fixed_7 : decode cX10_fixed 7 = .ok (.invokevirtual 107, 3) := by decide +kernel
theorem dX10_fixed_10 : decode cX10_fixed 10 = .ok (.ifCond .ne 5, 3) := by decide +kernel
theorem dX10_fixed_13 : decode cX10_fixed 13 = .ok (.iconst (-1), 1) := by decide +kernel
theorem dX10_fixed_14 : decode cX10_fixed 14 = .ok (.ireturn, 1) := by decide +kernel
theorem dX10_fixed_15 : decode cX10_fixed 15 = .ok (.aload_n 0, 1) := by decide +kernel
theorem dX10_fixed_16 : decode cX10_fixed 16 = .ok (.invokevirtual 136, 3) := by decide +kernel
theorem dX10_fixed_19 : decode cX10_fixed 19 = .ok (.ifCond .ne 6, 3) := by decide +kernel
theorem dX10_fixed_22 : decode cX10_fixed 22 = .ok (.bipush (-3), 2) := by decide +kernel
theorem dX10_fixed_24 : decode cX10_fixed 24 = .ok (.ireturn, 1) := by decide +kernel
theorem dX10_fixed_25 : decode cX10_fixed 25 = .ok (.aload_n 0, 1) := by decide +kernel
theorem dX10_fixed_26 : decode cX10_fixed 26 = .ok (.getfield 38, 3) := by decide +kernel
theorem dX10_fixed_29 : decode cX10_fixed 29 = .ok (.aload_n 0, 1) := by decide +kernel
theorem dX10_fixed_30 : decode cX10_fixed 30 = .ok (.getfield 12, 3) := by decide +kernel
theorem dX10_fixed_33 : decode cX10_fixed 33 = .ok (.invokevirtual 152, 3) := by decide +kernel
theorem dX10_fixed_36 : decode cX10_fixed 36 = .ok (.iconst 0, 1) := by decide +kernel
theorem dX10_fixed_37 : decode cX10_fixed 37 = .ok (.istore_n 2, 1) := by decide +kernel
theorem dX10_fixed_38 : decode cX10_fixed 38 = .ok (.bipush (-5), 2) := by decide +kernel
theorem dX10_fixed_40 : decode cX10_fixed 40 = .ok (.istore_n 3, 1) := by decide +kernel
theorem dX10_fixed_41 : decode cX10_fixed 41 = .ok (.iconst 0, 1) := by decide +kernel
theorem dX10_fixed_42 : decode cX10_fixed 42 = .ok (.istore 4, 2) := by decide +kernel
theorem dX10_fixed_44 : decode cX10_fixed 44 = .ok (.iload 4, 2) := by decide +kernel
theorem dX10_fixed_46 : decode cX10_fixed 46 = .ok (.iconst 1, 1) := by decide +kernel
theorem dX10_fixed_47 : decode cX10_fixed 47 = .ok (.iconst 2, 1) := by decide +kernel
theorem dX10_fixed_48 : decode cX10_fixed 48 = .ok (.aload_n 0, 1) := by decide +kernel
theorem dX10_fixed_49 : decode cX10_fixed 49 = .ok (.getfield 12, 3) := by decide +kernel
theorem dX10_fixed_52 : decode cX10_fixed 52 = .ok (.getfield 65, 3) := by decide +kernel
theorem dX10_fixed_55 : decode cX10_fixed 55 = .ok (.getfield 78, 3) := by decide +kernel
theorem dX10_fixed_58 : decode cX10_fixed 58 = .ok (.imul, 1) := by decide +kernel
theorem dX10_fixed_59 : decode cX10_fixed 59 = .ok (.ishl, 1) := by decide +kernel
theorem dX10_fixed_60 : decode cX10_fixed 60 = .ok (.if_icmp .ge 55, 3) := by decide +kernel
theorem dX10_fixed_63 : decode cX10_fixed 63 = .ok (.aload_n 0, 1) := by decide +kernel
theorem dX10_fixed_64 : decode cX10_fixed 64 = .ok (.getfield 38, 3) := by decide +kernel
theorem dX10_fixed_67 : decode cX10_fixed 67 = .ok (.iload 4, 2) := by decide +kernel
theorem dX10_fixed_69 : decode cX10_fixed 69 = .ok (.invokevirtual 198, 3) := by decide +kernel
theorem dX10_fixed_72 : decode cX10_fixed 72 = .ok (.aload_n 0, 1) := by decide +kernel
theorem dX10_fixed_73 : decode cX10_fixed 73 = .ok (.getfield 38, 3) := by decide +kernel
theorem dX10_fixed_76 : decode cX10_fixed 76 = .ok (.invokevirtual 189, 3) := by decide +kernel
theorem dX10_fixed_79 : decode cX10_fixed 79 = .ok (.ifCond .ne 6, 3) := by decide +kernel
theorem dX10_fixed_82 : decode cX10_fixed 82 = .ok (.goto 27, 3) := by decide +kernel
theorem dX10_fixed_85 : decode cX10_fixed 85 = .ok (.iload_n 2, 1) := by decide +kernel
theorem dX10_fixed_86 : decode cX10_fixed 86 = .ok (.ifCond .ne 20, 3) := by decide +kernel
theorem dX10_fixed_89 : decode cX10_fixed 89 = .ok (.iload_n 1, 1) := by decide +kernel
theorem dX10_fixed_90 : decode cX10_fixed 90 = .ok (.ifCond .lt 16, 3) := by decide +kernel
theorem dX10_fixed_93 : decode cX10_fixed 93 = .ok (.aload_n 0, 1) := by decide +kernel
theorem dX10_fixed_94 : decode cX10_fixed 94 = .ok (.getfield 38, 3) := by decide +kernel
theorem dX10_fixed_97 : decode cX10_fixed 97 = .ok (.getfield 163, 3) := by decide +kernel
theorem dX10_fixed_100 : decode cX10_fixed 100 = .ok (.getfield 130, 3) := by decide +kernel
theorem dX10_fixed_103 : decode cX10_fixed 103 = .ok (.iload_n 1, 1) := by decide +kernel
theorem dX10_fixed_104 : decode cX10_fixed 104 = .ok (.iaload, 1) := by decide +kernel
theorem dX10_fixed_105 : decode cX10_fixed 105 = .ok (.istore_n 3, 1) := by decide +kernel
theorem dX10_fixed_106 : decode cX10_fixed 106 = .ok (.iinc 2 1, 3) := by decide +kernel
theorem dX10_fixed_109 : decode cX10_fixed 109 = .ok (.iinc 4 1, 3) := by decide +kernel
theorem dX10_fixed_112 : decode cX10_fixed 112 = .ok (.goto (-68), 3) := by decide +kernel
theorem dX10_fixed_115 : decode cX10_fixed 115 = .ok (.iload_n 1, 1) := by decide +kernel
theorem dX10_fixed_116 : decode cX10_fixed 116 = .ok (.iconst (-1), 1) := by decide +kernel
theorem dX10_fixed_117 : decode cX10_fixed 117 = .ok (.if_icmp .ne 7, 3) := by decide +kernel
theorem dX10_fixed_120 : decode cX10_fixed 120 = .ok (.iload_n 2, 1) := by decide +kernel
theorem dX10_fixed_121 : decode cX10_fixed 121 = .ok (.goto 4, 3) := by decide +kernel
theorem dX10_fixed_124 : decode cX10_fixed 124 = .ok (.iload_n 3, 1) := by decide +kernel
theorem dX10_fixed_125 : decode cX10_fixed 125 = .ok (.ireturn, 1) := by decide +kernel
set_option maxRecDepth 20000 in
theorem ggX10_found_X10_isReach : GoodIn wsX10_found wsX10_isReach := goodIn_r _ [12, 1, 2, 13, 172, 173, 174, 175, 176, 177, 178, 179, 180, 181, 182, 183, 184, 185, 186, 187, 188, 189, 190, 191, 192, 193] (by decide +kernel) (by decide +kernel)
set_option maxRecDepth 20000 in
theorem gX10_found_X10_isReach : GoodIn wsX10_found (wsV RX10 107 RX10 yX10_isReach wsX10_isReach) := goodIn_app (goodIn_of _ (by decide +kernel)) ggX10_found_X10_isReach
set_option maxRecDepth 20000 in
theorem ggX10_found_X9_cardOf : GoodIn wsX10_found wsX9_cardOf := goodIn_r _ [18, 19, 20, 179, 180, 181, 182, 183, 184, 185] (by decide +kernel) (by decide +kernel)
set_option maxRecDepth 20000 in
theorem gX10_found_X9_cardOf : GoodIn wsX10_found (wsV RX10 94 RX9 yX9_cardOf wsX9_cardOf) := goodIn_app (goodIn_of _ (by decide +kernel)) ggX10_found_X9_cardOf
set_option maxRecDepth 20000 in
theorem ggX10_found_X7_begin : GoodIn wsX10_found wsX7_begin := goodIn_r _ [25, 26, 27, 28, 29, 30, 31, 32, 33, 34, 35, 36, 37, 38, 39, 40, 41, 42, 43, 44, 45, 46, 47, 48, 11, 49, 50, 51, 52, 53, 54, 55, 56, 57, 58, 59, 60, 61, 62, 63, 64, 65, 66, 67, 15, 16, 17, 18, 19, 20, 68, 203, 204, 205, 206, 207, 208, 209, 179, 180, 181, 182, 183, 184, 185, 186, 187, 188, 189, 190, 191, 192, 193, 210, 211, 212, 213, 214, 215, 216] (by decide +kernel) (by decide +kernel)
set_option maxRecDepth 20000 in
theorem gX10_found_X7_begin : GoodIn wsX10_found (wsV RX10 152 RX7 yX7_begin wsX7_begin) := goodIn_app (goodIn_of _ (by decide +kernel)) ggX10_found_X7_begin
set_option maxRecDepth 20000 in
theorem ggX10_found_X0_init_ : GoodIn wsX10_found wsX0_init_ := goodIn_r _ [71, 72, 73, 74, 75, 76, 77, 78, 79, 80, 81, 82, 83, 194, 195, 196, 197, 198, 199, 200, 201, 202] (by decide +kernel) (by decide +kernel)
set_option maxRecDepth 20000 in
theorem gX10_found_X0_init_ : GoodIn wsX10_found (wsX0_init_) := ggX10_found_X0_init_
set_option maxRecDepth 20000 in
theorem ggX10_found_X7_putInstead : GoodIn wsX10_found wsX7_putInstead := goodIn_r _ [87, 28, 88, 203, 204, 205, 206, 207, 208, 209, 194, 195, 196, 197, 198, 199, 200, 201, 202] (by decide +kernel) (by decide +kernel)
set_option maxRecDepth 20000 in
theorem gX10_found_X7_putInstead : GoodIn wsX10_found (wsV RX10 204 RX7 yX7_putInstead wsX7_putInstead) := goodIn_app (goodIn_of _ (by decide +kernel)) ggX10_found_X7_putInstead
set_option maxRecDepth 20000 in
theorem ggX10_found_X7_isSafe : GoodIn wsX10_found wsX7_isSafe := goodIn_r _ [92, 26, 93, 94, 33, 95, 96, 97, 98, 24, 99, 100, 29, 101, 102, 103, 104, 105, 106, 107, 108, 32, 109, 110, 111, 112, 28, 31, 113, 114, 115, 116, 51, 52, 53, 117, 118, 119, 120, 7, 121, 76, 122, 123, 124, 125, 126, 127, 77, 128, 129, 130, 131, 78, 80, 79, 132, 133, 134, 135, 81, 82, 83, 136, 137, 138, 139, 140, 141, 142, 143, 144, 145, 146, 147, 148, 149, 150, 151, 152, 153, 154, 155, 156, 157, 158, 159, 160, 161, 162, 163, 164, 165, 166, 167, 168, 169, 170, 171, 203, 204, 205, 206, 207, 208, 209, 186, 187, 188, 189, 190, 191, 192, 193, 210, 211, 212, 213, 214, 215, 216, 217, 218, 219, 220, 194, 195, 196, 197, 198, 199, 200, 201, 202] (by decide +kernel) (by decide +kernel)
set_option maxRecDepth 20000 in
theorem gX10_found_X7_isSafe : GoodIn wsX10_found (wsV RX10 189 RX7 yX7_isSafe wsX7_isSafe) := goodIn_app (goodIn_of _ (by decide +kernel)) ggX10_found_X7_isSafe
theorem dX10_found_0 : decode cX10_found 0 = .ok (.aload_n 0, 1) := by decide +kernel
theorem dX10_found_1 : decode cX10_found 1 = .ok (.iload_n 1, 1) := by decide +kernel
theorem dX10_found_2 : decode cX10_found 2 = .ok (.invokevirtual 107, 3) := by decide +kernel
theorem dX10_found_5 : decode cX10_found 5 = .ok (.ifCond .ne 5, 3) := by decide +kernel
theorem dX10_found_8 : decode cX10_found 8 = .ok (.iconst (-1), 1) := by decide +kernel
theorem dX10_found_9 : decode cX10_found 9 = .ok (.ireturn, 1) := by decide +kernel
theorem dX10_found_10 : decode cX10_found 10 = .ok (.aload_n 0, 1) := by decide +kernel
theorem dX10_found_11 : decode cX10_found 11 = .ok (.getfield 12, 3) := by decide +kernel
theorem dX10_found_14 : decode cX10_found 14 = .ok (.aload_n 0, 1) := by decide +kernel
theorem dX10_found_15 : decode cX10_found 15 = .ok (.getfield 12, 3) := by decide +kernel
theorem dX10_found_18 : decode cX10_found 18 = .ok (.getfield 65, 3) := by decide +kernel
theorem dX10_found_21 : decode cX10_found 21 = .ok (.getfield 111, 3) := by decide +kernel
theorem dX10_found_24 : decode cX10_found 24 = .ok (.iload_n 1, 1) := by decide +kernel
theorem dX10_found_25 : decode cX10_found 25 = .ok (.iaload, 1) := by decide +kernel
theorem dX10_found_26 : decode cX10_found 26 = .ok (.invokevirtual 94, 3) := by decide +kernel
theorem dX10_found_29 : decode cX10_found 29 = .ok (.astore_n 2, 1) := by decide +kernel
theorem dX10_found_30 : decode cX10_found 30 = .ok (.aload_n 2, 1) := by decide +kernel
theorem dX10_found_31 : decode cX10_found 31 = .ok (.ifnonnull 6, 3) := by decide +kernel
theorem dX10_found_34 : decode cX10_found 34 = .ok (.bipush (-5), 2) := by decide +kernel
theorem dX10_found_36 : decode cX10_found 36 = .ok (.ireturn, 1) := by decide +kernel
theorem dX10_found_37 : decode cX10_found 37 = .ok (.aload_n 0, 1) := by decide +kernel
theorem dX10_found_38 : decode cX10_found 38 = .ok (.getfield 38, 3) := by decide +kernel
theorem dX10_found_41 : decode cX10_found 41 = .ok (.aload_n 0, 1) := by decide +kernel
theorem dX10_found_42 : decode cX10_found 42 = .ok (.getfield 12, 3) := by decide +kernel
theorem dX10_found_45 : decode cX10_found 45 = .ok (.invokevirtual 152, 3) := by decide +kernel
theorem dX10_found_48 : decode cX10_found 48 = .ok (.iconst 0, 1) := by decide +kernel
theorem dX10_found_49 : decode cX10_found 49 = .ok (.istore_n 3, 1) := by decide +kernel
theorem dX10_found_50 : decode cX10_found 50 = .ok (.iload_n 3, 1) := by decide +kernel
theorem dX10_found_51 : decode cX10_found 51 = .ok (.iconst 3, 1) := by decide +kernel
theorem dX10_found_52 : decode cX10_found 52 = .ok (.if_icmp .gt 38, 3) := by decide +kernel
theorem dX10_found_55 : decode cX10_found 55 = .ok (.aload_n 0, 1) := by decide +kernel
theorem dX10_found_56 : decode cX10_found 56 = .ok (.getfield 38, 3) := by decide +kernel
theorem dX10_found_59 : decode cX10_found 59 = .ok (.new 85, 3) := by decide +kernel
theorem dX10_found_62 : decode cX10_found 62 = .ok (.dup, 1) := by decide +kernel
theorem dX10_found_63 : decode cX10_found 63 = .ok (.aload_n 2, 1) := by decide +kernel
theorem dX10_found_64 : decode cX10_found 64 = .ok (.iload_n 3, 1) := by decide +kernel
theorem dX10_found_65 : decode cX10_found 65 = .ok (.iconst (-1), 1) := by decide +kernel
theorem dX10_found_66 : decode cX10_found 66 = .ok (.invokespecial 201, 3) := by decide +kernel
theorem dX10_found_69 : decode cX10_found 69 = .ok (.invokevirtual 204, 3) := by decide +kernel
theorem dX10_found_72 : decode cX10_found 72 = .ok (.aload_n 0, 1) := by decide +kernel
theorem dX10_found_73 : decode cX10_found 73 = .ok (.getfield 38, 3) := by decide +kernel
theorem dX10_found_76 : decode cX10_found 76 = .ok (.invokevirtual 189, 3) := by decide +kernel
theorem dX10_found_79 : decode cX10_found 79 = .ok (.ifCond .eq 5, 3) := by decide +kernel
theorem dX10_found_82 : decode cX10_found 82 = .ok (.iload_n 3, 1) := by decide +kernel
theorem dX10_found_83 : decode cX10_found 83 = .ok (.ireturn, 1) := by decide +kernel
theorem dX10_found_84 : decode cX10_found 84 = .ok (.iinc 3 1, 3) := by decide +kernel
theorem dX10_found_87 : decode cX10_found 87 = .ok (.goto (-37), 3) := by decide +kernel
theorem dX10_found_90 : decode cX10_found 90 = .ok (.bipush (-5), 2) := by decide +kernel
theorem dX10_found_92 : decode cX10_found 92 = .ok (.ireturn, 1) := by decide +kernel
set_option maxRecDepth 20000 in
theorem ggX10_lines_X9_cardOf : GoodIn wsX10_lines wsX9_cardOf := goodIn_r _ [12, 13, 14, 189, 190, 191, 192, 193, 194, 195] (by decide +kernel) (by decide +kernel)
set_option maxRecDepth 20000 in
theorem gX10_lines_X9_cardOf : GoodIn wsX10_lines (wsV RX10 94 RX9 yX9_cardOf wsX9_cardOf) := goodIn_app (goodIn_of _ (by decide +kernel)) ggX10_lines_X9_cardOf
set_option maxRecDepth 20000 in
theorem ggX10_lines_X10_isRiver : GoodIn wsX10_lines wsX10_isRiver := goodIn_r _ [19, 1, 20, 21, 173, 174, 175, 176, 177, 178, 179, 189, 190, 191, 192, 193, 194, 195, 196, 197, 198, 199, 200, 201, 202, 203] (by decide +kernel) (by decide +kernel)
set_option maxRecDepth 20000 in
theorem gX10_lines_X10_isRiver : GoodIn wsX10_lines (wsV RX10 136 RX10 yX10_isRiver wsX10_isRiver) := goodIn_app (goodIn_of _ (by decide +kernel)) ggX10_lines_X10_isRiver
set_option maxRecDepth 20000 in
theorem ggX10_lines_X7_begin : GoodIn wsX10_lines wsX7_begin := goodIn_r _ [26, 27, 28, 29, 30, 31, 32, 33, 34, 35, 36, 37, 38, 39, 40, 41, 42, 43, 44, 45, 46, 47, 48, 49, 18, 50, 51, 52, 53, 54, 55, 56, 57, 58, 59, 60, 61, 62, 63, 64, 65, 66, 67, 68, 9, 10, 11, 12, 13, 14, 69, 204, 205, 206, 207, 208, 209, 210, 189, 190, 191, 192, 193, 194, 195, 196, 197, 198, 199, 200, 201, 202, 203, 211, 212, 213, 214, 215, 216, 217] (by decide +kernel) (by decide +kernel)
set_option maxRecDepth 20000 in
theorem gX10_lines_X7_begin : GoodIn wsX10_lines (wsV RX10 152 RX7 yX7_begin wsX7_begin) := goodIn_app (goodIn_of _ (by decide +kernel)) ggX10_lines_X7_begin
set_option maxRecDepth 20000 in
theorem ggX10_lines_X7_isSafe : GoodIn wsX10_lines wsX7_isSafe := goodIn_r _ [73, 27, 74, 75, 34, 76, 77, 78, 79, 25, 80, 81, 30, 82, 83, 84, 85, 86, 87, 88, 89, 33, 90, 91, 92, 93, 29, 32, 94, 95, 96, 97, 52, 53, 54, 98, 99, 100, 101, 6, 102, 103, 104, 105, 106, 107, 108, 109, 110, 111, 112, 113, 114, 115, 116, 117, 118, 119, 120, 121, 122, 123, 124, 125, 126, 127, 128, 129, 130, 131, 132, 133, 134, 135, 136, 137, 138, 139, 140, 141, 142, 143, 144, 145, 146, 147, 148, 149, 150, 151, 152, 153, 154, 155, 156, 157, 158, 159, 160, 204, 205, 206, 207, 208, 209, 210, 196, 197, 198, 199, 200, 201, 202, 203, 211, 212, 213, 214, 215, 216, 217, 218, 219, 220, 221, 180, 181, 182, 183, 184, 185, 186, 187, 188] (by decide +kernel) (by decide +kernel)
set_option maxRecDepth 20000 in
theorem gX10_lines_X7_isSafe : GoodIn wsX10_lines (wsV RX10 189 RX7 yX7_isSafe wsX7_isSafe) := goodIn_app (goodIn_of _ (by decide +kernel)) ggX10_lines_X7_isSafe
set_option maxRecDepth 20000 in
theorem ggX10_lines_X0_init_ : GoodIn wsX10_lines wsX0_init_ := goodIn_r _ [163, 164, 165, 166, 167, 103, 110, 115, 117, 116, 122, 123, 124, 180, 181, 182, 183, 184, 185, 186, 187, 188] (by decide +kernel) (by decide +kernel)
set_option maxRecDepth 20000 in
theorem gX10_lines_X0_init_ : GoodIn wsX10_lines (wsX0_init_) := ggX10_lines_X0_init_
set_option maxRecDepth 20000 in
theorem ggX10_lines_X7_putInstead : GoodIn wsX10_lines wsX7_putInstead := goodIn_r _ [171, 29, 172, 204, 205, 206, 207, 208, 209, 210, 180, 181, 182, 183, 184, 185, 186, 187, 188] (by decide +kernel) (by decide +kernel)
set_option maxRecDepth 20000 in
theorem gX10_lines_X7_putInstead : GoodIn wsX10_lines (wsV RX10 204 RX7 yX7_putInstead wsX7_putInstead) := goodIn_app (goodIn_of _ (by decide +kernel)) ggX10_lines_X7_putInstead
theorem dX10_lines_0 : decode cX10_lines 0 = .ok (.aload_n 0, 1) := by decide +kernel
theorem dX10_lines_1 : decode cX10_lines 1 = .ok (.getfield 12, 3) := by decide +kernel
theorem dX10_lines_4 : decode cX10_lines 4 = .ok (.iload_n 1, 1) := by decide +kernel
theorem dX10_lines_5 : decode cX10_lines 5 = .ok (.invokevirtual 94, 3) := by decide +kernel
theorem dX10_lines_8 : decode cX10_lines 8 = .ok (.astore_n 2, 1) := by decide +kernel
theorem dX10_lines_9 : decode cX10_lines 9 = .ok (.aload_n 2, 1) := by decide +kernel
theorem dX10_lines_10 : decode cX10_lines 10 = .ok (.ifnonnull 5, 3) := by decide +kernel
theorem dX10_lines_13 : decode cX10_lines 13 = .ok (.iconst (-1), 1) := by decide +kernel
theorem dX10_lines_14 : decode cX10_lines 14 = .ok (.ireturn, 1) := by decide +kernel
theorem dX10_lines_15 : decode cX10_lines 15 = .ok (.aload_n 0, 1) := by decide +kernel
theorem dX10_lines_16 : decode cX10_lines 16 = .ok (.invokevirtual 136, 3) := by decide +kernel
theorem dX10_lines_19 : decode cX10_lines 19 = .ok (.ifCond .ne 6, 3) := by decide +kernel
theorem dX10_lines_22 : decode cX10_lines 22 = .ok (.bipush (-3), 2) := by decide +kernel
theorem dX10_lines_24 : decode cX10_lines 24 = .ok (.ireturn, 1) := by decide +kernel
theorem dX10_lines_25 : decode cX10_lines 25 = .ok (.aload_n 0, 1) := by decide +kernel
theorem dX10_lines_26 : decode cX10_lines 26 = .ok (.getfield 38, 3) := by decide +kernel
theorem dX10_lines_29 : decode cX10_lines 29 = .ok (.aload_n 0, 1) := by decide +kernel
theorem dX10_lines_30 : decode cX10_lines 30 = .ok (.getfield 12, 3) := by decide +kernel
theorem dX10_lines_33 : decode cX10_lines 33 = .ok (.invokevirtual 152, 3) := by decide +kernel
theorem dX10_lines_36 : decode cX10_lines 36 = .ok (.aload_n 0, 1) := by decide +kernel
theorem dX10_lines_37 : decode cX10_lines 37 = .ok (.getfield 38, 3) := by decide +kernel
theorem dX10_lines_40 : decode cX10_lines 40 = .ok (.invokevirtual 189, 3) := by decide +kernel
theorem dX10_lines_43 : decode cX10_lines 43 = .ok (.ifCond .ne 5, 3) := by decide +kernel
theorem dX10_lines_46 : decode cX10_lines 46 = .ok (.iconst 0, 1) := by decide +kernel
theorem dX10_lines_47 : decode cX10_lines 47 = .ok (.ireturn, 1) := by decide +kernel
theorem dX10_lines_48 : decode cX10_lines 48 = .ok (.iconst 0, 1) := by decide +kernel
theorem dX10_lines_49 : decode cX10_lines 49 = .ok (.istore_n 3, 1) := by decide +kernel
theorem dX10_lines_50 : decode cX10_lines 50 = .ok (.iconst 0, 1) := by decide +kernel
theorem dX10_lines_51 : decode cX10_lines 51 = .ok (.istore 4, 2) := by decide +kernel
theorem dX10_lines_53 : decode cX10_lines 53 = .ok (.iload 4, 2) := by decide +kernel
theorem dX10_lines_55 : decode cX10_lines 55 = .ok (.aload_n 2, 1) := by decide +kernel
theorem dX10_lines_56 : decode cX10_lines 56 = .ok (.getfield 104, 3) := by decide +kernel
theorem dX10_lines_59 : decode cX10_lines 59 = .ok (.if_icmp .ge 47, 3) := by decide +kernel
theorem dX10_lines_62 : decode cX10_lines 62 = .ok (.aload_n 0, 1) := by decide +kernel
theorem dX10_lines_63 : decode cX10_lines 63 = .ok (.getfield 38, 3) := by decide +kernel
theorem dX10_lines_66 : decode cX10_lines 66 = .ok (.new 85, 3) := by decide +kernel
theorem dX10_lines_69 : decode cX10_lines 69 = .ok (.dup, 1) := by decide +kernel
theorem dX10_lines_70 : decode cX10_lines 70 = .ok (.aload_n 2, 1) := by decide +kernel
theorem dX10_lines_71 : decode cX10_lines 71 = .ok (.aload_n 2, 1) := by decide +kernel
theorem dX10_lines_72 : decode cX10_lines 72 = .ok (.getfield 101, 3) := by decide +kernel
theorem dX10_lines_75 : decode cX10_lines 75 = .ok (.iload 4, 2) := by decide +kernel
theorem dX10_lines_77 : decode cX10_lines 77 = .ok (.invokespecial 201, 3) := by decide +kernel
theorem dX10_lines_80 : decode cX10_lines 80 = .ok (.invokevirtual 204, 3) := by decide +kernel
theorem dX10_lines_83 : decode cX10_lines 83 = .ok (.aload_n 0, 1) := by decide +kernel
theorem dX10_lines_84 : decode cX10_lines 84 = .ok (.getfield 38, 3) := by decide +kernel
theorem dX10_lines_87 : decode cX10_lines 87 = .ok (.invokevirtual 189, 3) := by decide +kernel
theorem dX10_lines_90 : decode cX10_lines 90 = .ok (.ifCond .ne 10, 3) := by decide +kernel
theorem dX10_lines_93 : decode cX10_lines 93 = .ok (.iload_n 3, 1) := by decide +kernel
theorem dX10_lines_94 : decode cX10_lines 94 = .ok (.iconst 1, 1) := by decide +kernel
theorem dX10_lines_95 : decode cX10_lines 95 = .ok (.iload 4, 2) := by decide +kernel
theorem dX10_lines_97 : decode cX10_lines 97 = .ok (.ishl, 1) := by decide +kernel
theorem dX10_lines_98 : decode cX10_lines 98 = .ok (.ior, 1) := by decide +kernel
theorem dX10_lines_99 : decode cX10_lines 99 = .ok (.istore_n 3, 1) := by decide +kernel
theorem dX10_lines_100 : decode cX10_lines 100 = .ok (.iinc 4 1, 3) := by decide +kernel
theorem dX10_lines_103 : decode cX10_lines 103 = .ok (.goto (-50), 3) := by decide +kernel
theorem dX10_lines_106 : decode cX10_lines 106 = .ok (.iload_n 3, 1) := by decide +kernel
theorem dX10_lines_107 : decode cX10_lines 107 = .ok (.ireturn, 1) := by decide +kernel
set_option maxRecDepth 20000 in
theorem ggX10_drunk_X10_isRiver : GoodIn wsX10_drunk wsX10_isRiver := goodIn_r _ [10, 2, 3, 4, 158, 159, 160, 161, 162, 163, 164, 165, 166, 167, 168, 169, 170, 171, 172, 173, 174, 175, 176, 177, 178, 179] (by decide +kernel) (by decide +kernel)
set_option maxRecDepth 20000 in
theorem gX10_drunk_X10_isRiver : GoodIn wsX10_drunk (wsV RX10 136 RX10 yX10_isRiver wsX10_isRiver) := goodIn_app (goodIn_of _ (by decide +kernel)) ggX10_drunk_X10_isRiver
set_option maxRecDepth 20000 in
theorem ggX10_drunk_X7_begin : GoodIn wsX10_drunk wsX7_begin := goodIn_r _ [15, 16, 17, 18, 19, 20, 21, 22, 23, 24, 25, 26, 27, 28, 29, 30, 31, 32, 33, 34, 35, 36, 37, 38, 9, 39, 40, 41, 42, 43, 44, 45, 46, 47, 48, 49, 50, 51, 52, 53, 54, 55, 56, 57, 58, 59, 60, 61, 62, 63, 64, 180, 181, 182, 183, 184, 185, 186, 165, 166, 167, 168, 169, 170, 171, 172, 173, 174, 175, 176, 177, 178, 179, 187, 188, 189, 190, 191, 192, 193] (by decide +kernel) (by decide +kernel)
set_option maxRecDepth 20000 in
theorem gX10_drunk_X7_begin : GoodIn wsX10_drunk (wsV RX10 152 RX7 yX7_begin wsX7_begin) := goodIn_app (goodIn_of _ (by decide +kernel)) ggX10_drunk_X7_begin
set_option maxRecDepth 20000 in
theorem ggX10_drunk_X7_isSafe : GoodIn wsX10_drunk wsX7_isSafe := goodIn_r _ [68, 16, 69, 70, 23, 71, 72, 73, 74, 14, 75, 76, 19, 77, 78, 79, 80, 81, 82, 83, 84, 22, 85, 86, 87, 88, 18, 21, 89, 90, 91, 92, 41, 42, 43, 93, 94, 95, 96, 97, 98, 99, 100, 101, 102, 103, 104, 105, 106, 107, 108, 109, 110, 111, 112, 113, 114, 115, 116, 117, 118, 119, 120, 121, 122, 123, 124, 125, 126, 127, 128, 129, 130, 131, 132, 133, 134, 135, 136, 137, 138, 139, 140, 141, 142, 143, 144, 145, 146, 147, 148, 149, 150, 151, 152, 153, 154, 155, 156, 180, 181, 182, 183, 184, 185, 186, 172, 173, 174, 175, 176, 177, 178, 179, 187, 188, 189, 190, 191, 192, 193, 194, 195, 196, 197, 198, 199, 200, 201, 202, 203, 204, 205, 206] (by decide +kernel) (by decide +kernel)
set_option maxRecDepth 20000 in
theorem gX10_drunk_X7_isSafe : GoodIn wsX10_drunk (wsV RX10 189 RX7 yX7_isSafe wsX7_isSafe) := goodIn_app (goodIn_of _ (by decide +kernel)) ggX10_drunk_X7_isSafe
set_option maxRecDepth 20000 in
theorem ggX10_drunk_J6_bitCount_0f7a4 : GoodIn wsX10_drunk wsJ6_bitCount_0f7a4 := goodIn_r _ [149, 150, 151, 152] (by decide +kernel) (by decide +kernel)
set_option maxRecDepth 20000 in
theorem gX10_drunk_J6_bitCount_0f7a4 : GoodIn wsX10_drunk (va_wsS RX10 210 yJ6_bitCount_0f7a4 wsJ6_bitCount_0f7a4) := goodIn_app (goodIn_of _ (by decide +kernel)) ggX10_drunk_J6_bitCount_0f7a4
theorem dX10_drunk_0 : decode cX10_drunk 0 = .ok (.iload_n 1, 1) := by decide +kernel
theorem dX10_drunk_1 : decode cX10_drunk 1 = .ok (.ifCond .lt 8, 3) := by decide +kernel
theorem dX10_drunk_4 : decode cX10_drunk 4 = .ok (.iload_n 1, 1) := by decide +kernel
theorem dX10_drunk_5 : decode cX10_drunk 5 = .ok (.iconst 1, 1) := by decide +kernel
theorem dX10_drunk_6 : decode cX10_drunk 6 = .ok (.if_icmp .le 5, 3) := by decide +kernel
theorem dX10_drunk_9 : decode cX10_drunk 9 = .ok (.iconst (-1), 1) := by decide +kernel
