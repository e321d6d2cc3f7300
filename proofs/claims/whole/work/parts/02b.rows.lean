theorem dX2_faultPlace_1 : decode cX2_faultPlace 1 = .ok (.getfield 22, 3) := by decide +kernel
theorem dX2_faultPlace_4 : decode cX2_faultPlace 4 = .ok (.ireturn, 1) := by decide +kernel
set_option maxRecDepth 20000 in
theorem ggX3_init_X8_init : GoodIn wsX3_init wsX8_init := goodIn_r _ [18, 19, 2, 3, 8, 20, 21, 22, 23, 24, 25, 26, 35, 36, 37, 38, 39, 40, 41] (by decide +kernel) (by decide +kernel)
set_option maxRecDepth 20000 in
theorem gX3_init_X8_init : GoodIn wsX3_init (wsX8_init) := ggX3_init_X8_init
theorem dX3_init_0 : decode cX3_init 0 = .ok (.aload_n 0, 1) := by decide +kernel
theorem dX3_init_1 : decode cX3_init 1 = .ok (.invokespecial 3, 3) := by decide +kernel
theorem dX3_init_4 : decode cX3_init 4 = .ok (.aload_n 0, 1) := by decide +kernel
theorem dX3_init_5 : decode cX3_init 5 = .ok (.iconst 0, 1) := by decide +kernel
theorem dX3_init_6 : decode cX3_init 6 = .ok (.putfield 9, 3) := by decide +kernel
theorem dX3_init_9 : decode cX3_init 9 = .ok (.aload_n 0, 1) := by decide +kernel
theorem dX3_init_10 : decode cX3_init 10 = .ok (.iconst 0, 1) := by decide +kernel
theorem dX3_init_11 : decode cX3_init 11 = .ok (.putfield 15, 3) := by decide +kernel
theorem dX3_init_14 : decode cX3_init 14 = .ok (.aload_n 0, 1) := by decide +kernel
theorem dX3_init_15 : decode cX3_init 15 = .ok (.iconst 0, 1) := by decide +kernel
theorem dX3_init_16 : decode cX3_init 16 = .ok (.putfield 18, 3) := by decide +kernel
theorem dX3_init_19 : decode cX3_init 19 = .ok (.aload_n 0, 1) := by decide +kernel
theorem dX3_init_20 : decode cX3_init 20 = .ok (.iconst 0, 1) := by decide +kernel
theorem dX3_init_21 : decode cX3_init 21 = .ok (.putfield 21, 3) := by decide +kernel
theorem dX3_init_24 : decode cX3_init 24 = .ok (.aload_n 0, 1) := by decide +kernel
theorem dX3_init_25 : decode cX3_init 25 = .ok (.iconst 3, 1) := by decide +kernel
theorem dX3_init_26 : decode cX3_init 26 = .ok (.newarray .int, 2) := by decide +kernel
theorem dX3_init_28 : decode cX3_init 28 = .ok (.putfield 24, 3) := by decide +kernel
theorem dX3_init_31 : decode cX3_init 31 = .ok (.aload_n 0, 1) := by decide +kernel
theorem dX3_init_32 : decode cX3_init 32 = .ok (.iconst 3, 1) := by decide +kernel
theorem dX3_init_33 : decode cX3_init 33 = .ok (.newarray .int, 2) := by decide +kernel
theorem dX3_init_35 : decode cX3_init 35 = .ok (.putfield 28, 3) := by decide +kernel
theorem dX3_init_38 : decode cX3_init 38 = .ok (.aload_n 0, 1) := by decide +kernel
theorem dX3_init_39 : decode cX3_init 39 = .ok (.iconst 3, 1) := by decide +kernel
theorem dX3_init_40 : decode cX3_init 40 = .ok (.newarray .int, 2) := by decide +kernel
theorem dX3_init_42 : decode cX3_init 42 = .ok (.putfield 31, 3) := by decide +kernel
theorem dX3_init_45 : decode cX3_init 45 = .ok (.aload_n 0, 1) := by decide +kernel
theorem dX3_init_46 : decode cX3_init 46 = .ok (.new 34, 3) := by decide +kernel
theorem dX3_init_49 : decode cX3_init 49 = .ok (.dup, 1) := by decide +kernel
theorem dX3_init_50 : decode cX3_init 50 = .ok (.aconst_null, 1) := by decide +kernel
theorem dX3_init_51 : decode cX3_init 51 = .ok (.invokespecial 36, 3) := by decide +kernel
theorem dX3_init_54 : decode cX3_init 54 = .ok (.putfield 39, 3) := by decide +kernel
theorem dX3_init_57 : decode cX3_init 57 = .ok (.return_, 1) := by decide +kernel
theorem dX3_clear_0 : decode cX3_clear 0 = .ok (.aload_n 0, 1) := by decide +kernel
theorem dX3_clear_1 : decode cX3_clear 1 = .ok (.iconst 0, 1) := by decide +kernel
theorem dX3_clear_2 : decode cX3_clear 2 = .ok (.putfield 9, 3) := by decide +kernel
theorem dX3_clear_5 : decode cX3_clear 5 = .ok (.aload_n 0, 1) := by decide +kernel
theorem dX3_clear_6 : decode cX3_clear 6 = .ok (.iconst 3, 1) := by decide +kernel
theorem dX3_clear_7 : decode cX3_clear 7 = .ok (.putfield 15, 3) := by decide +kernel
theorem dX3_clear_10 : decode cX3_clear 10 = .ok (.aload_n 0, 1) := by decide +kernel
theorem dX3_clear_11 : decode cX3_clear 11 = .ok (.bipush 9, 2) := by decide +kernel
theorem dX3_clear_13 : decode cX3_clear 13 = .ok (.putfield 18, 3) := by decide +kernel
theorem dX3_clear_16 : decode cX3_clear 16 = .ok (.aload_n 0, 1) := by decide +kernel
theorem dX3_clear_17 : decode cX3_clear 17 = .ok (.iconst 5, 1) := by decide +kernel
theorem dX3_clear_18 : decode cX3_clear 18 = .ok (.putfield 21, 3) := by decide +kernel
theorem dX3_clear_21 : decode cX3_clear 21 = .ok (.aload_n 0, 1) := by decide +kernel
theorem dX3_clear_22 : decode cX3_clear 22 = .ok (.getfield 39, 3) := by decide +kernel
theorem dX3_clear_25 : decode cX3_clear 25 = .ok (.iconst 0, 1) := by decide +kernel
theorem dX3_clear_26 : decode cX3_clear 26 = .ok (.putfield 43, 3) := by decide +kernel
theorem dX3_clear_29 : decode cX3_clear 29 = .ok (.return_, 1) := by decide +kernel
theorem dX3_addReach_0 : decode cX3_addReach 0 = .ok (.aload_n 0, 1) := by decide +kernel
theorem dX3_addReach_1 : decode cX3_addReach 1 = .ok (.getfield 9, 3) := by decide +kernel
theorem dX3_addReach_4 : decode cX3_addReach 4 = .ok (.istore 4, 2) := by decide +kernel
theorem dX3_addReach_6 : decode cX3_addReach 6 = .ok (.iload 4, 2) := by decide +kernel
theorem dX3_addReach_8 : decode cX3_addReach 8 = .ok (.ifCond .lt 9, 3) := by decide +kernel
theorem dX3_addReach_11 : decode cX3_addReach 11 = .ok (.iload 4, 2) := by decide +kernel
theorem dX3_addReach_13 : decode cX3_addReach 13 = .ok (.iconst 3, 1) := by decide +kernel
theorem dX3_addReach_14 : decode cX3_addReach 14 = .ok (.if_icmp .lt 4, 3) := by decide +kernel
theorem dX3_addReach_17 : decode cX3_addReach 17 = .ok (.return_, 1) := by decide +kernel
theorem dX3_addReach_18 : decode cX3_addReach 18 = .ok (.aload_n 0, 1) := by decide +kernel
theorem dX3_addReach_19 : decode cX3_addReach 19 = .ok (.getfield 24, 3) := by decide +kernel
theorem dX3_addReach_22 : decode cX3_addReach 22 = .ok (.iload 4, 2) := by decide +kernel
theorem dX3_addReach_24 : decode cX3_addReach 24 = .ok (.iload_n 1, 1) := by decide +kernel
theorem dX3_addReach_25 : decode cX3_addReach 25 = .ok (.iastore, 1) := by decide +kernel
theorem dX3_addReach_26 : decode cX3_addReach 26 = .ok (.aload_n 0, 1) := by decide +kernel
theorem dX3_addReach_27 : decode cX3_addReach 27 = .ok (.getfield 28, 3) := by decide +kernel
theorem dX3_addReach_30 : decode cX3_addReach 30 = .ok (.iload 4, 2) := by decide +kernel
theorem dX3_addReach_32 : decode cX3_addReach 32 = .ok (.iload_n 2, 1) := by decide +kernel
theorem dX3_addReach_33 : decode cX3_addReach 33 = .ok (.iastore, 1) := by decide +kernel
theorem dX3_addReach_34 : decode cX3_addReach 34 = .ok (.aload_n 0, 1) := by decide +kernel
theorem dX3_addReach_35 : decode cX3_addReach 35 = .ok (.getfield 31, 3) := by decide +kernel
theorem dX3_addReach_38 : decode cX3_addReach 38 = .ok (.iload 4, 2) := by decide +kernel
theorem dX3_addReach_40 : decode cX3_addReach 40 = .ok (.iconst (-1), 1) := by decide +kernel
theorem dX3_addReach_41 : decode cX3_addReach 41 = .ok (.iastore, 1) := by decide +kernel
theorem dX3_addReach_42 : decode cX3_addReach 42 = .ok (.aload_n 0, 1) := by decide +kernel
theorem dX3_addReach_43 : decode cX3_addReach 43 = .ok (.getfield 39, 3) := by decide +kernel
theorem dX3_addReach_46 : decode cX3_addReach 46 = .ok (.getfield 46, 3) := by decide +kernel
theorem dX3_addReach_49 : decode cX3_addReach 49 = .ok (.iload 4, 2) := by decide +kernel
theorem dX3_addReach_51 : decode cX3_addReach 51 = .ok (.iload_n 3, 1) := by decide +kernel
theorem dX3_addReach_52 : decode cX3_addReach 52 = .ok (.iload_n 1, 1) := by decide +kernel
theorem dX3_addReach_53 : decode cX3_addReach 53 = .ok (.invokestatic 49, 3) := by decide +kernel
theorem dX3_addReach_56 : decode cX3_addReach 56 = .ok (.iastore, 1) := by decide +kernel
theorem dX3_addReach_57 : decode cX3_addReach 57 = .ok (.aload_n 0, 1) := by decide +kernel
theorem dX3_addReach_58 : decode cX3_addReach 58 = .ok (.getfield 39, 3) := by decide +kernel
theorem dX3_addReach_61 : decode cX3_addReach 61 = .ok (.getfield 55, 3) := by decide +kernel
theorem dX3_addReach_64 : decode cX3_addReach 64 = .ok (.iload 4, 2) := by decide +kernel
theorem dX3_addReach_66 : decode cX3_addReach 66 = .ok (.iconst 0, 1) := by decide +kernel
theorem dX3_addReach_67 : decode cX3_addReach 67 = .ok (.iastore, 1) := by decide +kernel
theorem dX3_addReach_68 : decode cX3_addReach 68 = .ok (.aload_n 0, 1) := by decide +kernel
theorem dX3_addReach_69 : decode cX3_addReach 69 = .ok (.getfield 39, 3) := by decide +kernel
theorem dX3_addReach_72 : decode cX3_addReach 72 = .ok (.getfield 58, 3) := by decide +kernel
theorem dX3_addReach_75 : decode cX3_addReach 75 = .ok (.iload 4, 2) := by decide +kernel
theorem dX3_addReach_77 : decode cX3_addReach 77 = .ok (.iconst 1, 1) := by decide +kernel
theorem dX3_addReach_78 : decode cX3_addReach 78 = .ok (.iastore, 1) := by decide +kernel
theorem dX3_addReach_79 : decode cX3_addReach 79 = .ok (.aload_n 0, 1) := by decide +kernel
theorem dX3_addReach_80 : decode cX3_addReach 80 = .ok (.iload 4, 2) := by decide +kernel
theorem dX3_addReach_82 : decode cX3_addReach 82 = .ok (.iconst 1, 1) := by decide +kernel
theorem dX3_addReach_83 : decode cX3_addReach 83 = .ok (.iadd, 1) := by decide +kernel
theorem dX3_addReach_84 : decode cX3_addReach 84 = .ok (.putfield 9, 3) := by decide +kernel
theorem dX3_addReach_87 : decode cX3_addReach 87 = .ok (.return_, 1) := by decide +kernel
set_option maxRecDepth 20000 in
theorem ggX3_becomes_X10_copyRow : GoodIn wsX3_becomes wsX10_copyRow := goodIn_r _ [11, 12, 13, 14, 15, 16, 17, 18, 19] (by decide +kernel) (by decide +kernel)
set_option maxRecDepth 20000 in
theorem gX3_becomes_X10_copyRow_n61 : GoodIn wsX3_becomes (wsX10_copyRow) := ggX3_becomes_X10_copyRow
set_option maxRecDepth 20000 in
theorem ggX3_becomes_X8_becomes : GoodIn wsX3_becomes wsX8_becomes := goodIn_r _ [24, 25, 26, 27, 28, 9, 10, 11, 12, 13, 14, 15, 16, 17, 18, 19, 37, 38, 39, 40, 41, 42, 43] (by decide +kernel) (by decide +kernel)
set_option maxRecDepth 20000 in
theorem gX3_becomes_X8_becomes : GoodIn wsX3_becomes (wsV RX3 65 RX8 yX8_becomes wsX8_becomes) := goodIn_app (goodIn_of _ (by decide +kernel)) ggX3_becomes_X8_becomes
theorem dX3_becomes_0 : decode cX3_becomes 0 = .ok (.aload_n 0, 1) := by decide +kernel
theorem dX3_becomes_1 : decode cX3_becomes 1 = .ok (.aload_n 1, 1) := by decide +kernel
theorem dX3_becomes_2 : decode cX3_becomes 2 = .ok (.getfield 9, 3) := by decide +kernel
theorem dX3_becomes_5 : decode cX3_becomes 5 = .ok (.putfield 9, 3) := by decide +kernel
theorem dX3_becomes_8 : decode cX3_becomes 8 = .ok (.aload_n 0, 1) := by decide +kernel
theorem dX3_becomes_9 : decode cX3_becomes 9 = .ok (.aload_n 1, 1) := by decide +kernel
theorem dX3_becomes_10 : decode cX3_becomes 10 = .ok (.getfield 15, 3) := by decide +kernel
theorem dX3_becomes_13 : decode cX3_becomes 13 = .ok (.putfield 15, 3) := by decide +kernel
theorem dX3_becomes_16 : decode cX3_becomes 16 = .ok (.aload_n 0, 1) := by decide +kernel
theorem dX3_becomes_17 : decode cX3_becomes 17 = .ok (.aload_n 1, 1) := by decide +kernel
theorem dX3_becomes_18 : decode cX3_becomes 18 = .ok (.getfield 18, 3) := by decide +kernel
theorem dX3_becomes_21 : decode cX3_becomes 21 = .ok (.putfield 18, 3) := by decide +kernel
theorem dX3_becomes_24 : decode cX3_becomes 24 = .ok (.aload_n 0, 1) := by decide +kernel
theorem dX3_becomes_25 : decode cX3_becomes 25 = .ok (.aload_n 1, 1) := by decide +kernel
theorem dX3_becomes_26 : decode cX3_becomes 26 = .ok (.getfield 21, 3) := by decide +kernel
theorem dX3_becomes_29 : decode cX3_becomes 29 = .ok (.putfield 21, 3) := by decide +kernel
theorem dX3_becomes_32 : decode cX3_becomes 32 = .ok (.aload_n 1, 1) := by decide +kernel
theorem dX3_becomes_33 : decode cX3_becomes 33 = .ok (.getfield 24, 3) := by decide +kernel
theorem dX3_becomes_36 : decode cX3_becomes 36 = .ok (.aload_n 0, 1) := by decide +kernel
theorem dX3_becomes_37 : decode cX3_becomes 37 = .ok (.getfield 24, 3) := by decide +kernel
theorem dX3_becomes_40 : decode cX3_becomes 40 = .ok (.invokestatic 61, 3) := by decide +kernel
theorem dX3_becomes_43 : decode cX3_becomes 43 = .ok (.aload_n 1, 1) := by decide +kernel
theorem dX3_becomes_44 : decode cX3_becomes 44 = .ok (.getfield 28, 3) := by decide +kernel
theorem dX3_becomes_47 : decode cX3_becomes 47 = .ok (.aload_n 0, 1) := by decide +kernel
theorem dX3_becomes_48 : decode cX3_becomes 48 = .ok (.getfield 28, 3) := by decide +kernel
theorem dX3_becomes_51 : decode cX3_becomes 51 = .ok (.invokestatic 61, 3) := by decide +kernel
theorem dX3_becomes_54 : decode cX3_becomes 54 = .ok (.aload_n 1, 1) := by decide +kernel
theorem dX3_becomes_55 : decode cX3_becomes 55 = .ok (.getfield 31, 3) := by decide +kernel
theorem dX3_becomes_58 : decode cX3_becomes 58 = .ok (.aload_n 0, 1) := by decide +kernel
theorem dX3_becomes_59 : decode cX3_becomes 59 = .ok (.getfield 31, 3) := by decide +kernel
theorem dX3_becomes_62 : decode cX3_becomes 62 = .ok (.invokestatic 61, 3) := by decide +kernel
theorem dX3_becomes_65 : decode cX3_becomes 65 = .ok (.aload_n 0, 1) := by decide +kernel
theorem dX3_becomes_66 : decode cX3_becomes 66 = .ok (.getfield 39, 3) := by decide +kernel
theorem dX3_becomes_69 : decode cX3_becomes 69 = .ok (.aload_n 1, 1) := by decide +kernel
theorem dX3_becomes_70 : decode cX3_becomes 70 = .ok (.getfield 39, 3) := by decide +kernel
theorem dX3_becomes_73 : decode cX3_becomes 73 = .ok (.invokevirtual 65, 3) := by decide +kernel
theorem dX3_becomes_76 : decode cX3_becomes 76 = .ok (.return_, 1) := by decide +kernel
set_option maxRecDepth 20000 in
theorem ggX4_init_X2_init : GoodIn wsX4_init wsX2_init := goodIn_r _ [7, 8, 9, 10, 11, 12, 13, 14, 15, 54, 55, 56, 57, 58, 59, 60, 61, 62, 63, 49, 50, 51, 52, 53] (by decide +kernel) (by decide +kernel)
set_option maxRecDepth 20000 in
theorem gX4_init_X2_init_n3 : GoodIn wsX4_init (wsX2_init) := ggX4_init_X2_init
set_option maxRecDepth 20000 in
theorem ggX4_init_X3_init : GoodIn wsX4_init wsX3_init := goodIn_r _ [17, 18, 9, 10, 19, 20, 21, 22, 11, 23, 24, 25, 26, 27, 28, 29, 30, 31, 32, 33, 34, 35, 36, 37, 38, 39, 40, 41, 42, 43, 44, 45, 46, 47, 48, 64, 65, 66, 67, 68, 69, 70] (by decide +kernel) (by decide +kernel)
set_option maxRecDepth 20000 in
theorem gX4_init_X3_init_n11 : GoodIn wsX4_init (wsX3_init) := ggX4_init_X3_init
theorem dX4_init_0 : decode cX4_init 0 = .ok (.aload_n 0, 1) := by decide +kernel
theorem dX4_init_1 : decode cX4_init 1 = .ok (.invokespecial 3, 3) := by decide +kernel
theorem dX4_init_4 : decode cX4_init 4 = .ok (.aload_n 0, 1) := by decide +kernel
theorem dX4_init_5 : decode cX4_init 5 = .ok (.new 9, 3) := by decide +kernel
theorem dX4_init_8 : decode cX4_init 8 = .ok (.dup, 1) := by decide +kernel
theorem dX4_init_9 : decode cX4_init 9 = .ok (.invokespecial 11, 3) := by decide +kernel
theorem dX4_init_12 : decode cX4_init 12 = .ok (.putfield 12, 3) := by decide +kernel
theorem dX4_init_15 : decode cX4_init 15 = .ok (.return_, 1) := by decide +kernel
set_option maxRecDepth 20000 in
theorem ggX4_reads_X2_begin : GoodIn wsX4_reads wsX2_begin := goodIn_r _ [8, 9, 10, 11, 12, 13, 14, 15, 16, 17, 18, 19, 20, 21, 22, 23, 24, 25, 26, 27, 28, 29, 184, 185, 186, 187, 188, 189, 190, 191, 192, 193, 194, 195, 196, 197, 198, 199, 200, 171, 172, 173, 174, 175] (by decide +kernel) (by decide +kernel)
set_option maxRecDepth 20000 in
theorem gX4_reads_X2_begin_u18X4 : GoodIn wsX4_reads (va_wsU RX4 18 RX4 "SluiceCards$Reader" ⟨"SluiceCards$RiverReader", "begin", "(LSluiceCards$World;)V"⟩ yX2_begin wsX2_begin) := goodIn_app (goodIn_of _ (by decide +kernel)) ggX4_reads_X2_begin
set_option maxRecDepth 20000 in
theorem ggX4_reads_X3_clear : GoodIn wsX4_reads wsX3_clear := goodIn_r _ [34, 35, 36, 37, 38, 39, 40, 176, 177, 178, 179, 180, 181, 182, 183, 201, 202, 203, 204, 205, 206, 207] (by decide +kernel) (by decide +kernel)
set_option maxRecDepth 20000 in
theorem gX4_reads_X3_clear : GoodIn wsX4_reads (wsV RX4 22 RX3 yX3_clear wsX3_clear) := goodIn_app (goodIn_of _ (by decide +kernel)) ggX4_reads_X3_clear
set_option maxRecDepth 20000 in
theorem ggX4_reads_X4_readClause : GoodIn wsX4_reads wsX4_readClause := goodIn_r _ [45, 1, 2, 46, 47, 48, 49, 50, 7, 51, 21, 20, 19, 10, 52, 53, 54, 44, 55, 56, 57, 58, 59, 60, 61, 62, 63, 64, 65, 66, 67, 68, 69, 70, 71, 72, 73, 74, 75, 76, 77, 78, 79, 80, 81, 82, 83, 84, 85, 86, 87, 88, 89, 90, 91, 92, 93, 94, 95, 96, 97, 98, 99, 100, 101, 102, 103, 104, 105, 106, 107, 108, 109, 110, 111, 112, 113, 114, 115, 116, 117, 118, 119, 120, 121, 122, 123, 124, 125, 126, 127, 128, 129, 130, 131, 132, 133, 134, 135, 136, 137, 138, 33, 139, 35, 140, 141, 142, 39, 143, 144, 13, 14, 15, 145, 146, 147, 148, 149, 150, 151, 152, 153, 154, 155, 17, 18, 156, 157, 158, 159, 160, 171, 172, 173, 174, 175, 176, 177, 178, 179, 180, 181, 182, 183, 191, 192, 193, 194, 195, 196, 197, 198, 199, 200, 201, 202, 203, 204, 205, 206, 207] (by decide +kernel) (by decide +kernel)
set_option maxRecDepth 20000 in
theorem gX4_reads_X4_readClause : GoodIn wsX4_reads (wsV RX4 25 RX4 yX4_readClause wsX4_readClause) := goodIn_app (goodIn_of _ (by decide +kernel)) ggX4_reads_X4_readClause
set_option maxRecDepth 20000 in
theorem ggX4_reads_X2_takes : GoodIn wsX4_reads wsX2_takes := goodIn_r _ [114, 20, 115, 116, 117, 50, 7, 51, 21, 19, 10, 118, 191, 192, 193, 194, 195, 196, 197, 198, 199, 200, 171, 172, 173, 174, 175] (by decide +kernel) (by decide +kernel)
set_option maxRecDepth 20000 in
theorem gX4_reads_X2_takes_u28X4 : GoodIn wsX4_reads (va_wsU RX4 28 RX4 "SluiceCards$Reader" ⟨"SluiceCards$RiverReader", "takes", "(C)Z"⟩ yX2_takes wsX2_takes) := goodIn_app (goodIn_of _ (by decide +kernel)) ggX4_reads_X2_takes
set_option maxRecDepth 20000 in
theorem ggX4_reads_X2_needsEnd : GoodIn wsX4_reads wsX2_needsEnd := goodIn_r _ [165, 20, 19, 120, 121, 122, 123, 7, 124, 21, 125, 191, 192, 193, 194, 195, 196, 197, 198, 199, 200, 171, 172, 173, 174, 175] (by decide +kernel) (by decide +kernel)
set_option maxRecDepth 20000 in
theorem gX4_reads_X2_needsEnd_u32X4 : GoodIn wsX4_reads (va_wsU RX4 32 RX4 "SluiceCards$Reader" ⟨"SluiceCards$RiverReader", "needsEnd", "()V"⟩ yX2_needsEnd wsX2_needsEnd) := goodIn_app (goodIn_of _ (by decide +kernel)) ggX4_reads_X2_needsEnd
set_option maxRecDepth 20000 in
theorem ggX4_reads_X2_fail : GoodIn wsX4_reads wsX2_fail := goodIn_r _ [124, 21, 20, 191, 192, 193, 194, 195, 196, 197, 198, 199, 200, 171, 172, 173, 174, 175] (by decide +kernel) (by decide +kernel)
set_option maxRecDepth 20000 in
theorem gX4_reads_X2_fail_u39X4 : GoodIn wsX4_reads (va_wsU RX4 39 RX4 "SluiceCards$Reader" ⟨"SluiceCards$RiverReader", "fail", "()V"⟩ yX2_fail wsX2_fail) := goodIn_app (goodIn_of _ (by decide +kernel)) ggX4_reads_X2_fail
set_option maxRecDepth 20000 in
theorem ggX4_reads_X2_faultPlace : GoodIn wsX4_reads wsX2_faultPlace := goodIn_r _ [170, 21, 191, 192, 193, 194, 195, 196, 197, 198, 199, 200, 171, 172, 173, 174, 175] (by decide +kernel) (by decide +kernel)
set_option maxRecDepth 20000 in
theorem gX4_reads_X2_faultPlace_u42X4 : GoodIn wsX4_reads (va_wsU RX4 42 RX4 "SluiceCards$Reader" ⟨"SluiceCards$RiverReader", "faultPlace", "()I"⟩ yX2_faultPlace wsX2_faultPlace) := goodIn_app (goodIn_of _ (by decide +kernel)) ggX4_reads_X2_faultPlace
theorem dX4_reads_0 : decode cX4_reads 0 = .ok (.aload_n 0, 1) := by decide +kernel
theorem dX4_reads_1 : decode cX4_reads 1 = .ok (.aload_n 1, 1) := by decide +kernel
theorem dX4_reads_2 : decode cX4_reads 2 = .ok (.invokevirtual 18, 3) := by decide +kernel
theorem dX4_reads_5 : decode cX4_reads 5 = .ok (.aload_n 0, 1) := by decide +kernel
theorem dX4_reads_6 : decode cX4_reads 6 = .ok (.getfield 12, 3) := by decide +kernel
theorem dX4_reads_9 : decode cX4_reads 9 = .ok (.invokevirtual 22, 3) := by decide +kernel
theorem dX4_reads_12 : decode cX4_reads 12 = .ok (.iconst 1, 1) := by decide +kernel
theorem dX4_reads_13 : decode cX4_reads 13 = .ok (.istore_n 2, 1) := by decide +kernel
theorem dX4_reads_14 : decode cX4_reads 14 = .ok (.iconst 1, 1) := by decide +kernel
theorem dX4_reads_15 : decode cX4_reads 15 = .ok (.istore_n 3, 1) := by decide +kernel
theorem dX4_reads_16 : decode cX4_reads 16 = .ok (.iload_n 3, 1) := by decide +kernel
theorem dX4_reads_17 : decode cX4_reads 17 = .ok (.bipush 12, 2) := by decide +kernel
theorem dX4_reads_19 : decode cX4_reads 19 = .ok (.if_icmp .gt 38, 3) := by decide +kernel
theorem dX4_reads_22 : decode cX4_reads 22 = .ok (.iload_n 2, 1) := by decide +kernel
theorem dX4_reads_23 : decode cX4_reads 23 = .ok (.ifCond .eq 34, 3) := by decide +kernel
theorem dX4_reads_26 : decode cX4_reads 26 = .ok (.aload_n 0, 1) := by decide +kernel
theorem dX4_reads_27 : decode cX4_reads 27 = .ok (.invokevirtual 25, 3) := by decide +kernel
theorem dX4_reads_30 : decode cX4_reads 30 = .ok (.iload_n 3, 1) := by decide +kernel
theorem dX4_reads_31 : decode cX4_reads 31 = .ok (.bipush 12, 2) := by decide +kernel
theorem dX4_reads_33 : decode cX4_reads 33 = .ok (.if_icmp .ge 16, 3) := by decide +kernel
theorem dX4_reads_36 : decode cX4_reads 36 = .ok (.aload_n 0, 1) := by decide +kernel
theorem dX4_reads_37 : decode cX4_reads 37 = .ok (.bipush 59, 2) := by decide +kernel
theorem dX4_reads_39 : decode cX4_reads 39 = .ok (.invokevirtual 28, 3) := by decide +kernel
theorem dX4_reads_42 : decode cX4_reads 42 = .ok (.ifCond .eq 7, 3) := by decide +kernel
theorem dX4_reads_45 : decode cX4_reads 45 = .ok (.iconst 1, 1) := by decide +kernel
theorem dX4_reads_46 : decode cX4_reads 46 = .ok (.goto 4, 3) := by decide +kernel
theorem dX4_reads_49 : decode cX4_reads 49 = .ok (.iconst 0, 1) := by decide +kernel
theorem dX4_reads_50 : decode cX4_reads 50 = .ok (.istore_n 2, 1) := by decide +kernel
theorem dX4_reads_51 : decode cX4_reads 51 = .ok (.iinc 3 1, 3) := by decide +kernel
theorem dX4_reads_54 : decode cX4_reads 54 = .ok (.goto (-38), 3) := by decide +kernel
theorem dX4_reads_57 : decode cX4_reads 57 = .ok (.aload_n 0, 1) := by decide +kernel
theorem dX4_reads_58 : decode cX4_reads 58 = .ok (.invokevirtual 32, 3) := by decide +kernel
theorem dX4_reads_61 : decode cX4_reads 61 = .ok (.aload_n 0, 1) := by decide +kernel
theorem dX4_reads_62 : decode cX4_reads 62 = .ok (.getfield 12, 3) := by decide +kernel
theorem dX4_reads_65 : decode cX4_reads 65 = .ok (.getfield 35, 3) := by decide +kernel
theorem dX4_reads_68 : decode cX4_reads 68 = .ok (.ifCond .ne 7, 3) := by decide +kernel
theorem dX4_reads_71 : decode cX4_reads 71 = .ok (.aload_n 0, 1) := by decide +kernel
theorem dX4_reads_72 : decode cX4_reads 72 = .ok (.invokevirtual 39, 3) := by decide +kernel
theorem dX4_reads_75 : decode cX4_reads 75 = .ok (.aload_n 0, 1) := by decide +kernel
theorem dX4_reads_76 : decode cX4_reads 76 = .ok (.invokevirtual 42, 3) := by decide +kernel
theorem dX4_reads_79 : decode cX4_reads 79 = .ok (.ireturn, 1) := by decide +kernel
set_option maxRecDepth 20000 in
theorem ggX4_readClause_X2_next : GoodIn wsX4_readClause wsX2_next := goodIn_r _ [9, 10, 11, 12, 13, 145, 146, 147, 148, 149, 150, 151, 152, 153, 154, 132, 133, 134, 135, 136] (by decide +kernel) (by decide +kernel)
set_option maxRecDepth 20000 in
theorem gX4_readClause_X2_next_u46X4 : GoodIn wsX4_readClause (va_wsU RX4 46 RX4 "SluiceCards$Reader" ⟨"SluiceCards$RiverReader", "next", "()I"⟩ yX2_next wsX2_next) := goodIn_app (goodIn_of _ (by decide +kernel)) ggX4_readClause_X2_next
set_option maxRecDepth 20000 in
theorem ggX4_readClause_X4_readReach : GoodIn wsX4_readClause wsX4_readReach := goodIn_r _ [18, 1, 19, 20, 21, 22, 8, 23, 24, 25, 26, 27, 28, 29, 30, 31, 32, 33, 34, 35, 36, 37, 38, 39, 40, 41, 42, 43, 44, 45, 46, 47, 48, 49, 50, 51, 52, 53, 54, 55, 56, 57, 58, 59, 60, 61, 62, 63, 64, 65, 66, 67, 68, 69, 70, 71, 72, 73, 74, 75, 76, 77, 11, 78, 79, 80, 7, 9, 10, 12, 13, 81, 82, 83, 84, 85, 86, 87, 88, 89, 90, 91, 92, 93, 94, 95, 96, 97, 98, 99, 100, 101, 102, 103, 104, 105, 106, 107, 108, 109, 110, 111, 112, 113, 114, 115, 132, 133, 134, 135, 136, 145, 146, 147, 148, 149, 150, 151, 152, 153, 154, 137, 138, 139, 140, 141, 142, 143, 144, 155, 156, 157, 158, 159, 160, 161] (by decide +kernel) (by decide +kernel)
set_option maxRecDepth 20000 in
theorem gX4_readClause_X4_readReach : GoodIn wsX4_readClause (wsV RX4 49 RX4 yX4_readReach wsX4_readReach) := goodIn_app (goodIn_of _ (by decide +kernel)) ggX4_readClause_X4_readReach
set_option maxRecDepth 20000 in
theorem ggX4_readClause_X2_takes : GoodIn wsX4_readClause wsX2_takes := goodIn_r _ [77, 11, 78, 79, 80, 7, 8, 9, 10, 12, 13, 81, 145, 146, 147, 148, 149, 150, 151, 152, 153, 154, 132, 133, 134, 135, 136] (by decide +kernel) (by decide +kernel)
set_option maxRecDepth 20000 in
theorem gX4_readClause_X2_takes_u28X4 : GoodIn wsX4_readClause (va_wsU RX4 28 RX4 "SluiceCards$Reader" ⟨"SluiceCards$RiverReader", "takes", "(C)Z"⟩ yX2_takes wsX2_takes) := goodIn_app (goodIn_of _ (by decide +kernel)) ggX4_readClause_X2_takes
set_option maxRecDepth 20000 in
theorem ggX4_readClause_X2_needsAll : GoodIn wsX4_readClause wsX2_needsAll := goodIn_r _ [23, 24, 25, 26, 27, 28, 29, 30, 31, 32, 33, 34, 35, 36, 37, 38, 39, 40, 41, 42, 43, 44, 45, 46, 47, 48, 49, 50, 51, 52, 53, 54, 55, 56, 57, 58, 59, 60, 61, 62, 63, 64, 65, 66, 67, 68, 69, 70, 71, 72, 73, 74, 75, 76, 8, 77, 11, 78, 79, 80, 7, 9, 10, 12, 13, 81, 82, 83, 84, 85, 86, 87, 88, 145, 146, 147, 148, 149, 150, 151, 152, 153, 154, 132, 133, 134, 135, 136] (by decide +kernel) (by decide +kernel)
set_option maxRecDepth 20000 in
theorem gX4_readClause_X2_needsAll_u54X4 : GoodIn wsX4_readClause (va_wsU RX4 54 RX4 "SluiceCards$Reader" ⟨"SluiceCards$RiverReader", "needsAll", "(Ljava/lang/String;)V"⟩ yX2_needsAll wsX2_needsAll) := goodIn_app (goodIn_of _ (by decide +kernel)) ggX4_readClause_X2_needsAll
set_option maxRecDepth 20000 in
theorem ggX4_readClause_X2_digit : GoodIn wsX4_readClause wsX2_digit := goodIn_r _ [93, 11, 78, 79, 80, 7, 8, 9, 10, 12, 13, 81, 83, 84, 85, 86, 87, 88, 145, 146, 147, 148, 149, 150, 151, 152, 153, 154, 132, 133, 134, 135, 136] (by decide +kernel) (by decide +kernel)
set_option maxRecDepth 20000 in
theorem gX4_readClause_X2_digit_u58X4 : GoodIn wsX4_readClause (va_wsU RX4 58 RX4 "SluiceCards$Reader" ⟨"SluiceCards$RiverReader", "digit", "(II)I"⟩ yX2_digit wsX2_digit) := goodIn_app (goodIn_of _ (by decide +kernel)) ggX4_readClause_X2_digit
set_option maxRecDepth 20000 in
theorem ggX4_readClause_X4_readSpanOrSum : GoodIn wsX4_readClause wsX4_readSpanOrSum := goodIn_r _ [122, 1, 123, 111, 112, 113, 124, 125, 126, 127, 128, 116, 117, 118, 76, 8, 77, 11, 78, 79, 80, 7, 9, 10, 12, 13, 81, 19, 20, 21, 22, 23, 24, 25, 26, 27, 28, 29, 30, 31, 32, 33, 34, 35, 36, 37, 38, 39, 40, 41, 42, 43, 44, 45, 46, 47, 48, 49, 50, 51, 52, 53, 54, 55, 56, 57, 58, 59, 60, 61, 62, 63, 64, 65, 66, 67, 68, 69, 70, 71, 72, 73, 74, 75, 82, 83, 84, 85, 86, 87, 88, 89, 90, 91, 92, 93, 132, 133, 134, 135, 136, 137, 138, 139, 140, 141, 142, 143, 144, 145, 146, 147, 148, 149, 150, 151, 152, 153, 154] (by decide +kernel) (by decide +kernel)
set_option maxRecDepth 20000 in
theorem gX4_readClause_X4_readSpanOrSum : GoodIn wsX4_readClause (wsV RX4 65 RX4 yX4_readSpanOrSum wsX4_readSpanOrSum) := goodIn_app (goodIn_of _ (by decide +kernel)) ggX4_readClause_X4_readSpanOrSum
set_option maxRecDepth 20000 in
theorem ggX4_readClause_X2_fail : GoodIn wsX4_readClause wsX2_fail := goodIn_r _ [87, 10, 11, 145, 146, 147, 148, 149, 150, 151, 152, 153, 154, 132, 133, 134, 135, 136] (by decide +kernel) (by decide +kernel)
set_option maxRecDepth 20000 in
theorem gX4_readClause_X2_fail_u39X4 : GoodIn wsX4_readClause (va_wsU RX4 39 RX4 "SluiceCards$Reader" ⟨"SluiceCards$RiverReader", "fail", "()V"⟩ yX2_fail wsX2_fail) := goodIn_app (goodIn_of _ (by decide +kernel)) ggX4_readClause_X2_fail
theorem dX4_readClause_0 : decode cX4_readClause 0 = .ok (.aload_n 0, 1) := by decide +kernel
theorem dX4_readClause_1 : decode cX4_readClause 1 = .ok (.invokevirtual 46, 3) := by decide +kernel
theorem dX4_readClause_4 : decode cX4_readClause 4 = .ok (.bipush 114, 2) := by decide +kernel
theorem dX4_readClause_6 : decode cX4_readClause 6 = .ok (.if_icmp .ne 21, 3) := by decide +kernel
theorem dX4_readClause_9 : decode cX4_readClause 9 = .ok (.aload_n 0, 1) := by decide +kernel
theorem dX4_readClause_10 : decode cX4_readClause 10 = .ok (.getfield 12, 3) := by decide +kernel
theorem dX4_readClause_13 : decode cX4_readClause 13 = .ok (.getfield 35, 3) := by decide +kernel
theorem dX4_readClause_16 : decode cX4_readClause 16 = .ok (.iconst 3, 1) := by decide +kernel
theorem dX4_readClause_17 : decode cX4_readClause 17 = .ok (.if_icmp .ge 10, 3) := by decide +kernel
theorem dX4_readClause_20 : decode cX4_readClause 20 = .ok (.aload_n 0, 1) := by decide +kernel
theorem dX4_readClause_21 : decode cX4_readClause 21 = .ok (.invokevirtual 49, 3) := by decide +kernel
theorem dX4_readClause_24 : decode cX4_readClause 24 = .ok (.goto 55, 3) := by decide +kernel
theorem dX4_readClause_27 : decode cX4_readClause 27 = .ok (.aload_n 0, 1) := by decide +kernel
theorem dX4_readClause_28 : decode cX4_readClause 28 = .ok (.bipush 111, 2) := by decide +kernel
theorem dX4_readClause_30 : decode cX4_readClause 30 = .ok (.invokevirtual 28, 3) := by decide +kernel
theorem dX4_readClause_33 : decode cX4_readClause 33 = .ok (.ifCond .eq 26, 3) := by decide +kernel
theorem dX4_readClause_36 : decode cX4_readClause 36 = .ok (.aload_n 0, 1) := by decide +kernel
theorem dX4_readClause_37 : decode cX4_readClause 37 = .ok (.ldc 52, 2) := by decide +kernel
theorem dX4_readClause_39 : decode cX4_readClause 39 = .ok (.invokevirtual 54, 3) := by decide +kernel
theorem dX4_readClause_42 : decode cX4_readClause 42 = .ok (.aload_n 0, 1) := by decide +kernel
theorem dX4_readClause_43 : decode cX4_readClause 43 = .ok (.getfield 12, 3) := by decide +kernel
theorem dX4_readClause_46 : decode cX4_readClause 46 = .ok (.aload_n 0, 1) := by decide +kernel
theorem dX4_readClause_47 : decode cX4_readClause 47 = .ok (.iconst 0, 1) := by decide +kernel
theorem dX4_readClause_48 : decode cX4_readClause 48 = .ok (.bipush 9, 2) := by decide +kernel
theorem dX4_readClause_50 : decode cX4_readClause 50 = .ok (.invokevirtual 58, 3) := by decide +kernel
theorem dX4_readClause_53 : decode cX4_readClause 53 = .ok (.putfield 62, 3) := by decide +kernel
theorem dX4_readClause_56 : decode cX4_readClause 56 = .ok (.goto 23, 3) := by decide +kernel
theorem dX4_readClause_59 : decode cX4_readClause 59 = .ok (.aload_n 0, 1) := by decide +kernel
theorem dX4_readClause_60 : decode cX4_readClause 60 = .ok (.bipush 115, 2) := by decide +kernel
theorem dX4_readClause_62 : decode cX4_readClause 62 = .ok (.invokevirtual 28, 3) := by decide +kernel
theorem dX4_readClause_65 : decode cX4_readClause 65 = .ok (.ifCond .eq 10, 3) := by decide +kernel
theorem dX4_readClause_68 : decode cX4_readClause 68 = .ok (.aload_n 0, 1) := by decide +kernel
theorem dX4_readClause_69 : decode cX4_readClause 69 = .ok (.invokevirtual 65, 3) := by decide +kernel
theorem dX4_readClause_72 : decode cX4_readClause 72 = .ok (.goto 7, 3) := by decide +kernel
theorem dX4_readClause_75 : decode cX4_readClause 75 = .ok (.aload_n 0, 1) := by decide +kernel
theorem dX4_readClause_76 : decode cX4_readClause 76 = .ok (.invokevirtual 39, 3) := by decide +kernel
theorem dX4_readClause_79 : decode cX4_readClause 79 = .ok (.return_, 1) := by decide +kernel
set_option maxRecDepth 20000 in
theorem ggX4_readReach_X2_needsAll : GoodIn wsX4_readReach wsX2_needsAll := goodIn_r _ [7, 8, 9, 10, 11, 12, 13, 14, 15, 16, 17, 18, 19, 20, 21, 22, 23, 24, 25, 26, 27, 28, 29, 30, 31, 32, 33, 34, 35, 36, 37, 38, 39, 40, 41, 42, 43, 44, 45, 46, 47, 48, 49, 50, 51, 52, 53, 54, 55, 56, 57, 58, 59, 60, 6, 61, 62, 63, 64, 65, 66, 67, 68, 69, 70, 71, 72, 73, 74, 75, 76, 77, 78, 111, 112, 113, 114, 115, 116, 117, 118, 119, 120, 106, 107, 108, 109, 110] (by decide +kernel) (by decide +kernel)
set_option maxRecDepth 20000 in
theorem gX4_readReach_X2_needsAll_u54X4 : GoodIn wsX4_readReach (va_wsU RX4 54 RX4 "SluiceCards$Reader" ⟨"SluiceCards$RiverReader", "needsAll", "(Ljava/lang/String;)V"⟩ yX2_needsAll wsX2_needsAll) := goodIn_app (goodIn_of _ (by decide +kernel)) ggX4_readReach_X2_needsAll
set_option maxRecDepth 20000 in
theorem ggX4_readReach_X2_digit : GoodIn wsX4_readReach wsX2_digit := goodIn_r _ [83, 62, 63, 64, 65, 66, 6, 67, 68, 69, 70, 71, 73, 74, 75, 76, 77, 78, 111, 112, 113, 114, 115, 116, 117, 118, 119, 120, 106, 107, 108, 109, 110] (by decide +kernel) (by decide +kernel)
set_option maxRecDepth 20000 in
theorem gX4_readReach_X2_digit_u58X4 : GoodIn wsX4_readReach (va_wsU RX4 58 RX4 "SluiceCards$Reader" ⟨"SluiceCards$RiverReader", "digit", "(II)I"⟩ yX2_digit wsX2_digit) := goodIn_app (goodIn_of _ (by decide +kernel)) ggX4_readReach_X2_digit
set_option maxRecDepth 20000 in
theorem ggX4_readReach_X2_needs : GoodIn wsX4_readReach wsX2_needs := goodIn_r _ [88, 57, 58, 59, 60, 6, 61, 62, 63, 64, 65, 66, 67, 68, 69, 70, 71, 72, 73, 74, 75, 76, 77, 78, 111, 112, 113, 114, 115, 116, 117, 118, 119, 120, 106, 107, 108, 109, 110] (by decide +kernel) (by decide +kernel)
set_option maxRecDepth 20000 in
theorem gX4_readReach_X2_needs_u70X4 : GoodIn wsX4_readReach (va_wsU RX4 70 RX4 "SluiceCards$Reader" ⟨"SluiceCards$RiverReader", "needs", "(C)V"⟩ yX2_needs wsX2_needs) := goodIn_app (goodIn_of _ (by decide +kernel)) ggX4_readReach_X2_needs
set_option maxRecDepth 20000 in
theorem ggX4_readReach_X3_addReach : GoodIn wsX4_readReach wsX3_addReach := goodIn_r _ [93, 94, 95, 96, 97, 98, 99, 100, 101, 102, 103, 104, 105, 121, 122, 123, 124, 125, 126, 127, 128, 129, 130, 131, 132, 133, 134, 135] (by decide +kernel) (by decide +kernel)
set_option maxRecDepth 20000 in
theorem gX4_readReach_X3_addReach : GoodIn wsX4_readReach (wsV RX4 74 RX3 yX3_addReach wsX3_addReach) := goodIn_app (goodIn_of _ (by decide +kernel)) ggX4_readReach_X3_addReach
theorem dX4_readReach_0 : decode cX4_readReach 0 = .ok (.aload_n 0, 1) := by decide +kernel
theorem dX4_readReach_1 : decode cX4_readReach 1 = .ok (.ldc 68, 2) := by decide +kernel
theorem dX4_readReach_3 : decode cX4_readReach 3 = .ok (.invokevirtual 54, 3) := by decide +kernel
theorem dX4_readReach_6 : decode cX4_readReach 6 = .ok (.aload_n 0, 1) := by decide +kernel
theorem dX4_readReach_7 : decode cX4_readReach 7 = .ok (.iconst 1, 1) := by decide +kernel
theorem dX4_readReach_8 : decode cX4_readReach 8 = .ok (.bipush 9, 2) := by decide +kernel
theorem dX4_readReach_10 : decode cX4_readReach 10 = .ok (.invokevirtual 58, 3) := by decide +kernel
theorem dX4_readReach_13 : decode cX4_readReach 13 = .ok (.istore_n 1, 1) := by decide +kernel
theorem dX4_readReach_14 : decode cX4_readReach 14 = .ok (.aload_n 0, 1) := by decide +kernel
theorem dX4_readReach_15 : decode cX4_readReach 15 = .ok (.bipush 32, 2) := by decide +kernel
theorem dX4_readReach_17 : decode cX4_readReach 17 = .ok (.invokevirtual 70, 3) := by decide +kernel
theorem dX4_readReach_20 : decode cX4_readReach 20 = .ok (.aload_n 0, 1) := by decide +kernel
theorem dX4_readReach_21 : decode cX4_readReach 21 = .ok (.iconst 0, 1) := by decide +kernel
theorem dX4_readReach_22 : decode cX4_readReach 22 = .ok (.bipush 9, 2) := by decide +kernel
theorem dX4_readReach_24 : decode cX4_readReach 24 = .ok (.invokevirtual 58, 3) := by decide +kernel
theorem dX4_readReach_27 : decode cX4_readReach 27 = .ok (.istore_n 2, 1) := by decide +kernel
theorem dX4_readReach_28 : decode cX4_readReach 28 = .ok (.aload_n 0, 1) := by decide +kernel
theorem dX4_readReach_29 : decode cX4_readReach 29 = .ok (.bipush 32, 2) := by decide +kernel
theorem dX4_readReach_31 : decode cX4_readReach 31 = .ok (.invokevirtual 70, 3) := by decide +kernel
theorem dX4_readReach_34 : decode cX4_readReach 34 = .ok (.aload_n 0, 1) := by decide +kernel
theorem dX4_readReach_35 : decode cX4_readReach 35 = .ok (.iconst 0, 1) := by decide +kernel
theorem dX4_readReach_36 : decode cX4_readReach 36 = .ok (.bipush 9, 2) := by decide +kernel
theorem dX4_readReach_38 : decode cX4_readReach 38 = .ok (.invokevirtual 58, 3) := by decide +kernel
theorem dX4_readReach_41 : decode cX4_readReach 41 = .ok (.istore_n 3, 1) := by decide +kernel
theorem dX4_readReach_42 : decode cX4_readReach 42 = .ok (.aload_n 0, 1) := by decide +kernel
theorem dX4_readReach_43 : decode cX4_readReach 43 = .ok (.getfield 12, 3) := by decide +kernel
theorem dX4_readReach_46 : decode cX4_readReach 46 = .ok (.iload_n 1, 1) := by decide +kernel
theorem dX4_readReach_47 : decode cX4_readReach 47 = .ok (.iload_n 2, 1) := by decide +kernel
theorem dX4_readReach_48 : decode cX4_readReach 48 = .ok (.iload_n 3, 1) := by decide +kernel
theorem dX4_readReach_49 : decode cX4_readReach 49 = .ok (.invokevirtual 74, 3) := by decide +kernel
theorem dX4_readReach_52 : decode cX4_readReach 52 = .ok (.return_, 1) := by decide +kernel
set_option maxRecDepth 20000 in
theorem ggX4_readSpanOrSum_X2_takes : GoodIn wsX4_readSpanOrSum wsX2_takes := goodIn_r _ [16, 17, 18, 19, 20, 21, 15, 22, 23, 24, 25, 26, 109, 110, 111, 112, 113, 114, 115, 116, 117, 118, 96, 97, 98, 99, 100] (by decide +kernel) (by decide +kernel)
set_option maxRecDepth 20000 in
theorem gX4_readSpanOrSum_X2_takes_u28X4 : GoodIn wsX4_readSpanOrSum (va_wsU RX4 28 RX4 "SluiceCards$Reader" ⟨"SluiceCards$RiverReader", "takes", "(C)Z"⟩ yX2_takes wsX2_takes) := goodIn_app (goodIn_of _ (by decide +kernel)) ggX4_readSpanOrSum_X2_takes
set_option maxRecDepth 20000 in
theorem ggX4_readSpanOrSum_X2_needsAll : GoodIn wsX4_readSpanOrSum wsX2_needsAll := goodIn_r _ [31, 32, 33, 34, 35, 36, 37, 38, 39, 40, 41, 42, 43, 44, 45, 46, 47, 48, 49, 50, 51, 52, 53, 54, 55, 56, 57, 58, 59, 60, 61, 62, 63, 64, 65, 66, 67, 68, 69, 70, 71, 72, 73, 74, 75, 76, 77, 78, 79, 80, 81, 82, 83, 14, 15, 16, 17, 18, 19, 20, 21, 22, 23, 24, 25, 26, 84, 85, 86, 87, 88, 89, 90, 109, 110, 111, 112, 113, 114, 115, 116, 117, 118, 96, 97, 98, 99, 100] (by decide +kernel) (by decide +kernel)
set_option maxRecDepth 20000 in
theorem gX4_readSpanOrSum_X2_needsAll_u54X4 : GoodIn wsX4_readSpanOrSum (va_wsU RX4 54 RX4 "SluiceCards$Reader" ⟨"SluiceCards$RiverReader", "needsAll", "(Ljava/lang/String;)V"⟩ yX2_needsAll wsX2_needsAll) := goodIn_app (goodIn_of _ (by decide +kernel)) ggX4_readSpanOrSum_X2_needsAll
set_option maxRecDepth 20000 in
theorem ggX4_readSpanOrSum_X2_digit : GoodIn wsX4_readSpanOrSum wsX2_digit := goodIn_r _ [95, 17, 18, 19, 20, 21, 15, 22, 23, 24, 25, 26, 85, 86, 87, 88, 89, 90, 109, 110, 111, 112, 113, 114, 115, 116, 117, 118, 96, 97, 98, 99, 100] (by decide +kernel) (by decide +kernel)
set_option maxRecDepth 20000 in
theorem gX4_readSpanOrSum_X2_digit_u58X4 : GoodIn wsX4_readSpanOrSum (va_wsU RX4 58 RX4 "SluiceCards$Reader" ⟨"SluiceCards$RiverReader", "digit", "(II)I"⟩ yX2_digit wsX2_digit) := goodIn_app (goodIn_of _ (by decide +kernel)) ggX4_readSpanOrSum_X2_digit
theorem dX4_readSpanOrSum_0 : decode cX4_readSpanOrSum 0 = .ok (.aload_n 0, 1) := by decide +kernel
theorem dX4_readSpanOrSum_1 : decode cX4_readSpanOrSum 1 = .ok (.bipush 112, 2) := by decide +kernel
theorem dX4_readSpanOrSum_3 : decode cX4_readSpanOrSum 3 = .ok (.invokevirtual 28, 3) := by decide +kernel
theorem dX4_readSpanOrSum_6 : decode cX4_readSpanOrSum 6 = .ok (.ifCond .eq 34, 3) := by decide +kernel
theorem dX4_readSpanOrSum_9 : decode cX4_readSpanOrSum 9 = .ok (.aload_n 0, 1) := by decide +kernel
theorem dX4_readSpanOrSum_10 : decode cX4_readSpanOrSum 10 = .ok (.ldc 78, 2) := by decide +kernel
theorem dX4_readSpanOrSum_12 : decode cX4_readSpanOrSum 12 = .ok (.invokevirtual 54, 3) := by decide +kernel
theorem dX4_readSpanOrSum_15 : decode cX4_readSpanOrSum 15 = .ok (.aload_n 0, 1) := by decide +kernel
theorem dX4_readSpanOrSum_16 : decode cX4_readSpanOrSum 16 = .ok (.getfield 12, 3) := by decide +kernel
theorem dX4_readSpanOrSum_19 : decode cX4_readSpanOrSum 19 = .ok (.iconst 1, 1) := by decide +kernel
theorem dX4_readSpanOrSum_20 : decode cX4_readSpanOrSum 20 = .ok (.iconst 3, 1) := by decide +kernel
theorem dX4_readSpanOrSum_21 : decode cX4_readSpanOrSum 21 = .ok (.aload_n 0, 1) := by decide +kernel
theorem dX4_readSpanOrSum_22 : decode cX4_readSpanOrSum 22 = .ok (.iconst 0, 1) := by decide +kernel
theorem dX4_readSpanOrSum_23 : decode cX4_readSpanOrSum 23 = .ok (.bipush 9, 2) := by decide +kernel
theorem dX4_readSpanOrSum_25 : decode cX4_readSpanOrSum 25 = .ok (.invokevirtual 58, 3) := by decide +kernel
theorem dX4_readSpanOrSum_28 : decode cX4_readSpanOrSum 28 = .ok (.invokestatic 80, 3) := by decide +kernel
theorem dX4_readSpanOrSum_31 : decode cX4_readSpanOrSum 31 = .ok (.invokestatic 85, 3) := by decide +kernel
theorem dX4_readSpanOrSum_34 : decode cX4_readSpanOrSum 34 = .ok (.putfield 88, 3) := by decide +kernel
theorem dX4_readSpanOrSum_37 : decode cX4_readSpanOrSum 37 = .ok (.goto 23, 3) := by decide +kernel
theorem dX4_readSpanOrSum_40 : decode cX4_readSpanOrSum 40 = .ok (.aload_n 0, 1) := by decide +kernel
theorem dX4_readSpanOrSum_41 : decode cX4_readSpanOrSum 41 = .ok (.ldc 91, 2) := by decide +kernel
theorem dX4_readSpanOrSum_43 : decode cX4_readSpanOrSum 43 = .ok (.invokevirtual 54, 3) := by decide +kernel
theorem dX4_readSpanOrSum_46 : decode cX4_readSpanOrSum 46 = .ok (.aload_n 0, 1) := by decide +kernel
theorem dX4_readSpanOrSum_47 : decode cX4_readSpanOrSum 47 = .ok (.getfield 12, 3) := by decide +kernel
theorem dX4_readSpanOrSum_50 : decode cX4_readSpanOrSum 50 = .ok (.aload_n 0, 1) := by decide +kernel
theorem dX4_readSpanOrSum_51 : decode cX4_readSpanOrSum 51 = .ok (.iconst 0, 1) := by decide +kernel
theorem dX4_readSpanOrSum_52 : decode cX4_readSpanOrSum 52 = .ok (.bipush 9, 2) := by decide +kernel
theorem dX4_readSpanOrSum_54 : decode cX4_readSpanOrSum 54 = .ok (.invokevirtual 58, 3) := by decide +kernel
theorem dX4_readSpanOrSum_57 : decode cX4_readSpanOrSum 57 = .ok (.putfield 93, 3) := by decide +kernel
theorem dX4_readSpanOrSum_60 : decode cX4_readSpanOrSum 60 = .ok (.return_, 1) := by decide +kernel
theorem dX5_init_0 : decode cX5_init 0 = .ok (.aload_n 0, 1) := by decide +kernel
theorem dX5_init_1 : decode cX5_init 1 = .ok (.invokespecial 3, 3) := by decide +kernel
theorem dX5_init_4 : decode cX5_init 4 = .ok (.aload_n 0, 1) := by decide +kernel
theorem dX5_init_5 : decode cX5_init 5 = .ok (.iconst 0, 1) := by decide +kernel
theorem dX5_init_6 : decode cX5_init 6 = .ok (.putfield 9, 3) := by decide +kernel
theorem dX5_init_9 : decode cX5_init 9 = .ok (.aload_n 0, 1) := by decide +kernel
theorem dX5_init_10 : decode cX5_init 10 = .ok (.iconst 0, 1) := by decide +kernel
theorem dX5_init_11 : decode cX5_init 11 = .ok (.putfield 15, 3) := by decide +kernel
theorem dX5_init_14 : decode cX5_init 14 = .ok (.aload_n 0, 1) := by decide +kernel
theorem dX5_init_15 : decode cX5_init 15 = .ok (.iconst 1, 1) := by decide +kernel
theorem dX5_init_16 : decode cX5_init 16 = .ok (.putfield 18, 3) := by decide +kernel
theorem dX5_init_19 : decode cX5_init 19 = .ok (.aload_n 0, 1) := by decide +kernel
theorem dX5_init_20 : decode cX5_init 20 = .ok (.iconst 0, 1) := by decide +kernel
theorem dX5_init_21 : decode cX5_init 21 = .ok (.putfield 21, 3) := by decide +kernel
theorem dX5_init_24 : decode cX5_init 24 = .ok (.return_, 1) := by decide +kernel
theorem dX5_passes_0 : decode cX5_passes 0 = .ok (.iload_n 1, 1) := by decide +kernel
theorem dX5_passes_1 : decode cX5_passes 1 = .ok (.bipush 100, 2) := by decide +kernel
theorem dX5_passes_3 : decode cX5_passes 3 = .ok (.idiv, 1) := by decide +kernel
theorem dX5_passes_4 : decode cX5_passes 4 = .ok (.istore_n 2, 1) := by decide +kernel
theorem dX5_passes_5 : decode cX5_passes 5 = .ok (.iload_n 2, 1) := by decide +kernel
theorem dX5_passes_6 : decode cX5_passes 6 = .ok (.ifCond .ne 10, 3) := by decide +kernel
theorem dX5_passes_9 : decode cX5_passes 9 = .ok (.aload_n 0, 1) := by decide +kernel
theorem dX5_passes_10 : decode cX5_passes 10 = .ok (.getfield 9, 3) := by decide +kernel
theorem dX5_passes_13 : decode cX5_passes 13 = .ok (.goto 31, 3) := by decide +kernel
theorem dX5_passes_16 : decode cX5_passes 16 = .ok (.iload_n 2, 1) := by decide +kernel
theorem dX5_passes_17 : decode cX5_passes 17 = .ok (.iconst 1, 1) := by decide +kernel
theorem dX5_passes_18 : decode cX5_passes 18 = .ok (.if_icmp .ne 10, 3) := by decide +kernel
theorem dX5_passes_21 : decode cX5_passes 21 = .ok (.aload_n 0, 1) := by decide +kernel
theorem dX5_passes_22 : decode cX5_passes 22 = .ok (.getfield 15, 3) := by decide +kernel
theorem dX5_passes_25 : decode cX5_passes 25 = .ok (.goto 19, 3) := by decide +kernel
theorem dX5_passes_28 : decode cX5_passes 28 = .ok (.iload_n 2, 1) := by decide +kernel
theorem dX5_passes_29 : decode cX5_passes 29 = .ok (.iconst 2, 1) := by decide +kernel
theorem dX5_passes_30 : decode cX5_passes 30 = .ok (.if_icmp .ne 10, 3) := by decide +kernel
theorem dX5_passes_33 : decode cX5_passes 33 = .ok (.aload_n 0, 1) := by decide +kernel
theorem dX5_passes_34 : decode cX5_passes 34 = .ok (.getfield 18, 3) := by decide +kernel
theorem dX5_passes_37 : decode cX5_passes 37 = .ok (.goto 7, 3) := by decide +kernel
theorem dX5_passes_40 : decode cX5_passes 40 = .ok (.aload_n 0, 1) := by decide +kernel
theorem dX5_passes_41 : decode cX5_passes 41 = .ok (.getfield 21, 3) := by decide +kernel
theorem dX5_passes_44 : decode cX5_passes 44 = .ok (.istore_n 3, 1) := by decide +kernel
theorem dX5_passes_45 : decode cX5_passes 45 = .ok (.iload_n 1, 1) := by decide +kernel
theorem dX5_passes_46 : decode cX5_passes 46 = .ok (.bipush 10, 2) := by decide +kernel
theorem dX5_passes_48 : decode cX5_passes 48 = .ok (.irem, 1) := by decide +kernel
theorem dX5_passes_49 : decode cX5_passes 49 = .ok (.istore 4, 2) := by decide +kernel
theorem dX5_passes_51 : decode cX5_passes 51 = .ok (.iload_n 1, 1) := by decide +kernel
theorem dX5_passes_52 : decode cX5_passes 52 = .ok (.bipush 10, 2) := by decide +kernel
theorem dX5_passes_54 : decode cX5_passes 54 = .ok (.idiv, 1) := by decide +kernel
theorem dX5_passes_55 : decode cX5_passes 55 = .ok (.bipush 10, 2) := by decide +kernel
theorem dX5_passes_57 : decode cX5_passes 57 = .ok (.irem, 1) := by decide +kernel
theorem dX5_passes_58 : decode cX5_passes 58 = .ok (.lookupswitch 50 #[(0, 26), (1, 38)], 26) := by decide +kernel
theorem dX5_passes_84 : decode cX5_passes 84 = .ok (.iload_n 3, 1) := by decide +kernel
theorem dX5_passes_85 : decode cX5_passes 85 = .ok (.iload 4, 2) := by decide +kernel
theorem dX5_passes_87 : decode cX5_passes 87 = .ok (.if_icmp .ge 7, 3) := by decide +kernel
theorem dX5_passes_90 : decode cX5_passes 90 = .ok (.iconst 1, 1) := by decide +kernel
theorem dX5_passes_91 : decode cX5_passes 91 = .ok (.goto 4, 3) := by decide +kernel
theorem dX5_passes_94 : decode cX5_passes 94 = .ok (.iconst 0, 1) := by decide +kernel
theorem dX5_passes_95 : decode cX5_passes 95 = .ok (.ireturn, 1) := by decide +kernel
theorem dX5_passes_96 : decode cX5_passes 96 = .ok (.iload_n 3, 1) := by decide +kernel
theorem dX5_passes_97 : decode cX5_passes 97 = .ok (.iload 4, 2) := by decide +kernel
theorem dX5_passes_99 : decode cX5_passes 99 = .ok (.if_icmp .ne 7, 3) := by decide +kernel
theorem dX5_passes_102 : decode cX5_passes 102 = .ok (.iconst 1, 1) := by decide +kernel
theorem dX5_passes_103 : decode cX5_passes 103 = .ok (.goto 4, 3) := by decide +kernel
theorem dX5_passes_106 : decode cX5_passes 106 = .ok (.iconst 0, 1) := by decide +kernel
theorem dX5_passes_107 : decode cX5_passes 107 = .ok (.ireturn, 1) := by decide +kernel
theorem dX5_passes_108 : decode cX5_passes 108 = .ok (.iload_n 3, 1) := by decide +kernel
theorem dX5_passes_109 : decode cX5_passes 109 = .ok (.iload 4, 2) := by decide +kernel
theorem dX5_passes_111 : decode cX5_passes 111 = .ok (.if_icmp .le 7, 3) := by decide +kernel
theorem dX5_passes_114 : decode cX5_passes 114 = .ok (.iconst 1, 1) := by decide +kernel
theorem dX5_passes_115 : decode cX5_passes 115 = .ok (.goto 4, 3) := by decide +kernel
theorem dX5_passes_118 : decode cX5_passes 118 = .ok (.iconst 0, 1) := by decide +kernel
theorem dX5_passes_119 : decode cX5_passes 119 = .ok (.ireturn, 1) := by decide +kernel
theorem dX6_init_0 : decode cX6_init 0 = .ok (.aload_n 0, 1) := by decide +kernel
theorem dX6_init_1 : decode cX6_init 1 = .ok (.invokespecial 3, 3) := by decide +kernel
theorem dX6_init_4 : decode cX6_init 4 = .ok (.aload_n 0, 1) := by decide +kernel
theorem dX6_init_5 : decode cX6_init 5 = .ok (.bipush 20, 2) := by decide +kernel
theorem dX6_init_7 : decode cX6_init 7 = .ok (.newarray .int, 2) := by decide +kernel
theorem dX6_init_9 : decode cX6_init 9 = .ok (.putfield 9, 3) := by decide +kernel
theorem dX6_init_12 : decode cX6_init 12 = .ok (.aload_n 0, 1) := by decide +kernel
theorem dX6_init_13 : decode cX6_init 13 = .ok (.iconst 0, 1) := by decide +kernel
theorem dX6_init_14 : decode cX6_init 14 = .ok (.putfield 15, 3) := by decide +kernel
theorem dX6_init_17 : decode cX6_init 17 = .ok (.return_, 1) := by decide +kernel
theorem dX6_clear_0 : decode cX6_clear 0 = .ok (.aload_n 0, 1) := by decide +kernel
theorem dX6_clear_1 : decode cX6_clear 1 = .ok (.iconst 0, 1) := by decide +kernel
theorem dX6_clear_2 : decode cX6_clear 2 = .ok (.putfield 15, 3) := by decide +kernel
theorem dX6_clear_5 : decode cX6_clear 5 = .ok (.return_, 1) := by decide +kernel
set_option maxRecDepth 20000 in
theorem ggX6_perform_X6_runFrom : GoodIn wsX6_perform wsX6_runFrom := goodIn_r _ [6, 1, 7, 8, 9, 10, 5, 11, 12, 13, 14, 15, 16, 17, 18, 19, 20, 21, 22, 23, 2, 3, 4, 24, 25, 26, 27, 28, 29, 30, 31, 32, 33, 34] (by decide +kernel) (by decide +kernel)
set_option maxRecDepth 20000 in
theorem gX6_perform_X6_runFrom : GoodIn wsX6_perform (wsV RX6 24 RX6 yX6_runFrom wsX6_runFrom) := goodIn_app (goodIn_of _ (by decide +kernel)) ggX6_perform_X6_runFrom
theorem dX6_perform_0 : decode cX6_perform 0 = .ok (.aload_n 0, 1) := by decide +kernel
theorem dX6_perform_1 : decode cX6_perform 1 = .ok (.aload_n 1, 1) := by decide +kernel
theorem dX6_perform_2 : decode cX6_perform 2 = .ok (.aload_n 1, 1) := by decide +kernel
theorem dX6_perform_3 : decode cX6_perform 3 = .ok (.getfield 19, 3) := by decide +kernel
theorem dX6_perform_6 : decode cX6_perform 6 = .ok (.iload_n 2, 1) := by decide +kernel
theorem dX6_perform_7 : decode cX6_perform 7 = .ok (.iload_n 3, 1) := by decide +kernel
theorem dX6_perform_8 : decode cX6_perform 8 = .ok (.iconst 0, 1) := by decide +kernel
theorem dX6_perform_9 : decode cX6_perform 9 = .ok (.invokevirtual 24, 3) := by decide +kernel
theorem dX6_perform_12 : decode cX6_perform 12 = .ok (.ireturn, 1) := by decide +kernel
set_option maxRecDepth 20000 in
theorem ggX6_runFrom_X6_bodyOf : GoodIn wsX6_runFrom wsX6_bodyOf := goodIn_r _ [7, 8] (by decide +kernel) (by decide +kernel)
set_option maxRecDepth 20000 in
theorem gX6_runFrom_X6_bodyOf : GoodIn wsX6_runFrom (va_wsS RX6 28 yX6_bodyOf wsX6_bodyOf) := goodIn_app (goodIn_of _ (by decide +kernel)) ggX6_runFrom_X6_bodyOf
set_option maxRecDepth 20000 in
theorem ggX6_runFrom_X0_above : GoodIn wsX6_runFrom wsX0_above := goodIn_r _ [12, 13] (by decide +kernel) (by decide +kernel)
set_option maxRecDepth 20000 in
theorem gX6_runFrom_X0_above : GoodIn wsX6_runFrom (va_wsS RX6 32 yX0_above wsX0_above) := goodIn_app (goodIn_of _ (by decide +kernel)) ggX6_runFrom_X0_above
set_option maxRecDepth 20000 in
theorem ggX6_runFrom_X6_note : GoodIn wsX6_runFrom wsX6_note := goodIn_r _ [17, 18, 19, 32, 33] (by decide +kernel) (by decide +kernel)
set_option maxRecDepth 20000 in
theorem gX6_runFrom_X6_note : GoodIn wsX6_runFrom (wsV RX6 36 RX6 yX6_note wsX6_note) := goodIn_app (goodIn_of _ (by decide +kernel)) ggX6_runFrom_X6_note
set_option maxRecDepth 20000 in
theorem ggX6_runFrom_X6_runFrom : GoodIn wsX6_runFrom wsX6_runFrom := goodIn_r _ [0, 1, 2, 3, 4, 5, 6, 7, 8, 9, 10, 11, 12, 13, 14, 15, 16, 17, 18, 19, 20, 21, 22, 23, 24, 25, 26, 27, 28, 29, 30, 31, 32, 33] (by decide +kernel) (by decide +kernel)
set_option maxRecDepth 20000 in
theorem gX6_runFrom_X6_runFrom : GoodIn wsX6_runFrom (wsV RX6 24 RX6 yX6_runFrom wsX6_runFrom) := goodIn_app (goodIn_of _ (by decide +kernel)) ggX6_runFrom_X6_runFrom
theorem dX6_runFrom_0 : decode cX6_runFrom 0 = .ok (.iload_n 2, 1) := by decide +kernel
theorem dX6_runFrom_1 : decode cX6_runFrom 1 = .ok (.istore 6, 2) := by decide +kernel
theorem dX6_runFrom_3 : decode cX6_runFrom 3 = .ok (.iconst 0, 1) := by decide +kernel
theorem dX6_runFrom_4 : decode cX6_runFrom 4 = .ok (.istore 7, 2) := by decide +kernel
theorem dX6_runFrom_6 : decode cX6_runFrom 6 = .ok (.iload 7, 2) := by decide +kernel
theorem dX6_runFrom_8 : decode cX6_runFrom 8 = .ok (.bipush 7, 2) := by decide +kernel
theorem dX6_runFrom_10 : decode cX6_runFrom 10 = .ok (.if_icmp .ge 25, 3) := by decide +kernel
theorem dX6_runFrom_13 : decode cX6_runFrom 13 = .ok (.iload 6, 2) := by decide +kernel
theorem dX6_runFrom_15 : decode cX6_runFrom 15 = .ok (.iload_n 3, 1) := by decide +kernel
theorem dX6_runFrom_16 : decode cX6_runFrom 16 = .ok (.invokestatic 28, 3) := by decide +kernel
theorem dX6_runFrom_19 : decode cX6_runFrom 19 = .ok (.ifCond .ne 16, 3) := by decide +kernel
theorem dX6_runFrom_22 : decode cX6_runFrom 22 = .ok (.iload 6, 2) := by decide +kernel
theorem dX6_runFrom_24 : decode cX6_runFrom 24 = .ok (.invokestatic 32, 3) := by decide +kernel
theorem dX6_runFrom_27 : decode cX6_runFrom 27 = .ok (.istore 6, 2) := by decide +kernel
theorem dX6_runFrom_29 : decode cX6_runFrom 29 = .ok (.iinc 7 1, 3) := by decide +kernel
theorem dX6_runFrom_32 : decode cX6_runFrom 32 = .ok (.goto (-26), 3) := by decide +kernel
theorem dX6_runFrom_35 : decode cX6_runFrom 35 = .ok (.iload 6, 2) := by decide +kernel
theorem dX6_runFrom_37 : decode cX6_runFrom 37 = .ok (.iload_n 3, 1) := by decide +kernel
theorem dX6_runFrom_38 : decode cX6_runFrom 38 = .ok (.invokestatic 28, 3) := by decide +kernel
theorem dX6_runFrom_41 : decode cX6_runFrom 41 = .ok (.istore 7, 2) := by decide +kernel
theorem dX6_runFrom_43 : decode cX6_runFrom 43 = .ok (.iload 7, 2) := by decide +kernel
theorem dX6_runFrom_45 : decode cX6_runFrom 45 = .ok (.ifCond .eq 10, 3) := by decide +kernel
theorem dX6_runFrom_48 : decode cX6_runFrom 48 = .ok (.iload 5, 2) := by decide +kernel
theorem dX6_runFrom_50 : decode cX6_runFrom 50 = .ok (.bipush 40, 2) := by decide +kernel
theorem dX6_runFrom_52 : decode cX6_runFrom 52 = .ok (.if_icmp .le 5, 3) := by decide +kernel
theorem dX6_runFrom_55 : decode cX6_runFrom 55 = .ok (.iconst 0, 1) := by decide +kernel
theorem dX6_runFrom_56 : decode cX6_runFrom 56 = .ok (.ireturn, 1) := by decide +kernel
theorem dX6_runFrom_57 : decode cX6_runFrom 57 = .ok (.aload_n 0, 1) := by decide +kernel
theorem dX6_runFrom_58 : decode cX6_runFrom 58 = .ok (.iload 7, 2) := by decide +kernel
theorem dX6_runFrom_60 : decode cX6_runFrom 60 = .ok (.invokevirtual 36, 3) := by decide +kernel
theorem dX6_runFrom_63 : decode cX6_runFrom 63 = .ok (.iload 6, 2) := by decide +kernel
theorem dX6_runFrom_65 : decode cX6_runFrom 65 = .ok (.invokestatic 32, 3) := by decide +kernel
theorem dX6_runFrom_68 : decode cX6_runFrom 68 = .ok (.istore 8, 2) := by decide +kernel
theorem dX6_runFrom_70 : decode cX6_runFrom 70 = .ok (.aload_n 1, 1) := by decide +kernel
theorem dX6_runFrom_71 : decode cX6_runFrom 71 = .ok (.getfield 19, 3) := by decide +kernel
theorem dX6_runFrom_74 : decode cX6_runFrom 74 = .ok (.istore 9, 2) := by decide +kernel
theorem dX6_runFrom_76 : decode cX6_runFrom 76 = .ok (.iload 7, 2) := by decide +kernel
theorem dX6_runFrom_78 : decode cX6_runFrom 78 = .ok (.lookupswitch 249 #[(1, 82), (2, 90), (3, 110), (11, 127), (21, 144), (31, 160), (41, 178), (51, 209), (61, 229)], 82) := by decide +kernel
theorem dX6_runFrom_160 : decode cX6_runFrom 160 = .ok (.iload 4, 2) := by decide +kernel
theorem dX6_runFrom_162 : decode cX6_runFrom 162 = .ok (.aload_n 1, 1) := by decide +kernel
theorem dX6_runFrom_163 : decode cX6_runFrom 163 = .ok (.getfield 40, 3) := by decide +kernel
theorem dX6_runFrom_166 : decode cX6_runFrom 166 = .ok (.iadd, 1) := by decide +kernel
theorem dX6_runFrom_167 : decode cX6_runFrom 167 = .ok (.ireturn, 1) := by decide +kernel
theorem dX6_runFrom_168 : decode cX6_runFrom 168 = .ok (.aload_n 0, 1) := by decide +kernel
theorem dX6_runFrom_169 : decode cX6_runFrom 169 = .ok (.aload_n 1, 1) := by decide +kernel
theorem dX6_runFrom_170 : decode cX6_runFrom 170 = .ok (.iload 9, 2) := by decide +kernel
theorem dX6_runFrom_172 : decode cX6_runFrom 172 = .ok (.iconst 0, 1) := by decide +kernel
theorem dX6_runFrom_173 : decode cX6_runFrom 173 = .ok (.iload 4, 2) := by decide +kernel
theorem dX6_runFrom_175 : decode cX6_runFrom 175 = .ok (.iload 5, 2) := by decide +kernel
theorem dX6_runFrom_177 : decode cX6_runFrom 177 = .ok (.iconst 1, 1) := by decide +kernel
theorem dX6_runFrom_178 : decode cX6_runFrom 178 = .ok (.iadd, 1) := by decide +kernel
theorem dX6_runFrom_179 : decode cX6_runFrom 179 = .ok (.invokevirtual 24, 3) := by decide +kernel
theorem dX6_runFrom_182 : decode cX6_runFrom 182 = .ok (.aload_n 1, 1) := by decide +kernel
theorem dX6_runFrom_183 : decode cX6_runFrom 183 = .ok (.getfield 43, 3) := by decide +kernel
theorem dX6_runFrom_186 : decode cX6_runFrom 186 = .ok (.isub, 1) := by decide +kernel
theorem dX6_runFrom_187 : decode cX6_runFrom 187 = .ok (.ireturn, 1) := by decide +kernel
theorem dX6_runFrom_188 : decode cX6_runFrom 188 = .ok (.aload_n 0, 1) := by decide +kernel
theorem dX6_runFrom_189 : decode cX6_runFrom 189 = .ok (.aload_n 1, 1) := by decide +kernel
theorem dX6_runFrom_190 : decode cX6_runFrom 190 = .ok (.iload 9, 2) := by decide +kernel
theorem dX6_runFrom_192 : decode cX6_runFrom 192 = .ok (.iconst 1, 1) := by decide +kernel
theorem dX6_runFrom_193 : decode cX6_runFrom 193 = .ok (.iload 4, 2) := by decide +kernel
theorem dX6_runFrom_195 : decode cX6_runFrom 195 = .ok (.iload 5, 2) := by decide +kernel
theorem dX6_runFrom_197 : decode cX6_runFrom 197 = .ok (.iconst 1, 1) := by decide +kernel
theorem dX6_runFrom_198 : decode cX6_runFrom 198 = .ok (.iadd, 1) := by decide +kernel
theorem dX6_runFrom_199 : decode cX6_runFrom 199 = .ok (.invokevirtual 24, 3) := by decide +kernel
theorem dX6_runFrom_202 : decode cX6_runFrom 202 = .ok (.iconst 2, 1) := by decide +kernel
theorem dX6_runFrom_203 : decode cX6_runFrom 203 = .ok (.imul, 1) := by decide +kernel
theorem dX6_runFrom_204 : decode cX6_runFrom 204 = .ok (.ireturn, 1) := by decide +kernel
theorem dX6_runFrom_205 : decode cX6_runFrom 205 = .ok (.aload_n 0, 1) := by decide +kernel
theorem dX6_runFrom_206 : decode cX6_runFrom 206 = .ok (.aload_n 1, 1) := by decide +kernel
theorem dX6_runFrom_207 : decode cX6_runFrom 207 = .ok (.iload 8, 2) := by decide +kernel
theorem dX6_runFrom_209 : decode cX6_runFrom 209 = .ok (.iconst 0, 1) := by decide +kernel
theorem dX6_runFrom_210 : decode cX6_runFrom 210 = .ok (.iload 4, 2) := by decide +kernel
theorem dX6_runFrom_212 : decode cX6_runFrom 212 = .ok (.iconst 3, 1) := by decide +kernel
theorem dX6_runFrom_213 : decode cX6_runFrom 213 = .ok (.imul, 1) := by decide +kernel
theorem dX6_runFrom_214 : decode cX6_runFrom 214 = .ok (.iload 5, 2) := by decide +kernel
theorem dX6_runFrom_216 : decode cX6_runFrom 216 = .ok (.iconst 1, 1) := by decide +kernel
theorem dX6_runFrom_217 : decode cX6_runFrom 217 = .ok (.iadd, 1) := by decide +kernel
theorem dX6_runFrom_218 : decode cX6_runFrom 218 = .ok (.invokevirtual 24, 3) := by decide +kernel
theorem dX6_runFrom_221 : decode cX6_runFrom 221 = .ok (.ireturn, 1) := by decide +kernel
theorem dX6_runFrom_222 : decode cX6_runFrom 222 = .ok (.aload_n 0, 1) := by decide +kernel
theorem dX6_runFrom_223 : decode cX6_runFrom 223 = .ok (.aload_n 1, 1) := by decide +kernel
theorem dX6_runFrom_224 : decode cX6_runFrom 224 = .ok (.iload 8, 2) := by decide +kernel
theorem dX6_runFrom_226 : decode cX6_runFrom 226 = .ok (.iconst 1, 1) := by decide +kernel
theorem dX6_runFrom_227 : decode cX6_runFrom 227 = .ok (.iload 4, 2) := by decide +kernel
theorem dX6_runFrom_229 : decode cX6_runFrom 229 = .ok (.iload 5, 2) := by decide +kernel
theorem dX6_runFrom_231 : decode cX6_runFrom 231 = .ok (.iconst 1, 1) := by decide +kernel
theorem dX6_runFrom_232 : decode cX6_runFrom 232 = .ok (.iadd, 1) := by decide +kernel
theorem dX6_runFrom_233 : decode cX6_runFrom 233 = .ok (.invokevirtual 24, 3) := by decide +kernel
theorem dX6_runFrom_236 : decode cX6_runFrom 236 = .ok (.ineg, 1) := by decide +kernel
theorem dX6_runFrom_237 : decode cX6_runFrom 237 = .ok (.ireturn, 1) := by decide +kernel
theorem dX6_runFrom_238 : decode cX6_runFrom 238 = .ok (.aload_n 0, 1) := by decide +kernel
theorem dX6_runFrom_239 : decode cX6_runFrom 239 = .ok (.aload_n 1, 1) := by decide +kernel
theorem dX6_runFrom_240 : decode cX6_runFrom 240 = .ok (.iload 8, 2) := by decide +kernel
theorem dX6_runFrom_242 : decode cX6_runFrom 242 = .ok (.iconst 2, 1) := by decide +kernel
theorem dX6_runFrom_243 : decode cX6_runFrom 243 = .ok (.iload 4, 2) := by decide +kernel
theorem dX6_runFrom_245 : decode cX6_runFrom 245 = .ok (.iload 5, 2) := by decide +kernel
theorem dX6_runFrom_247 : decode cX6_runFrom 247 = .ok (.iconst 1, 1) := by decide +kernel
theorem dX6_runFrom_248 : decode cX6_runFrom 248 = .ok (.iadd, 1) := by decide +kernel
theorem dX6_runFrom_249 : decode cX6_runFrom 249 = .ok (.invokevirtual 24, 3) := by decide +kernel
theorem dX6_runFrom_252 : decode cX6_runFrom 252 = .ok (.bipush 7, 2) := by decide +kernel
theorem dX6_runFrom_254 : decode cX6_runFrom 254 = .ok (.ixor, 1) := by decide +kernel
theorem dX6_runFrom_255 : decode cX6_runFrom 255 = .ok (.ireturn, 1) := by decide +kernel
theorem dX6_runFrom_256 : decode cX6_runFrom 256 = .ok (.aload_n 0, 1) := by decide +kernel
theorem dX6_runFrom_257 : decode cX6_runFrom 257 = .ok (.aload_n 1, 1) := by decide +kernel
theorem dX6_runFrom_258 : decode cX6_runFrom 258 = .ok (.iload 8, 2) := by decide +kernel
theorem dX6_runFrom_260 : decode cX6_runFrom 260 = .ok (.iconst 2, 1) := by decide +kernel
theorem dX6_runFrom_261 : decode cX6_runFrom 261 = .ok (.iload 4, 2) := by decide +kernel
theorem dX6_runFrom_263 : decode cX6_runFrom 263 = .ok (.iconst 1, 1) := by decide +kernel
theorem dX6_runFrom_264 : decode cX6_runFrom 264 = .ok (.isub, 1) := by decide +kernel
theorem dX6_runFrom_265 : decode cX6_runFrom 265 = .ok (.iload 5, 2) := by decide +kernel
theorem dX6_runFrom_267 : decode cX6_runFrom 267 = .ok (.iconst 1, 1) := by decide +kernel
theorem dX6_runFrom_268 : decode cX6_runFrom 268 = .ok (.iadd, 1) := by decide +kernel
theorem dX6_runFrom_269 : decode cX6_runFrom 269 = .ok (.invokevirtual 24, 3) := by decide +kernel
theorem dX6_runFrom_272 : decode cX6_runFrom 272 = .ok (.aload_n 0, 1) := by decide +kernel
theorem dX6_runFrom_273 : decode cX6_runFrom 273 = .ok (.aload_n 1, 1) := by decide +kernel
theorem dX6_runFrom_274 : decode cX6_runFrom 274 = .ok (.iload 9, 2) := by decide +kernel
theorem dX6_runFrom_276 : decode cX6_runFrom 276 = .ok (.iconst 0, 1) := by decide +kernel
theorem dX6_runFrom_277 : decode cX6_runFrom 277 = .ok (.iconst 2, 1) := by decide +kernel
theorem dX6_runFrom_278 : decode cX6_runFrom 278 = .ok (.iload 5, 2) := by decide +kernel
theorem dX6_runFrom_280 : decode cX6_runFrom 280 = .ok (.iconst 1, 1) := by decide +kernel
theorem dX6_runFrom_281 : decode cX6_runFrom 281 = .ok (.iadd, 1) := by decide +kernel
theorem dX6_runFrom_282 : decode cX6_runFrom 282 = .ok (.invokevirtual 24, 3) := by decide +kernel
theorem dX6_runFrom_285 : decode cX6_runFrom 285 = .ok (.iadd, 1) := by decide +kernel
theorem dX6_runFrom_286 : decode cX6_runFrom 286 = .ok (.ireturn, 1) := by decide +kernel
theorem dX6_runFrom_287 : decode cX6_runFrom 287 = .ok (.aload_n 0, 1) := by decide +kernel
theorem dX6_runFrom_288 : decode cX6_runFrom 288 = .ok (.aload_n 1, 1) := by decide +kernel
theorem dX6_runFrom_289 : decode cX6_runFrom 289 = .ok (.iload 8, 2) := by decide +kernel
theorem dX6_runFrom_291 : decode cX6_runFrom 291 = .ok (.iconst 0, 1) := by decide +kernel
theorem dX6_runFrom_292 : decode cX6_runFrom 292 = .ok (.iload 4, 2) := by decide +kernel
theorem dX6_runFrom_294 : decode cX6_runFrom 294 = .ok (.iload 5, 2) := by decide +kernel
theorem dX6_runFrom_296 : decode cX6_runFrom 296 = .ok (.iconst 1, 1) := by decide +kernel
theorem dX6_runFrom_297 : decode cX6_runFrom 297 = .ok (.iadd, 1) := by decide +kernel
theorem dX6_runFrom_298 : decode cX6_runFrom 298 = .ok (.invokevirtual 24, 3) := by decide +kernel
theorem dX6_runFrom_301 : decode cX6_runFrom 301 = .ok (.aload_n 1, 1) := by decide +kernel
theorem dX6_runFrom_302 : decode cX6_runFrom 302 = .ok (.getfield 40, 3) := by decide +kernel
theorem dX6_runFrom_305 : decode cX6_runFrom 305 = .ok (.ixor, 1) := by decide +kernel
theorem dX6_runFrom_306 : decode cX6_runFrom 306 = .ok (.ireturn, 1) := by decide +kernel
theorem dX6_runFrom_307 : decode cX6_runFrom 307 = .ok (.aload_n 0, 1) := by decide +kernel
theorem dX6_runFrom_308 : decode cX6_runFrom 308 = .ok (.aload_n 1, 1) := by decide +kernel
theorem dX6_runFrom_309 : decode cX6_runFrom 309 = .ok (.iload 8, 2) := by decide +kernel
theorem dX6_runFrom_311 : decode cX6_runFrom 311 = .ok (.iconst 1, 1) := by decide +kernel
theorem dX6_runFrom_312 : decode cX6_runFrom 312 = .ok (.iload 4, 2) := by decide +kernel
theorem dX6_runFrom_314 : decode cX6_runFrom 314 = .ok (.iload 5, 2) := by decide +kernel
theorem dX6_runFrom_316 : decode cX6_runFrom 316 = .ok (.iconst 1, 1) := by decide +kernel
theorem dX6_runFrom_317 : decode cX6_runFrom 317 = .ok (.iadd, 1) := by decide +kernel
theorem dX6_runFrom_318 : decode cX6_runFrom 318 = .ok (.invokevirtual 24, 3) := by decide +kernel
theorem dX6_runFrom_321 : decode cX6_runFrom 321 = .ok (.aload_n 1, 1) := by decide +kernel
theorem dX6_runFrom_322 : decode cX6_runFrom 322 = .ok (.getfield 43, 3) := by decide +kernel
theorem dX6_runFrom_325 : decode cX6_runFrom 325 = .ok (.iadd, 1) := by decide +kernel
theorem dX6_runFrom_326 : decode cX6_runFrom 326 = .ok (.ireturn, 1) := by decide +kernel
theorem dX6_runFrom_327 : decode cX6_runFrom 327 = .ok (.iconst 0, 1) := by decide +kernel
theorem dX6_runFrom_328 : decode cX6_runFrom 328 = .ok (.ireturn, 1) := by decide +kernel
theorem dX6_note_0 : decode cX6_note 0 = .ok (.aload_n 0, 1) := by decide +kernel
theorem dX6_note_1 : decode cX6_note 1 = .ok (.getfield 15, 3) := by decide +kernel
theorem dX6_note_4 : decode cX6_note 4 = .ok (.ifCond .lt 25, 3) := by decide +kernel
theorem dX6_note_7 : decode cX6_note 7 = .ok (.aload_n 0, 1) := by decide +kernel
theorem dX6_note_8 : decode cX6_note 8 = .ok (.getfield 15, 3) := by decide +kernel
theorem dX6_note_11 : decode cX6_note 11 = .ok (.aload_n 0, 1) := by decide +kernel
theorem dX6_note_12 : decode cX6_note 12 = .ok (.getfield 9, 3) := by decide +kernel
theorem dX6_note_15 : decode cX6_note 15 = .ok (.arraylength, 1) := by decide +kernel
theorem dX6_note_16 : decode cX6_note 16 = .ok (.if_icmp .ge 13, 3) := by decide +kernel
theorem dX6_note_19 : decode cX6_note 19 = .ok (.aload_n 0, 1) := by decide +kernel
theorem dX6_note_20 : decode cX6_note 20 = .ok (.getfield 9, 3) := by decide +kernel
theorem dX6_note_23 : decode cX6_note 23 = .ok (.aload_n 0, 1) := by decide +kernel
theorem dX6_note_24 : decode cX6_note 24 = .ok (.getfield 15, 3) := by decide +kernel
theorem dX6_note_27 : decode cX6_note 27 = .ok (.iload_n 1, 1) := by decide +kernel
theorem dX6_note_28 : decode cX6_note 28 = .ok (.iastore, 1) := by decide +kernel
theorem dX6_note_29 : decode cX6_note 29 = .ok (.aload_n 0, 1) := by decide +kernel
theorem dX6_note_30 : decode cX6_note 30 = .ok (.dup, 1) := by decide +kernel
theorem dX6_note_31 : decode cX6_note 31 = .ok (.getfield 15, 3) := by decide +kernel
theorem dX6_note_34 : decode cX6_note 34 = .ok (.iconst 1, 1) := by decide +kernel
theorem dX6_note_35 : decode cX6_note 35 = .ok (.iadd, 1) := by decide +kernel
theorem dX6_note_36 : decode cX6_note 36 = .ok (.putfield 15, 3) := by decide +kernel
theorem dX6_note_39 : decode cX6_note 39 = .ok (.return_, 1) := by decide +kernel
theorem dX6_bodyOf_0 : decode cX6_bodyOf 0 = .ok (.iload_n 0, 1) := by decide +kernel
theorem dX6_bodyOf_1 : decode cX6_bodyOf 1 = .ok (.iconst 3, 1) := by decide +kernel
theorem dX6_bodyOf_2 : decode cX6_bodyOf 2 = .ok (.imul, 1) := by decide +kernel
theorem dX6_bodyOf_3 : decode cX6_bodyOf 3 = .ok (.iload_n 1, 1) := by decide +kernel
theorem dX6_bodyOf_4 : decode cX6_bodyOf 4 = .ok (.iadd, 1) := by decide +kernel
theorem dX6_bodyOf_5 : decode cX6_bodyOf 5 = .ok (.istore_n 2, 1) := by decide +kernel
theorem dX6_bodyOf_6 : decode cX6_bodyOf 6 = .ok (.iload_n 0, 1) := by decide +kernel
theorem dX6_bodyOf_7 : decode cX6_bodyOf 7 = .ok (.ifCond .lt 20, 3) := by decide +kernel
theorem dX6_bodyOf_10 : decode cX6_bodyOf 10 = .ok (.iload_n 1, 1) := by decide +kernel
theorem dX6_bodyOf_11 : decode cX6_bodyOf 11 = .ok (.ifCond .lt 16, 3) := by decide +kernel
theorem dX6_bodyOf_14 : decode cX6_bodyOf 14 = .ok (.iload_n 1, 1) := by decide +kernel
theorem dX6_bodyOf_15 : decode cX6_bodyOf 15 = .ok (.iconst 3, 1) := by decide +kernel
theorem dX6_bodyOf_16 : decode cX6_bodyOf 16 = .ok (.if_icmp .ge 11, 3) := by decide +kernel
theorem dX6_bodyOf_19 : decode cX6_bodyOf 19 = .ok (.iload_n 2, 1) := by decide +kernel
theorem dX6_bodyOf_20 : decode cX6_bodyOf 20 = .ok (.getstatic 46, 3) := by decide +kernel
theorem dX6_bodyOf_23 : decode cX6_bodyOf 23 = .ok (.arraylength, 1) := by decide +kernel
theorem dX6_bodyOf_24 : decode cX6_bodyOf 24 = .ok (.if_icmp .lt 7, 3) := by decide +kernel
theorem dX6_bodyOf_27 : decode cX6_bodyOf 27 = .ok (.iconst 0, 1) := by decide +kernel
theorem dX6_bodyOf_28 : decode cX6_bodyOf 28 = .ok (.goto 8, 3) := by decide +kernel
theorem dX6_bodyOf_31 : decode cX6_bodyOf 31 = .ok (.getstatic 46, 3) := by decide +kernel
theorem dX6_bodyOf_34 : decode cX6_bodyOf 34 = .ok (.iload_n 2, 1) := by decide +kernel
theorem dX6_bodyOf_35 : decode cX6_bodyOf 35 = .ok (.iaload, 1) := by decide +kernel
theorem dX6_bodyOf_36 : decode cX6_bodyOf 36 = .ok (.ireturn, 1) := by decide +kernel
set_option maxRecDepth 20000 in
theorem ggX7_init_X3_init : GoodIn wsX7_init wsX3_init := goodIn_r _ [22, 23, 2, 3, 24, 25, 26, 27, 28, 29, 30, 31, 32, 18, 19, 33, 34, 35, 36, 37, 38, 39, 40, 41, 42, 43, 44, 53, 54, 55, 56, 57, 58, 59, 60, 72, 73, 74, 75, 76, 77, 78] (by decide +kernel) (by decide +kernel)
set_option maxRecDepth 20000 in
theorem gX7_init_X3_init_n11 : GoodIn wsX7_init (wsX3_init) := ggX7_init_X3_init
set_option maxRecDepth 20000 in
theorem ggX7_init_X5_init : GoodIn wsX7_init wsX5_init := goodIn_r _ [46, 47, 2, 3, 48, 49, 50, 51, 68, 69, 70, 71] (by decide +kernel) (by decide +kernel)
set_option maxRecDepth 20000 in
theorem gX7_init_X5_init_n37 : GoodIn wsX7_init (wsX5_init) := ggX7_init_X5_init
set_option maxRecDepth 20000 in
theorem ggX7_init_X8_init : GoodIn wsX7_init wsX8_init := goodIn_r _ [36, 37, 2, 3, 28, 38, 39, 40, 41, 42, 43, 44, 72, 73, 74, 75, 76, 77, 78] (by decide +kernel) (by decide +kernel)
set_option maxRecDepth 20000 in
theorem gX7_init_X8_init : GoodIn wsX7_init (wsX8_init) := ggX7_init_X8_init
theorem dX7_init_0 : decode cX7_init 0 = .ok (.aload_n 0, 1) := by decide +kernel
theorem dX7_init_1 : decode cX7_init 1 = .ok (.invokespecial 3, 3) := by decide +kernel
theorem dX7_init_4 : decode cX7_init 4 = .ok (.aload_n 0, 1) := by decide +kernel
theorem dX7_init_5 : decode cX7_init 5 = .ok (.new 9, 3) := by decide +kernel
theorem dX7_init_8 : decode cX7_init 8 = .ok (.dup, 1) := by decide +kernel
theorem dX7_init_9 : decode cX7_init 9 = .ok (.invokespecial 11, 3) := by decide +kernel
theorem dX7_init_12 : decode cX7_init 12 = .ok (.putfield 12, 3) := by decide +kernel
theorem dX7_init_15 : decode cX7_init 15 = .ok (.aload_n 0, 1) := by decide +kernel
theorem dX7_init_16 : decode cX7_init 16 = .ok (.iconst 3, 1) := by decide +kernel
theorem dX7_init_17 : decode cX7_init 17 = .ok (.anewarray 18, 3) := by decide +kernel
theorem dX7_init_20 : decode cX7_init 20 = .ok (.putfield 20, 3) := by decide +kernel
theorem dX7_init_23 : decode cX7_init 23 = .ok (.aload_n 0, 1) := by decide +kernel
theorem dX7_init_24 : decode cX7_init 24 = .ok (.iconst 0, 1) := by decide +kernel
theorem dX7_init_25 : decode cX7_init 25 = .ok (.putfield 24, 3) := by decide +kernel
theorem dX7_init_28 : decode cX7_init 28 = .ok (.aload_n 0, 1) := by decide +kernel
theorem dX7_init_29 : decode cX7_init 29 = .ok (.iconst 0, 1) := by decide +kernel
theorem dX7_init_30 : decode cX7_init 30 = .ok (.putfield 28, 3) := by decide +kernel
theorem dX7_init_33 : decode cX7_init 33 = .ok (.aload_n 0, 1) := by decide +kernel
theorem dX7_init_34 : decode cX7_init 34 = .ok (.iconst 0, 1) := by decide +kernel
theorem dX7_init_35 : decode cX7_init 35 = .ok (.putfield 32, 3) := by decide +kernel
theorem dX7_init_38 : decode cX7_init 38 = .ok (.aload_n 0, 1) := by decide +kernel
theorem dX7_init_39 : decode cX7_init 39 = .ok (.new 35, 3) := by decide +kernel
theorem dX7_init_42 : decode cX7_init 42 = .ok (.dup, 1) := by decide +kernel
theorem dX7_init_43 : decode cX7_init 43 = .ok (.invokespecial 37, 3) := by decide +kernel
theorem dX7_init_46 : decode cX7_init 46 = .ok (.putfield 38, 3) := by decide +kernel
theorem dX7_init_49 : decode cX7_init 49 = .ok (.aload_n 0, 1) := by decide +kernel
theorem dX7_init_50 : decode cX7_init 50 = .ok (.new 42, 3) := by decide +kernel
theorem dX7_init_53 : decode cX7_init 53 = .ok (.dup, 1) := by decide +kernel
theorem dX7_init_54 : decode cX7_init 54 = .ok (.new 42, 3) := by decide +kernel
theorem dX7_init_57 : decode cX7_init 57 = .ok (.dup, 1) := by decide +kernel
theorem dX7_init_58 : decode cX7_init 58 = .ok (.new 42, 3) := by decide +kernel
theorem dX7_init_61 : decode cX7_init 61 = .ok (.dup, 1) := by decide +kernel
theorem dX7_init_62 : decode cX7_init 62 = .ok (.new 42, 3) := by decide +kernel
theorem dX7_init_65 : decode cX7_init 65 = .ok (.dup, 1) := by decide +kernel
theorem dX7_init_66 : decode cX7_init 66 = .ok (.aconst_null, 1) := by decide +kernel
theorem dX7_init_67 : decode cX7_init 67 = .ok (.invokespecial 44, 3) := by decide +kernel
theorem dX7_init_70 : decode cX7_init 70 = .ok (.invokespecial 44, 3) := by decide +kernel
theorem dX7_init_73 : decode cX7_init 73 = .ok (.invokespecial 44, 3) := by decide +kernel
theorem dX7_init_76 : decode cX7_init 76 = .ok (.invokespecial 44, 3) := by decide +kernel
theorem dX7_init_79 : decode cX7_init 79 = .ok (.putfield 47, 3) := by decide +kernel
theorem dX7_init_82 : decode cX7_init 82 = .ok (.return_, 1) := by decide +kernel
set_option maxRecDepth 20000 in
theorem ggX7_begin_X3_becomes : GoodIn wsX7_begin wsX3_becomes := goodIn_r _ [14, 15, 16, 17, 18, 19, 20, 21, 22, 23, 24, 25, 26, 27, 28, 29, 30, 31, 32, 33, 34, 35, 36, 37, 38, 39, 40, 41, 42, 65, 66, 67, 68, 69, 70, 71, 72, 73, 74, 75, 76, 77, 78, 79] (by decide +kernel) (by decide +kernel)
set_option maxRecDepth 20000 in
theorem gX7_begin_X3_becomes : GoodIn wsX7_begin (wsV RX7 54 RX3 yX3_becomes wsX3_becomes) := goodIn_app (goodIn_of _ (by decide +kernel)) ggX7_begin_X3_becomes
set_option maxRecDepth 20000 in
theorem ggX7_begin_X9_cardOf : GoodIn wsX7_begin wsX9_cardOf := goodIn_r _ [47, 48, 49, 58, 59, 60, 61, 62, 63, 64] (by decide +kernel) (by decide +kernel)
set_option maxRecDepth 20000 in
theorem gX7_begin_X9_cardOf : GoodIn wsX7_begin (wsV RX7 65 RX9 yX9_cardOf wsX9_cardOf) := goodIn_app (goodIn_of _ (by decide +kernel)) ggX7_begin_X9_cardOf
set_option maxRecDepth 20000 in
theorem ggX7_begin_X8_becomes : GoodIn wsX7_begin wsX8_becomes := goodIn_r _ [38, 39, 40, 41, 42, 23, 24, 25, 26, 27, 28, 29, 30, 31, 32, 33, 73, 74, 75, 76, 77, 78, 79] (by decide +kernel) (by decide +kernel)
set_option maxRecDepth 20000 in
theorem gX7_begin_X8_becomes : GoodIn wsX7_begin (wsV RX7 72 RX8 yX8_becomes wsX8_becomes) := goodIn_app (goodIn_of _ (by decide +kernel)) ggX7_begin_X8_becomes
theorem dX7_begin_0 : decode cX7_begin 0 = .ok (.aload_n 0, 1) := by decide +kernel
theorem dX7_begin_1 : decode cX7_begin 1 = .ok (.getfield 12, 3) := by decide +kernel
theorem dX7_begin_4 : decode cX7_begin 4 = .ok (.aload_n 1, 1) := by decide +kernel
theorem dX7_begin_5 : decode cX7_begin 5 = .ok (.getfield 51, 3) := by decide +kernel
theorem dX7_begin_8 : decode cX7_begin 8 = .ok (.invokevirtual 54, 3) := by decide +kernel
theorem dX7_begin_11 : decode cX7_begin 11 = .ok (.iconst 0, 1) := by decide +kernel
theorem dX7_begin_12 : decode cX7_begin 12 = .ok (.istore_n 2, 1) := by decide +kernel
theorem dX7_begin_13 : decode cX7_begin 13 = .ok (.iload_n 2, 1) := by decide +kernel
theorem dX7_begin_14 : decode cX7_begin 14 = .ok (.iconst 3, 1) := by decide +kernel
theorem dX7_begin_15 : decode cX7_begin 15 = .ok (.if_icmp .ge 43, 3) := by decide +kernel
theorem dX7_begin_18 : decode cX7_begin 18 = .ok (.aload_n 0, 1) := by decide +kernel
theorem dX7_begin_19 : decode cX7_begin 19 = .ok (.getfield 20, 3) := by decide +kernel
theorem dX7_begin_22 : decode cX7_begin 22 = .ok (.iload_n 2, 1) := by decide +kernel
theorem dX7_begin_23 : decode cX7_begin 23 = .ok (.iload_n 2, 1) := by decide +kernel
theorem dX7_begin_24 : decode cX7_begin 24 = .ok (.aload_n 0, 1) := by decide +kernel
theorem dX7_begin_25 : decode cX7_begin 25 = .ok (.getfield 12, 3) := by decide +kernel
theorem dX7_begin_28 : decode cX7_begin 28 = .ok (.getfield 58, 3) := by decide +kernel
theorem dX7_begin_31 : decode cX7_begin 31 = .ok (.if_icmp .ge 19, 3) := by decide +kernel
theorem dX7_begin_34 : decode cX7_begin 34 = .ok (.aload_n 1, 1) := by decide +kernel
theorem dX7_begin_35 : decode cX7_begin 35 = .ok (.aload_n 0, 1) := by decide +kernel
theorem dX7_begin_36 : decode cX7_begin 36 = .ok (.getfield 12, 3) := by decide +kernel
theorem dX7_begin_39 : decode cX7_begin 39 = .ok (.getfield 61, 3) := by decide +kernel
theorem dX7_begin_42 : decode cX7_begin 42 = .ok (.iload_n 2, 1) := by decide +kernel
theorem dX7_begin_43 : decode cX7_begin 43 = .ok (.iaload, 1) := by decide +kernel
theorem dX7_begin_44 : decode cX7_begin 44 = .ok (.invokevirtual 65, 3) := by decide +kernel
theorem dX7_begin_47 : decode cX7_begin 47 = .ok (.goto 4, 3) := by decide +kernel
theorem dX7_begin_50 : decode cX7_begin 50 = .ok (.aconst_null, 1) := by decide +kernel
theorem dX7_begin_51 : decode cX7_begin 51 = .ok (.aastore, 1) := by decide +kernel
theorem dX7_begin_52 : decode cX7_begin 52 = .ok (.iinc 2 1, 3) := by decide +kernel
theorem dX7_begin_55 : decode cX7_begin 55 = .ok (.goto (-42), 3) := by decide +kernel
theorem dX7_begin_58 : decode cX7_begin 58 = .ok (.aload_n 0, 1) := by decide +kernel
theorem dX7_begin_59 : decode cX7_begin 59 = .ok (.iconst 0, 1) := by decide +kernel
theorem dX7_begin_60 : decode cX7_begin 60 = .ok (.putfield 24, 3) := by decide +kernel
theorem dX7_begin_63 : decode cX7_begin 63 = .ok (.aload_n 0, 1) := by decide +kernel
theorem dX7_begin_64 : decode cX7_begin 64 = .ok (.iconst 0, 1) := by decide +kernel
theorem dX7_begin_65 : decode cX7_begin 65 = .ok (.putfield 28, 3) := by decide +kernel
theorem dX7_begin_68 : decode cX7_begin 68 = .ok (.aload_n 0, 1) := by decide +kernel
theorem dX7_begin_69 : decode cX7_begin 69 = .ok (.getfield 47, 3) := by decide +kernel
theorem dX7_begin_72 : decode cX7_begin 72 = .ok (.aload_n 0, 1) := by decide +kernel
theorem dX7_begin_73 : decode cX7_begin 73 = .ok (.getfield 12, 3) := by decide +kernel
theorem dX7_begin_76 : decode cX7_begin 76 = .ok (.getfield 69, 3) := by decide +kernel
theorem dX7_begin_79 : decode cX7_begin 79 = .ok (.invokevirtual 72, 3) := by decide +kernel
theorem dX7_begin_82 : decode cX7_begin 82 = .ok (.return_, 1) := by decide +kernel
theorem dX7_putInstead_0 : decode cX7_putInstead 0 = .ok (.iconst 0, 1) := by decide +kernel
theorem dX7_putInstead_1 : decode cX7_putInstead 1 = .ok (.istore_n 2, 1) := by decide +kernel
theorem dX7_putInstead_2 : decode cX7_putInstead 2 = .ok (.iload_n 2, 1) := by decide +kernel
theorem dX7_putInstead_3 : decode cX7_putInstead 3 = .ok (.iconst 3, 1) := by decide +kernel
theorem dX7_putInstead_4 : decode cX7_putInstead 4 = .ok (.if_icmp .ge 38, 3) := by decide +kernel
theorem dX7_putInstead_7 : decode cX7_putInstead 7 = .ok (.aload_n 0, 1) := by decide +kernel
theorem dX7_putInstead_8 : decode cX7_putInstead 8 = .ok (.getfield 20, 3) := by decide +kernel
theorem dX7_putInstead_11 : decode cX7_putInstead 11 = .ok (.iload_n 2, 1) := by decide +kernel
theorem dX7_putInstead_12 : decode cX7_putInstead 12 = .ok (.aaload, 1) := by decide +kernel
theorem dX7_putInstead_13 : decode cX7_putInstead 13 = .ok (.astore_n 3, 1) := by decide +kernel
theorem dX7_putInstead_14 : decode cX7_putInstead 14 = .ok (.aload_n 3, 1) := by decide +kernel
theorem dX7_putInstead_15 : decode cX7_putInstead 15 = .ok (.ifnull 21, 3) := by decide +kernel
theorem dX7_putInstead_18 : decode cX7_putInstead 18 = .ok (.aload_n 3, 1) := by decide +kernel
theorem dX7_putInstead_19 : decode cX7_putInstead 19 = .ok (.getfield 74, 3) := by decide +kernel
theorem dX7_putInstead_22 : decode cX7_putInstead 22 = .ok (.aload_n 1, 1) := by decide +kernel
theorem dX7_putInstead_23 : decode cX7_putInstead 23 = .ok (.getfield 74, 3) := by decide +kernel
theorem dX7_putInstead_26 : decode cX7_putInstead 26 = .ok (.if_icmp .ne 10, 3) := by decide +kernel
theorem dX7_putInstead_29 : decode cX7_putInstead 29 = .ok (.aload_n 0, 1) := by decide +kernel
theorem dX7_putInstead_30 : decode cX7_putInstead 30 = .ok (.getfield 20, 3) := by decide +kernel
theorem dX7_putInstead_33 : decode cX7_putInstead 33 = .ok (.iload_n 2, 1) := by decide +kernel
theorem dX7_putInstead_34 : decode cX7_putInstead 34 = .ok (.aload_n 1, 1) := by decide +kernel
theorem dX7_putInstead_35 : decode cX7_putInstead 35 = .ok (.aastore, 1) := by decide +kernel
theorem dX7_putInstead_36 : decode cX7_putInstead 36 = .ok (.iinc 2 1, 3) := by decide +kernel
theorem dX7_putInstead_39 : decode cX7_putInstead 39 = .ok (.goto (-37), 3) := by decide +kernel
theorem dX7_putInstead_42 : decode cX7_putInstead 42 = .ok (.return_, 1) := by decide +kernel
theorem dX7_hangAll_0 : decode cX7_hangAll 0 = .ok (.iconst 0, 1) := by decide +kernel
theorem dX7_hangAll_1 : decode cX7_hangAll 1 = .ok (.istore_n 2, 1) := by decide +kernel
theorem dX7_hangAll_2 : decode cX7_hangAll 2 = .ok (.iload_n 2, 1) := by decide +kernel
theorem dX7_hangAll_3 : decode cX7_hangAll 3 = .ok (.iconst 3, 1) := by decide +kernel
theorem dX7_hangAll_4 : decode cX7_hangAll 4 = .ok (.if_icmp .ge 16, 3) := by decide +kernel
theorem dX7_hangAll_7 : decode cX7_hangAll 7 = .ok (.aload_n 0, 1) := by decide +kernel
theorem dX7_hangAll_8 : decode cX7_hangAll 8 = .ok (.getfield 20, 3) := by decide +kernel
theorem dX7_hangAll_11 : decode cX7_hangAll 11 = .ok (.iload_n 2, 1) := by decide +kernel
theorem dX7_hangAll_12 : decode cX7_hangAll 12 = .ok (.aload_n 1, 1) := by decide +kernel
theorem dX7_hangAll_13 : decode cX7_hangAll 13 = .ok (.aastore, 1) := by decide +kernel
theorem dX7_hangAll_14 : decode cX7_hangAll 14 = .ok (.iinc 2 1, 3) := by decide +kernel
theorem dX7_hangAll_17 : decode cX7_hangAll 17 = .ok (.goto (-15), 3) := by decide +kernel
theorem dX7_hangAll_20 : decode cX7_hangAll 20 = .ok (.return_, 1) := by decide +kernel
theorem dX7_fixBoards_0 : decode cX7_fixBoards 0 = .ok (.aload_n 0, 1) := by decide +kernel
theorem dX7_fixBoards_1 : decode cX7_fixBoards 1 = .ok (.bipush 7, 2) := by decide +kernel
theorem dX7_fixBoards_3 : decode cX7_fixBoards 3 = .ok (.putfield 24, 3) := by decide +kernel
theorem dX7_fixBoards_6 : decode cX7_fixBoards 6 = .ok (.iload_n 1, 1) := by decide +kernel
theorem dX7_fixBoards_7 : decode cX7_fixBoards 7 = .ok (.istore_n 2, 1) := by decide +kernel
theorem dX7_fixBoards_8 : decode cX7_fixBoards 8 = .ok (.aload_n 0, 1) := by decide +kernel
theorem dX7_fixBoards_9 : decode cX7_fixBoards 9 = .ok (.getfield 12, 3) := by decide +kernel
theorem dX7_fixBoards_12 : decode cX7_fixBoards 12 = .ok (.getfield 58, 3) := by decide +kernel
theorem dX7_fixBoards_15 : decode cX7_fixBoards 15 = .ok (.iconst 3, 1) := by decide +kernel
theorem dX7_fixBoards_16 : decode cX7_fixBoards 16 = .ok (.invokestatic 77, 3) := by decide +kernel
theorem dX7_fixBoards_19 : decode cX7_fixBoards 19 = .ok (.iconst 1, 1) := by decide +kernel
theorem dX7_fixBoards_20 : decode cX7_fixBoards 20 = .ok (.isub, 1) := by decide +kernel
theorem dX7_fixBoards_21 : decode cX7_fixBoards 21 = .ok (.istore_n 3, 1) := by decide +kernel
theorem dX7_fixBoards_22 : decode cX7_fixBoards 22 = .ok (.iload_n 3, 1) := by decide +kernel
theorem dX7_fixBoards_23 : decode cX7_fixBoards 23 = .ok (.ifCond .lt 25, 3) := by decide +kernel
theorem dX7_fixBoards_26 : decode cX7_fixBoards 26 = .ok (.aload_n 0, 1) := by decide +kernel
theorem dX7_fixBoards_27 : decode cX7_fixBoards 27 = .ok (.getfield 47, 3) := by decide +kernel
theorem dX7_fixBoards_30 : decode cX7_fixBoards 30 = .ok (.getfield 83, 3) := by decide +kernel
theorem dX7_fixBoards_33 : decode cX7_fixBoards 33 = .ok (.iload_n 3, 1) := by decide +kernel
theorem dX7_fixBoards_34 : decode cX7_fixBoards 34 = .ok (.iload_n 2, 1) := by decide +kernel
theorem dX7_fixBoards_35 : decode cX7_fixBoards 35 = .ok (.iconst 3, 1) := by decide +kernel
theorem dX7_fixBoards_36 : decode cX7_fixBoards 36 = .ok (.iand, 1) := by decide +kernel
theorem dX7_fixBoards_37 : decode cX7_fixBoards 37 = .ok (.iastore, 1) := by decide +kernel
theorem dX7_fixBoards_38 : decode cX7_fixBoards 38 = .ok (.iload_n 2, 1) := by decide +kernel
theorem dX7_fixBoards_39 : decode cX7_fixBoards 39 = .ok (.iconst 2, 1) := by decide +kernel
theorem dX7_fixBoards_40 : decode cX7_fixBoards 40 = .ok (.ishr, 1) := by decide +kernel
theorem dX7_fixBoards_41 : decode cX7_fixBoards 41 = .ok (.istore_n 2, 1) := by decide +kernel
theorem dX7_fixBoards_42 : decode cX7_fixBoards 42 = .ok (.iinc 3 (-1), 3) := by decide +kernel
theorem dX7_fixBoards_45 : decode cX7_fixBoards 45 = .ok (.goto (-23), 3) := by decide +kernel
theorem dX7_fixBoards_48 : decode cX7_fixBoards 48 = .ok (.return_, 1) := by decide +kernel
theorem dX7_raiseBanks_0 : decode cX7_raiseBanks 0 = .ok (.iconst 0, 1) := by decide +kernel
theorem dX7_raiseBanks_1 : decode cX7_raiseBanks 1 = .ok (.istore_n 3, 1) := by decide +kernel
theorem dX7_raiseBanks_2 : decode cX7_raiseBanks 2 = .ok (.iload_n 3, 1) := by decide +kernel
theorem dX7_raiseBanks_3 : decode cX7_raiseBanks 3 = .ok (.iconst 3, 1) := by decide +kernel
theorem dX7_raiseBanks_4 : decode cX7_raiseBanks 4 = .ok (.if_icmp .ge 31, 3) := by decide +kernel
theorem dX7_raiseBanks_7 : decode cX7_raiseBanks 7 = .ok (.aload_n 0, 1) := by decide +kernel
theorem dX7_raiseBanks_8 : decode cX7_raiseBanks 8 = .ok (.getfield 12, 3) := by decide +kernel
theorem dX7_raiseBanks_11 : decode cX7_raiseBanks 11 = .ok (.getfield 86, 3) := by decide +kernel
theorem dX7_raiseBanks_14 : decode cX7_raiseBanks 14 = .ok (.iload_n 3, 1) := by decide +kernel
theorem dX7_raiseBanks_15 : decode cX7_raiseBanks 15 = .ok (.bipush 9, 2) := by decide +kernel
theorem dX7_raiseBanks_17 : decode cX7_raiseBanks 17 = .ok (.aload_n 1, 1) := by decide +kernel
theorem dX7_raiseBanks_18 : decode cX7_raiseBanks 18 = .ok (.getfield 86, 3) := by decide +kernel
theorem dX7_raiseBanks_21 : decode cX7_raiseBanks 21 = .ok (.iload_n 3, 1) := by decide +kernel
theorem dX7_raiseBanks_22 : decode cX7_raiseBanks 22 = .ok (.iaload, 1) := by decide +kernel
theorem dX7_raiseBanks_23 : decode cX7_raiseBanks 23 = .ok (.iload_n 2, 1) := by decide +kernel
theorem dX7_raiseBanks_24 : decode cX7_raiseBanks 24 = .ok (.iadd, 1) := by decide +kernel
theorem dX7_raiseBanks_25 : decode cX7_raiseBanks 25 = .ok (.invokestatic 77, 3) := by decide +kernel
theorem dX7_raiseBanks_28 : decode cX7_raiseBanks 28 = .ok (.iastore, 1) := by decide +kernel
theorem dX7_raiseBanks_29 : decode cX7_raiseBanks 29 = .ok (.iinc 3 1, 3) := by decide +kernel
theorem dX7_raiseBanks_32 : decode cX7_raiseBanks 32 = .ok (.goto (-30), 3) := by decide +kernel
theorem dX7_raiseBanks_35 : decode cX7_raiseBanks 35 = .ok (.return_, 1) := by decide +kernel
set_option maxRecDepth 20000 in
theorem ggX7_isSafe_X7_goesOver : GoodIn wsX7_isSafe wsX7_goesOver := goodIn_r _ [10, 11, 1, 12, 13, 14, 15, 16, 9, 17, 18, 19, 20, 21, 22, 23, 24, 25, 26, 27, 28, 29, 30, 31, 32, 33, 34, 35, 36, 37, 38, 39, 40, 41, 42, 43, 44, 45, 46, 47, 48, 49, 50, 51, 52, 53, 54, 55, 56, 57, 58, 59, 60, 61, 62, 63, 64, 65, 66, 67, 68, 69, 70, 71, 72, 73, 74, 75, 76, 77, 78, 79, 80, 81, 82, 83, 84, 85, 86, 87, 88, 89, 90, 91, 92, 93, 94, 95, 96, 97, 98, 6, 7, 8, 114, 115, 116, 117, 118, 119, 120, 99, 100, 101, 102, 103, 104, 105, 106, 107, 108, 109, 110, 111, 112, 113, 121, 122, 123, 124, 125, 126, 127, 128, 129, 130, 131, 132, 133] (by decide +kernel) (by decide +kernel)
set_option maxRecDepth 20000 in
theorem gX7_isSafe_X7_goesOver : GoodIn wsX7_isSafe (wsV RX7 95 RX7 yX7_goesOver wsX7_goesOver) := goodIn_app (goodIn_of _ (by decide +kernel)) ggX7_isSafe_X7_goesOver
theorem dX7_isSafe_0 : decode cX7_isSafe 0 = .ok (.iconst 1, 1) := by decide +kernel
theorem dX7_isSafe_1 : decode cX7_isSafe 1 = .ok (.istore_n 1, 1) := by decide +kernel
theorem dX7_isSafe_2 : decode cX7_isSafe 2 = .ok (.iload_n 1, 1) := by decide +kernel
theorem dX7_isSafe_3 : decode cX7_isSafe 3 = .ok (.aload_n 0, 1) := by decide +kernel
theorem dX7_isSafe_4 : decode cX7_isSafe 4 = .ok (.getfield 12, 3) := by decide +kernel
theorem dX7_isSafe_7 : decode cX7_isSafe 7 = .ok (.getfield 89, 3) := by decide +kernel
theorem dX7_isSafe_10 : decode cX7_isSafe 10 = .ok (.if_icmp .gt 40, 3) := by decide +kernel
theorem dX7_isSafe_13 : decode cX7_isSafe 13 = .ok (.iload_n 1, 1) := by decide +kernel
theorem dX7_isSafe_14 : decode cX7_isSafe 14 = .ok (.iconst 3, 1) := by decide +kernel
theorem dX7_isSafe_15 : decode cX7_isSafe 15 = .ok (.if_icmp .gt 35, 3) := by decide +kernel
theorem dX7_isSafe_18 : decode cX7_isSafe 18 = .ok (.aload_n 0, 1) := by decide +kernel
theorem dX7_isSafe_19 : decode cX7_isSafe 19 = .ok (.iload_n 1, 1) := by decide +kernel
