theorem dX11_rain_27 : decode cX11_rain 27 = .ok (.ireturn, 1) := by decide +kernel
theorem dX11_rain_28 : decode cX11_rain 28 = .ok (.aload_n 0, 1) := by decide +kernel
theorem dX11_rain_29 : decode cX11_rain 29 = .ok (.getfield 9, 3) := by decide +kernel
theorem dX11_rain_32 : decode cX11_rain 32 = .ok (.bipush 6, 2) := by decide +kernel
theorem dX11_rain_34 : decode cX11_rain 34 = .ok (.iaload, 1) := by decide +kernel
theorem dX11_rain_35 : decode cX11_rain 35 = .ok (.bipush 10, 2) := by decide +kernel
theorem dX11_rain_37 : decode cX11_rain 37 = .ok (.if_icmp .ne 6, 3) := by decide +kernel
theorem dX11_rain_40 : decode cX11_rain 40 = .ok (.bipush (-4), 2) := by decide +kernel
theorem dX11_rain_42 : decode cX11_rain 42 = .ok (.ireturn, 1) := by decide +kernel
theorem dX11_rain_43 : decode cX11_rain 43 = .ok (.aload_n 0, 1) := by decide +kernel
theorem dX11_rain_44 : decode cX11_rain 44 = .ok (.getfield 9, 3) := by decide +kernel
theorem dX11_rain_47 : decode cX11_rain 47 = .ok (.sipush 148, 3) := by decide +kernel
theorem dX11_rain_50 : decode cX11_rain 50 = .ok (.aload_n 0, 1) := by decide +kernel
theorem dX11_rain_51 : decode cX11_rain 51 = .ok (.getfield 9, 3) := by decide +kernel
theorem dX11_rain_54 : decode cX11_rain 54 = .ok (.bipush 6, 2) := by decide +kernel
theorem dX11_rain_56 : decode cX11_rain 56 = .ok (.iaload, 1) := by decide +kernel
theorem dX11_rain_57 : decode cX11_rain 57 = .ok (.iadd, 1) := by decide +kernel
theorem dX11_rain_58 : decode cX11_rain 58 = .ok (.iload_n 1, 1) := by decide +kernel
theorem dX11_rain_59 : decode cX11_rain 59 = .ok (.iastore, 1) := by decide +kernel
theorem dX11_rain_60 : decode cX11_rain 60 = .ok (.aload_n 0, 1) := by decide +kernel
theorem dX11_rain_61 : decode cX11_rain 61 = .ok (.getfield 9, 3) := by decide +kernel
theorem dX11_rain_64 : decode cX11_rain 64 = .ok (.bipush 6, 2) := by decide +kernel
theorem dX11_rain_66 : decode cX11_rain 66 = .ok (.dup2, 1) := by decide +kernel
theorem dX11_rain_67 : decode cX11_rain 67 = .ok (.iaload, 1) := by decide +kernel
theorem dX11_rain_68 : decode cX11_rain 68 = .ok (.iconst 1, 1) := by decide +kernel
theorem dX11_rain_69 : decode cX11_rain 69 = .ok (.iadd, 1) := by decide +kernel
theorem dX11_rain_70 : decode cX11_rain 70 = .ok (.iastore, 1) := by decide +kernel
theorem dX11_rain_71 : decode cX11_rain 71 = .ok (.aload_n 0, 1) := by decide +kernel
theorem dX11_rain_72 : decode cX11_rain 72 = .ok (.getfield 9, 3) := by decide +kernel
theorem dX11_rain_75 : decode cX11_rain 75 = .ok (.bipush 6, 2) := by decide +kernel
theorem dX11_rain_77 : decode cX11_rain 77 = .ok (.iaload, 1) := by decide +kernel
theorem dX11_rain_78 : decode cX11_rain 78 = .ok (.ireturn, 1) := by decide +kernel
theorem dX11_least_0 : decode cX11_least 0 = .ok (.iload_n 0, 1) := by decide +kernel
theorem dX11_least_1 : decode cX11_least 1 = .ok (.iconst 1, 1) := by decide +kernel
theorem dX11_least_2 : decode cX11_least 2 = .ok (.iand, 1) := by decide +kernel
theorem dX11_least_3 : decode cX11_least 3 = .ok (.iconst 1, 1) := by decide +kernel
theorem dX11_least_4 : decode cX11_least 4 = .ok (.if_icmp .ne 7, 3) := by decide +kernel
theorem dX11_least_7 : decode cX11_least 7 = .ok (.iconst 0, 1) := by decide +kernel
theorem dX11_least_8 : decode cX11_least 8 = .ok (.goto 15, 3) := by decide +kernel
theorem dX11_least_11 : decode cX11_least 11 = .ok (.iload_n 0, 1) := by decide +kernel
theorem dX11_least_12 : decode cX11_least 12 = .ok (.iconst 2, 1) := by decide +kernel
theorem dX11_least_13 : decode cX11_least 13 = .ok (.iand, 1) := by decide +kernel
theorem dX11_least_14 : decode cX11_least 14 = .ok (.iconst 2, 1) := by decide +kernel
theorem dX11_least_15 : decode cX11_least 15 = .ok (.if_icmp .ne 7, 3) := by decide +kernel
theorem dX11_least_18 : decode cX11_least 18 = .ok (.iconst 1, 1) := by decide +kernel
theorem dX11_least_19 : decode cX11_least 19 = .ok (.goto 4, 3) := by decide +kernel
theorem dX11_least_22 : decode cX11_least 22 = .ok (.iconst 2, 1) := by decide +kernel
theorem dX11_least_23 : decode cX11_least 23 = .ok (.ireturn, 1) := by decide +kernel
set_option maxRecDepth 20000 in
theorem ggX11_run_X11_in : GoodIn wsX11_run wsX11_in := goodIn_r _ [8] (by decide +kernel) (by decide +kernel)
set_option maxRecDepth 20000 in
theorem gX11_run_X11_in : GoodIn wsX11_run (va_wsS RX11 59 yX11_in wsX11_in) := goodIn_app (goodIn_of _ (by decide +kernel)) ggX11_run_X11_in
set_option maxRecDepth 20000 in
theorem ggX11_run_X11_isRiver : GoodIn wsX11_run wsX11_isRiver := goodIn_r _ [12, 1, 66, 67, 68, 69, 70, 71, 72, 73, 74, 75, 76, 77, 78, 79, 80, 81, 82, 83, 84, 85, 86, 87, 88, 89, 90, 91, 92, 93, 94, 95, 96, 97, 98, 99, 100, 101, 102, 103] (by decide +kernel) (by decide +kernel)
set_option maxRecDepth 20000 in
theorem gX11_run_X11_isRiver : GoodIn wsX11_run (wsV RX11 215 RX11 yX11_isRiver wsX11_isRiver) := goodIn_app (goodIn_of _ (by decide +kernel)) ggX11_run_X11_isRiver
set_option maxRecDepth 20000 in
theorem ggX11_run_X11_takes : GoodIn wsX11_run wsX11_takes := goodIn_r _ [16, 4, 1, 17, 18, 19, 66, 67, 68, 69, 70, 71, 72, 73, 74, 75, 76, 77, 78, 79, 80, 81, 82, 83, 84, 85, 86, 87, 88, 89, 90, 91, 92, 93, 94, 95, 96, 97, 98, 99, 100, 101, 102, 103] (by decide +kernel) (by decide +kernel)
set_option maxRecDepth 20000 in
theorem gX11_run_X11_takes : GoodIn wsX11_run (wsV RX11 218 RX11 yX11_takes wsX11_takes) := goodIn_app (goodIn_of _ (by decide +kernel)) ggX11_run_X11_takes
set_option maxRecDepth 20000 in
theorem ggX11_run_X11_hourGoes : GoodIn wsX11_run wsX11_hourGoes := goodIn_r _ [23, 2, 3, 1, 24, 17, 4, 18, 19, 25, 26, 27, 7, 28, 29, 30, 31, 32, 33, 34, 35, 36, 37, 38, 39, 40, 41, 42, 43, 44, 45, 46, 47, 48, 49, 50, 51, 52, 53, 54, 55, 56, 57, 58, 59, 60, 61, 62, 66, 67, 68, 69, 70, 71, 72, 73, 74, 75, 76, 77, 78, 79, 80, 81, 82, 83, 84, 85, 86, 87, 88, 89, 90, 91, 92, 93, 94, 95, 96, 97, 98, 99, 100, 101, 102, 103] (by decide +kernel) (by decide +kernel)
set_option maxRecDepth 20000 in
theorem gX11_run_X11_hourGoes : GoodIn wsX11_run (wsV RX11 221 RX11 yX11_hourGoes wsX11_hourGoes) := goodIn_app (goodIn_of _ (by decide +kernel)) ggX11_run_X11_hourGoes
set_option maxRecDepth 20000 in
theorem ggX11_run_X11_least : GoodIn wsX11_run wsX11_least := goodIn_r _ [65] (by decide +kernel) (by decide +kernel)
set_option maxRecDepth 20000 in
theorem gX11_run_X11_least : GoodIn wsX11_run (va_wsS RX11 224 yX11_least wsX11_least) := goodIn_app (goodIn_of _ (by decide +kernel)) ggX11_run_X11_least
theorem dX11_run_0 : decode cX11_run 0 = .ok (.iload_n 1, 1) := by decide +kernel
theorem dX11_run_1 : decode cX11_run 1 = .ok (.iconst 0, 1) := by decide +kernel
theorem dX11_run_2 : decode cX11_run 2 = .ok (.iconst 2, 1) := by decide +kernel
theorem dX11_run_3 : decode cX11_run 3 = .ok (.invokestatic 59, 3) := by decide +kernel
theorem dX11_run_6 : decode cX11_run 6 = .ok (.ifCond .ne 5, 3) := by decide +kernel
theorem dX11_run_9 : decode cX11_run 9 = .ok (.iconst (-1), 1) := by decide +kernel
theorem dX11_run_10 : decode cX11_run 10 = .ok (.ireturn, 1) := by decide +kernel
theorem dX11_run_11 : decode cX11_run 11 = .ok (.aload_n 0, 1) := by decide +kernel
theorem dX11_run_12 : decode cX11_run 12 = .ok (.invokevirtual 215, 3) := by decide +kernel
theorem dX11_run_15 : decode cX11_run 15 = .ok (.ifCond .ne 6, 3) := by decide +kernel
theorem dX11_run_18 : decode cX11_run 18 = .ok (.bipush (-3), 2) := by decide +kernel
theorem dX11_run_20 : decode cX11_run 20 = .ok (.ireturn, 1) := by decide +kernel
theorem dX11_run_21 : decode cX11_run 21 = .ok (.aload_n 0, 1) := by decide +kernel
theorem dX11_run_22 : decode cX11_run 22 = .ok (.invokevirtual 218, 3) := by decide +kernel
theorem dX11_run_25 : decode cX11_run 25 = .ok (.bipush (-5), 2) := by decide +kernel
theorem dX11_run_27 : decode cX11_run 27 = .ok (.istore_n 2, 1) := by decide +kernel
theorem dX11_run_28 : decode cX11_run 28 = .ok (.bipush (-5), 2) := by decide +kernel
theorem dX11_run_30 : decode cX11_run 30 = .ok (.istore_n 3, 1) := by decide +kernel
theorem dX11_run_31 : decode cX11_run 31 = .ok (.iconst 0, 1) := by decide +kernel
theorem dX11_run_32 : decode cX11_run 32 = .ok (.istore 4, 2) := by decide +kernel
theorem dX11_run_34 : decode cX11_run 34 = .ok (.iload 4, 2) := by decide +kernel
theorem dX11_run_36 : decode cX11_run 36 = .ok (.aload_n 0, 1) := by decide +kernel
theorem dX11_run_37 : decode cX11_run 37 = .ok (.getfield 9, 3) := by decide +kernel
theorem dX11_run_40 : decode cX11_run 40 = .ok (.bipush 6, 2) := by decide +kernel
theorem dX11_run_42 : decode cX11_run 42 = .ok (.iaload, 1) := by decide +kernel
theorem dX11_run_43 : decode cX11_run 43 = .ok (.if_icmp .ge 86, 3) := by decide +kernel
theorem dX11_run_46 : decode cX11_run 46 = .ok (.aload_n 0, 1) := by decide +kernel
theorem dX11_run_47 : decode cX11_run 47 = .ok (.aload_n 0, 1) := by decide +kernel
theorem dX11_run_48 : decode cX11_run 48 = .ok (.getfield 9, 3) := by decide +kernel
theorem dX11_run_51 : decode cX11_run 51 = .ok (.sipush 148, 3) := by decide +kernel
theorem dX11_run_54 : decode cX11_run 54 = .ok (.iload 4, 2) := by decide +kernel
theorem dX11_run_56 : decode cX11_run 56 = .ok (.iadd, 1) := by decide +kernel
theorem dX11_run_57 : decode cX11_run 57 = .ok (.iaload, 1) := by decide +kernel
theorem dX11_run_58 : decode cX11_run 58 = .ok (.invokevirtual 221, 3) := by decide +kernel
theorem dX11_run_61 : decode cX11_run 61 = .ok (.iload_n 2, 1) := by decide +kernel
theorem dX11_run_62 : decode cX11_run 62 = .ok (.bipush (-5), 2) := by decide +kernel
theorem dX11_run_64 : decode cX11_run 64 = .ok (.if_icmp .ne 26, 3) := by decide +kernel
theorem dX11_run_67 : decode cX11_run 67 = .ok (.aload_n 0, 1) := by decide +kernel
theorem dX11_run_68 : decode cX11_run 68 = .ok (.getfield 206, 3) := by decide +kernel
theorem dX11_run_71 : decode cX11_run 71 = .ok (.ifCond .eq 19, 3) := by decide +kernel
theorem dX11_run_74 : decode cX11_run 74 = .ok (.bipush 10, 2) := by decide +kernel
theorem dX11_run_76 : decode cX11_run 76 = .ok (.iload 4, 2) := by decide +kernel
theorem dX11_run_78 : decode cX11_run 78 = .ok (.imul, 1) := by decide +kernel
theorem dX11_run_79 : decode cX11_run 79 = .ok (.aload_n 0, 1) := by decide +kernel
theorem dX11_run_80 : decode cX11_run 80 = .ok (.getfield 206, 3) := by decide +kernel
theorem dX11_run_83 : decode cX11_run 83 = .ok (.invokestatic 224, 3) := by decide +kernel
theorem dX11_run_86 : decode cX11_run 86 = .ok (.iadd, 1) := by decide +kernel
theorem dX11_run_87 : decode cX11_run 87 = .ok (.goto 4, 3) := by decide +kernel
theorem dX11_run_90 : decode cX11_run 90 = .ok (.iload_n 2, 1) := by decide +kernel
theorem dX11_run_91 : decode cX11_run 91 = .ok (.istore_n 2, 1) := by decide +kernel
theorem dX11_run_92 : decode cX11_run 92 = .ok (.iload_n 3, 1) := by decide +kernel
theorem dX11_run_93 : decode cX11_run 93 = .ok (.bipush (-5), 2) := by decide +kernel
theorem dX11_run_95 : decode cX11_run 95 = .ok (.if_icmp .ne 26, 3) := by decide +kernel
theorem dX11_run_98 : decode cX11_run 98 = .ok (.aload_n 0, 1) := by decide +kernel
theorem dX11_run_99 : decode cX11_run 99 = .ok (.getfield 209, 3) := by decide +kernel
theorem dX11_run_102 : decode cX11_run 102 = .ok (.ifCond .eq 19, 3) := by decide +kernel
theorem dX11_run_105 : decode cX11_run 105 = .ok (.bipush 10, 2) := by decide +kernel
theorem dX11_run_107 : decode cX11_run 107 = .ok (.iload 4, 2) := by decide +kernel
theorem dX11_run_109 : decode cX11_run 109 = .ok (.imul, 1) := by decide +kernel
theorem dX11_run_110 : decode cX11_run 110 = .ok (.aload_n 0, 1) := by decide +kernel
theorem dX11_run_111 : decode cX11_run 111 = .ok (.getfield 209, 3) := by decide +kernel
theorem dX11_run_114 : decode cX11_run 114 = .ok (.invokestatic 224, 3) := by decide +kernel
theorem dX11_run_117 : decode cX11_run 117 = .ok (.iadd, 1) := by decide +kernel
theorem dX11_run_118 : decode cX11_run 118 = .ok (.goto 4, 3) := by decide +kernel
theorem dX11_run_121 : decode cX11_run 121 = .ok (.iload_n 3, 1) := by decide +kernel
theorem dX11_run_122 : decode cX11_run 122 = .ok (.istore_n 3, 1) := by decide +kernel
theorem dX11_run_123 : decode cX11_run 123 = .ok (.iinc 4 1, 3) := by decide +kernel
theorem dX11_run_126 : decode cX11_run 126 = .ok (.goto (-92), 3) := by decide +kernel
theorem dX11_run_129 : decode cX11_run 129 = .ok (.iload_n 1, 1) := by decide +kernel
theorem dX11_run_130 : decode cX11_run 130 = .ok (.ifCond .ne 7, 3) := by decide +kernel
theorem dX11_run_133 : decode cX11_run 133 = .ok (.iload_n 2, 1) := by decide +kernel
theorem dX11_run_134 : decode cX11_run 134 = .ok (.goto 32, 3) := by decide +kernel
theorem dX11_run_137 : decode cX11_run 137 = .ok (.iload_n 1, 1) := by decide +kernel
theorem dX11_run_138 : decode cX11_run 138 = .ok (.iconst 1, 1) := by decide +kernel
theorem dX11_run_139 : decode cX11_run 139 = .ok (.if_icmp .ne 7, 3) := by decide +kernel
theorem dX11_run_142 : decode cX11_run 142 = .ok (.iload_n 3, 1) := by decide +kernel
theorem dX11_run_143 : decode cX11_run 143 = .ok (.goto 23, 3) := by decide +kernel
theorem dX11_run_146 : decode cX11_run 146 = .ok (.aload_n 0, 1) := by decide +kernel
theorem dX11_run_147 : decode cX11_run 147 = .ok (.getfield 27, 3) := by decide +kernel
theorem dX11_run_150 : decode cX11_run 150 = .ok (.iconst 0, 1) := by decide +kernel
theorem dX11_run_151 : decode cX11_run 151 = .ok (.iaload, 1) := by decide +kernel
theorem dX11_run_152 : decode cX11_run 152 = .ok (.aload_n 0, 1) := by decide +kernel
theorem dX11_run_153 : decode cX11_run 153 = .ok (.getfield 27, 3) := by decide +kernel
theorem dX11_run_156 : decode cX11_run 156 = .ok (.iconst 1, 1) := by decide +kernel
theorem dX11_run_157 : decode cX11_run 157 = .ok (.iaload, 1) := by decide +kernel
theorem dX11_run_158 : decode cX11_run 158 = .ok (.iadd, 1) := by decide +kernel
theorem dX11_run_159 : decode cX11_run 159 = .ok (.aload_n 0, 1) := by decide +kernel
theorem dX11_run_160 : decode cX11_run 160 = .ok (.getfield 27, 3) := by decide +kernel
theorem dX11_run_163 : decode cX11_run 163 = .ok (.iconst 2, 1) := by decide +kernel
theorem dX11_run_164 : decode cX11_run 164 = .ok (.iaload, 1) := by decide +kernel
theorem dX11_run_165 : decode cX11_run 165 = .ok (.iadd, 1) := by decide +kernel
theorem dX11_run_166 : decode cX11_run 166 = .ok (.ireturn, 1) := by decide +kernel
theorem dX11_drops_0 : decode cX11_drops 0 = .ok (.iload_n 0, 1) := by decide +kernel
theorem dX11_drops_1 : decode cX11_drops 1 = .ok (.iconst 1, 1) := by decide +kernel
theorem dX11_drops_2 : decode cX11_drops 2 = .ok (.iand, 1) := by decide +kernel
theorem dX11_drops_3 : decode cX11_drops 3 = .ok (.iload_n 0, 1) := by decide +kernel
theorem dX11_drops_4 : decode cX11_drops 4 = .ok (.iconst 1, 1) := by decide +kernel
theorem dX11_drops_5 : decode cX11_drops 5 = .ok (.ishr, 1) := by decide +kernel
theorem dX11_drops_6 : decode cX11_drops 6 = .ok (.iconst 1, 1) := by decide +kernel
theorem dX11_drops_7 : decode cX11_drops 7 = .ok (.iand, 1) := by decide +kernel
theorem dX11_drops_8 : decode cX11_drops 8 = .ok (.iadd, 1) := by decide +kernel
theorem dX11_drops_9 : decode cX11_drops 9 = .ok (.iload_n 0, 1) := by decide +kernel
theorem dX11_drops_10 : decode cX11_drops 10 = .ok (.iconst 2, 1) := by decide +kernel
theorem dX11_drops_11 : decode cX11_drops 11 = .ok (.ishr, 1) := by decide +kernel
theorem dX11_drops_12 : decode cX11_drops 12 = .ok (.iconst 1, 1) := by decide +kernel
theorem dX11_drops_13 : decode cX11_drops 13 = .ok (.iand, 1) := by decide +kernel
theorem dX11_drops_14 : decode cX11_drops 14 = .ok (.iadd, 1) := by decide +kernel
theorem dX11_drops_15 : decode cX11_drops 15 = .ok (.ireturn, 1) := by decide +kernel
theorem dX11_power_0 : decode cX11_power 0 = .ok (.iconst 1, 1) := by decide +kernel
theorem dX11_power_1 : decode cX11_power 1 = .ok (.istore_n 2, 1) := by decide +kernel
theorem dX11_power_2 : decode cX11_power 2 = .ok (.iconst 0, 1) := by decide +kernel
theorem dX11_power_3 : decode cX11_power 3 = .ok (.istore_n 3, 1) := by decide +kernel
theorem dX11_power_4 : decode cX11_power 4 = .ok (.iload_n 3, 1) := by decide +kernel
theorem dX11_power_5 : decode cX11_power 5 = .ok (.iload_n 1, 1) := by decide +kernel
theorem dX11_power_6 : decode cX11_power 6 = .ok (.if_icmp .ge 20, 3) := by decide +kernel
theorem dX11_power_9 : decode cX11_power 9 = .ok (.iload_n 2, 1) := by decide +kernel
theorem dX11_power_10 : decode cX11_power 10 = .ok (.iconst 1, 1) := by decide +kernel
theorem dX11_power_11 : decode cX11_power 11 = .ok (.aload_n 0, 1) := by decide +kernel
theorem dX11_power_12 : decode cX11_power 12 = .ok (.getfield 9, 3) := by decide +kernel
theorem dX11_power_15 : decode cX11_power 15 = .ok (.iconst 0, 1) := by decide +kernel
theorem dX11_power_16 : decode cX11_power 16 = .ok (.iaload, 1) := by decide +kernel
theorem dX11_power_17 : decode cX11_power 17 = .ok (.ishl, 1) := by decide +kernel
theorem dX11_power_18 : decode cX11_power 18 = .ok (.imul, 1) := by decide +kernel
theorem dX11_power_19 : decode cX11_power 19 = .ok (.istore_n 2, 1) := by decide +kernel
theorem dX11_power_20 : decode cX11_power 20 = .ok (.iinc 3 1, 3) := by decide +kernel
theorem dX11_power_23 : decode cX11_power 23 = .ok (.goto (-19), 3) := by decide +kernel
theorem dX11_power_26 : decode cX11_power 26 = .ok (.iload_n 2, 1) := by decide +kernel
theorem dX11_power_27 : decode cX11_power 27 = .ok (.ireturn, 1) := by decide +kernel
theorem dX11_rainOf_0 : decode cX11_rainOf 0 = .ok (.iload_n 1, 1) := by decide +kernel
theorem dX11_rainOf_1 : decode cX11_rainOf 1 = .ok (.istore 4, 2) := by decide +kernel
theorem dX11_rainOf_3 : decode cX11_rainOf 3 = .ok (.iload_n 2, 1) := by decide +kernel
theorem dX11_rainOf_4 : decode cX11_rainOf 4 = .ok (.iconst 1, 1) := by decide +kernel
theorem dX11_rainOf_5 : decode cX11_rainOf 5 = .ok (.isub, 1) := by decide +kernel
theorem dX11_rainOf_6 : decode cX11_rainOf 6 = .ok (.istore 5, 2) := by decide +kernel
theorem dX11_rainOf_8 : decode cX11_rainOf 8 = .ok (.iload 5, 2) := by decide +kernel
theorem dX11_rainOf_10 : decode cX11_rainOf 10 = .ok (.iload_n 3, 1) := by decide +kernel
theorem dX11_rainOf_11 : decode cX11_rainOf 11 = .ok (.if_icmp .le 20, 3) := by decide +kernel
theorem dX11_rainOf_14 : decode cX11_rainOf 14 = .ok (.iload 4, 2) := by decide +kernel
theorem dX11_rainOf_16 : decode cX11_rainOf 16 = .ok (.aload_n 0, 1) := by decide +kernel
theorem dX11_rainOf_17 : decode cX11_rainOf 17 = .ok (.getfield 9, 3) := by decide +kernel
theorem dX11_rainOf_20 : decode cX11_rainOf 20 = .ok (.iconst 0, 1) := by decide +kernel
theorem dX11_rainOf_21 : decode cX11_rainOf 21 = .ok (.iaload, 1) := by decide +kernel
theorem dX11_rainOf_22 : decode cX11_rainOf 22 = .ok (.ishr, 1) := by decide +kernel
theorem dX11_rainOf_23 : decode cX11_rainOf 23 = .ok (.istore 4, 2) := by decide +kernel
theorem dX11_rainOf_25 : decode cX11_rainOf 25 = .ok (.iinc 5 (-1), 3) := by decide +kernel
theorem dX11_rainOf_28 : decode cX11_rainOf 28 = .ok (.goto (-20), 3) := by decide +kernel
theorem dX11_rainOf_31 : decode cX11_rainOf 31 = .ok (.iload 4, 2) := by decide +kernel
theorem dX11_rainOf_33 : decode cX11_rainOf 33 = .ok (.iconst 1, 1) := by decide +kernel
theorem dX11_rainOf_34 : decode cX11_rainOf 34 = .ok (.aload_n 0, 1) := by decide +kernel
theorem dX11_rainOf_35 : decode cX11_rainOf 35 = .ok (.getfield 9, 3) := by decide +kernel
theorem dX11_rainOf_38 : decode cX11_rainOf 38 = .ok (.iconst 0, 1) := by decide +kernel
theorem dX11_rainOf_39 : decode cX11_rainOf 39 = .ok (.iaload, 1) := by decide +kernel
theorem dX11_rainOf_40 : decode cX11_rainOf 40 = .ok (.ishl, 1) := by decide +kernel
theorem dX11_rainOf_41 : decode cX11_rainOf 41 = .ok (.iconst 1, 1) := by decide +kernel
theorem dX11_rainOf_42 : decode cX11_rainOf 42 = .ok (.isub, 1) := by decide +kernel
theorem dX11_rainOf_43 : decode cX11_rainOf 43 = .ok (.iand, 1) := by decide +kernel
theorem dX11_rainOf_44 : decode cX11_rainOf 44 = .ok (.ireturn, 1) := by decide +kernel
set_option maxRecDepth 20000 in
theorem ggX11_failsBy_X11_takes : GoodIn wsX11_failsBy wsX11_takes := goodIn_r _ [7, 8, 1, 9, 10, 11, 63, 64, 65, 66, 67, 68, 69, 70, 71, 72, 73, 74, 75, 76, 77, 78, 79, 80, 81, 82, 83, 84, 85, 86, 87, 88, 89, 90, 91, 92, 93, 94, 95, 96, 97, 98, 99, 100] (by decide +kernel) (by decide +kernel)
set_option maxRecDepth 20000 in
theorem gX11_failsBy_X11_takes : GoodIn wsX11_failsBy (wsV RX11 218 RX11 yX11_takes wsX11_takes) := goodIn_app (goodIn_of _ (by decide +kernel)) ggX11_failsBy_X11_takes
set_option maxRecDepth 20000 in
theorem ggX11_failsBy_X11_rainOf : GoodIn wsX11_failsBy wsX11_rainOf := goodIn_r _ [15, 1, 63, 64, 65, 66, 67, 68, 69, 70, 71, 72, 73, 74, 75, 76, 77, 78, 79, 80, 81, 82, 83, 84, 85, 86, 87, 88, 89, 90, 91, 92, 93, 94, 95, 96, 97, 98, 99, 100] (by decide +kernel) (by decide +kernel)
set_option maxRecDepth 20000 in
theorem gX11_failsBy_X11_rainOf : GoodIn wsX11_failsBy (wsV RX11 227 RX11 yX11_rainOf wsX11_rainOf) := goodIn_app (goodIn_of _ (by decide +kernel)) ggX11_failsBy_X11_rainOf
set_option maxRecDepth 20000 in
theorem ggX11_failsBy_X11_drops : GoodIn wsX11_failsBy wsX11_drops := goodIn_r _ [18] (by decide +kernel) (by decide +kernel)
set_option maxRecDepth 20000 in
theorem gX11_failsBy_X11_drops : GoodIn wsX11_failsBy (va_wsS RX11 231 yX11_drops wsX11_drops) := goodIn_app (goodIn_of _ (by decide +kernel)) ggX11_failsBy_X11_drops
set_option maxRecDepth 20000 in
theorem ggX11_failsBy_X11_hourGoes : GoodIn wsX11_failsBy wsX11_hourGoes := goodIn_r _ [22, 2, 23, 1, 24, 9, 8, 10, 11, 25, 26, 27, 6, 28, 29, 30, 31, 32, 33, 34, 35, 36, 37, 38, 39, 40, 41, 42, 43, 44, 45, 46, 47, 48, 49, 50, 51, 52, 53, 54, 55, 56, 57, 58, 59, 60, 61, 62, 63, 64, 65, 66, 67, 68, 69, 70, 71, 72, 73, 74, 75, 76, 77, 78, 79, 80, 81, 82, 83, 84, 85, 86, 87, 88, 89, 90, 91, 92, 93, 94, 95, 96, 97, 98, 99, 100] (by decide +kernel) (by decide +kernel)
set_option maxRecDepth 20000 in
theorem gX11_failsBy_X11_hourGoes : GoodIn wsX11_failsBy (wsV RX11 221 RX11 yX11_hourGoes wsX11_hourGoes) := goodIn_app (goodIn_of _ (by decide +kernel)) ggX11_failsBy_X11_hourGoes
theorem dX11_failsBy_0 : decode cX11_failsBy 0 = .ok (.aload_n 0, 1) := by decide +kernel
theorem dX11_failsBy_1 : decode cX11_failsBy 1 = .ok (.invokevirtual 218, 3) := by decide +kernel
theorem dX11_failsBy_4 : decode cX11_failsBy 4 = .ok (.aload_n 0, 1) := by decide +kernel
theorem dX11_failsBy_5 : decode cX11_failsBy 5 = .ok (.getfield 9, 3) := by decide +kernel
theorem dX11_failsBy_8 : decode cX11_failsBy 8 = .ok (.iconst 2, 1) := by decide +kernel
theorem dX11_failsBy_9 : decode cX11_failsBy 9 = .ok (.iaload, 1) := by decide +kernel
theorem dX11_failsBy_10 : decode cX11_failsBy 10 = .ok (.istore_n 3, 1) := by decide +kernel
theorem dX11_failsBy_11 : decode cX11_failsBy 11 = .ok (.iconst 0, 1) := by decide +kernel
theorem dX11_failsBy_12 : decode cX11_failsBy 12 = .ok (.istore 4, 2) := by decide +kernel
theorem dX11_failsBy_14 : decode cX11_failsBy 14 = .ok (.iload 4, 2) := by decide +kernel
theorem dX11_failsBy_16 : decode cX11_failsBy 16 = .ok (.iload_n 2, 1) := by decide +kernel
theorem dX11_failsBy_17 : decode cX11_failsBy 17 = .ok (.if_icmp .ge 33, 3) := by decide +kernel
theorem dX11_failsBy_20 : decode cX11_failsBy 20 = .ok (.aload_n 0, 1) := by decide +kernel
theorem dX11_failsBy_21 : decode cX11_failsBy 21 = .ok (.iload_n 1, 1) := by decide +kernel
theorem dX11_failsBy_22 : decode cX11_failsBy 22 = .ok (.iload_n 2, 1) := by decide +kernel
theorem dX11_failsBy_23 : decode cX11_failsBy 23 = .ok (.iload 4, 2) := by decide +kernel
theorem dX11_failsBy_25 : decode cX11_failsBy 25 = .ok (.invokevirtual 227, 3) := by decide +kernel
theorem dX11_failsBy_28 : decode cX11_failsBy 28 = .ok (.istore 5, 2) := by decide +kernel
theorem dX11_failsBy_30 : decode cX11_failsBy 30 = .ok (.iload_n 3, 1) := by decide +kernel
theorem dX11_failsBy_31 : decode cX11_failsBy 31 = .ok (.iload 5, 2) := by decide +kernel
theorem dX11_failsBy_33 : decode cX11_failsBy 33 = .ok (.invokestatic 231, 3) := by decide +kernel
theorem dX11_failsBy_36 : decode cX11_failsBy 36 = .ok (.isub, 1) := by decide +kernel
theorem dX11_failsBy_37 : decode cX11_failsBy 37 = .ok (.istore_n 3, 1) := by decide +kernel
theorem dX11_failsBy_38 : decode cX11_failsBy 38 = .ok (.aload_n 0, 1) := by decide +kernel
theorem dX11_failsBy_39 : decode cX11_failsBy 39 = .ok (.iload 5, 2) := by decide +kernel
theorem dX11_failsBy_41 : decode cX11_failsBy 41 = .ok (.invokevirtual 221, 3) := by decide +kernel
theorem dX11_failsBy_44 : decode cX11_failsBy 44 = .ok (.iinc 4 1, 3) := by decide +kernel
theorem dX11_failsBy_47 : decode cX11_failsBy 47 = .ok (.goto (-33), 3) := by decide +kernel
theorem dX11_failsBy_50 : decode cX11_failsBy 50 = .ok (.aload_n 0, 1) := by decide +kernel
theorem dX11_failsBy_51 : decode cX11_failsBy 51 = .ok (.getfield 206, 3) := by decide +kernel
theorem dX11_failsBy_54 : decode cX11_failsBy 54 = .ok (.ifCond .eq 11, 3) := by decide +kernel
theorem dX11_failsBy_57 : decode cX11_failsBy 57 = .ok (.iload_n 3, 1) := by decide +kernel
theorem dX11_failsBy_58 : decode cX11_failsBy 58 = .ok (.ifCond .lt 7, 3) := by decide +kernel
theorem dX11_failsBy_61 : decode cX11_failsBy 61 = .ok (.iconst 1, 1) := by decide +kernel
theorem dX11_failsBy_62 : decode cX11_failsBy 62 = .ok (.goto 4, 3) := by decide +kernel
theorem dX11_failsBy_65 : decode cX11_failsBy 65 = .ok (.iconst 0, 1) := by decide +kernel
theorem dX11_failsBy_66 : decode cX11_failsBy 66 = .ok (.ireturn, 1) := by decide +kernel
set_option maxRecDepth 20000 in
theorem ggX11_areHolding_X11_power : GoodIn wsX11_areHolding wsX11_power := goodIn_r _ [8, 2, 73, 74, 75, 76, 77, 78, 79, 80, 81, 82, 83, 84, 85, 86, 87, 88, 89, 90, 91, 92, 93, 94, 95, 96, 97, 98, 99, 100, 101, 102, 103, 104, 105, 106, 107, 108, 109, 110] (by decide +kernel) (by decide +kernel)
set_option maxRecDepth 20000 in
theorem gX11_areHolding_X11_power : GoodIn wsX11_areHolding (wsV RX11 237 RX11 yX11_power wsX11_power) := goodIn_app (goodIn_of _ (by decide +kernel)) ggX11_areHolding_X11_power
set_option maxRecDepth 20000 in
theorem ggX11_areHolding_X11_failsBy : GoodIn wsX11_areHolding wsX11_failsBy := goodIn_r _ [12, 2, 13, 14, 15, 16, 7, 17, 18, 19, 20, 21, 22, 23, 24, 25, 26, 27, 28, 29, 30, 31, 32, 33, 34, 35, 36, 37, 38, 39, 40, 41, 42, 43, 44, 45, 46, 47, 48, 49, 50, 51, 52, 53, 54, 55, 56, 57, 58, 59, 60, 61, 62, 63, 64, 65, 66, 67, 68, 69, 70, 71, 72, 73, 74, 75, 76, 77, 78, 79, 80, 81, 82, 83, 84, 85, 86, 87, 88, 89, 90, 91, 92, 93, 94, 95, 96, 97, 98, 99, 100, 101, 102, 103, 104, 105, 106, 107, 108, 109, 110] (by decide +kernel) (by decide +kernel)
set_option maxRecDepth 20000 in
theorem gX11_areHolding_X11_failsBy : GoodIn wsX11_areHolding (wsV RX11 240 RX11 yX11_failsBy wsX11_failsBy) := goodIn_app (goodIn_of _ (by decide +kernel)) ggX11_areHolding_X11_failsBy
theorem dX11_areHolding_0 : decode cX11_areHolding 0 = .ok (.aload_n 0, 1) := by decide +kernel
theorem dX11_areHolding_1 : decode cX11_areHolding 1 = .ok (.bipush (-5), 2) := by decide +kernel
theorem dX11_areHolding_3 : decode cX11_areHolding 3 = .ok (.putfield 234, 3) := by decide +kernel
theorem dX11_areHolding_6 : decode cX11_areHolding 6 = .ok (.iconst 1, 1) := by decide +kernel
theorem dX11_areHolding_7 : decode cX11_areHolding 7 = .ok (.istore_n 1, 1) := by decide +kernel
theorem dX11_areHolding_8 : decode cX11_areHolding 8 = .ok (.iload_n 1, 1) := by decide +kernel
theorem dX11_areHolding_9 : decode cX11_areHolding 9 = .ok (.aload_n 0, 1) := by decide +kernel
theorem dX11_areHolding_10 : decode cX11_areHolding 10 = .ok (.getfield 9, 3) := by decide +kernel
theorem dX11_areHolding_13 : decode cX11_areHolding 13 = .ok (.iconst 1, 1) := by decide +kernel
theorem dX11_areHolding_14 : decode cX11_areHolding 14 = .ok (.iaload, 1) := by decide +kernel
theorem dX11_areHolding_15 : decode cX11_areHolding 15 = .ok (.if_icmp .gt 63, 3) := by decide +kernel
theorem dX11_areHolding_18 : decode cX11_areHolding 18 = .ok (.aload_n 0, 1) := by decide +kernel
theorem dX11_areHolding_19 : decode cX11_areHolding 19 = .ok (.getfield 234, 3) := by decide +kernel
theorem dX11_areHolding_22 : decode cX11_areHolding 22 = .ok (.bipush (-5), 2) := by decide +kernel
theorem dX11_areHolding_24 : decode cX11_areHolding 24 = .ok (.if_icmp .ne 54, 3) := by decide +kernel
theorem dX11_areHolding_27 : decode cX11_areHolding 27 = .ok (.iconst 0, 1) := by decide +kernel
theorem dX11_areHolding_28 : decode cX11_areHolding 28 = .ok (.istore_n 2, 1) := by decide +kernel
theorem dX11_areHolding_29 : decode cX11_areHolding 29 = .ok (.iload_n 2, 1) := by decide +kernel
theorem dX11_areHolding_30 : decode cX11_areHolding 30 = .ok (.aload_n 0, 1) := by decide +kernel
theorem dX11_areHolding_31 : decode cX11_areHolding 31 = .ok (.iload_n 1, 1) := by decide +kernel
theorem dX11_areHolding_32 : decode cX11_areHolding 32 = .ok (.invokevirtual 237, 3) := by decide +kernel
theorem dX11_areHolding_35 : decode cX11_areHolding 35 = .ok (.if_icmp .ge 37, 3) := by decide +kernel
theorem dX11_areHolding_38 : decode cX11_areHolding 38 = .ok (.aload_n 0, 1) := by decide +kernel
theorem dX11_areHolding_39 : decode cX11_areHolding 39 = .ok (.getfield 234, 3) := by decide +kernel
theorem dX11_areHolding_42 : decode cX11_areHolding 42 = .ok (.bipush (-5), 2) := by decide +kernel
theorem dX11_areHolding_44 : decode cX11_areHolding 44 = .ok (.if_icmp .ne 28, 3) := by decide +kernel
theorem dX11_areHolding_47 : decode cX11_areHolding 47 = .ok (.aload_n 0, 1) := by decide +kernel
theorem dX11_areHolding_48 : decode cX11_areHolding 48 = .ok (.iload_n 2, 1) := by decide +kernel
theorem dX11_areHolding_49 : decode cX11_areHolding 49 = .ok (.iload_n 1, 1) := by decide +kernel
theorem dX11_areHolding_50 : decode cX11_areHolding 50 = .ok (.invokevirtual 240, 3) := by decide +kernel
theorem dX11_areHolding_53 : decode cX11_areHolding 53 = .ok (.ifCond .eq 13, 3) := by decide +kernel
theorem dX11_areHolding_56 : decode cX11_areHolding 56 = .ok (.aload_n 0, 1) := by decide +kernel
theorem dX11_areHolding_57 : decode cX11_areHolding 57 = .ok (.iload_n 1, 1) := by decide +kernel
theorem dX11_areHolding_58 : decode cX11_areHolding 58 = .ok (.putfield 234, 3) := by decide +kernel
theorem dX11_areHolding_61 : decode cX11_areHolding 61 = .ok (.aload_n 0, 1) := by decide +kernel
theorem dX11_areHolding_62 : decode cX11_areHolding 62 = .ok (.iload_n 2, 1) := by decide +kernel
theorem dX11_areHolding_63 : decode cX11_areHolding 63 = .ok (.putfield 243, 3) := by decide +kernel
theorem dX11_areHolding_66 : decode cX11_areHolding 66 = .ok (.iinc 2 1, 3) := by decide +kernel
theorem dX11_areHolding_69 : decode cX11_areHolding 69 = .ok (.goto (-40), 3) := by decide +kernel
theorem dX11_areHolding_72 : decode cX11_areHolding 72 = .ok (.iinc 1 1, 3) := by decide +kernel
theorem dX11_areHolding_75 : decode cX11_areHolding 75 = .ok (.goto (-67), 3) := by decide +kernel
theorem dX11_areHolding_78 : decode cX11_areHolding 78 = .ok (.aload_n 0, 1) := by decide +kernel
theorem dX11_areHolding_79 : decode cX11_areHolding 79 = .ok (.getfield 234, 3) := by decide +kernel
theorem dX11_areHolding_82 : decode cX11_areHolding 82 = .ok (.bipush (-5), 2) := by decide +kernel
theorem dX11_areHolding_84 : decode cX11_areHolding 84 = .ok (.if_icmp .ne 7, 3) := by decide +kernel
theorem dX11_areHolding_87 : decode cX11_areHolding 87 = .ok (.iconst 1, 1) := by decide +kernel
theorem dX11_areHolding_88 : decode cX11_areHolding 88 = .ok (.goto 4, 3) := by decide +kernel
theorem dX11_areHolding_91 : decode cX11_areHolding 91 = .ok (.iconst 0, 1) := by decide +kernel
theorem dX11_areHolding_92 : decode cX11_areHolding 92 = .ok (.ireturn, 1) := by decide +kernel
set_option maxRecDepth 20000 in
theorem ggX11_holds_X11_isRiver : GoodIn wsX11_holds wsX11_isRiver := goodIn_r _ [5, 6, 81, 82, 83, 84, 85, 86, 87, 88, 89, 90, 91, 92, 93, 94, 95, 96, 97, 98, 99, 100, 101, 102, 103, 104, 105, 106, 107, 108, 109, 110, 111, 112, 113, 114, 115, 116, 117, 118] (by decide +kernel) (by decide +kernel)
set_option maxRecDepth 20000 in
theorem gX11_holds_X11_isRiver : GoodIn wsX11_holds (wsV RX11 215 RX11 yX11_isRiver wsX11_isRiver) := goodIn_app (goodIn_of _ (by decide +kernel)) ggX11_holds_X11_isRiver
set_option maxRecDepth 20000 in
theorem ggX11_holds_X11_areHolding : GoodIn wsX11_holds wsX11_areHolding := goodIn_r _ [10, 11, 6, 12, 13, 14, 15, 4, 16, 17, 18, 19, 20, 21, 22, 23, 24, 25, 26, 27, 28, 29, 30, 31, 32, 33, 34, 35, 36, 37, 38, 39, 40, 41, 42, 43, 44, 45, 46, 47, 48, 49, 50, 51, 52, 53, 54, 55, 56, 57, 58, 59, 60, 61, 62, 63, 64, 65, 66, 67, 68, 69, 70, 71, 72, 73, 74, 75, 76, 77, 78, 79, 80, 81, 82, 83, 84, 85, 86, 87, 88, 89, 90, 91, 92, 93, 94, 95, 96, 97, 98, 99, 100, 101, 102, 103, 104, 105, 106, 107, 108, 109, 110, 111, 112, 113, 114, 115, 116, 117, 118] (by decide +kernel) (by decide +kernel)
set_option maxRecDepth 20000 in
theorem gX11_holds_X11_areHolding : GoodIn wsX11_holds (wsV RX11 246 RX11 yX11_areHolding wsX11_areHolding) := goodIn_app (goodIn_of _ (by decide +kernel)) ggX11_holds_X11_areHolding
theorem dX11_holds_0 : decode cX11_holds 0 = .ok (.aload_n 0, 1) := by decide +kernel
theorem dX11_holds_1 : decode cX11_holds 1 = .ok (.invokevirtual 215, 3) := by decide +kernel
theorem dX11_holds_4 : decode cX11_holds 4 = .ok (.ifCond .ne 6, 3) := by decide +kernel
theorem dX11_holds_7 : decode cX11_holds 7 = .ok (.bipush (-3), 2) := by decide +kernel
theorem dX11_holds_9 : decode cX11_holds 9 = .ok (.ireturn, 1) := by decide +kernel
theorem dX11_holds_10 : decode cX11_holds 10 = .ok (.aload_n 0, 1) := by decide +kernel
theorem dX11_holds_11 : decode cX11_holds 11 = .ok (.invokevirtual 246, 3) := by decide +kernel
theorem dX11_holds_14 : decode cX11_holds 14 = .ok (.ifCond .eq 7, 3) := by decide +kernel
theorem dX11_holds_17 : decode cX11_holds 17 = .ok (.iconst 1, 1) := by decide +kernel
theorem dX11_holds_18 : decode cX11_holds 18 = .ok (.goto 4, 3) := by decide +kernel
theorem dX11_holds_21 : decode cX11_holds 21 = .ok (.iconst 0, 1) := by decide +kernel
theorem dX11_holds_22 : decode cX11_holds 22 = .ok (.ireturn, 1) := by decide +kernel
set_option maxRecDepth 20000 in
theorem ggX11_fails_X11_in : GoodIn wsX11_fails wsX11_in := goodIn_r _ [6] (by decide +kernel) (by decide +kernel)
set_option maxRecDepth 20000 in
theorem gX11_fails_X11_in : GoodIn wsX11_fails (va_wsS RX11 59 yX11_in wsX11_in) := goodIn_app (goodIn_of _ (by decide +kernel)) ggX11_fails_X11_in
set_option maxRecDepth 20000 in
theorem ggX11_fails_X11_isRiver : GoodIn wsX11_fails wsX11_isRiver := goodIn_r _ [10, 11, 84, 85, 86, 87, 88, 89, 90, 91, 92, 93, 94, 95, 96, 97, 98, 99, 100, 101, 102, 103, 104, 105, 106, 107, 108, 109, 110, 111, 112, 113, 114, 115, 116, 117, 118, 119, 120, 121] (by decide +kernel) (by decide +kernel)
set_option maxRecDepth 20000 in
theorem gX11_fails_X11_isRiver : GoodIn wsX11_fails (wsV RX11 215 RX11 yX11_isRiver wsX11_isRiver) := goodIn_app (goodIn_of _ (by decide +kernel)) ggX11_fails_X11_isRiver
set_option maxRecDepth 20000 in
theorem ggX11_fails_X11_areHolding : GoodIn wsX11_fails wsX11_areHolding := goodIn_r _ [15, 1, 11, 2, 16, 17, 18, 5, 19, 20, 21, 22, 23, 24, 25, 26, 27, 28, 29, 30, 31, 32, 33, 34, 35, 36, 37, 38, 39, 40, 41, 42, 43, 44, 45, 46, 47, 48, 49, 50, 51, 52, 53, 54, 55, 56, 57, 58, 59, 60, 61, 62, 63, 64, 65, 66, 67, 68, 69, 70, 71, 72, 73, 74, 75, 76, 77, 78, 79, 80, 81, 82, 83, 84, 85, 86, 87, 88, 89, 90, 91, 92, 93, 94, 95, 96, 97, 98, 99, 100, 101, 102, 103, 104, 105, 106, 107, 108, 109, 110, 111, 112, 113, 114, 115, 116, 117, 118, 119, 120, 121] (by decide +kernel) (by decide +kernel)
set_option maxRecDepth 20000 in
theorem gX11_fails_X11_areHolding : GoodIn wsX11_fails (wsV RX11 246 RX11 yX11_areHolding wsX11_areHolding) := goodIn_app (goodIn_of _ (by decide +kernel)) ggX11_fails_X11_areHolding
set_option maxRecDepth 20000 in
theorem ggX11_fails_X11_rainOf : GoodIn wsX11_fails wsX11_rainOf := goodIn_r _ [36, 11, 84, 85, 86, 87, 88, 89, 90, 91, 92, 93, 94, 95, 96, 97, 98, 99, 100, 101, 102, 103, 104, 105, 106, 107, 108, 109, 110, 111, 112, 113, 114, 115, 116, 117, 118, 119, 120, 121] (by decide +kernel) (by decide +kernel)
set_option maxRecDepth 20000 in
theorem gX11_fails_X11_rainOf : GoodIn wsX11_fails (wsV RX11 227 RX11 yX11_rainOf wsX11_rainOf) := goodIn_app (goodIn_of _ (by decide +kernel)) ggX11_fails_X11_rainOf
theorem dX11_fails_0 : decode cX11_fails 0 = .ok (.iload_n 1, 1) := by decide +kernel
theorem dX11_fails_1 : decode cX11_fails 1 = .ok (.iconst (-1), 1) := by decide +kernel
theorem dX11_fails_2 : decode cX11_fails 2 = .ok (.iconst 2, 1) := by decide +kernel
theorem dX11_fails_3 : decode cX11_fails 3 = .ok (.invokestatic 59, 3) := by decide +kernel
theorem dX11_fails_6 : decode cX11_fails 6 = .ok (.ifCond .ne 5, 3) := by decide +kernel
theorem dX11_fails_9 : decode cX11_fails 9 = .ok (.iconst (-1), 1) := by decide +kernel
theorem dX11_fails_10 : decode cX11_fails 10 = .ok (.ireturn, 1) := by decide +kernel
theorem dX11_fails_11 : decode cX11_fails 11 = .ok (.aload_n 0, 1) := by decide +kernel
theorem dX11_fails_12 : decode cX11_fails 12 = .ok (.invokevirtual 215, 3) := by decide +kernel
theorem dX11_fails_15 : decode cX11_fails 15 = .ok (.ifCond .ne 6, 3) := by decide +kernel
theorem dX11_fails_18 : decode cX11_fails 18 = .ok (.bipush (-3), 2) := by decide +kernel
theorem dX11_fails_20 : decode cX11_fails 20 = .ok (.ireturn, 1) := by decide +kernel
theorem dX11_fails_21 : decode cX11_fails 21 = .ok (.aload_n 0, 1) := by decide +kernel
theorem dX11_fails_22 : decode cX11_fails 22 = .ok (.invokevirtual 246, 3) := by decide +kernel
theorem dX11_fails_25 : decode cX11_fails 25 = .ok (.ifCond .eq 6, 3) := by decide +kernel
theorem dX11_fails_28 : decode cX11_fails 28 = .ok (.bipush (-5), 2) := by decide +kernel
theorem dX11_fails_30 : decode cX11_fails 30 = .ok (.ireturn, 1) := by decide +kernel
theorem dX11_fails_31 : decode cX11_fails 31 = .ok (.iload_n 1, 1) := by decide +kernel
theorem dX11_fails_32 : decode cX11_fails 32 = .ok (.iconst (-1), 1) := by decide +kernel
theorem dX11_fails_33 : decode cX11_fails 33 = .ok (.if_icmp .ne 10, 3) := by decide +kernel
theorem dX11_fails_36 : decode cX11_fails 36 = .ok (.aload_n 0, 1) := by decide +kernel
theorem dX11_fails_37 : decode cX11_fails 37 = .ok (.getfield 234, 3) := by decide +kernel
theorem dX11_fails_40 : decode cX11_fails 40 = .ok (.goto 29, 3) := by decide +kernel
theorem dX11_fails_43 : decode cX11_fails 43 = .ok (.iload_n 1, 1) := by decide +kernel
theorem dX11_fails_44 : decode cX11_fails 44 = .ok (.aload_n 0, 1) := by decide +kernel
theorem dX11_fails_45 : decode cX11_fails 45 = .ok (.getfield 234, 3) := by decide +kernel
theorem dX11_fails_48 : decode cX11_fails 48 = .ok (.if_icmp .ge 19, 3) := by decide +kernel
theorem dX11_fails_51 : decode cX11_fails 51 = .ok (.aload_n 0, 1) := by decide +kernel
theorem dX11_fails_52 : decode cX11_fails 52 = .ok (.aload_n 0, 1) := by decide +kernel
theorem dX11_fails_53 : decode cX11_fails 53 = .ok (.getfield 243, 3) := by decide +kernel
theorem dX11_fails_56 : decode cX11_fails 56 = .ok (.aload_n 0, 1) := by decide +kernel
theorem dX11_fails_57 : decode cX11_fails 57 = .ok (.getfield 234, 3) := by decide +kernel
theorem dX11_fails_60 : decode cX11_fails 60 = .ok (.iload_n 1, 1) := by decide +kernel
theorem dX11_fails_61 : decode cX11_fails 61 = .ok (.invokevirtual 227, 3) := by decide +kernel
theorem dX11_fails_64 : decode cX11_fails 64 = .ok (.goto 5, 3) := by decide +kernel
theorem dX11_fails_67 : decode cX11_fails 67 = .ok (.bipush (-5), 2) := by decide +kernel
theorem dX11_fails_69 : decode cX11_fails 69 = .ok (.ireturn, 1) := by decide +kernel
set_option maxRecDepth 20000 in
theorem ggX11_fixed_X11_isReach : GoodIn wsX11_fixed wsX11_isReach := goodIn_r _ [8, 2, 9, 10, 7, 11, 89, 90, 91, 92, 93, 94, 95, 96, 97, 98, 99, 100, 101, 102, 103, 104, 105, 106, 107, 108, 109, 110, 111, 112, 113, 114, 115, 116, 117, 118, 119, 120, 121, 122, 123, 124, 125, 126] (by decide +kernel) (by decide +kernel)
set_option maxRecDepth 20000 in
theorem gX11_fixed_X11_isReach : GoodIn wsX11_fixed (wsV RX11 164 RX11 yX11_isReach wsX11_isReach) := goodIn_app (goodIn_of _ (by decide +kernel)) ggX11_fixed_X11_isReach
set_option maxRecDepth 20000 in
theorem ggX11_fixed_X11_isRiver : GoodIn wsX11_fixed wsX11_isRiver := goodIn_r _ [15, 2, 89, 90, 91, 92, 93, 94, 95, 96, 97, 98, 99, 100, 101, 102, 103, 104, 105, 106, 107, 108, 109, 110, 111, 112, 113, 114, 115, 116, 117, 118, 119, 120, 121, 122, 123, 124, 125, 126] (by decide +kernel) (by decide +kernel)
set_option maxRecDepth 20000 in
theorem gX11_fixed_X11_isRiver : GoodIn wsX11_fixed (wsV RX11 215 RX11 yX11_isRiver wsX11_isRiver) := goodIn_app (goodIn_of _ (by decide +kernel)) ggX11_fixed_X11_isRiver
set_option maxRecDepth 20000 in
theorem ggX11_fixed_X11_areHolding : GoodIn wsX11_fixed wsX11_areHolding := goodIn_r _ [19, 20, 2, 21, 22, 23, 24, 7, 25, 26, 27, 28, 29, 30, 31, 32, 33, 34, 35, 36, 37, 38, 39, 40, 41, 42, 43, 44, 45, 46, 47, 48, 49, 50, 51, 52, 53, 54, 55, 3, 56, 57, 58, 59, 60, 61, 62, 63, 64, 65, 66, 67, 68, 69, 70, 71, 72, 73, 74, 75, 76, 77, 78, 79, 80, 81, 82, 83, 84, 85, 86, 87, 88, 89, 90, 91, 92, 93, 94, 95, 96, 97, 98, 99, 100, 101, 102, 103, 104, 105, 106, 107, 108, 109, 110, 111, 112, 113, 114, 115, 116, 117, 118, 119, 120, 121, 122, 123, 124, 125, 126] (by decide +kernel) (by decide +kernel)
set_option maxRecDepth 20000 in
theorem gX11_fixed_X11_areHolding : GoodIn wsX11_fixed (wsV RX11 246 RX11 yX11_areHolding wsX11_areHolding) := goodIn_app (goodIn_of _ (by decide +kernel)) ggX11_fixed_X11_areHolding
theorem dX11_fixed_0 : decode cX11_fixed 0 = .ok (.iload_n 1, 1) := by decide +kernel
theorem dX11_fixed_1 : decode cX11_fixed 1 = .ok (.iconst (-1), 1) := by decide +kernel
theorem dX11_fixed_2 : decode cX11_fixed 2 = .ok (.if_icmp .eq 13, 3) := by decide +kernel
theorem dX11_fixed_5 : decode cX11_fixed 5 = .ok (.aload_n 0, 1) := by decide +kernel
theorem dX11_fixed_6 : decode cX11_fixed 6 = .ok (.iload_n 1, 1) := by decide +kernel
theorem dX11_fixed_7 : decode cX11_fixed 7 = .ok (.invokevirtual 164, 3) := by decide +kernel
theorem dX11_fixed_10 : decode cX11_fixed 10 = .ok (.ifCond .ne 5, 3) := by decide +kernel
theorem dX11_fixed_13 : decode cX11_fixed 13 = .ok (.iconst (-1), 1) := by decide +kernel
theorem dX11_fixed_14 : decode cX11_fixed 14 = .ok (.ireturn, 1) := by decide +kernel
theorem dX11_fixed_15 : decode cX11_fixed 15 = .ok (.aload_n 0, 1) := by decide +kernel
theorem dX11_fixed_16 : decode cX11_fixed 16 = .ok (.invokevirtual 215, 3) := by decide +kernel
theorem dX11_fixed_19 : decode cX11_fixed 19 = .ok (.ifCond .ne 6, 3) := by decide +kernel
theorem dX11_fixed_22 : decode cX11_fixed 22 = .ok (.bipush (-3), 2) := by decide +kernel
theorem dX11_fixed_24 : decode cX11_fixed 24 = .ok (.ireturn, 1) := by decide +kernel
theorem dX11_fixed_25 : decode cX11_fixed 25 = .ok (.iconst 0, 1) := by decide +kernel
theorem dX11_fixed_26 : decode cX11_fixed 26 = .ok (.istore_n 2, 1) := by decide +kernel
theorem dX11_fixed_27 : decode cX11_fixed 27 = .ok (.iload_n 2, 1) := by decide +kernel
theorem dX11_fixed_28 : decode cX11_fixed 28 = .ok (.iconst 3, 1) := by decide +kernel
theorem dX11_fixed_29 : decode cX11_fixed 29 = .ok (.if_icmp .ge 25, 3) := by decide +kernel
theorem dX11_fixed_32 : decode cX11_fixed 32 = .ok (.aload_n 0, 1) := by decide +kernel
theorem dX11_fixed_33 : decode cX11_fixed 33 = .ok (.getfield 47, 3) := by decide +kernel
theorem dX11_fixed_36 : decode cX11_fixed 36 = .ok (.iload_n 2, 1) := by decide +kernel
theorem dX11_fixed_37 : decode cX11_fixed 37 = .ok (.aload_n 0, 1) := by decide +kernel
theorem dX11_fixed_38 : decode cX11_fixed 38 = .ok (.getfield 9, 3) := by decide +kernel
theorem dX11_fixed_41 : decode cX11_fixed 41 = .ok (.sipush 139, 3) := by decide +kernel
theorem dX11_fixed_44 : decode cX11_fixed 44 = .ok (.iload_n 2, 1) := by decide +kernel
theorem dX11_fixed_45 : decode cX11_fixed 45 = .ok (.iadd, 1) := by decide +kernel
theorem dX11_fixed_46 : decode cX11_fixed 46 = .ok (.iaload, 1) := by decide +kernel
theorem dX11_fixed_47 : decode cX11_fixed 47 = .ok (.iastore, 1) := by decide +kernel
theorem dX11_fixed_48 : decode cX11_fixed 48 = .ok (.iinc 2 1, 3) := by decide +kernel
theorem dX11_fixed_51 : decode cX11_fixed 51 = .ok (.goto (-24), 3) := by decide +kernel
theorem dX11_fixed_54 : decode cX11_fixed 54 = .ok (.aload_n 0, 1) := by decide +kernel
theorem dX11_fixed_55 : decode cX11_fixed 55 = .ok (.bipush 7, 2) := by decide +kernel
theorem dX11_fixed_57 : decode cX11_fixed 57 = .ok (.putfield 200, 3) := by decide +kernel
theorem dX11_fixed_60 : decode cX11_fixed 60 = .ok (.iconst 0, 1) := by decide +kernel
theorem dX11_fixed_61 : decode cX11_fixed 61 = .ok (.istore_n 2, 1) := by decide +kernel
theorem dX11_fixed_62 : decode cX11_fixed 62 = .ok (.bipush (-5), 2) := by decide +kernel
theorem dX11_fixed_64 : decode cX11_fixed 64 = .ok (.istore_n 3, 1) := by decide +kernel
theorem dX11_fixed_65 : decode cX11_fixed 65 = .ok (.iconst 0, 1) := by decide +kernel
theorem dX11_fixed_66 : decode cX11_fixed 66 = .ok (.istore 4, 2) := by decide +kernel
theorem dX11_fixed_68 : decode cX11_fixed 68 = .ok (.iload 4, 2) := by decide +kernel
theorem dX11_fixed_70 : decode cX11_fixed 70 = .ok (.iconst 1, 1) := by decide +kernel
theorem dX11_fixed_71 : decode cX11_fixed 71 = .ok (.iconst 2, 1) := by decide +kernel
theorem dX11_fixed_72 : decode cX11_fixed 72 = .ok (.aload_n 0, 1) := by decide +kernel
theorem dX11_fixed_73 : decode cX11_fixed 73 = .ok (.getfield 9, 3) := by decide +kernel
theorem dX11_fixed_76 : decode cX11_fixed 76 = .ok (.iconst 0, 1) := by decide +kernel
theorem dX11_fixed_77 : decode cX11_fixed 77 = .ok (.iaload, 1) := by decide +kernel
theorem dX11_fixed_78 : decode cX11_fixed 78 = .ok (.imul, 1) := by decide +kernel
theorem dX11_fixed_79 : decode cX11_fixed 79 = .ok (.ishl, 1) := by decide +kernel
theorem dX11_fixed_80 : decode cX11_fixed 80 = .ok (.if_icmp .ge 79, 3) := by decide +kernel
theorem dX11_fixed_83 : decode cX11_fixed 83 = .ok (.iconst 0, 1) := by decide +kernel
theorem dX11_fixed_84 : decode cX11_fixed 84 = .ok (.istore 5, 2) := by decide +kernel
theorem dX11_fixed_86 : decode cX11_fixed 86 = .ok (.iload 5, 2) := by decide +kernel
theorem dX11_fixed_88 : decode cX11_fixed 88 = .ok (.aload_n 0, 1) := by decide +kernel
theorem dX11_fixed_89 : decode cX11_fixed 89 = .ok (.getfield 9, 3) := by decide +kernel
theorem dX11_fixed_92 : decode cX11_fixed 92 = .ok (.iconst 0, 1) := by decide +kernel
theorem dX11_fixed_93 : decode cX11_fixed 93 = .ok (.iaload, 1) := by decide +kernel
theorem dX11_fixed_94 : decode cX11_fixed 94 = .ok (.if_icmp .ge 38, 3) := by decide +kernel
theorem dX11_fixed_97 : decode cX11_fixed 97 = .ok (.aload_n 0, 1) := by decide +kernel
theorem dX11_fixed_98 : decode cX11_fixed 98 = .ok (.getfield 9, 3) := by decide +kernel
theorem dX11_fixed_101 : decode cX11_fixed 101 = .ok (.sipush 139, 3) := by decide +kernel
theorem dX11_fixed_104 : decode cX11_fixed 104 = .ok (.iload 5, 2) := by decide +kernel
theorem dX11_fixed_106 : decode cX11_fixed 106 = .ok (.iadd, 1) := by decide +kernel
theorem dX11_fixed_107 : decode cX11_fixed 107 = .ok (.iload 4, 2) := by decide +kernel
theorem dX11_fixed_109 : decode cX11_fixed 109 = .ok (.iconst 2, 1) := by decide +kernel
theorem dX11_fixed_110 : decode cX11_fixed 110 = .ok (.aload_n 0, 1) := by decide +kernel
theorem dX11_fixed_111 : decode cX11_fixed 111 = .ok (.getfield 9, 3) := by decide +kernel
theorem dX11_fixed_114 : decode cX11_fixed 114 = .ok (.iconst 0, 1) := by decide +kernel
theorem dX11_fixed_115 : decode cX11_fixed 115 = .ok (.iaload, 1) := by decide +kernel
theorem dX11_fixed_116 : decode cX11_fixed 116 = .ok (.iconst 1, 1) := by decide +kernel
theorem dX11_fixed_117 : decode cX11_fixed 117 = .ok (.isub, 1) := by decide +kernel
theorem dX11_fixed_118 : decode cX11_fixed 118 = .ok (.iload 5, 2) := by decide +kernel
theorem dX11_fixed_120 : decode cX11_fixed 120 = .ok (.isub, 1) := by decide +kernel
theorem dX11_fixed_121 : decode cX11_fixed 121 = .ok (.imul, 1) := by decide +kernel
theorem dX11_fixed_122 : decode cX11_fixed 122 = .ok (.ishr, 1) := by decide +kernel
theorem dX11_fixed_123 : decode cX11_fixed 123 = .ok (.iconst 3, 1) := by decide +kernel
theorem dX11_fixed_124 : decode cX11_fixed 124 = .ok (.iand, 1) := by decide +kernel
theorem dX11_fixed_125 : decode cX11_fixed 125 = .ok (.iastore, 1) := by decide +kernel
theorem dX11_fixed_126 : decode cX11_fixed 126 = .ok (.iinc 5 1, 3) := by decide +kernel
theorem dX11_fixed_129 : decode cX11_fixed 129 = .ok (.goto (-43), 3) := by decide +kernel
theorem dX11_fixed_132 : decode cX11_fixed 132 = .ok (.aload_n 0, 1) := by decide +kernel
theorem dX11_fixed_133 : decode cX11_fixed 133 = .ok (.invokevirtual 246, 3) := by decide +kernel
theorem dX11_fixed_136 : decode cX11_fixed 136 = .ok (.ifCond .eq 17, 3) := by decide +kernel
theorem dX11_fixed_139 : decode cX11_fixed 139 = .ok (.iload_n 2, 1) := by decide +kernel
theorem dX11_fixed_140 : decode cX11_fixed 140 = .ok (.ifCond .ne 8, 3) := by decide +kernel
theorem dX11_fixed_143 : decode cX11_fixed 143 = .ok (.iload 4, 2) := by decide +kernel
theorem dX11_fixed_145 : decode cX11_fixed 145 = .ok (.goto 4, 3) := by decide +kernel
theorem dX11_fixed_148 : decode cX11_fixed 148 = .ok (.iload_n 3, 1) := by decide +kernel
theorem dX11_fixed_149 : decode cX11_fixed 149 = .ok (.istore_n 3, 1) := by decide +kernel
theorem dX11_fixed_150 : decode cX11_fixed 150 = .ok (.iinc 2 1, 3) := by decide +kernel
theorem dX11_fixed_153 : decode cX11_fixed 153 = .ok (.iinc 4 1, 3) := by decide +kernel
theorem dX11_fixed_156 : decode cX11_fixed 156 = .ok (.goto (-88), 3) := by decide +kernel
theorem dX11_fixed_159 : decode cX11_fixed 159 = .ok (.aload_n 0, 1) := by decide +kernel
theorem dX11_fixed_160 : decode cX11_fixed 160 = .ok (.iconst 0, 1) := by decide +kernel
theorem dX11_fixed_161 : decode cX11_fixed 161 = .ok (.putfield 200, 3) := by decide +kernel
theorem dX11_fixed_164 : decode cX11_fixed 164 = .ok (.iconst 0, 1) := by decide +kernel
theorem dX11_fixed_165 : decode cX11_fixed 165 = .ok (.istore 4, 2) := by decide +kernel
theorem dX11_fixed_167 : decode cX11_fixed 167 = .ok (.iload 4, 2) := by decide +kernel
theorem dX11_fixed_169 : decode cX11_fixed 169 = .ok (.iconst 3, 1) := by decide +kernel
theorem dX11_fixed_170 : decode cX11_fixed 170 = .ok (.if_icmp .ge 27, 3) := by decide +kernel
theorem dX11_fixed_173 : decode cX11_fixed 173 = .ok (.aload_n 0, 1) := by decide +kernel
theorem dX11_fixed_174 : decode cX11_fixed 174 = .ok (.getfield 9, 3) := by decide +kernel
theorem dX11_fixed_177 : decode cX11_fixed 177 = .ok (.sipush 139, 3) := by decide +kernel
theorem dX11_fixed_180 : decode cX11_fixed 180 = .ok (.iload 4, 2) := by decide +kernel
theorem dX11_fixed_182 : decode cX11_fixed 182 = .ok (.iadd, 1) := by decide +kernel
theorem dX11_fixed_183 : decode cX11_fixed 183 = .ok (.aload_n 0, 1) := by decide +kernel
theorem dX11_fixed_184 : decode cX11_fixed 184 = .ok (.getfield 47, 3) := by decide +kernel
theorem dX11_fixed_187 : decode cX11_fixed 187 = .ok (.iload 4, 2) := by decide +kernel
theorem dX11_fixed_189 : decode cX11_fixed 189 = .ok (.iaload, 1) := by decide +kernel
theorem dX11_fixed_190 : decode cX11_fixed 190 = .ok (.iastore, 1) := by decide +kernel
theorem dX11_fixed_191 : decode cX11_fixed 191 = .ok (.iinc 4 1, 3) := by decide +kernel
theorem dX11_fixed_194 : decode cX11_fixed 194 = .ok (.goto (-27), 3) := by decide +kernel
theorem dX11_fixed_197 : decode cX11_fixed 197 = .ok (.iload_n 1, 1) := by decide +kernel
theorem dX11_fixed_198 : decode cX11_fixed 198 = .ok (.iconst (-1), 1) := by decide +kernel
theorem dX11_fixed_199 : decode cX11_fixed 199 = .ok (.if_icmp .ne 7, 3) := by decide +kernel
theorem dX11_fixed_202 : decode cX11_fixed 202 = .ok (.iload_n 2, 1) := by decide +kernel
theorem dX11_fixed_203 : decode cX11_fixed 203 = .ok (.goto 30, 3) := by decide +kernel
theorem dX11_fixed_206 : decode cX11_fixed 206 = .ok (.iload_n 3, 1) := by decide +kernel
theorem dX11_fixed_207 : decode cX11_fixed 207 = .ok (.bipush (-5), 2) := by decide +kernel
theorem dX11_fixed_209 : decode cX11_fixed 209 = .ok (.if_icmp .ne 8, 3) := by decide +kernel
theorem dX11_fixed_212 : decode cX11_fixed 212 = .ok (.bipush (-5), 2) := by decide +kernel
theorem dX11_fixed_214 : decode cX11_fixed 214 = .ok (.goto 19, 3) := by decide +kernel
theorem dX11_fixed_217 : decode cX11_fixed 217 = .ok (.iload_n 3, 1) := by decide +kernel
theorem dX11_fixed_218 : decode cX11_fixed 218 = .ok (.iconst 2, 1) := by decide +kernel
theorem dX11_fixed_219 : decode cX11_fixed 219 = .ok (.aload_n 0, 1) := by decide +kernel
theorem dX11_fixed_220 : decode cX11_fixed 220 = .ok (.getfield 9, 3) := by decide +kernel
theorem dX11_fixed_223 : decode cX11_fixed 223 = .ok (.iconst 0, 1) := by decide +kernel
theorem dX11_fixed_224 : decode cX11_fixed 224 = .ok (.iaload, 1) := by decide +kernel
theorem dX11_fixed_225 : decode cX11_fixed 225 = .ok (.iconst 1, 1) := by decide +kernel
theorem dX11_fixed_226 : decode cX11_fixed 226 = .ok (.isub, 1) := by decide +kernel
theorem dX11_fixed_227 : decode cX11_fixed 227 = .ok (.iload_n 1, 1) := by decide +kernel
theorem dX11_fixed_228 : decode cX11_fixed 228 = .ok (.isub, 1) := by decide +kernel
theorem dX11_fixed_229 : decode cX11_fixed 229 = .ok (.imul, 1) := by decide +kernel
theorem dX11_fixed_230 : decode cX11_fixed 230 = .ok (.ishr, 1) := by decide +kernel
theorem dX11_fixed_231 : decode cX11_fixed 231 = .ok (.iconst 3, 1) := by decide +kernel
theorem dX11_fixed_232 : decode cX11_fixed 232 = .ok (.iand, 1) := by decide +kernel
theorem dX11_fixed_233 : decode cX11_fixed 233 = .ok (.ireturn, 1) := by decide +kernel
set_option maxRecDepth 20000 in
theorem ggX11_found_X11_isReach : GoodIn wsX11_found wsX11_isReach := goodIn_r _ [6, 1, 7, 8, 5, 9, 84, 85, 86, 87, 88, 89, 90, 91, 92, 93, 94, 95, 96, 97, 98, 99, 100, 101, 102, 103, 104, 105, 106, 107, 108, 109, 110, 111, 112, 113, 114, 115, 116, 117, 118, 119, 120, 121] (by decide +kernel) (by decide +kernel)
set_option maxRecDepth 20000 in
theorem gX11_found_X11_isReach : GoodIn wsX11_found (wsV RX11 164 RX11 yX11_isReach wsX11_isReach) := goodIn_app (goodIn_of _ (by decide +kernel)) ggX11_found_X11_isReach
set_option maxRecDepth 20000 in
theorem ggX11_found_X11_areHolding : GoodIn wsX11_found wsX11_areHolding := goodIn_r _ [13, 14, 1, 15, 16, 17, 18, 5, 19, 20, 21, 22, 23, 24, 25, 26, 27, 28, 29, 30, 31, 32, 33, 34, 35, 36, 37, 38, 39, 40, 41, 42, 43, 44, 45, 46, 47, 48, 49, 50, 51, 52, 53, 54, 55, 56, 57, 58, 59, 60, 61, 62, 63, 64, 65, 66, 67, 68, 69, 70, 71, 72, 73, 74, 75, 76, 77, 78, 79, 80, 81, 82, 83, 84, 85, 86, 87, 88, 89, 90, 91, 92, 93, 94, 95, 96, 97, 98, 99, 100, 101, 102, 103, 104, 105, 106, 107, 108, 109, 110, 111, 112, 113, 114, 115, 116, 117, 118, 119, 120, 121] (by decide +kernel) (by decide +kernel)
set_option maxRecDepth 20000 in
theorem gX11_found_X11_areHolding : GoodIn wsX11_found (wsV RX11 246 RX11 yX11_areHolding wsX11_areHolding) := goodIn_app (goodIn_of _ (by decide +kernel)) ggX11_found_X11_areHolding
theorem dX11_found_0 : decode cX11_found 0 = .ok (.aload_n 0, 1) := by decide +kernel
theorem dX11_found_1 : decode cX11_found 1 = .ok (.iload_n 1, 1) := by decide +kernel
theorem dX11_found_2 : decode cX11_found 2 = .ok (.invokevirtual 164, 3) := by decide +kernel
theorem dX11_found_5 : decode cX11_found 5 = .ok (.ifCond .ne 5, 3) := by decide +kernel
theorem dX11_found_8 : decode cX11_found 8 = .ok (.iconst (-1), 1) := by decide +kernel
theorem dX11_found_9 : decode cX11_found 9 = .ok (.ireturn, 1) := by decide +kernel
theorem dX11_found_10 : decode cX11_found 10 = .ok (.aload_n 0, 1) := by decide +kernel
theorem dX11_found_11 : decode cX11_found 11 = .ok (.getfield 9, 3) := by decide +kernel
theorem dX11_found_14 : decode cX11_found 14 = .ok (.sipush 145, 3) := by decide +kernel
theorem dX11_found_17 : decode cX11_found 17 = .ok (.iload_n 1, 1) := by decide +kernel
theorem dX11_found_18 : decode cX11_found 18 = .ok (.iadd, 1) := by decide +kernel
theorem dX11_found_19 : decode cX11_found 19 = .ok (.iaload, 1) := by decide +kernel
theorem dX11_found_20 : decode cX11_found 20 = .ok (.istore_n 2, 1) := by decide +kernel
theorem dX11_found_21 : decode cX11_found 21 = .ok (.iload_n 2, 1) := by decide +kernel
theorem dX11_found_22 : decode cX11_found 22 = .ok (.iconst (-1), 1) := by decide +kernel
theorem dX11_found_23 : decode cX11_found 23 = .ok (.if_icmp .ne 6, 3) := by decide +kernel
theorem dX11_found_26 : decode cX11_found 26 = .ok (.bipush (-5), 2) := by decide +kernel
theorem dX11_found_28 : decode cX11_found 28 = .ok (.ireturn, 1) := by decide +kernel
theorem dX11_found_29 : decode cX11_found 29 = .ok (.aload_n 0, 1) := by decide +kernel
theorem dX11_found_30 : decode cX11_found 30 = .ok (.getfield 9, 3) := by decide +kernel
theorem dX11_found_33 : decode cX11_found 33 = .ok (.sipush 166, 3) := by decide +kernel
theorem dX11_found_36 : decode cX11_found 36 = .ok (.iload_n 2, 1) := by decide +kernel
theorem dX11_found_37 : decode cX11_found 37 = .ok (.iadd, 1) := by decide +kernel
theorem dX11_found_38 : decode cX11_found 38 = .ok (.iaload, 1) := by decide +kernel
theorem dX11_found_39 : decode cX11_found 39 = .ok (.istore_n 3, 1) := by decide +kernel
theorem dX11_found_40 : decode cX11_found 40 = .ok (.bipush (-5), 2) := by decide +kernel
theorem dX11_found_42 : decode cX11_found 42 = .ok (.istore 4, 2) := by decide +kernel
theorem dX11_found_44 : decode cX11_found 44 = .ok (.iconst 0, 1) := by decide +kernel
theorem dX11_found_45 : decode cX11_found 45 = .ok (.istore 5, 2) := by decide +kernel
theorem dX11_found_47 : decode cX11_found 47 = .ok (.iload 5, 2) := by decide +kernel
theorem dX11_found_49 : decode cX11_found 49 = .ok (.iconst 4, 1) := by decide +kernel
theorem dX11_found_50 : decode cX11_found 50 = .ok (.if_icmp .ge 44, 3) := by decide +kernel
theorem dX11_found_53 : decode cX11_found 53 = .ok (.iload 4, 2) := by decide +kernel
theorem dX11_found_55 : decode cX11_found 55 = .ok (.bipush (-5), 2) := by decide +kernel
theorem dX11_found_57 : decode cX11_found 57 = .ok (.if_icmp .ne 37, 3) := by decide +kernel
theorem dX11_found_60 : decode cX11_found 60 = .ok (.aload_n 0, 1) := by decide +kernel
theorem dX11_found_61 : decode cX11_found 61 = .ok (.getfield 9, 3) := by decide +kernel
theorem dX11_found_64 : decode cX11_found 64 = .ok (.sipush 166, 3) := by decide +kernel
theorem dX11_found_67 : decode cX11_found 67 = .ok (.iload_n 2, 1) := by decide +kernel
theorem dX11_found_68 : decode cX11_found 68 = .ok (.iadd, 1) := by decide +kernel
theorem dX11_found_69 : decode cX11_found 69 = .ok (.iload 5, 2) := by decide +kernel
theorem dX11_found_71 : decode cX11_found 71 = .ok (.iastore, 1) := by decide +kernel
theorem dX11_found_72 : decode cX11_found 72 = .ok (.aload_n 0, 1) := by decide +kernel
theorem dX11_found_73 : decode cX11_found 73 = .ok (.invokevirtual 246, 3) := by decide +kernel
theorem dX11_found_76 : decode cX11_found 76 = .ok (.ifCond .eq 8, 3) := by decide +kernel
theorem dX11_found_79 : decode cX11_found 79 = .ok (.iload 5, 2) := by decide +kernel
theorem dX11_found_81 : decode cX11_found 81 = .ok (.goto 5, 3) := by decide +kernel
theorem dX11_found_84 : decode cX11_found 84 = .ok (.bipush (-5), 2) := by decide +kernel
theorem dX11_found_86 : decode cX11_found 86 = .ok (.istore 4, 2) := by decide +kernel
theorem dX11_found_88 : decode cX11_found 88 = .ok (.iinc 5 1, 3) := by decide +kernel
theorem dX11_found_91 : decode cX11_found 91 = .ok (.goto (-44), 3) := by decide +kernel
theorem dX11_found_94 : decode cX11_found 94 = .ok (.aload_n 0, 1) := by decide +kernel
theorem dX11_found_95 : decode cX11_found 95 = .ok (.getfield 9, 3) := by decide +kernel
theorem dX11_found_98 : decode cX11_found 98 = .ok (.sipush 166, 3) := by decide +kernel
theorem dX11_found_101 : decode cX11_found 101 = .ok (.iload_n 2, 1) := by decide +kernel
theorem dX11_found_102 : decode cX11_found 102 = .ok (.iadd, 1) := by decide +kernel
theorem dX11_found_103 : decode cX11_found 103 = .ok (.iload_n 3, 1) := by decide +kernel
theorem dX11_found_104 : decode cX11_found 104 = .ok (.iastore, 1) := by decide +kernel
theorem dX11_found_105 : decode cX11_found 105 = .ok (.iload 4, 2) := by decide +kernel
theorem dX11_found_107 : decode cX11_found 107 = .ok (.ireturn, 1) := by decide +kernel
set_option maxRecDepth 20000 in
theorem ggX11_lines_X11_isCard : GoodIn wsX11_lines wsX11_isCard := goodIn_r _ [8, 1, 9, 10, 7, 11, 88, 89, 90, 91, 92, 93, 94, 95, 96, 97, 98, 99, 100, 101, 102, 103, 104, 105, 106, 107, 108, 109, 110, 111, 112, 113, 114, 115, 116, 117, 118, 119, 120, 121, 122, 123, 124, 125] (by decide +kernel) (by decide +kernel)
set_option maxRecDepth 20000 in
theorem gX11_lines_X11_isCard : GoodIn wsX11_lines (wsV RX11 160 RX11 yX11_isCard wsX11_isCard) := goodIn_app (goodIn_of _ (by decide +kernel)) ggX11_lines_X11_isCard
set_option maxRecDepth 20000 in
theorem ggX11_lines_X11_isRiver : GoodIn wsX11_lines wsX11_isRiver := goodIn_r _ [15, 1, 88, 89, 90, 91, 92, 93, 94, 95, 96, 97, 98, 99, 100, 101, 102, 103, 104, 105, 106, 107, 108, 109, 110, 111, 112, 113, 114, 115, 116, 117, 118, 119, 120, 121, 122, 123, 124, 125] (by decide +kernel) (by decide +kernel)
set_option maxRecDepth 20000 in
theorem gX11_lines_X11_isRiver : GoodIn wsX11_lines (wsV RX11 215 RX11 yX11_isRiver wsX11_isRiver) := goodIn_app (goodIn_of _ (by decide +kernel)) ggX11_lines_X11_isRiver
set_option maxRecDepth 20000 in
theorem ggX11_lines_X11_areHolding : GoodIn wsX11_lines wsX11_areHolding := goodIn_r _ [19, 20, 1, 21, 22, 23, 24, 7, 25, 26, 27, 28, 29, 30, 31, 32, 33, 34, 35, 36, 37, 38, 39, 40, 41, 42, 43, 44, 45, 46, 47, 48, 49, 50, 51, 52, 53, 54, 55, 56, 57, 58, 59, 60, 61, 62, 63, 64, 2, 3, 65, 66, 67, 68, 69, 70, 71, 72, 73, 74, 75, 76, 77, 78, 79, 80, 81, 82, 83, 84, 85, 86, 87, 88, 89, 90, 91, 92, 93, 94, 95, 96, 97, 98, 99, 100, 101, 102, 103, 104, 105, 106, 107, 108, 109, 110, 111, 112, 113, 114, 115, 116, 117, 118, 119, 120, 121, 122, 123, 124, 125] (by decide +kernel) (by decide +kernel)
set_option maxRecDepth 20000 in
theorem gX11_lines_X11_areHolding : GoodIn wsX11_lines (wsV RX11 246 RX11 yX11_areHolding wsX11_areHolding) := goodIn_app (goodIn_of _ (by decide +kernel)) ggX11_lines_X11_areHolding
theorem dX11_lines_0 : decode cX11_lines 0 = .ok (.aload_n 0, 1) := by decide +kernel
theorem dX11_lines_1 : decode cX11_lines 1 = .ok (.iload_n 1, 1) := by decide +kernel
theorem dX11_lines_2 : decode cX11_lines 2 = .ok (.invokevirtual 160, 3) := by decide +kernel
theorem dX11_lines_5 : decode cX11_lines 5 = .ok (.ifCond .ne 5, 3) := by decide +kernel
theorem dX11_lines_8 : decode cX11_lines 8 = .ok (.iconst (-1), 1) := by decide +kernel
theorem dX11_lines_9 : decode cX11_lines 9 = .ok (.ireturn, 1) := by decide +kernel
theorem dX11_lines_10 : decode cX11_lines 10 = .ok (.aload_n 0, 1) := by decide +kernel
theorem dX11_lines_11 : decode cX11_lines 11 = .ok (.invokevirtual 215, 3) := by decide +kernel
theorem dX11_lines_14 : decode cX11_lines 14 = .ok (.ifCond .ne 6, 3) := by decide +kernel
theorem dX11_lines_17 : decode cX11_lines 17 = .ok (.bipush (-3), 2) := by decide +kernel
theorem dX11_lines_19 : decode cX11_lines 19 = .ok (.ireturn, 1) := by decide +kernel
theorem dX11_lines_20 : decode cX11_lines 20 = .ok (.iconst 0, 1) := by decide +kernel
theorem dX11_lines_21 : decode cX11_lines 21 = .ok (.istore_n 2, 1) := by decide +kernel
theorem dX11_lines_22 : decode cX11_lines 22 = .ok (.aload_n 0, 1) := by decide +kernel
theorem dX11_lines_23 : decode cX11_lines 23 = .ok (.invokevirtual 246, 3) := by decide +kernel
theorem dX11_lines_26 : decode cX11_lines 26 = .ok (.istore_n 3, 1) := by decide +kernel
theorem dX11_lines_27 : decode cX11_lines 27 = .ok (.iconst 0, 1) := by decide +kernel
theorem dX11_lines_28 : decode cX11_lines 28 = .ok (.istore 4, 2) := by decide +kernel
theorem dX11_lines_30 : decode cX11_lines 30 = .ok (.iload 4, 2) := by decide +kernel
theorem dX11_lines_32 : decode cX11_lines 32 = .ok (.aload_n 0, 1) := by decide +kernel
theorem dX11_lines_33 : decode cX11_lines 33 = .ok (.getfield 9, 3) := by decide +kernel
theorem dX11_lines_36 : decode cX11_lines 36 = .ok (.sipush 174, 3) := by decide +kernel
theorem dX11_lines_39 : decode cX11_lines 39 = .ok (.iload_n 1, 1) := by decide +kernel
theorem dX11_lines_40 : decode cX11_lines 40 = .ok (.iadd, 1) := by decide +kernel
theorem dX11_lines_41 : decode cX11_lines 41 = .ok (.iaload, 1) := by decide +kernel
theorem dX11_lines_42 : decode cX11_lines 42 = .ok (.if_icmp .ge 47, 3) := by decide +kernel
theorem dX11_lines_45 : decode cX11_lines 45 = .ok (.iload_n 3, 1) := by decide +kernel
theorem dX11_lines_46 : decode cX11_lines 46 = .ok (.ifCond .eq 43, 3) := by decide +kernel
theorem dX11_lines_49 : decode cX11_lines 49 = .ok (.aload_n 0, 1) := by decide +kernel
theorem dX11_lines_50 : decode cX11_lines 50 = .ok (.iload_n 1, 1) := by decide +kernel
theorem dX11_lines_51 : decode cX11_lines 51 = .ok (.putfield 39, 3) := by decide +kernel
theorem dX11_lines_54 : decode cX11_lines 54 = .ok (.aload_n 0, 1) := by decide +kernel
theorem dX11_lines_55 : decode cX11_lines 55 = .ok (.iload 4, 2) := by decide +kernel
theorem dX11_lines_57 : decode cX11_lines 57 = .ok (.putfield 184, 3) := by decide +kernel
theorem dX11_lines_60 : decode cX11_lines 60 = .ok (.iload_n 2, 1) := by decide +kernel
theorem dX11_lines_61 : decode cX11_lines 61 = .ok (.aload_n 0, 1) := by decide +kernel
theorem dX11_lines_62 : decode cX11_lines 62 = .ok (.invokevirtual 246, 3) := by decide +kernel
theorem dX11_lines_65 : decode cX11_lines 65 = .ok (.ifCond .eq 7, 3) := by decide +kernel
theorem dX11_lines_68 : decode cX11_lines 68 = .ok (.iconst 0, 1) := by decide +kernel
theorem dX11_lines_69 : decode cX11_lines 69 = .ok (.goto 7, 3) := by decide +kernel
theorem dX11_lines_72 : decode cX11_lines 72 = .ok (.iconst 1, 1) := by decide +kernel
theorem dX11_lines_73 : decode cX11_lines 73 = .ok (.iload 4, 2) := by decide +kernel
theorem dX11_lines_75 : decode cX11_lines 75 = .ok (.ishl, 1) := by decide +kernel
theorem dX11_lines_76 : decode cX11_lines 76 = .ok (.ior, 1) := by decide +kernel
theorem dX11_lines_77 : decode cX11_lines 77 = .ok (.istore_n 2, 1) := by decide +kernel
theorem dX11_lines_78 : decode cX11_lines 78 = .ok (.aload_n 0, 1) := by decide +kernel
theorem dX11_lines_79 : decode cX11_lines 79 = .ok (.iconst (-1), 1) := by decide +kernel
theorem dX11_lines_80 : decode cX11_lines 80 = .ok (.putfield 39, 3) := by decide +kernel
theorem dX11_lines_83 : decode cX11_lines 83 = .ok (.iinc 4 1, 3) := by decide +kernel
theorem dX11_lines_86 : decode cX11_lines 86 = .ok (.goto (-56), 3) := by decide +kernel
theorem dX11_lines_89 : decode cX11_lines 89 = .ok (.iload_n 2, 1) := by decide +kernel
theorem dX11_lines_90 : decode cX11_lines 90 = .ok (.ireturn, 1) := by decide +kernel
set_option maxRecDepth 20000 in
theorem ggX11_drunk_X11_in : GoodIn wsX11_drunk wsX11_in := goodIn_r _ [6] (by decide +kernel) (by decide +kernel)
set_option maxRecDepth 20000 in
theorem gX11_drunk_X11_in : GoodIn wsX11_drunk (va_wsS RX11 59 yX11_in wsX11_in) := goodIn_app (goodIn_of _ (by decide +kernel)) ggX11_drunk_X11_in
set_option maxRecDepth 20000 in
theorem ggX11_drunk_X11_isRiver : GoodIn wsX11_drunk wsX11_isRiver := goodIn_r _ [10, 1, 84, 85, 86, 87, 88, 89, 90, 91, 92, 93, 94, 95, 96, 97, 98, 99, 100, 101, 102, 103, 104, 105, 106, 107, 108, 109, 110, 111, 112, 113, 114, 115, 116, 117, 118, 119, 120, 121] (by decide +kernel) (by decide +kernel)
set_option maxRecDepth 20000 in
theorem gX11_drunk_X11_isRiver : GoodIn wsX11_drunk (wsV RX11 215 RX11 yX11_isRiver wsX11_isRiver) := goodIn_app (goodIn_of _ (by decide +kernel)) ggX11_drunk_X11_isRiver
set_option maxRecDepth 20000 in
theorem ggX11_drunk_X11_areHolding : GoodIn wsX11_drunk wsX11_areHolding := goodIn_r _ [14, 15, 1, 16, 17, 18, 19, 5, 20, 21, 22, 23, 24, 25, 26, 27, 28, 29, 30, 31, 32, 33, 34, 35, 36, 37, 38, 39, 40, 41, 42, 43, 44, 45, 46, 47, 48, 49, 50, 2, 51, 52, 53, 54, 55, 56, 57, 58, 59, 60, 61, 62, 63, 64, 65, 66, 67, 68, 69, 70, 71, 72, 73, 74, 75, 76, 77, 78, 79, 80, 81, 82, 83, 84, 85, 86, 87, 88, 89, 90, 91, 92, 93, 94, 95, 96, 97, 98, 99, 100, 101, 102, 103, 104, 105, 106, 107, 108, 109, 110, 111, 112, 113, 114, 115, 116, 117, 118, 119, 120, 121] (by decide +kernel) (by decide +kernel)
set_option maxRecDepth 20000 in
theorem gX11_drunk_X11_areHolding : GoodIn wsX11_drunk (wsV RX11 246 RX11 yX11_areHolding wsX11_areHolding) := goodIn_app (goodIn_of _ (by decide +kernel)) ggX11_drunk_X11_areHolding
set_option maxRecDepth 20000 in
theorem ggX11_drunk_X11_drops : GoodIn wsX11_drunk wsX11_drops := goodIn_r _ [40] (by decide +kernel) (by decide +kernel)
set_option maxRecDepth 20000 in
theorem gX11_drunk_X11_drops : GoodIn wsX11_drunk (va_wsS RX11 231 yX11_drops wsX11_drops) := goodIn_app (goodIn_of _ (by decide +kernel)) ggX11_drunk_X11_drops
theorem dX11_drunk_0 : decode cX11_drunk 0 = .ok (.iload_n 1, 1) := by decide +kernel
theorem dX11_drunk_1 : decode cX11_drunk 1 = .ok (.iconst 0, 1) := by decide +kernel
theorem dX11_drunk_2 : decode cX11_drunk 2 = .ok (.iconst 1, 1) := by decide +kernel
theorem dX11_drunk_3 : decode cX11_drunk 3 = .ok (.invokestatic 59, 3) := by decide +kernel
theorem dX11_drunk_6 : decode cX11_drunk 6 = .ok (.ifCond .ne 5, 3) := by decide +kernel
theorem dX11_drunk_9 : decode cX11_drunk 9 = .ok (.iconst (-1), 1) := by decide +kernel
theorem dX11_drunk_10 : decode cX11_drunk 10 = .ok (.ireturn, 1) := by decide +kernel
theorem dX11_drunk_11 : decode cX11_drunk 11 = .ok (.aload_n 0, 1) := by decide +kernel
theorem dX11_drunk_12 : decode cX11_drunk 12 = .ok (.invokevirtual 215, 3) := by decide +kernel
theorem dX11_drunk_15 : decode cX11_drunk 15 = .ok (.ifCond .ne 6, 3) := by decide +kernel
theorem dX11_drunk_18 : decode cX11_drunk 18 = .ok (.bipush (-3), 2) := by decide +kernel
theorem dX11_drunk_20 : decode cX11_drunk 20 = .ok (.ireturn, 1) := by decide +kernel
theorem dX11_drunk_21 : decode cX11_drunk 21 = .ok (.iconst 0, 1) := by decide +kernel
theorem dX11_drunk_22 : decode cX11_drunk 22 = .ok (.istore_n 2, 1) := by decide +kernel
theorem dX11_drunk_23 : decode cX11_drunk 23 = .ok (.bipush (-5), 2) := by decide +kernel
theorem dX11_drunk_25 : decode cX11_drunk 25 = .ok (.istore_n 3, 1) := by decide +kernel
theorem dX11_drunk_26 : decode cX11_drunk 26 = .ok (.iconst 0, 1) := by decide +kernel
theorem dX11_drunk_27 : decode cX11_drunk 27 = .ok (.istore 4, 2) := by decide +kernel
theorem dX11_drunk_29 : decode cX11_drunk 29 = .ok (.iload 4, 2) := by decide +kernel
theorem dX11_drunk_31 : decode cX11_drunk 31 = .ok (.iconst 1, 1) := by decide +kernel
theorem dX11_drunk_32 : decode cX11_drunk 32 = .ok (.aload_n 0, 1) := by decide +kernel
theorem dX11_drunk_33 : decode cX11_drunk 33 = .ok (.getfield 9, 3) := by decide +kernel
theorem dX11_drunk_36 : decode cX11_drunk 36 = .ok (.iconst 0, 1) := by decide +kernel
theorem dX11_drunk_37 : decode cX11_drunk 37 = .ok (.iaload, 1) := by decide +kernel
theorem dX11_drunk_38 : decode cX11_drunk 38 = .ok (.ishl, 1) := by decide +kernel
theorem dX11_drunk_39 : decode cX11_drunk 39 = .ok (.if_icmp .ge 79, 3) := by decide +kernel
theorem dX11_drunk_42 : decode cX11_drunk 42 = .ok (.aload_n 0, 1) := by decide +kernel
theorem dX11_drunk_43 : decode cX11_drunk 43 = .ok (.iload 4, 2) := by decide +kernel
theorem dX11_drunk_45 : decode cX11_drunk 45 = .ok (.putfield 200, 3) := by decide +kernel
theorem dX11_drunk_48 : decode cX11_drunk 48 = .ok (.aload_n 0, 1) := by decide +kernel
theorem dX11_drunk_49 : decode cX11_drunk 49 = .ok (.invokevirtual 246, 3) := by decide +kernel
theorem dX11_drunk_52 : decode cX11_drunk 52 = .ok (.istore 5, 2) := by decide +kernel
theorem dX11_drunk_54 : decode cX11_drunk 54 = .ok (.aload_n 0, 1) := by decide +kernel
theorem dX11_drunk_55 : decode cX11_drunk 55 = .ok (.iconst 0, 1) := by decide +kernel
theorem dX11_drunk_56 : decode cX11_drunk 56 = .ok (.putfield 200, 3) := by decide +kernel
theorem dX11_drunk_59 : decode cX11_drunk 59 = .ok (.iload_n 2, 1) := by decide +kernel
theorem dX11_drunk_60 : decode cX11_drunk 60 = .ok (.iload 5, 2) := by decide +kernel
theorem dX11_drunk_62 : decode cX11_drunk 62 = .ok (.ifCond .eq 17, 3) := by decide +kernel
theorem dX11_drunk_65 : decode cX11_drunk 65 = .ok (.iload 4, 2) := by decide +kernel
theorem dX11_drunk_67 : decode cX11_drunk 67 = .ok (.invokestatic 231, 3) := by decide +kernel
theorem dX11_drunk_70 : decode cX11_drunk 70 = .ok (.iconst 1, 1) := by decide +kernel
theorem dX11_drunk_71 : decode cX11_drunk 71 = .ok (.if_icmp .ne 8, 3) := by decide +kernel
theorem dX11_drunk_74 : decode cX11_drunk 74 = .ok (.iload 4, 2) := by decide +kernel
theorem dX11_drunk_76 : decode cX11_drunk 76 = .ok (.goto 4, 3) := by decide +kernel
theorem dX11_drunk_79 : decode cX11_drunk 79 = .ok (.iconst 0, 1) := by decide +kernel
theorem dX11_drunk_80 : decode cX11_drunk 80 = .ok (.ior, 1) := by decide +kernel
theorem dX11_drunk_81 : decode cX11_drunk 81 = .ok (.istore_n 2, 1) := by decide +kernel
theorem dX11_drunk_82 : decode cX11_drunk 82 = .ok (.iload 5, 2) := by decide +kernel
theorem dX11_drunk_84 : decode cX11_drunk 84 = .ok (.ifCond .eq 26, 3) := by decide +kernel
theorem dX11_drunk_87 : decode cX11_drunk 87 = .ok (.iload_n 3, 1) := by decide +kernel
theorem dX11_drunk_88 : decode cX11_drunk 88 = .ok (.bipush (-5), 2) := by decide +kernel
theorem dX11_drunk_90 : decode cX11_drunk 90 = .ok (.if_icmp .eq 15, 3) := by decide +kernel
theorem dX11_drunk_93 : decode cX11_drunk 93 = .ok (.iload 4, 2) := by decide +kernel
theorem dX11_drunk_95 : decode cX11_drunk 95 = .ok (.invokestatic 231, 3) := by decide +kernel
theorem dX11_drunk_98 : decode cX11_drunk 98 = .ok (.iload_n 3, 1) := by decide +kernel
theorem dX11_drunk_99 : decode cX11_drunk 99 = .ok (.invokestatic 231, 3) := by decide +kernel
theorem dX11_drunk_102 : decode cX11_drunk 102 = .ok (.if_icmp .le 8, 3) := by decide +kernel
theorem dX11_drunk_105 : decode cX11_drunk 105 = .ok (.iload 4, 2) := by decide +kernel
theorem dX11_drunk_107 : decode cX11_drunk 107 = .ok (.goto 4, 3) := by decide +kernel
theorem dX11_drunk_110 : decode cX11_drunk 110 = .ok (.iload_n 3, 1) := by decide +kernel
theorem dX11_drunk_111 : decode cX11_drunk 111 = .ok (.istore_n 3, 1) := by decide +kernel
theorem dX11_drunk_112 : decode cX11_drunk 112 = .ok (.iinc 4 1, 3) := by decide +kernel
theorem dX11_drunk_115 : decode cX11_drunk 115 = .ok (.goto (-86), 3) := by decide +kernel
theorem dX11_drunk_118 : decode cX11_drunk 118 = .ok (.iload_n 1, 1) := by decide +kernel
theorem dX11_drunk_119 : decode cX11_drunk 119 = .ok (.ifCond .ne 7, 3) := by decide +kernel
theorem dX11_drunk_122 : decode cX11_drunk 122 = .ok (.iload_n 2, 1) := by decide +kernel
theorem dX11_drunk_123 : decode cX11_drunk 123 = .ok (.goto 4, 3) := by decide +kernel
theorem dX11_drunk_126 : decode cX11_drunk 126 = .ok (.iload_n 3, 1) := by decide +kernel
theorem dX11_drunk_127 : decode cX11_drunk 127 = .ok (.ireturn, 1) := by decide +kernel
set_option maxRecDepth 20000 in
theorem ggX11_raised_X11_isRiver : GoodIn wsX11_raised wsX11_isRiver := goodIn_r _ [6, 7, 81, 82, 83, 84, 85, 86, 87, 88, 89, 90, 91, 92, 93, 94, 95, 96, 97, 98, 99, 100, 101, 102, 103, 104, 105, 106, 107, 108, 109, 110, 111, 112, 113, 114, 115, 116, 117, 118] (by decide +kernel) (by decide +kernel)
set_option maxRecDepth 20000 in
theorem gX11_raised_X11_isRiver : GoodIn wsX11_raised (wsV RX11 215 RX11 yX11_isRiver wsX11_isRiver) := goodIn_app (goodIn_of _ (by decide +kernel)) ggX11_raised_X11_isRiver
set_option maxRecDepth 20000 in
theorem ggX11_raised_X11_areHolding : GoodIn wsX11_raised wsX11_areHolding := goodIn_r _ [11, 12, 7, 13, 14, 15, 16, 5, 17, 18, 19, 20, 21, 22, 23, 24, 25, 26, 27, 28, 29, 30, 31, 32, 33, 34, 35, 36, 37, 38, 39, 40, 41, 42, 43, 44, 45, 46, 47, 48, 49, 50, 51, 52, 53, 54, 55, 56, 57, 58, 59, 60, 61, 62, 63, 64, 65, 66, 67, 68, 69, 70, 71, 72, 1, 73, 74, 75, 76, 77, 78, 79, 80, 81, 82, 83, 84, 85, 86, 87, 88, 89, 90, 91, 92, 93, 94, 95, 96, 97, 98, 99, 100, 101, 102, 103, 104, 105, 106, 107, 108, 109, 110, 111, 112, 113, 114, 115, 116, 117, 118] (by decide +kernel) (by decide +kernel)
set_option maxRecDepth 20000 in
theorem gX11_raised_X11_areHolding : GoodIn wsX11_raised (wsV RX11 246 RX11 yX11_areHolding wsX11_areHolding) := goodIn_app (goodIn_of _ (by decide +kernel)) ggX11_raised_X11_areHolding
theorem dX11_raised_0 : decode cX11_raised 0 = .ok (.aload_n 0, 1) := by decide +kernel
theorem dX11_raised_1 : decode cX11_raised 1 = .ok (.invokevirtual 215, 3) := by decide +kernel
theorem dX11_raised_4 : decode cX11_raised 4 = .ok (.ifCond .ne 6, 3) := by decide +kernel
theorem dX11_raised_7 : decode cX11_raised 7 = .ok (.bipush (-3), 2) := by decide +kernel
theorem dX11_raised_9 : decode cX11_raised 9 = .ok (.ireturn, 1) := by decide +kernel
theorem dX11_raised_10 : decode cX11_raised 10 = .ok (.bipush (-5), 2) := by decide +kernel
theorem dX11_raised_12 : decode cX11_raised 12 = .ok (.istore_n 1, 1) := by decide +kernel
theorem dX11_raised_13 : decode cX11_raised 13 = .ok (.iconst 0, 1) := by decide +kernel
theorem dX11_raised_14 : decode cX11_raised 14 = .ok (.istore_n 2, 1) := by decide +kernel
theorem dX11_raised_15 : decode cX11_raised 15 = .ok (.iload_n 2, 1) := by decide +kernel
theorem dX11_raised_16 : decode cX11_raised 16 = .ok (.bipush 10, 2) := by decide +kernel
theorem dX11_raised_18 : decode cX11_raised 18 = .ok (.if_icmp .ge 34, 3) := by decide +kernel
theorem dX11_raised_21 : decode cX11_raised 21 = .ok (.iload_n 1, 1) := by decide +kernel
theorem dX11_raised_22 : decode cX11_raised 22 = .ok (.bipush (-5), 2) := by decide +kernel
theorem dX11_raised_24 : decode cX11_raised 24 = .ok (.if_icmp .ne 28, 3) := by decide +kernel
theorem dX11_raised_27 : decode cX11_raised 27 = .ok (.aload_n 0, 1) := by decide +kernel
theorem dX11_raised_28 : decode cX11_raised 28 = .ok (.iload_n 2, 1) := by decide +kernel
theorem dX11_raised_29 : decode cX11_raised 29 = .ok (.putfield 170, 3) := by decide +kernel
theorem dX11_raised_32 : decode cX11_raised 32 = .ok (.aload_n 0, 1) := by decide +kernel
theorem dX11_raised_33 : decode cX11_raised 33 = .ok (.invokevirtual 246, 3) := by decide +kernel
theorem dX11_raised_36 : decode cX11_raised 36 = .ok (.ifCond .eq 7, 3) := by decide +kernel
theorem dX11_raised_39 : decode cX11_raised 39 = .ok (.iload_n 2, 1) := by decide +kernel
theorem dX11_raised_40 : decode cX11_raised 40 = .ok (.goto 5, 3) := by decide +kernel
theorem dX11_raised_43 : decode cX11_raised 43 = .ok (.bipush (-5), 2) := by decide +kernel
theorem dX11_raised_45 : decode cX11_raised 45 = .ok (.istore_n 1, 1) := by decide +kernel
theorem dX11_raised_46 : decode cX11_raised 46 = .ok (.iinc 2 1, 3) := by decide +kernel
theorem dX11_raised_49 : decode cX11_raised 49 = .ok (.goto (-34), 3) := by decide +kernel
theorem dX11_raised_52 : decode cX11_raised 52 = .ok (.aload_n 0, 1) := by decide +kernel
theorem dX11_raised_53 : decode cX11_raised 53 = .ok (.iconst 0, 1) := by decide +kernel
theorem dX11_raised_54 : decode cX11_raised 54 = .ok (.putfield 170, 3) := by decide +kernel
theorem dX11_raised_57 : decode cX11_raised 57 = .ok (.iload_n 1, 1) := by decide +kernel
theorem dX11_raised_58 : decode cX11_raised 58 = .ok (.ireturn, 1) := by decide +kernel
theorem dX11_divisor_0 : decode cX11_divisor 0 = .ok (.lload_n 0, 1) := by decide +kernel
theorem dX11_divisor_1 : decode cX11_divisor 1 = .ok (.lstore 4, 2) := by decide +kernel
theorem dX11_divisor_3 : decode cX11_divisor 3 = .ok (.lload_n 2, 1) := by decide +kernel
theorem dX11_divisor_4 : decode cX11_divisor 4 = .ok (.lstore 6, 2) := by decide +kernel
theorem dX11_divisor_6 : decode cX11_divisor 6 = .ok (.lload 6, 2) := by decide +kernel
theorem dX11_divisor_8 : decode cX11_divisor 8 = .ok (.lconst 0, 1) := by decide +kernel
theorem dX11_divisor_9 : decode cX11_divisor 9 = .ok (.lcmp, 1) := by decide +kernel
theorem dX11_divisor_10 : decode cX11_divisor 10 = .ok (.ifCond .eq 21, 3) := by decide +kernel
theorem dX11_divisor_13 : decode cX11_divisor 13 = .ok (.lload 4, 2) := by decide +kernel
theorem dX11_divisor_15 : decode cX11_divisor 15 = .ok (.lload 6, 2) := by decide +kernel
theorem dX11_divisor_17 : decode cX11_divisor 17 = .ok (.lrem, 1) := by decide +kernel
theorem dX11_divisor_18 : decode cX11_divisor 18 = .ok (.lstore 8, 2) := by decide +kernel
theorem dX11_divisor_20 : decode cX11_divisor 20 = .ok (.lload 6, 2) := by decide +kernel
theorem dX11_divisor_22 : decode cX11_divisor 22 = .ok (.lstore 4, 2) := by decide +kernel
theorem dX11_divisor_24 : decode cX11_divisor 24 = .ok (.lload 8, 2) := by decide +kernel
theorem dX11_divisor_26 : decode cX11_divisor 26 = .ok (.lstore 6, 2) := by decide +kernel
theorem dX11_divisor_28 : decode cX11_divisor 28 = .ok (.goto (-22), 3) := by decide +kernel
theorem dX11_divisor_31 : decode cX11_divisor 31 = .ok (.lload 4, 2) := by decide +kernel
theorem dX11_divisor_33 : decode cX11_divisor 33 = .ok (.lreturn, 1) := by decide +kernel
set_option maxRecDepth 20000 in
theorem ggX11_often_X11_rainOf : GoodIn wsX11_often wsX11_rainOf := goodIn_r _ [6, 1, 7, 8, 9, 10, 11, 12, 13, 14, 15, 16, 17, 18, 19, 20, 21, 22, 23, 24, 25, 26, 27, 28, 29, 30, 31, 32, 33, 34, 35, 36, 37, 38, 39, 40, 41, 42, 43, 44] (by decide +kernel) (by decide +kernel)
set_option maxRecDepth 20000 in
theorem gX11_often_X11_rainOf : GoodIn wsX11_often (wsV RX11 227 RX11 yX11_rainOf wsX11_rainOf) := goodIn_app (goodIn_of _ (by decide +kernel)) ggX11_often_X11_rainOf
theorem dX11_often_0 : decode cX11_often 0 = .ok (.lconst 1, 1) := by decide +kernel
theorem dX11_often_1 : decode cX11_often 1 = .ok (.lstore_n 3, 1) := by decide +kernel
theorem dX11_often_2 : decode cX11_often 2 = .ok (.iconst 0, 1) := by decide +kernel
theorem dX11_often_3 : decode cX11_often 3 = .ok (.istore 5, 2) := by decide +kernel
theorem dX11_often_5 : decode cX11_often 5 = .ok (.iload 5, 2) := by decide +kernel
theorem dX11_often_7 : decode cX11_often 7 = .ok (.iload_n 2, 1) := by decide +kernel
theorem dX11_often_8 : decode cX11_often 8 = .ok (.if_icmp .ge 73, 3) := by decide +kernel
theorem dX11_often_11 : decode cX11_often 11 = .ok (.aload_n 0, 1) := by decide +kernel
theorem dX11_often_12 : decode cX11_often 12 = .ok (.iload_n 1, 1) := by decide +kernel
theorem dX11_often_13 : decode cX11_often 13 = .ok (.iload_n 2, 1) := by decide +kernel
theorem dX11_often_14 : decode cX11_often 14 = .ok (.iload 5, 2) := by decide +kernel
theorem dX11_often_16 : decode cX11_often 16 = .ok (.invokevirtual 227, 3) := by decide +kernel
theorem dX11_often_19 : decode cX11_often 19 = .ok (.istore 6, 2) := by decide +kernel
theorem dX11_often_21 : decode cX11_often 21 = .ok (.iconst 0, 1) := by decide +kernel
theorem dX11_often_22 : decode cX11_often 22 = .ok (.istore 7, 2) := by decide +kernel
theorem dX11_often_24 : decode cX11_often 24 = .ok (.iload 7, 2) := by decide +kernel
theorem dX11_often_26 : decode cX11_often 26 = .ok (.aload_n 0, 1) := by decide +kernel
theorem dX11_often_27 : decode cX11_often 27 = .ok (.getfield 9, 3) := by decide +kernel
theorem dX11_often_30 : decode cX11_often 30 = .ok (.iconst 0, 1) := by decide +kernel
theorem dX11_often_31 : decode cX11_often 31 = .ok (.iaload, 1) := by decide +kernel
theorem dX11_often_32 : decode cX11_often 32 = .ok (.if_icmp .ge 43, 3) := by decide +kernel
theorem dX11_often_35 : decode cX11_often 35 = .ok (.lload_n 3, 1) := by decide +kernel
theorem dX11_often_36 : decode cX11_often 36 = .ok (.iload 6, 2) := by decide +kernel
theorem dX11_often_38 : decode cX11_often 38 = .ok (.iload 7, 2) := by decide +kernel
theorem dX11_often_40 : decode cX11_often 40 = .ok (.ishr, 1) := by decide +kernel
theorem dX11_often_41 : decode cX11_often 41 = .ok (.iconst 1, 1) := by decide +kernel
theorem dX11_often_42 : decode cX11_often 42 = .ok (.iand, 1) := by decide +kernel
theorem dX11_often_43 : decode cX11_often 43 = .ok (.iconst 1, 1) := by decide +kernel
theorem dX11_often_44 : decode cX11_often 44 = .ok (.if_icmp .ne 13, 3) := by decide +kernel
theorem dX11_often_47 : decode cX11_often 47 = .ok (.aload_n 0, 1) := by decide +kernel
theorem dX11_often_48 : decode cX11_often 48 = .ok (.getfield 9, 3) := by decide +kernel
theorem dX11_often_51 : decode cX11_often 51 = .ok (.iconst 3, 1) := by decide +kernel
theorem dX11_often_52 : decode cX11_often 52 = .ok (.iaload, 1) := by decide +kernel
theorem dX11_often_53 : decode cX11_often 53 = .ok (.i2l, 1) := by decide +kernel
theorem dX11_often_54 : decode cX11_often 54 = .ok (.goto 13, 3) := by decide +kernel
theorem dX11_often_57 : decode cX11_often 57 = .ok (.bipush 10, 2) := by decide +kernel
theorem dX11_often_59 : decode cX11_often 59 = .ok (.aload_n 0, 1) := by decide +kernel
theorem dX11_often_60 : decode cX11_often 60 = .ok (.getfield 9, 3) := by decide +kernel
theorem dX11_often_63 : decode cX11_often 63 = .ok (.iconst 3, 1) := by decide +kernel
theorem dX11_often_64 : decode cX11_often 64 = .ok (.iaload, 1) := by decide +kernel
theorem dX11_often_65 : decode cX11_often 65 = .ok (.isub, 1) := by decide +kernel
theorem dX11_often_66 : decode cX11_often 66 = .ok (.i2l, 1) := by decide +kernel
theorem dX11_often_67 : decode cX11_often 67 = .ok (.lmul, 1) := by decide +kernel
theorem dX11_often_68 : decode cX11_often 68 = .ok (.lstore_n 3, 1) := by decide +kernel
theorem dX11_often_69 : decode cX11_often 69 = .ok (.iinc 7 1, 3) := by decide +kernel
theorem dX11_often_72 : decode cX11_often 72 = .ok (.goto (-48), 3) := by decide +kernel
theorem dX11_often_75 : decode cX11_often 75 = .ok (.iinc 5 1, 3) := by decide +kernel
theorem dX11_often_78 : decode cX11_often 78 = .ok (.goto (-73), 3) := by decide +kernel
theorem dX11_often_81 : decode cX11_often 81 = .ok (.lload_n 3, 1) := by decide +kernel
theorem dX11_often_82 : decode cX11_often 82 = .ok (.lreturn, 1) := by decide +kernel
set_option maxRecDepth 20000 in
theorem ggX11_mean_X11_in : GoodIn wsX11_mean wsX11_in := goodIn_r _ [7] (by decide +kernel) (by decide +kernel)
set_option maxRecDepth 20000 in
theorem gX11_mean_X11_in : GoodIn wsX11_mean (va_wsS RX11 59 yX11_in wsX11_in) := goodIn_app (goodIn_of _ (by decide +kernel)) ggX11_mean_X11_in
set_option maxRecDepth 20000 in
theorem ggX11_mean_X11_isRiver : GoodIn wsX11_mean wsX11_isRiver := goodIn_r _ [11, 12, 79, 80, 81, 82, 83, 84, 85, 86, 87, 88, 89, 90, 91, 92, 93, 94, 95, 96, 97, 98, 99, 100, 101, 102, 103, 104, 105, 106, 107, 108, 109, 110, 111, 112, 113, 114, 115, 116] (by decide +kernel) (by decide +kernel)
set_option maxRecDepth 20000 in
theorem gX11_mean_X11_isRiver : GoodIn wsX11_mean (wsV RX11 215 RX11 yX11_isRiver wsX11_isRiver) := goodIn_app (goodIn_of _ (by decide +kernel)) ggX11_mean_X11_isRiver
set_option maxRecDepth 20000 in
theorem ggX11_mean_X11_power : GoodIn wsX11_mean wsX11_power := goodIn_r _ [16, 12, 79, 80, 81, 82, 83, 84, 85, 86, 87, 88, 89, 90, 91, 92, 93, 94, 95, 96, 97, 98, 99, 100, 101, 102, 103, 104, 105, 106, 107, 108, 109, 110, 111, 112, 113, 114, 115, 116] (by decide +kernel) (by decide +kernel)
set_option maxRecDepth 20000 in
theorem gX11_mean_X11_power : GoodIn wsX11_mean (wsV RX11 237 RX11 yX11_power wsX11_power) := goodIn_app (goodIn_of _ (by decide +kernel)) ggX11_mean_X11_power
set_option maxRecDepth 20000 in
theorem ggX11_mean_X11_takes : GoodIn wsX11_mean wsX11_takes := goodIn_r _ [20, 21, 12, 22, 23, 24, 79, 80, 81, 82, 83, 84, 85, 86, 87, 88, 89, 90, 91, 92, 93, 94, 95, 96, 97, 98, 99, 100, 101, 102, 103, 104, 105, 106, 107, 108, 109, 110, 111, 112, 113, 114, 115, 116] (by decide +kernel) (by decide +kernel)
set_option maxRecDepth 20000 in
theorem gX11_mean_X11_takes : GoodIn wsX11_mean (wsV RX11 218 RX11 yX11_takes wsX11_takes) := goodIn_app (goodIn_of _ (by decide +kernel)) ggX11_mean_X11_takes
set_option maxRecDepth 20000 in
theorem ggX11_mean_X11_rainOf : GoodIn wsX11_mean wsX11_rainOf := goodIn_r _ [28, 12, 79, 80, 81, 82, 83, 84, 85, 86, 87, 88, 89, 90, 91, 92, 93, 94, 95, 96, 97, 98, 99, 100, 101, 102, 103, 104, 105, 106, 107, 108, 109, 110, 111, 112, 113, 114, 115, 116] (by decide +kernel) (by decide +kernel)
set_option maxRecDepth 20000 in
theorem gX11_mean_X11_rainOf : GoodIn wsX11_mean (wsV RX11 227 RX11 yX11_rainOf wsX11_rainOf) := goodIn_app (goodIn_of _ (by decide +kernel)) ggX11_mean_X11_rainOf
set_option maxRecDepth 20000 in
theorem ggX11_mean_X11_hourGoes : GoodIn wsX11_mean wsX11_hourGoes := goodIn_r _ [32, 2, 3, 12, 33, 22, 21, 23, 24, 34, 35, 36, 6, 37, 38, 39, 40, 41, 42, 43, 44, 45, 46, 47, 48, 49, 50, 51, 52, 53, 54, 55, 56, 57, 58, 59, 60, 61, 62, 63, 64, 65, 66, 67, 68, 69, 70, 71, 79, 80, 81, 82, 83, 84, 85, 86, 87, 88, 89, 90, 91, 92, 93, 94, 95, 96, 97, 98, 99, 100, 101, 102, 103, 104, 105, 106, 107, 108, 109, 110, 111, 112, 113, 114, 115, 116] (by decide +kernel) (by decide +kernel)
set_option maxRecDepth 20000 in
theorem gX11_mean_X11_hourGoes : GoodIn wsX11_mean (wsV RX11 221 RX11 yX11_hourGoes wsX11_hourGoes) := goodIn_app (goodIn_of _ (by decide +kernel)) ggX11_mean_X11_hourGoes
set_option maxRecDepth 20000 in
theorem ggX11_mean_X11_often : GoodIn wsX11_mean wsX11_often := goodIn_r _ [75, 12, 25, 26, 27, 6, 28, 79, 80, 81, 82, 83, 84, 85, 86, 87, 88, 89, 90, 91, 92, 93, 94, 95, 96, 97, 98, 99, 100, 101, 102, 103, 104, 105, 106, 107, 108, 109, 110, 111, 112, 113, 114, 115, 116] (by decide +kernel) (by decide +kernel)
set_option maxRecDepth 20000 in
theorem gX11_mean_X11_often : GoodIn wsX11_mean (wsV RX11 251 RX11 yX11_often wsX11_often) := goodIn_app (goodIn_of _ (by decide +kernel)) ggX11_mean_X11_often
set_option maxRecDepth 20000 in
theorem ggX11_mean_X11_divisor : GoodIn wsX11_mean wsX11_divisor := goodIn_r _ [78] (by decide +kernel) (by decide +kernel)
