set_option maxRecDepth 20000 in
theorem gX11_mean_X11_divisor : GoodIn wsX11_mean (va_wsS RX11 255 yX11_divisor wsX11_divisor) := goodIn_app (goodIn_of _ (by decide +kernel)) ggX11_mean_X11_divisor
theorem dX11_mean_0 : decode cX11_mean 0 = .ok (.iload_n 1, 1) := by decide +kernel
theorem dX11_mean_1 : decode cX11_mean 1 = .ok (.iconst 1, 1) := by decide +kernel
theorem dX11_mean_2 : decode cX11_mean 2 = .ok (.iconst 3, 1) := by decide +kernel
theorem dX11_mean_3 : decode cX11_mean 3 = .ok (.invokestatic 59, 3) := by decide +kernel
theorem dX11_mean_6 : decode cX11_mean 6 = .ok (.ifCond .eq 28, 3) := by decide +kernel
theorem dX11_mean_9 : decode cX11_mean 9 = .ok (.iload_n 2, 1) := by decide +kernel
theorem dX11_mean_10 : decode cX11_mean 10 = .ok (.iconst 0, 1) := by decide +kernel
theorem dX11_mean_11 : decode cX11_mean 11 = .ok (.iconst 1, 1) := by decide +kernel
theorem dX11_mean_12 : decode cX11_mean 12 = .ok (.invokestatic 59, 3) := by decide +kernel
theorem dX11_mean_15 : decode cX11_mean 15 = .ok (.ifCond .eq 19, 3) := by decide +kernel
theorem dX11_mean_18 : decode cX11_mean 18 = .ok (.iload_n 3, 1) := by decide +kernel
theorem dX11_mean_19 : decode cX11_mean 19 = .ok (.iconst 0, 1) := by decide +kernel
theorem dX11_mean_20 : decode cX11_mean 20 = .ok (.iconst 1, 1) := by decide +kernel
theorem dX11_mean_21 : decode cX11_mean 21 = .ok (.invokestatic 59, 3) := by decide +kernel
theorem dX11_mean_24 : decode cX11_mean 24 = .ok (.ifCond .eq 10, 3) := by decide +kernel
theorem dX11_mean_27 : decode cX11_mean 27 = .ok (.aload_n 0, 1) := by decide +kernel
theorem dX11_mean_28 : decode cX11_mean 28 = .ok (.invokevirtual 215, 3) := by decide +kernel
theorem dX11_mean_31 : decode cX11_mean 31 = .ok (.ifCond .ne 7, 3) := by decide +kernel
theorem dX11_mean_34 : decode cX11_mean 34 = .ok (.ldc2_w 249, 3) := by decide +kernel
theorem dX11_mean_37 : decode cX11_mean 37 = .ok (.lreturn, 1) := by decide +kernel
theorem dX11_mean_38 : decode cX11_mean 38 = .ok (.lconst 0, 1) := by decide +kernel
theorem dX11_mean_39 : decode cX11_mean 39 = .ok (.lstore 4, 2) := by decide +kernel
theorem dX11_mean_41 : decode cX11_mean 41 = .ok (.lconst 0, 1) := by decide +kernel
theorem dX11_mean_42 : decode cX11_mean 42 = .ok (.lstore 6, 2) := by decide +kernel
theorem dX11_mean_44 : decode cX11_mean 44 = .ok (.iconst 0, 1) := by decide +kernel
theorem dX11_mean_45 : decode cX11_mean 45 = .ok (.istore 8, 2) := by decide +kernel
theorem dX11_mean_47 : decode cX11_mean 47 = .ok (.iload 8, 2) := by decide +kernel
theorem dX11_mean_49 : decode cX11_mean 49 = .ok (.aload_n 0, 1) := by decide +kernel
theorem dX11_mean_50 : decode cX11_mean 50 = .ok (.iload_n 1, 1) := by decide +kernel
theorem dX11_mean_51 : decode cX11_mean 51 = .ok (.invokevirtual 237, 3) := by decide +kernel
theorem dX11_mean_54 : decode cX11_mean 54 = .ok (.if_icmp .ge 106, 3) := by decide +kernel
theorem dX11_mean_57 : decode cX11_mean 57 = .ok (.aload_n 0, 1) := by decide +kernel
theorem dX11_mean_58 : decode cX11_mean 58 = .ok (.invokevirtual 218, 3) := by decide +kernel
theorem dX11_mean_61 : decode cX11_mean 61 = .ok (.iconst 0, 1) := by decide +kernel
theorem dX11_mean_62 : decode cX11_mean 62 = .ok (.istore 9, 2) := by decide +kernel
theorem dX11_mean_64 : decode cX11_mean 64 = .ok (.iconst 0, 1) := by decide +kernel
theorem dX11_mean_65 : decode cX11_mean 65 = .ok (.istore 10, 2) := by decide +kernel
theorem dX11_mean_67 : decode cX11_mean 67 = .ok (.iload 10, 2) := by decide +kernel
theorem dX11_mean_69 : decode cX11_mean 69 = .ok (.iload_n 1, 1) := by decide +kernel
theorem dX11_mean_70 : decode cX11_mean 70 = .ok (.if_icmp .ge 52, 3) := by decide +kernel
theorem dX11_mean_73 : decode cX11_mean 73 = .ok (.aload_n 0, 1) := by decide +kernel
theorem dX11_mean_74 : decode cX11_mean 74 = .ok (.aload_n 0, 1) := by decide +kernel
theorem dX11_mean_75 : decode cX11_mean 75 = .ok (.iload 8, 2) := by decide +kernel
theorem dX11_mean_77 : decode cX11_mean 77 = .ok (.iload_n 1, 1) := by decide +kernel
theorem dX11_mean_78 : decode cX11_mean 78 = .ok (.iload 10, 2) := by decide +kernel
theorem dX11_mean_80 : decode cX11_mean 80 = .ok (.invokevirtual 227, 3) := by decide +kernel
theorem dX11_mean_83 : decode cX11_mean 83 = .ok (.invokevirtual 221, 3) := by decide +kernel
theorem dX11_mean_86 : decode cX11_mean 86 = .ok (.iload 9, 2) := by decide +kernel
theorem dX11_mean_88 : decode cX11_mean 88 = .ok (.ifCond .ne 21, 3) := by decide +kernel
theorem dX11_mean_91 : decode cX11_mean 91 = .ok (.iload_n 2, 1) := by decide +kernel
theorem dX11_mean_92 : decode cX11_mean 92 = .ok (.ifCond .ne 10, 3) := by decide +kernel
theorem dX11_mean_95 : decode cX11_mean 95 = .ok (.aload_n 0, 1) := by decide +kernel
theorem dX11_mean_96 : decode cX11_mean 96 = .ok (.getfield 206, 3) := by decide +kernel
theorem dX11_mean_99 : decode cX11_mean 99 = .ok (.goto 7, 3) := by decide +kernel
theorem dX11_mean_102 : decode cX11_mean 102 = .ok (.aload_n 0, 1) := by decide +kernel
theorem dX11_mean_103 : decode cX11_mean 103 = .ok (.getfield 209, 3) := by decide +kernel
theorem dX11_mean_106 : decode cX11_mean 106 = .ok (.ifCond .eq 7, 3) := by decide +kernel
theorem dX11_mean_109 : decode cX11_mean 109 = .ok (.iconst 1, 1) := by decide +kernel
theorem dX11_mean_110 : decode cX11_mean 110 = .ok (.goto 4, 3) := by decide +kernel
theorem dX11_mean_113 : decode cX11_mean 113 = .ok (.iconst 0, 1) := by decide +kernel
theorem dX11_mean_114 : decode cX11_mean 114 = .ok (.istore 9, 2) := by decide +kernel
theorem dX11_mean_116 : decode cX11_mean 116 = .ok (.iinc 10 1, 3) := by decide +kernel
theorem dX11_mean_119 : decode cX11_mean 119 = .ok (.goto (-52), 3) := by decide +kernel
theorem dX11_mean_122 : decode cX11_mean 122 = .ok (.aload_n 0, 1) := by decide +kernel
theorem dX11_mean_123 : decode cX11_mean 123 = .ok (.iload 8, 2) := by decide +kernel
theorem dX11_mean_125 : decode cX11_mean 125 = .ok (.iload_n 1, 1) := by decide +kernel
theorem dX11_mean_126 : decode cX11_mean 126 = .ok (.invokevirtual 251, 3) := by decide +kernel
theorem dX11_mean_129 : decode cX11_mean 129 = .ok (.lstore 10, 2) := by decide +kernel
theorem dX11_mean_131 : decode cX11_mean 131 = .ok (.lload 4, 2) := by decide +kernel
theorem dX11_mean_133 : decode cX11_mean 133 = .ok (.iload 9, 2) := by decide +kernel
theorem dX11_mean_135 : decode cX11_mean 135 = .ok (.ifCond .eq 8, 3) := by decide +kernel
theorem dX11_mean_138 : decode cX11_mean 138 = .ok (.lload 10, 2) := by decide +kernel
theorem dX11_mean_140 : decode cX11_mean 140 = .ok (.goto 4, 3) := by decide +kernel
theorem dX11_mean_143 : decode cX11_mean 143 = .ok (.lconst 0, 1) := by decide +kernel
theorem dX11_mean_144 : decode cX11_mean 144 = .ok (.ladd, 1) := by decide +kernel
theorem dX11_mean_145 : decode cX11_mean 145 = .ok (.lstore 4, 2) := by decide +kernel
theorem dX11_mean_147 : decode cX11_mean 147 = .ok (.lload 6, 2) := by decide +kernel
theorem dX11_mean_149 : decode cX11_mean 149 = .ok (.lload 10, 2) := by decide +kernel
theorem dX11_mean_151 : decode cX11_mean 151 = .ok (.ladd, 1) := by decide +kernel
theorem dX11_mean_152 : decode cX11_mean 152 = .ok (.lstore 6, 2) := by decide +kernel
theorem dX11_mean_154 : decode cX11_mean 154 = .ok (.iinc 8 1, 3) := by decide +kernel
theorem dX11_mean_157 : decode cX11_mean 157 = .ok (.goto (-110), 3) := by decide +kernel
theorem dX11_mean_160 : decode cX11_mean 160 = .ok (.iload_n 3, 1) := by decide +kernel
theorem dX11_mean_161 : decode cX11_mean 161 = .ok (.ifCond .ne 8, 3) := by decide +kernel
theorem dX11_mean_164 : decode cX11_mean 164 = .ok (.lload 4, 2) := by decide +kernel
theorem dX11_mean_166 : decode cX11_mean 166 = .ok (.goto 5, 3) := by decide +kernel
theorem dX11_mean_169 : decode cX11_mean 169 = .ok (.lload 6, 2) := by decide +kernel
theorem dX11_mean_171 : decode cX11_mean 171 = .ok (.lload 4, 2) := by decide +kernel
theorem dX11_mean_173 : decode cX11_mean 173 = .ok (.lload 6, 2) := by decide +kernel
theorem dX11_mean_175 : decode cX11_mean 175 = .ok (.invokestatic 255, 3) := by decide +kernel
theorem dX11_mean_178 : decode cX11_mean 178 = .ok (.ldiv, 1) := by decide +kernel
theorem dX11_mean_179 : decode cX11_mean 179 = .ok (.lreturn, 1) := by decide +kernel
set_option maxRecDepth 20000 in
theorem ggX11_same_X11_in : GoodIn wsX11_same wsX11_in := goodIn_r _ [7] (by decide +kernel) (by decide +kernel)
set_option maxRecDepth 20000 in
theorem gX11_same_X11_in : GoodIn wsX11_same (va_wsS RX11 59 yX11_in wsX11_in) := goodIn_app (goodIn_of _ (by decide +kernel)) ggX11_same_X11_in
set_option maxRecDepth 20000 in
theorem ggX11_same_X11_isRiver : GoodIn wsX11_same wsX11_isRiver := goodIn_r _ [11, 3, 85, 86, 87, 88, 89, 90, 91, 92, 93, 94, 95, 96, 97, 98, 99, 100, 101, 102, 103, 104, 105, 106, 107, 108, 109, 110, 111, 112, 113, 114, 115, 116, 117, 118, 119, 120, 121, 122] (by decide +kernel) (by decide +kernel)
set_option maxRecDepth 20000 in
theorem gX11_same_X11_isRiver : GoodIn wsX11_same (wsV RX11 215 RX11 yX11_isRiver wsX11_isRiver) := goodIn_app (goodIn_of _ (by decide +kernel)) ggX11_same_X11_isRiver
set_option maxRecDepth 20000 in
theorem ggX11_same_X11_areHolding : GoodIn wsX11_same wsX11_areHolding := goodIn_r _ [15, 16, 3, 17, 18, 19, 20, 6, 21, 22, 23, 24, 25, 26, 27, 28, 29, 30, 31, 32, 33, 34, 35, 36, 37, 38, 39, 40, 41, 42, 43, 44, 45, 46, 47, 48, 49, 50, 51, 52, 53, 54, 55, 56, 57, 58, 59, 60, 61, 62, 63, 64, 65, 66, 67, 68, 69, 70, 71, 1, 72, 73, 74, 75, 76, 77, 78, 79, 80, 81, 82, 83, 84, 85, 86, 87, 88, 89, 90, 91, 92, 93, 94, 95, 96, 97, 98, 99, 100, 101, 102, 103, 104, 105, 106, 107, 108, 109, 110, 111, 112, 113, 114, 115, 116, 117, 118, 119, 120, 121, 122] (by decide +kernel) (by decide +kernel)
set_option maxRecDepth 20000 in
theorem gX11_same_X11_areHolding : GoodIn wsX11_same (wsV RX11 246 RX11 yX11_areHolding wsX11_areHolding) := goodIn_app (goodIn_of _ (by decide +kernel)) ggX11_same_X11_areHolding
theorem dX11_same_0 : decode cX11_same 0 = .ok (.iload_n 1, 1) := by decide +kernel
theorem dX11_same_1 : decode cX11_same 1 = .ok (.iconst 0, 1) := by decide +kernel
theorem dX11_same_2 : decode cX11_same 2 = .ok (.iconst 1, 1) := by decide +kernel
theorem dX11_same_3 : decode cX11_same 3 = .ok (.invokestatic 59, 3) := by decide +kernel
theorem dX11_same_6 : decode cX11_same 6 = .ok (.ifCond .ne 5, 3) := by decide +kernel
theorem dX11_same_9 : decode cX11_same 9 = .ok (.iconst (-1), 1) := by decide +kernel
theorem dX11_same_10 : decode cX11_same 10 = .ok (.ireturn, 1) := by decide +kernel
theorem dX11_same_11 : decode cX11_same 11 = .ok (.aload_n 0, 1) := by decide +kernel
theorem dX11_same_12 : decode cX11_same 12 = .ok (.invokevirtual 215, 3) := by decide +kernel
theorem dX11_same_15 : decode cX11_same 15 = .ok (.ifCond .ne 6, 3) := by decide +kernel
theorem dX11_same_18 : decode cX11_same 18 = .ok (.bipush (-3), 2) := by decide +kernel
theorem dX11_same_20 : decode cX11_same 20 = .ok (.ireturn, 1) := by decide +kernel
theorem dX11_same_21 : decode cX11_same 21 = .ok (.iload_n 1, 1) := by decide +kernel
theorem dX11_same_22 : decode cX11_same 22 = .ok (.iconst 1, 1) := by decide +kernel
theorem dX11_same_23 : decode cX11_same 23 = .ok (.if_icmp .ne 42, 3) := by decide +kernel
theorem dX11_same_26 : decode cX11_same 26 = .ok (.aload_n 0, 1) := by decide +kernel
theorem dX11_same_27 : decode cX11_same 27 = .ok (.invokevirtual 246, 3) := by decide +kernel
theorem dX11_same_30 : decode cX11_same 30 = .ok (.istore_n 2, 1) := by decide +kernel
theorem dX11_same_31 : decode cX11_same 31 = .ok (.aload_n 0, 1) := by decide +kernel
theorem dX11_same_32 : decode cX11_same 32 = .ok (.iconst 1, 1) := by decide +kernel
theorem dX11_same_33 : decode cX11_same 33 = .ok (.putfield 173, 3) := by decide +kernel
theorem dX11_same_36 : decode cX11_same 36 = .ok (.aload_n 0, 1) := by decide +kernel
theorem dX11_same_37 : decode cX11_same 37 = .ok (.invokevirtual 246, 3) := by decide +kernel
theorem dX11_same_40 : decode cX11_same 40 = .ok (.istore_n 3, 1) := by decide +kernel
theorem dX11_same_41 : decode cX11_same 41 = .ok (.aload_n 0, 1) := by decide +kernel
theorem dX11_same_42 : decode cX11_same 42 = .ok (.iconst 0, 1) := by decide +kernel
theorem dX11_same_43 : decode cX11_same 43 = .ok (.putfield 173, 3) := by decide +kernel
theorem dX11_same_46 : decode cX11_same 46 = .ok (.iload_n 2, 1) := by decide +kernel
theorem dX11_same_47 : decode cX11_same 47 = .ok (.ifCond .ne 8, 3) := by decide +kernel
theorem dX11_same_50 : decode cX11_same 50 = .ok (.bipush (-5), 2) := by decide +kernel
theorem dX11_same_52 : decode cX11_same 52 = .ok (.goto 12, 3) := by decide +kernel
theorem dX11_same_55 : decode cX11_same 55 = .ok (.iload_n 3, 1) := by decide +kernel
theorem dX11_same_56 : decode cX11_same 56 = .ok (.ifCond .eq 7, 3) := by decide +kernel
theorem dX11_same_59 : decode cX11_same 59 = .ok (.iconst 0, 1) := by decide +kernel
theorem dX11_same_60 : decode cX11_same 60 = .ok (.goto 4, 3) := by decide +kernel
theorem dX11_same_63 : decode cX11_same 63 = .ok (.iconst 1, 1) := by decide +kernel
theorem dX11_same_64 : decode cX11_same 64 = .ok (.ireturn, 1) := by decide +kernel
theorem dX11_same_65 : decode cX11_same 65 = .ok (.iconst 0, 1) := by decide +kernel
theorem dX11_same_66 : decode cX11_same 66 = .ok (.istore_n 2, 1) := by decide +kernel
theorem dX11_same_67 : decode cX11_same 67 = .ok (.iload_n 2, 1) := by decide +kernel
theorem dX11_same_68 : decode cX11_same 68 = .ok (.iconst 3, 1) := by decide +kernel
theorem dX11_same_69 : decode cX11_same 69 = .ok (.if_icmp .ge 25, 3) := by decide +kernel
theorem dX11_same_72 : decode cX11_same 72 = .ok (.aload_n 0, 1) := by decide +kernel
theorem dX11_same_73 : decode cX11_same 73 = .ok (.getfield 50, 3) := by decide +kernel
theorem dX11_same_76 : decode cX11_same 76 = .ok (.iload_n 2, 1) := by decide +kernel
theorem dX11_same_77 : decode cX11_same 77 = .ok (.aload_n 0, 1) := by decide +kernel
theorem dX11_same_78 : decode cX11_same 78 = .ok (.getfield 9, 3) := by decide +kernel
theorem dX11_same_81 : decode cX11_same 81 = .ok (.sipush 145, 3) := by decide +kernel
theorem dX11_same_84 : decode cX11_same 84 = .ok (.iload_n 2, 1) := by decide +kernel
theorem dX11_same_85 : decode cX11_same 85 = .ok (.iadd, 1) := by decide +kernel
theorem dX11_same_86 : decode cX11_same 86 = .ok (.iaload, 1) := by decide +kernel
theorem dX11_same_87 : decode cX11_same 87 = .ok (.iastore, 1) := by decide +kernel
theorem dX11_same_88 : decode cX11_same 88 = .ok (.iinc 2 1, 3) := by decide +kernel
theorem dX11_same_91 : decode cX11_same 91 = .ok (.goto (-24), 3) := by decide +kernel
theorem dX11_same_94 : decode cX11_same 94 = .ok (.iconst 0, 1) := by decide +kernel
theorem dX11_same_95 : decode cX11_same 95 = .ok (.istore_n 2, 1) := by decide +kernel
theorem dX11_same_96 : decode cX11_same 96 = .ok (.iconst 0, 1) := by decide +kernel
theorem dX11_same_97 : decode cX11_same 97 = .ok (.istore_n 3, 1) := by decide +kernel
theorem dX11_same_98 : decode cX11_same 98 = .ok (.iload_n 3, 1) := by decide +kernel
theorem dX11_same_99 : decode cX11_same 99 = .ok (.aload_n 0, 1) := by decide +kernel
theorem dX11_same_100 : decode cX11_same 100 = .ok (.getfield 9, 3) := by decide +kernel
theorem dX11_same_103 : decode cX11_same 103 = .ok (.iconst 5, 1) := by decide +kernel
theorem dX11_same_104 : decode cX11_same 104 = .ok (.iaload, 1) := by decide +kernel
theorem dX11_same_105 : decode cX11_same 105 = .ok (.if_icmp .ge 58, 3) := by decide +kernel
theorem dX11_same_108 : decode cX11_same 108 = .ok (.iconst 0, 1) := by decide +kernel
theorem dX11_same_109 : decode cX11_same 109 = .ok (.istore 4, 2) := by decide +kernel
theorem dX11_same_111 : decode cX11_same 111 = .ok (.iload 4, 2) := by decide +kernel
theorem dX11_same_113 : decode cX11_same 113 = .ok (.aload_n 0, 1) := by decide +kernel
theorem dX11_same_114 : decode cX11_same 114 = .ok (.getfield 9, 3) := by decide +kernel
theorem dX11_same_117 : decode cX11_same 117 = .ok (.iconst 0, 1) := by decide +kernel
theorem dX11_same_118 : decode cX11_same 118 = .ok (.iaload, 1) := by decide +kernel
theorem dX11_same_119 : decode cX11_same 119 = .ok (.if_icmp .ge 21, 3) := by decide +kernel
theorem dX11_same_122 : decode cX11_same 122 = .ok (.aload_n 0, 1) := by decide +kernel
theorem dX11_same_123 : decode cX11_same 123 = .ok (.getfield 9, 3) := by decide +kernel
theorem dX11_same_126 : decode cX11_same 126 = .ok (.sipush 145, 3) := by decide +kernel
theorem dX11_same_129 : decode cX11_same 129 = .ok (.iload 4, 2) := by decide +kernel
theorem dX11_same_131 : decode cX11_same 131 = .ok (.iadd, 1) := by decide +kernel
theorem dX11_same_132 : decode cX11_same 132 = .ok (.iload_n 3, 1) := by decide +kernel
theorem dX11_same_133 : decode cX11_same 133 = .ok (.iastore, 1) := by decide +kernel
theorem dX11_same_134 : decode cX11_same 134 = .ok (.iinc 4 1, 3) := by decide +kernel
theorem dX11_same_137 : decode cX11_same 137 = .ok (.goto (-26), 3) := by decide +kernel
theorem dX11_same_140 : decode cX11_same 140 = .ok (.iload_n 2, 1) := by decide +kernel
theorem dX11_same_141 : decode cX11_same 141 = .ok (.aload_n 0, 1) := by decide +kernel
theorem dX11_same_142 : decode cX11_same 142 = .ok (.invokevirtual 246, 3) := by decide +kernel
theorem dX11_same_145 : decode cX11_same 145 = .ok (.ifCond .eq 9, 3) := by decide +kernel
theorem dX11_same_148 : decode cX11_same 148 = .ok (.iconst 1, 1) := by decide +kernel
theorem dX11_same_149 : decode cX11_same 149 = .ok (.iload_n 3, 1) := by decide +kernel
theorem dX11_same_150 : decode cX11_same 150 = .ok (.ishl, 1) := by decide +kernel
theorem dX11_same_151 : decode cX11_same 151 = .ok (.goto 4, 3) := by decide +kernel
theorem dX11_same_154 : decode cX11_same 154 = .ok (.iconst 0, 1) := by decide +kernel
theorem dX11_same_155 : decode cX11_same 155 = .ok (.ior, 1) := by decide +kernel
theorem dX11_same_156 : decode cX11_same 156 = .ok (.istore_n 2, 1) := by decide +kernel
theorem dX11_same_157 : decode cX11_same 157 = .ok (.iinc 3 1, 3) := by decide +kernel
theorem dX11_same_160 : decode cX11_same 160 = .ok (.goto (-62), 3) := by decide +kernel
theorem dX11_same_163 : decode cX11_same 163 = .ok (.iconst 0, 1) := by decide +kernel
theorem dX11_same_164 : decode cX11_same 164 = .ok (.istore_n 3, 1) := by decide +kernel
theorem dX11_same_165 : decode cX11_same 165 = .ok (.iload_n 3, 1) := by decide +kernel
theorem dX11_same_166 : decode cX11_same 166 = .ok (.iconst 3, 1) := by decide +kernel
theorem dX11_same_167 : decode cX11_same 167 = .ok (.if_icmp .ge 25, 3) := by decide +kernel
theorem dX11_same_170 : decode cX11_same 170 = .ok (.aload_n 0, 1) := by decide +kernel
theorem dX11_same_171 : decode cX11_same 171 = .ok (.getfield 9, 3) := by decide +kernel
theorem dX11_same_174 : decode cX11_same 174 = .ok (.sipush 145, 3) := by decide +kernel
theorem dX11_same_177 : decode cX11_same 177 = .ok (.iload_n 3, 1) := by decide +kernel
theorem dX11_same_178 : decode cX11_same 178 = .ok (.iadd, 1) := by decide +kernel
theorem dX11_same_179 : decode cX11_same 179 = .ok (.aload_n 0, 1) := by decide +kernel
theorem dX11_same_180 : decode cX11_same 180 = .ok (.getfield 50, 3) := by decide +kernel
theorem dX11_same_183 : decode cX11_same 183 = .ok (.iload_n 3, 1) := by decide +kernel
theorem dX11_same_184 : decode cX11_same 184 = .ok (.iaload, 1) := by decide +kernel
theorem dX11_same_185 : decode cX11_same 185 = .ok (.iastore, 1) := by decide +kernel
theorem dX11_same_186 : decode cX11_same 186 = .ok (.iinc 3 1, 3) := by decide +kernel
theorem dX11_same_189 : decode cX11_same 189 = .ok (.goto (-24), 3) := by decide +kernel
theorem dX11_same_192 : decode cX11_same 192 = .ok (.iload_n 2, 1) := by decide +kernel
theorem dX11_same_193 : decode cX11_same 193 = .ok (.ireturn, 1) := by decide +kernel
theorem dX11_runs_0 : decode cX11_runs 0 = .ok (.aload_n 0, 1) := by decide +kernel
theorem dX11_runs_1 : decode cX11_runs 1 = .ok (.getfield 259, 3) := by decide +kernel
theorem dX11_runs_4 : decode cX11_runs 4 = .ok (.bipush 20, 2) := by decide +kernel
theorem dX11_runs_6 : decode cX11_runs 6 = .ok (.if_icmp .ge 13, 3) := by decide +kernel
theorem dX11_runs_9 : decode cX11_runs 9 = .ok (.aload_n 0, 1) := by decide +kernel
theorem dX11_runs_10 : decode cX11_runs 10 = .ok (.getfield 53, 3) := by decide +kernel
theorem dX11_runs_13 : decode cX11_runs 13 = .ok (.aload_n 0, 1) := by decide +kernel
theorem dX11_runs_14 : decode cX11_runs 14 = .ok (.getfield 259, 3) := by decide +kernel
theorem dX11_runs_17 : decode cX11_runs 17 = .ok (.iload_n 1, 1) := by decide +kernel
theorem dX11_runs_18 : decode cX11_runs 18 = .ok (.iastore, 1) := by decide +kernel
theorem dX11_runs_19 : decode cX11_runs 19 = .ok (.aload_n 0, 1) := by decide +kernel
theorem dX11_runs_20 : decode cX11_runs 20 = .ok (.dup, 1) := by decide +kernel
theorem dX11_runs_21 : decode cX11_runs 21 = .ok (.getfield 259, 3) := by decide +kernel
theorem dX11_runs_24 : decode cX11_runs 24 = .ok (.iconst 1, 1) := by decide +kernel
theorem dX11_runs_25 : decode cX11_runs 25 = .ok (.iadd, 1) := by decide +kernel
theorem dX11_runs_26 : decode cX11_runs 26 = .ok (.putfield 259, 3) := by decide +kernel
theorem dX11_runs_29 : decode cX11_runs 29 = .ok (.return_, 1) := by decide +kernel
theorem dX11_isUnder_0 : decode cX11_isUnder 0 = .ok (.iload_n 1, 1) := by decide +kernel
theorem dX11_isUnder_1 : decode cX11_isUnder 1 = .ok (.ifCond .eq 49, 3) := by decide +kernel
theorem dX11_isUnder_4 : decode cX11_isUnder 4 = .ok (.iload_n 1, 1) := by decide +kernel
theorem dX11_isUnder_5 : decode cX11_isUnder 5 = .ok (.iload_n 0, 1) := by decide +kernel
theorem dX11_isUnder_6 : decode cX11_isUnder 6 = .ok (.if_icmp .eq 44, 3) := by decide +kernel
theorem dX11_isUnder_9 : decode cX11_isUnder 9 = .ok (.iload_n 1, 1) := by decide +kernel
theorem dX11_isUnder_10 : decode cX11_isUnder 10 = .ok (.iconst 1, 1) := by decide +kernel
theorem dX11_isUnder_11 : decode cX11_isUnder 11 = .ok (.if_icmp .ne 18, 3) := by decide +kernel
theorem dX11_isUnder_14 : decode cX11_isUnder 14 = .ok (.iload_n 0, 1) := by decide +kernel
theorem dX11_isUnder_15 : decode cX11_isUnder 15 = .ok (.iconst 2, 1) := by decide +kernel
theorem dX11_isUnder_16 : decode cX11_isUnder 16 = .ok (.if_icmp .eq 34, 3) := by decide +kernel
theorem dX11_isUnder_19 : decode cX11_isUnder 19 = .ok (.iload_n 0, 1) := by decide +kernel
theorem dX11_isUnder_20 : decode cX11_isUnder 20 = .ok (.iconst 3, 1) := by decide +kernel
theorem dX11_isUnder_21 : decode cX11_isUnder 21 = .ok (.if_icmp .eq 29, 3) := by decide +kernel
theorem dX11_isUnder_24 : decode cX11_isUnder 24 = .ok (.iload_n 0, 1) := by decide +kernel
theorem dX11_isUnder_25 : decode cX11_isUnder 25 = .ok (.iconst 4, 1) := by decide +kernel
theorem dX11_isUnder_26 : decode cX11_isUnder 26 = .ok (.if_icmp .eq 24, 3) := by decide +kernel
theorem dX11_isUnder_29 : decode cX11_isUnder 29 = .ok (.iload_n 1, 1) := by decide +kernel
theorem dX11_isUnder_30 : decode cX11_isUnder 30 = .ok (.iconst 2, 1) := by decide +kernel
theorem dX11_isUnder_31 : decode cX11_isUnder 31 = .ok (.if_icmp .ne 8, 3) := by decide +kernel
theorem dX11_isUnder_34 : decode cX11_isUnder 34 = .ok (.iload_n 0, 1) := by decide +kernel
theorem dX11_isUnder_35 : decode cX11_isUnder 35 = .ok (.iconst 3, 1) := by decide +kernel
theorem dX11_isUnder_36 : decode cX11_isUnder 36 = .ok (.if_icmp .eq 14, 3) := by decide +kernel
theorem dX11_isUnder_39 : decode cX11_isUnder 39 = .ok (.iload_n 1, 1) := by decide +kernel
theorem dX11_isUnder_40 : decode cX11_isUnder 40 = .ok (.iconst 5, 1) := by decide +kernel
theorem dX11_isUnder_41 : decode cX11_isUnder 41 = .ok (.if_icmp .ne 13, 3) := by decide +kernel
theorem dX11_isUnder_44 : decode cX11_isUnder 44 = .ok (.iload_n 0, 1) := by decide +kernel
theorem dX11_isUnder_45 : decode cX11_isUnder 45 = .ok (.bipush 6, 2) := by decide +kernel
theorem dX11_isUnder_47 : decode cX11_isUnder 47 = .ok (.if_icmp .ne 7, 3) := by decide +kernel
theorem dX11_isUnder_50 : decode cX11_isUnder 50 = .ok (.iconst 1, 1) := by decide +kernel
theorem dX11_isUnder_51 : decode cX11_isUnder 51 = .ok (.goto 4, 3) := by decide +kernel
theorem dX11_isUnder_54 : decode cX11_isUnder 54 = .ok (.iconst 0, 1) := by decide +kernel
theorem dX11_isUnder_55 : decode cX11_isUnder 55 = .ok (.ireturn, 1) := by decide +kernel
set_option maxRecDepth 20000 in
theorem ggX11_plainSees_X11_runs : GoodIn wsX11_plainSees wsX11_runs := goodIn_r _ [6, 7, 8, 9, 10, 11, 12, 13, 14, 15, 16, 17, 18, 19, 20, 21, 22, 23, 24, 25, 26, 27, 28, 29, 30, 31, 32, 33, 34, 35, 36, 37, 38, 39, 40, 41, 42, 43, 44, 45, 46] (by decide +kernel) (by decide +kernel)
set_option maxRecDepth 20000 in
theorem gX11_plainSees_X11_runs : GoodIn wsX11_plainSees (wsV RX11 262 RX11 yX11_runs wsX11_runs) := goodIn_app (goodIn_of _ (by decide +kernel)) ggX11_plainSees_X11_runs
theorem dX11_plainSees_0 : decode cX11_plainSees 0 = .ok (.aload_n 0, 1) := by decide +kernel
theorem dX11_plainSees_1 : decode cX11_plainSees 1 = .ok (.iconst 1, 1) := by decide +kernel
theorem dX11_plainSees_2 : decode cX11_plainSees 2 = .ok (.invokevirtual 262, 3) := by decide +kernel
theorem dX11_plainSees_5 : decode cX11_plainSees 5 = .ok (.iload_n 1, 1) := by decide +kernel
theorem dX11_plainSees_6 : decode cX11_plainSees 6 = .ok (.aload_n 0, 1) := by decide +kernel
theorem dX11_plainSees_7 : decode cX11_plainSees 7 = .ok (.getfield 265, 3) := by decide +kernel
theorem dX11_plainSees_10 : decode cX11_plainSees 10 = .ok (.iadd, 1) := by decide +kernel
theorem dX11_plainSees_11 : decode cX11_plainSees 11 = .ok (.ireturn, 1) := by decide +kernel
set_option maxRecDepth 20000 in
theorem ggX11_levelSees_X11_runs : GoodIn wsX11_levelSees wsX11_runs := goodIn_r _ [5, 6, 7, 13, 14, 15, 16, 17, 18, 19, 20, 21, 22, 23, 24, 25, 26, 27, 28, 29, 30, 31, 32, 33, 34, 35, 36, 37, 38, 39, 40, 41, 42, 43, 44, 45, 46, 47, 48, 49, 50] (by decide +kernel) (by decide +kernel)
set_option maxRecDepth 20000 in
theorem gX11_levelSees_X11_runs : GoodIn wsX11_levelSees (wsV RX11 262 RX11 yX11_runs wsX11_runs) := goodIn_app (goodIn_of _ (by decide +kernel)) ggX11_levelSees_X11_runs
set_option maxRecDepth 20000 in
theorem ggX11_levelSees_X11_plainSees : GoodIn wsX11_levelSees wsX11_plainSees := goodIn_r _ [11, 12, 1, 2, 3, 4, 5, 6, 7, 13, 14, 15, 16, 17, 18, 19, 20, 21, 22, 23, 24, 25, 26, 27, 28, 29, 30, 31, 32, 33, 34, 35, 36, 37, 38, 39, 40, 41, 42, 43, 44, 45, 46, 47, 48, 49, 50] (by decide +kernel) (by decide +kernel)
set_option maxRecDepth 20000 in
theorem gX11_levelSees_X11_plainSees : GoodIn wsX11_levelSees (wsV RX11 268 RX11 yX11_plainSees wsX11_plainSees) := goodIn_app (goodIn_of _ (by decide +kernel)) ggX11_levelSees_X11_plainSees
theorem dX11_levelSees_0 : decode cX11_levelSees 0 = .ok (.aload_n 0, 1) := by decide +kernel
theorem dX11_levelSees_1 : decode cX11_levelSees 1 = .ok (.bipush 11, 2) := by decide +kernel
theorem dX11_levelSees_3 : decode cX11_levelSees 3 = .ok (.invokevirtual 262, 3) := by decide +kernel
theorem dX11_levelSees_6 : decode cX11_levelSees 6 = .ok (.aload_n 0, 1) := by decide +kernel
theorem dX11_levelSees_7 : decode cX11_levelSees 7 = .ok (.iload_n 1, 1) := by decide +kernel
theorem dX11_levelSees_8 : decode cX11_levelSees 8 = .ok (.iconst 3, 1) := by decide +kernel
theorem dX11_levelSees_9 : decode cX11_levelSees 9 = .ok (.imul, 1) := by decide +kernel
theorem dX11_levelSees_10 : decode cX11_levelSees 10 = .ok (.invokevirtual 268, 3) := by decide +kernel
theorem dX11_levelSees_13 : decode cX11_levelSees 13 = .ok (.ireturn, 1) := by decide +kernel
set_option maxRecDepth 20000 in
theorem ggX11_seesActs_X11_runs : GoodIn wsX11_seesActs wsX11_runs := goodIn_r _ [7, 8, 9, 21, 22, 23, 24, 25, 26, 27, 28, 29, 30, 31, 32, 33, 34, 35, 36, 37, 38, 39, 40, 41, 42, 43, 44, 45, 46, 47, 48, 49, 50, 51, 52, 53, 54, 55, 56, 57, 58] (by decide +kernel) (by decide +kernel)
set_option maxRecDepth 20000 in
theorem gX11_seesActs_X11_runs : GoodIn wsX11_seesActs (wsV RX11 262 RX11 yX11_runs wsX11_runs) := goodIn_app (goodIn_of _ (by decide +kernel)) ggX11_seesActs_X11_runs
set_option maxRecDepth 20000 in
theorem ggX11_seesActs_X11_levelSees : GoodIn wsX11_seesActs wsX11_levelSees := goodIn_r _ [13, 3, 4, 5, 6, 7, 8, 9, 14, 15, 16, 17, 2, 21, 22, 23, 24, 25, 26, 27, 28, 29, 30, 31, 32, 33, 34, 35, 36, 37, 38, 39, 40, 41, 42, 43, 44, 45, 46, 47, 48, 49, 50, 51, 52, 53, 54, 55, 56, 57, 58] (by decide +kernel) (by decide +kernel)
set_option maxRecDepth 20000 in
theorem gX11_seesActs_X11_levelSees : GoodIn wsX11_seesActs (wsV RX11 274 RX11 yX11_levelSees wsX11_levelSees) := goodIn_app (goodIn_of _ (by decide +kernel)) ggX11_seesActs_X11_levelSees
set_option maxRecDepth 20000 in
theorem ggX11_seesActs_X11_isUnder : GoodIn wsX11_seesActs wsX11_isUnder := goodIn_r _ [20] (by decide +kernel) (by decide +kernel)
set_option maxRecDepth 20000 in
theorem gX11_seesActs_X11_isUnder : GoodIn wsX11_seesActs (va_wsS RX11 277 yX11_isUnder wsX11_isUnder) := goodIn_app (goodIn_of _ (by decide +kernel)) ggX11_seesActs_X11_isUnder
set_option maxRecDepth 20000 in
theorem ggX11_seesActs_X11_plainSees : GoodIn wsX11_seesActs wsX11_plainSees := goodIn_r _ [17, 2, 3, 4, 5, 6, 7, 8, 9, 21, 22, 23, 24, 25, 26, 27, 28, 29, 30, 31, 32, 33, 34, 35, 36, 37, 38, 39, 40, 41, 42, 43, 44, 45, 46, 47, 48, 49, 50, 51, 52, 53, 54, 55, 56, 57, 58] (by decide +kernel) (by decide +kernel)
set_option maxRecDepth 20000 in
theorem gX11_seesActs_X11_plainSees : GoodIn wsX11_seesActs (wsV RX11 268 RX11 yX11_plainSees wsX11_plainSees) := goodIn_app (goodIn_of _ (by decide +kernel)) ggX11_seesActs_X11_plainSees
theorem dX11_seesActs_0 : decode cX11_seesActs 0 = .ok (.aload_n 0, 1) := by decide +kernel
theorem dX11_seesActs_1 : decode cX11_seesActs 1 = .ok (.getfield 271, 3) := by decide +kernel
theorem dX11_seesActs_4 : decode cX11_seesActs 4 = .ok (.iconst 4, 1) := by decide +kernel
theorem dX11_seesActs_5 : decode cX11_seesActs 5 = .ok (.if_icmp .ne 20, 3) := by decide +kernel
theorem dX11_seesActs_8 : decode cX11_seesActs 8 = .ok (.aload_n 0, 1) := by decide +kernel
theorem dX11_seesActs_9 : decode cX11_seesActs 9 = .ok (.bipush 51, 2) := by decide +kernel
theorem dX11_seesActs_11 : decode cX11_seesActs 11 = .ok (.invokevirtual 262, 3) := by decide +kernel
theorem dX11_seesActs_14 : decode cX11_seesActs 14 = .ok (.aload_n 0, 1) := by decide +kernel
theorem dX11_seesActs_15 : decode cX11_seesActs 15 = .ok (.iload_n 1, 1) := by decide +kernel
theorem dX11_seesActs_16 : decode cX11_seesActs 16 = .ok (.invokevirtual 274, 3) := by decide +kernel
theorem dX11_seesActs_19 : decode cX11_seesActs 19 = .ok (.aload_n 0, 1) := by decide +kernel
theorem dX11_seesActs_20 : decode cX11_seesActs 20 = .ok (.getfield 265, 3) := by decide +kernel
theorem dX11_seesActs_23 : decode cX11_seesActs 23 = .ok (.ixor, 1) := by decide +kernel
theorem dX11_seesActs_24 : decode cX11_seesActs 24 = .ok (.ireturn, 1) := by decide +kernel
theorem dX11_seesActs_25 : decode cX11_seesActs 25 = .ok (.aload_n 0, 1) := by decide +kernel
theorem dX11_seesActs_26 : decode cX11_seesActs 26 = .ok (.getfield 271, 3) := by decide +kernel
theorem dX11_seesActs_29 : decode cX11_seesActs 29 = .ok (.iconst 1, 1) := by decide +kernel
theorem dX11_seesActs_30 : decode cX11_seesActs 30 = .ok (.invokestatic 277, 3) := by decide +kernel
theorem dX11_seesActs_33 : decode cX11_seesActs 33 = .ok (.ifCond .eq 11, 3) := by decide +kernel
theorem dX11_seesActs_36 : decode cX11_seesActs 36 = .ok (.aload_n 0, 1) := by decide +kernel
theorem dX11_seesActs_37 : decode cX11_seesActs 37 = .ok (.iload_n 1, 1) := by decide +kernel
theorem dX11_seesActs_38 : decode cX11_seesActs 38 = .ok (.invokevirtual 274, 3) := by decide +kernel
theorem dX11_seesActs_41 : decode cX11_seesActs 41 = .ok (.goto 8, 3) := by decide +kernel
theorem dX11_seesActs_44 : decode cX11_seesActs 44 = .ok (.aload_n 0, 1) := by decide +kernel
theorem dX11_seesActs_45 : decode cX11_seesActs 45 = .ok (.iload_n 1, 1) := by decide +kernel
theorem dX11_seesActs_46 : decode cX11_seesActs 46 = .ok (.invokevirtual 268, 3) := by decide +kernel
theorem dX11_seesActs_49 : decode cX11_seesActs 49 = .ok (.ireturn, 1) := by decide +kernel
set_option maxRecDepth 20000 in
theorem ggX11_plainSets_X11_runs : GoodIn wsX11_plainSets wsX11_runs := goodIn_r _ [6, 7, 8, 26, 27, 28, 29, 30, 31, 32, 33, 34, 35, 36, 37, 38, 39, 40, 41, 42, 43, 44, 45, 46, 47, 48, 49, 50, 51, 52, 53, 54, 55, 56, 57, 58, 59, 60, 61, 62, 63] (by decide +kernel) (by decide +kernel)
set_option maxRecDepth 20000 in
theorem gX11_plainSets_X11_runs : GoodIn wsX11_plainSets (wsV RX11 262 RX11 yX11_runs wsX11_runs) := goodIn_app (goodIn_of _ (by decide +kernel)) ggX11_plainSets_X11_runs
set_option maxRecDepth 20000 in
theorem ggX11_plainSets_X11_seesActs : GoodIn wsX11_plainSets wsX11_seesActs := goodIn_r _ [12, 13, 14, 2, 3, 4, 5, 6, 7, 8, 15, 16, 17, 18, 19, 20, 21, 22, 23, 24, 25, 26, 27, 28, 29, 30, 31, 32, 33, 34, 35, 36, 37, 38, 39, 40, 41, 42, 43, 44, 45, 46, 47, 48, 49, 50, 51, 52, 53, 54, 55, 56, 57, 58, 59, 60, 61, 62, 63] (by decide +kernel) (by decide +kernel)
set_option maxRecDepth 20000 in
theorem gX11_plainSets_X11_seesActs : GoodIn wsX11_plainSets (wsV RX11 280 RX11 yX11_seesActs wsX11_seesActs) := goodIn_app (goodIn_of _ (by decide +kernel)) ggX11_plainSets_X11_seesActs
theorem dX11_plainSets_0 : decode cX11_plainSets 0 = .ok (.aload_n 0, 1) := by decide +kernel
theorem dX11_plainSets_1 : decode cX11_plainSets 1 = .ok (.iconst 2, 1) := by decide +kernel
theorem dX11_plainSets_2 : decode cX11_plainSets 2 = .ok (.invokevirtual 262, 3) := by decide +kernel
theorem dX11_plainSets_5 : decode cX11_plainSets 5 = .ok (.aload_n 0, 1) := by decide +kernel
theorem dX11_plainSets_6 : decode cX11_plainSets 6 = .ok (.iload_n 1, 1) := by decide +kernel
theorem dX11_plainSets_7 : decode cX11_plainSets 7 = .ok (.invokevirtual 280, 3) := by decide +kernel
theorem dX11_plainSets_10 : decode cX11_plainSets 10 = .ok (.aload_n 0, 1) := by decide +kernel
theorem dX11_plainSets_11 : decode cX11_plainSets 11 = .ok (.getfield 283, 3) := by decide +kernel
theorem dX11_plainSets_14 : decode cX11_plainSets 14 = .ok (.isub, 1) := by decide +kernel
theorem dX11_plainSets_15 : decode cX11_plainSets 15 = .ok (.ireturn, 1) := by decide +kernel
set_option maxRecDepth 20000 in
theorem ggX11_setsActs_X11_isUnder : GoodIn wsX11_setsActs wsX11_isUnder := goodIn_r _ [6] (by decide +kernel) (by decide +kernel)
set_option maxRecDepth 20000 in
theorem gX11_setsActs_X11_isUnder : GoodIn wsX11_setsActs (va_wsS RX11 277 yX11_isUnder wsX11_isUnder) := goodIn_app (goodIn_of _ (by decide +kernel)) ggX11_setsActs_X11_isUnder
set_option maxRecDepth 20000 in
theorem ggX11_setsActs_X11_runs : GoodIn wsX11_setsActs wsX11_runs := goodIn_r _ [10, 11, 12, 30, 31, 32, 33, 34, 35, 36, 37, 38, 39, 40, 41, 42, 43, 44, 45, 46, 47, 48, 49, 50, 51, 52, 53, 54, 55, 56, 57, 58, 59, 60, 61, 62, 63, 64, 65, 66, 67] (by decide +kernel) (by decide +kernel)
set_option maxRecDepth 20000 in
theorem gX11_setsActs_X11_runs : GoodIn wsX11_setsActs (wsV RX11 262 RX11 yX11_runs wsX11_runs) := goodIn_app (goodIn_of _ (by decide +kernel)) ggX11_setsActs_X11_runs
set_option maxRecDepth 20000 in
theorem ggX11_setsActs_X11_plainSets : GoodIn wsX11_setsActs wsX11_plainSets := goodIn_r _ [16, 2, 7, 8, 9, 5, 10, 11, 12, 17, 18, 19, 20, 1, 21, 22, 23, 24, 25, 26, 27, 28, 29, 3, 4, 6, 30, 31, 32, 33, 34, 35, 36, 37, 38, 39, 40, 41, 42, 43, 44, 45, 46, 47, 48, 49, 50, 51, 52, 53, 54, 55, 56, 57, 58, 59, 60, 61, 62, 63, 64, 65, 66, 67] (by decide +kernel) (by decide +kernel)
set_option maxRecDepth 20000 in
theorem gX11_setsActs_X11_plainSets : GoodIn wsX11_setsActs (wsV RX11 286 RX11 yX11_plainSets wsX11_plainSets) := goodIn_app (goodIn_of _ (by decide +kernel)) ggX11_setsActs_X11_plainSets
theorem dX11_setsActs_0 : decode cX11_setsActs 0 = .ok (.aload_n 0, 1) := by decide +kernel
theorem dX11_setsActs_1 : decode cX11_setsActs 1 = .ok (.getfield 271, 3) := by decide +kernel
theorem dX11_setsActs_4 : decode cX11_setsActs 4 = .ok (.iconst 2, 1) := by decide +kernel
theorem dX11_setsActs_5 : decode cX11_setsActs 5 = .ok (.invokestatic 277, 3) := by decide +kernel
theorem dX11_setsActs_8 : decode cX11_setsActs 8 = .ok (.ifCond .eq 16, 3) := by decide +kernel
theorem dX11_setsActs_11 : decode cX11_setsActs 11 = .ok (.aload_n 0, 1) := by decide +kernel
theorem dX11_setsActs_12 : decode cX11_setsActs 12 = .ok (.bipush 21, 2) := by decide +kernel
theorem dX11_setsActs_14 : decode cX11_setsActs 14 = .ok (.invokevirtual 262, 3) := by decide +kernel
theorem dX11_setsActs_17 : decode cX11_setsActs 17 = .ok (.aload_n 0, 1) := by decide +kernel
theorem dX11_setsActs_18 : decode cX11_setsActs 18 = .ok (.iload_n 1, 1) := by decide +kernel
theorem dX11_setsActs_19 : decode cX11_setsActs 19 = .ok (.invokevirtual 286, 3) := by decide +kernel
theorem dX11_setsActs_22 : decode cX11_setsActs 22 = .ok (.ineg, 1) := by decide +kernel
theorem dX11_setsActs_23 : decode cX11_setsActs 23 = .ok (.ireturn, 1) := by decide +kernel
theorem dX11_setsActs_24 : decode cX11_setsActs 24 = .ok (.aload_n 0, 1) := by decide +kernel
theorem dX11_setsActs_25 : decode cX11_setsActs 25 = .ok (.getfield 271, 3) := by decide +kernel
theorem dX11_setsActs_28 : decode cX11_setsActs 28 = .ok (.bipush 6, 2) := by decide +kernel
theorem dX11_setsActs_30 : decode cX11_setsActs 30 = .ok (.if_icmp .ne 20, 3) := by decide +kernel
theorem dX11_setsActs_33 : decode cX11_setsActs 33 = .ok (.aload_n 0, 1) := by decide +kernel
theorem dX11_setsActs_34 : decode cX11_setsActs 34 = .ok (.bipush 61, 2) := by decide +kernel
theorem dX11_setsActs_36 : decode cX11_setsActs 36 = .ok (.invokevirtual 262, 3) := by decide +kernel
theorem dX11_setsActs_39 : decode cX11_setsActs 39 = .ok (.aload_n 0, 1) := by decide +kernel
theorem dX11_setsActs_40 : decode cX11_setsActs 40 = .ok (.iload_n 1, 1) := by decide +kernel
theorem dX11_setsActs_41 : decode cX11_setsActs 41 = .ok (.invokevirtual 286, 3) := by decide +kernel
theorem dX11_setsActs_44 : decode cX11_setsActs 44 = .ok (.aload_n 0, 1) := by decide +kernel
theorem dX11_setsActs_45 : decode cX11_setsActs 45 = .ok (.getfield 283, 3) := by decide +kernel
theorem dX11_setsActs_48 : decode cX11_setsActs 48 = .ok (.iadd, 1) := by decide +kernel
theorem dX11_setsActs_49 : decode cX11_setsActs 49 = .ok (.ireturn, 1) := by decide +kernel
theorem dX11_setsActs_50 : decode cX11_setsActs 50 = .ok (.aload_n 0, 1) := by decide +kernel
theorem dX11_setsActs_51 : decode cX11_setsActs 51 = .ok (.iload_n 1, 1) := by decide +kernel
theorem dX11_setsActs_52 : decode cX11_setsActs 52 = .ok (.invokevirtual 286, 3) := by decide +kernel
theorem dX11_setsActs_55 : decode cX11_setsActs 55 = .ok (.ireturn, 1) := by decide +kernel
set_option maxRecDepth 20000 in
theorem ggX11_plainWakes_X11_runs : GoodIn wsX11_plainWakes wsX11_runs := goodIn_r _ [5, 6, 7, 34, 35, 36, 37, 38, 39, 40, 41, 42, 43, 44, 45, 46, 47, 48, 49, 50, 51, 52, 53, 54, 55, 56, 57, 58, 59, 60, 61, 62, 63, 64, 65, 66, 67, 68, 69, 70, 71] (by decide +kernel) (by decide +kernel)
set_option maxRecDepth 20000 in
theorem gX11_plainWakes_X11_runs : GoodIn wsX11_plainWakes (wsV RX11 262 RX11 yX11_runs wsX11_runs) := goodIn_app (goodIn_of _ (by decide +kernel)) ggX11_plainWakes_X11_runs
set_option maxRecDepth 20000 in
theorem ggX11_plainWakes_X11_setsActs : GoodIn wsX11_plainWakes wsX11_setsActs := goodIn_r _ [11, 12, 13, 14, 15, 4, 16, 1, 2, 3, 5, 6, 7, 17, 18, 19, 20, 21, 22, 23, 24, 25, 26, 27, 28, 29, 30, 31, 32, 33, 34, 35, 36, 37, 38, 39, 40, 41, 42, 43, 44, 45, 46, 47, 48, 49, 50, 51, 52, 53, 54, 55, 56, 57, 58, 59, 60, 61, 62, 63, 64, 65, 66, 67, 68, 69, 70, 71] (by decide +kernel) (by decide +kernel)
set_option maxRecDepth 20000 in
theorem gX11_plainWakes_X11_setsActs : GoodIn wsX11_plainWakes (wsV RX11 289 RX11 yX11_setsActs wsX11_setsActs) := goodIn_app (goodIn_of _ (by decide +kernel)) ggX11_plainWakes_X11_setsActs
theorem dX11_plainWakes_0 : decode cX11_plainWakes 0 = .ok (.aload_n 0, 1) := by decide +kernel
theorem dX11_plainWakes_1 : decode cX11_plainWakes 1 = .ok (.iconst 3, 1) := by decide +kernel
theorem dX11_plainWakes_2 : decode cX11_plainWakes 2 = .ok (.invokevirtual 262, 3) := by decide +kernel
theorem dX11_plainWakes_5 : decode cX11_plainWakes 5 = .ok (.aload_n 0, 1) := by decide +kernel
theorem dX11_plainWakes_6 : decode cX11_plainWakes 6 = .ok (.iload_n 1, 1) := by decide +kernel
theorem dX11_plainWakes_7 : decode cX11_plainWakes 7 = .ok (.invokevirtual 289, 3) := by decide +kernel
theorem dX11_plainWakes_10 : decode cX11_plainWakes 10 = .ok (.iconst 2, 1) := by decide +kernel
theorem dX11_plainWakes_11 : decode cX11_plainWakes 11 = .ok (.imul, 1) := by decide +kernel
theorem dX11_plainWakes_12 : decode cX11_plainWakes 12 = .ok (.ireturn, 1) := by decide +kernel
set_option maxRecDepth 20000 in
theorem ggX11_wakesActs_X11_runs : GoodIn wsX11_wakesActs wsX11_runs := goodIn_r _ [6, 7, 8, 38, 39, 40, 41, 42, 43, 44, 45, 46, 47, 48, 49, 50, 51, 52, 53, 54, 55, 56, 57, 58, 59, 60, 61, 62, 63, 64, 65, 66, 67, 68, 69, 70, 71, 72, 73, 74, 75] (by decide +kernel) (by decide +kernel)
set_option maxRecDepth 20000 in
theorem gX11_wakesActs_X11_runs : GoodIn wsX11_wakesActs (wsV RX11 262 RX11 yX11_runs wsX11_runs) := goodIn_app (goodIn_of _ (by decide +kernel)) ggX11_wakesActs_X11_runs
set_option maxRecDepth 20000 in
theorem ggX11_wakesActs_X11_plainWakes : GoodIn wsX11_wakesActs wsX11_plainWakes := goodIn_r _ [12, 2, 3, 4, 5, 6, 7, 8, 13, 14, 15, 16, 1, 17, 18, 19, 20, 21, 22, 23, 24, 25, 26, 27, 28, 29, 30, 31, 32, 33, 34, 35, 36, 37, 38, 39, 40, 41, 42, 43, 44, 45, 46, 47, 48, 49, 50, 51, 52, 53, 54, 55, 56, 57, 58, 59, 60, 61, 62, 63, 64, 65, 66, 67, 68, 69, 70, 71, 72, 73, 74, 75] (by decide +kernel) (by decide +kernel)
set_option maxRecDepth 20000 in
theorem gX11_wakesActs_X11_plainWakes : GoodIn wsX11_wakesActs (wsV RX11 292 RX11 yX11_plainWakes wsX11_plainWakes) := goodIn_app (goodIn_of _ (by decide +kernel)) ggX11_wakesActs_X11_plainWakes
set_option maxRecDepth 20000 in
theorem ggX11_wakesActs_X11_seesActs : GoodIn wsX11_wakesActs wsX11_seesActs := goodIn_r _ [28, 1, 29, 2, 3, 4, 5, 6, 7, 8, 30, 31, 32, 33, 34, 35, 36, 37, 18, 19, 20, 38, 39, 40, 41, 42, 43, 44, 45, 46, 47, 48, 49, 50, 51, 52, 53, 54, 55, 56, 57, 58, 59, 60, 61, 62, 63, 64, 65, 66, 67, 68, 69, 70, 71, 72, 73, 74, 75] (by decide +kernel) (by decide +kernel)
set_option maxRecDepth 20000 in
theorem gX11_wakesActs_X11_seesActs : GoodIn wsX11_wakesActs (wsV RX11 280 RX11 yX11_seesActs wsX11_seesActs) := goodIn_app (goodIn_of _ (by decide +kernel)) ggX11_wakesActs_X11_seesActs
set_option maxRecDepth 20000 in
theorem ggX11_wakesActs_X11_isUnder : GoodIn wsX11_wakesActs wsX11_isUnder := goodIn_r _ [20] (by decide +kernel) (by decide +kernel)
set_option maxRecDepth 20000 in
theorem gX11_wakesActs_X11_isUnder : GoodIn wsX11_wakesActs (va_wsS RX11 277 yX11_isUnder wsX11_isUnder) := goodIn_app (goodIn_of _ (by decide +kernel)) ggX11_wakesActs_X11_isUnder
theorem dX11_wakesActs_0 : decode cX11_wakesActs 0 = .ok (.aload_n 0, 1) := by decide +kernel
theorem dX11_wakesActs_1 : decode cX11_wakesActs 1 = .ok (.getfield 271, 3) := by decide +kernel
theorem dX11_wakesActs_4 : decode cX11_wakesActs 4 = .ok (.iconst 3, 1) := by decide +kernel
theorem dX11_wakesActs_5 : decode cX11_wakesActs 5 = .ok (.if_icmp .ne 25, 3) := by decide +kernel
theorem dX11_wakesActs_8 : decode cX11_wakesActs 8 = .ok (.aload_n 0, 1) := by decide +kernel
theorem dX11_wakesActs_9 : decode cX11_wakesActs 9 = .ok (.bipush 41, 2) := by decide +kernel
theorem dX11_wakesActs_11 : decode cX11_wakesActs 11 = .ok (.invokevirtual 262, 3) := by decide +kernel
theorem dX11_wakesActs_14 : decode cX11_wakesActs 14 = .ok (.aload_n 0, 1) := by decide +kernel
theorem dX11_wakesActs_15 : decode cX11_wakesActs 15 = .ok (.iload_n 1, 1) := by decide +kernel
theorem dX11_wakesActs_16 : decode cX11_wakesActs 16 = .ok (.iconst 1, 1) := by decide +kernel
theorem dX11_wakesActs_17 : decode cX11_wakesActs 17 = .ok (.isub, 1) := by decide +kernel
theorem dX11_wakesActs_18 : decode cX11_wakesActs 18 = .ok (.invokevirtual 292, 3) := by decide +kernel
theorem dX11_wakesActs_21 : decode cX11_wakesActs 21 = .ok (.istore_n 2, 1) := by decide +kernel
theorem dX11_wakesActs_22 : decode cX11_wakesActs 22 = .ok (.iload_n 2, 1) := by decide +kernel
theorem dX11_wakesActs_23 : decode cX11_wakesActs 23 = .ok (.aload_n 0, 1) := by decide +kernel
theorem dX11_wakesActs_24 : decode cX11_wakesActs 24 = .ok (.iconst 2, 1) := by decide +kernel
theorem dX11_wakesActs_25 : decode cX11_wakesActs 25 = .ok (.invokevirtual 280, 3) := by decide +kernel
theorem dX11_wakesActs_28 : decode cX11_wakesActs 28 = .ok (.iadd, 1) := by decide +kernel
theorem dX11_wakesActs_29 : decode cX11_wakesActs 29 = .ok (.ireturn, 1) := by decide +kernel
theorem dX11_wakesActs_30 : decode cX11_wakesActs 30 = .ok (.aload_n 0, 1) := by decide +kernel
theorem dX11_wakesActs_31 : decode cX11_wakesActs 31 = .ok (.getfield 271, 3) := by decide +kernel
theorem dX11_wakesActs_34 : decode cX11_wakesActs 34 = .ok (.iconst 5, 1) := by decide +kernel
theorem dX11_wakesActs_35 : decode cX11_wakesActs 35 = .ok (.invokestatic 277, 3) := by decide +kernel
theorem dX11_wakesActs_38 : decode cX11_wakesActs 38 = .ok (.ifCond .eq 18, 3) := by decide +kernel
theorem dX11_wakesActs_41 : decode cX11_wakesActs 41 = .ok (.aload_n 0, 1) := by decide +kernel
theorem dX11_wakesActs_42 : decode cX11_wakesActs 42 = .ok (.bipush 31, 2) := by decide +kernel
theorem dX11_wakesActs_44 : decode cX11_wakesActs 44 = .ok (.invokevirtual 262, 3) := by decide +kernel
theorem dX11_wakesActs_47 : decode cX11_wakesActs 47 = .ok (.aload_n 0, 1) := by decide +kernel
theorem dX11_wakesActs_48 : decode cX11_wakesActs 48 = .ok (.iload_n 1, 1) := by decide +kernel
theorem dX11_wakesActs_49 : decode cX11_wakesActs 49 = .ok (.invokevirtual 292, 3) := by decide +kernel
theorem dX11_wakesActs_52 : decode cX11_wakesActs 52 = .ok (.bipush 7, 2) := by decide +kernel
theorem dX11_wakesActs_54 : decode cX11_wakesActs 54 = .ok (.ixor, 1) := by decide +kernel
theorem dX11_wakesActs_55 : decode cX11_wakesActs 55 = .ok (.ireturn, 1) := by decide +kernel
theorem dX11_wakesActs_56 : decode cX11_wakesActs 56 = .ok (.aload_n 0, 1) := by decide +kernel
theorem dX11_wakesActs_57 : decode cX11_wakesActs 57 = .ok (.iload_n 1, 1) := by decide +kernel
theorem dX11_wakesActs_58 : decode cX11_wakesActs 58 = .ok (.invokevirtual 292, 3) := by decide +kernel
theorem dX11_wakesActs_61 : decode cX11_wakesActs 61 = .ok (.ireturn, 1) := by decide +kernel
set_option maxRecDepth 20000 in
theorem ggX11_act_X11_isCard : GoodIn wsX11_act wsX11_isCard := goodIn_r _ [10, 2, 11, 12, 9, 13, 50, 51, 52, 53, 54, 55, 56, 57, 58, 59, 60, 61, 62, 63, 64, 65, 66, 67, 68, 69, 70, 71, 72, 73, 74, 75, 76, 77, 78, 79, 80, 81, 82, 83, 84, 85, 86, 87] (by decide +kernel) (by decide +kernel)
set_option maxRecDepth 20000 in
theorem gX11_act_X11_isCard : GoodIn wsX11_act (wsV RX11 160 RX11 yX11_isCard wsX11_isCard) := goodIn_app (goodIn_of _ (by decide +kernel)) ggX11_act_X11_isCard
set_option maxRecDepth 20000 in
theorem ggX11_act_X11_in : GoodIn wsX11_act wsX11_in := goodIn_r _ [13] (by decide +kernel) (by decide +kernel)
set_option maxRecDepth 20000 in
theorem gX11_act_X11_in : GoodIn wsX11_act (va_wsS RX11 59 yX11_in wsX11_in) := goodIn_app (goodIn_of _ (by decide +kernel)) ggX11_act_X11_in
set_option maxRecDepth 20000 in
theorem ggX11_act_X11_seesActs : GoodIn wsX11_act wsX11_seesActs := goodIn_r _ [17, 3, 4, 18, 19, 20, 9, 21, 1, 22, 23, 24, 25, 26, 27, 28, 29, 30, 31, 32, 33, 50, 51, 52, 53, 54, 55, 56, 57, 58, 59, 60, 61, 62, 63, 64, 65, 66, 67, 68, 69, 70, 71, 72, 73, 74, 75, 76, 77, 78, 79, 80, 81, 82, 83, 84, 85, 86, 87] (by decide +kernel) (by decide +kernel)
set_option maxRecDepth 20000 in
theorem gX11_act_X11_seesActs : GoodIn wsX11_act (wsV RX11 280 RX11 yX11_seesActs wsX11_seesActs) := goodIn_app (goodIn_of _ (by decide +kernel)) ggX11_act_X11_seesActs
set_option maxRecDepth 20000 in
theorem ggX11_act_X11_setsActs : GoodIn wsX11_act wsX11_setsActs := goodIn_r _ [37, 3, 5, 31, 32, 9, 33, 18, 19, 20, 21, 1, 22, 38, 39, 40, 41, 14, 15, 16, 17, 4, 23, 24, 25, 26, 27, 28, 29, 30, 50, 51, 52, 53, 54, 55, 56, 57, 58, 59, 60, 61, 62, 63, 64, 65, 66, 67, 68, 69, 70, 71, 72, 73, 74, 75, 76, 77, 78, 79, 80, 81, 82, 83, 84, 85, 86, 87] (by decide +kernel) (by decide +kernel)
set_option maxRecDepth 20000 in
theorem gX11_act_X11_setsActs : GoodIn wsX11_act (wsV RX11 289 RX11 yX11_setsActs wsX11_setsActs) := goodIn_app (goodIn_of _ (by decide +kernel)) ggX11_act_X11_setsActs
set_option maxRecDepth 20000 in
theorem ggX11_act_X11_wakesActs : GoodIn wsX11_act wsX11_wakesActs := goodIn_r _ [45, 3, 18, 19, 20, 9, 21, 1, 22, 46, 47, 48, 49, 34, 35, 36, 37, 5, 31, 32, 33, 38, 39, 40, 41, 14, 15, 16, 17, 4, 23, 24, 25, 26, 27, 28, 29, 30, 50, 51, 52, 53, 54, 55, 56, 57, 58, 59, 60, 61, 62, 63, 64, 65, 66, 67, 68, 69, 70, 71, 72, 73, 74, 75, 76, 77, 78, 79, 80, 81, 82, 83, 84, 85, 86, 87] (by decide +kernel) (by decide +kernel)
set_option maxRecDepth 20000 in
theorem gX11_act_X11_wakesActs : GoodIn wsX11_act (wsV RX11 295 RX11 yX11_wakesActs wsX11_wakesActs) := goodIn_app (goodIn_of _ (by decide +kernel)) ggX11_act_X11_wakesActs
theorem dX11_act_0 : decode cX11_act 0 = .ok (.aload_n 0, 1) := by decide +kernel
theorem dX11_act_1 : decode cX11_act 1 = .ok (.iconst 0, 1) := by decide +kernel
theorem dX11_act_2 : decode cX11_act 2 = .ok (.putfield 259, 3) := by decide +kernel
theorem dX11_act_5 : decode cX11_act 5 = .ok (.aload_n 0, 1) := by decide +kernel
theorem dX11_act_6 : decode cX11_act 6 = .ok (.iload_n 1, 1) := by decide +kernel
theorem dX11_act_7 : decode cX11_act 7 = .ok (.invokevirtual 160, 3) := by decide +kernel
theorem dX11_act_10 : decode cX11_act 10 = .ok (.ifCond .eq 12, 3) := by decide +kernel
theorem dX11_act_13 : decode cX11_act 13 = .ok (.iload_n 2, 1) := by decide +kernel
theorem dX11_act_14 : decode cX11_act 14 = .ok (.iconst 0, 1) := by decide +kernel
theorem dX11_act_15 : decode cX11_act 15 = .ok (.iconst 2, 1) := by decide +kernel
theorem dX11_act_16 : decode cX11_act 16 = .ok (.invokestatic 59, 3) := by decide +kernel
theorem dX11_act_19 : decode cX11_act 19 = .ok (.ifCond .ne 5, 3) := by decide +kernel
theorem dX11_act_22 : decode cX11_act 22 = .ok (.iconst 0, 1) := by decide +kernel
theorem dX11_act_23 : decode cX11_act 23 = .ok (.ireturn, 1) := by decide +kernel
theorem dX11_act_24 : decode cX11_act 24 = .ok (.aload_n 0, 1) := by decide +kernel
theorem dX11_act_25 : decode cX11_act 25 = .ok (.aload_n 0, 1) := by decide +kernel
theorem dX11_act_26 : decode cX11_act 26 = .ok (.getfield 9, 3) := by decide +kernel
theorem dX11_act_29 : decode cX11_act 29 = .ok (.sipush 158, 3) := by decide +kernel
theorem dX11_act_32 : decode cX11_act 32 = .ok (.iload_n 1, 1) := by decide +kernel
theorem dX11_act_33 : decode cX11_act 33 = .ok (.iadd, 1) := by decide +kernel
theorem dX11_act_34 : decode cX11_act 34 = .ok (.iaload, 1) := by decide +kernel
theorem dX11_act_35 : decode cX11_act 35 = .ok (.putfield 271, 3) := by decide +kernel
theorem dX11_act_38 : decode cX11_act 38 = .ok (.aload_n 0, 1) := by decide +kernel
theorem dX11_act_39 : decode cX11_act 39 = .ok (.iload_n 1, 1) := by decide +kernel
theorem dX11_act_40 : decode cX11_act 40 = .ok (.putfield 265, 3) := by decide +kernel
theorem dX11_act_43 : decode cX11_act 43 = .ok (.aload_n 0, 1) := by decide +kernel
theorem dX11_act_44 : decode cX11_act 44 = .ok (.aload_n 0, 1) := by decide +kernel
theorem dX11_act_45 : decode cX11_act 45 = .ok (.getfield 9, 3) := by decide +kernel
theorem dX11_act_48 : decode cX11_act 48 = .ok (.sipush 166, 3) := by decide +kernel
theorem dX11_act_51 : decode cX11_act 51 = .ok (.iload_n 1, 1) := by decide +kernel
theorem dX11_act_52 : decode cX11_act 52 = .ok (.iadd, 1) := by decide +kernel
theorem dX11_act_53 : decode cX11_act 53 = .ok (.iaload, 1) := by decide +kernel
theorem dX11_act_54 : decode cX11_act 54 = .ok (.putfield 283, 3) := by decide +kernel
theorem dX11_act_57 : decode cX11_act 57 = .ok (.iload_n 2, 1) := by decide +kernel
theorem dX11_act_58 : decode cX11_act 58 = .ok (.ifCond .ne 11, 3) := by decide +kernel
theorem dX11_act_61 : decode cX11_act 61 = .ok (.aload_n 0, 1) := by decide +kernel
theorem dX11_act_62 : decode cX11_act 62 = .ok (.iload_n 3, 1) := by decide +kernel
theorem dX11_act_63 : decode cX11_act 63 = .ok (.invokevirtual 280, 3) := by decide +kernel
theorem dX11_act_66 : decode cX11_act 66 = .ok (.goto 21, 3) := by decide +kernel
theorem dX11_act_69 : decode cX11_act 69 = .ok (.iload_n 2, 1) := by decide +kernel
theorem dX11_act_70 : decode cX11_act 70 = .ok (.iconst 1, 1) := by decide +kernel
theorem dX11_act_71 : decode cX11_act 71 = .ok (.if_icmp .ne 11, 3) := by decide +kernel
theorem dX11_act_74 : decode cX11_act 74 = .ok (.aload_n 0, 1) := by decide +kernel
theorem dX11_act_75 : decode cX11_act 75 = .ok (.iload_n 3, 1) := by decide +kernel
theorem dX11_act_76 : decode cX11_act 76 = .ok (.invokevirtual 289, 3) := by decide +kernel
theorem dX11_act_79 : decode cX11_act 79 = .ok (.goto 8, 3) := by decide +kernel
theorem dX11_act_82 : decode cX11_act 82 = .ok (.aload_n 0, 1) := by decide +kernel
theorem dX11_act_83 : decode cX11_act 83 = .ok (.iload_n 3, 1) := by decide +kernel
theorem dX11_act_84 : decode cX11_act 84 = .ok (.invokevirtual 295, 3) := by decide +kernel
theorem dX11_act_87 : decode cX11_act 87 = .ok (.ireturn, 1) := by decide +kernel
set_option maxRecDepth 20000 in
theorem ggX11_trace_X11_in : GoodIn wsX11_trace wsX11_in := goodIn_r _ [6] (by decide +kernel) (by decide +kernel)
set_option maxRecDepth 20000 in
theorem gX11_trace_X11_in : GoodIn wsX11_trace (va_wsS RX11 59 yX11_in wsX11_in) := goodIn_app (goodIn_of _ (by decide +kernel)) ggX11_trace_X11_in
theorem dX11_trace_0 : decode cX11_trace 0 = .ok (.iload_n 1, 1) := by decide +kernel
theorem dX11_trace_1 : decode cX11_trace 1 = .ok (.iconst 0, 1) := by decide +kernel
theorem dX11_trace_2 : decode cX11_trace 2 = .ok (.aload_n 0, 1) := by decide +kernel
theorem dX11_trace_3 : decode cX11_trace 3 = .ok (.getfield 259, 3) := by decide +kernel
theorem dX11_trace_6 : decode cX11_trace 6 = .ok (.bipush 20, 2) := by decide +kernel
theorem dX11_trace_8 : decode cX11_trace 8 = .ok (.if_icmp .ge 10, 3) := by decide +kernel
theorem dX11_trace_11 : decode cX11_trace 11 = .ok (.aload_n 0, 1) := by decide +kernel
theorem dX11_trace_12 : decode cX11_trace 12 = .ok (.getfield 259, 3) := by decide +kernel
theorem dX11_trace_15 : decode cX11_trace 15 = .ok (.goto 5, 3) := by decide +kernel
theorem dX11_trace_18 : decode cX11_trace 18 = .ok (.bipush 20, 2) := by decide +kernel
theorem dX11_trace_20 : decode cX11_trace 20 = .ok (.iconst 1, 1) := by decide +kernel
theorem dX11_trace_21 : decode cX11_trace 21 = .ok (.isub, 1) := by decide +kernel
theorem dX11_trace_22 : decode cX11_trace 22 = .ok (.invokestatic 59, 3) := by decide +kernel
theorem dX11_trace_25 : decode cX11_trace 25 = .ok (.ifCond .eq 12, 3) := by decide +kernel
theorem dX11_trace_28 : decode cX11_trace 28 = .ok (.aload_n 0, 1) := by decide +kernel
theorem dX11_trace_29 : decode cX11_trace 29 = .ok (.getfield 53, 3) := by decide +kernel
theorem dX11_trace_32 : decode cX11_trace 32 = .ok (.iload_n 1, 1) := by decide +kernel
theorem dX11_trace_33 : decode cX11_trace 33 = .ok (.iaload, 1) := by decide +kernel
theorem dX11_trace_34 : decode cX11_trace 34 = .ok (.goto 4, 3) := by decide +kernel
theorem dX11_trace_37 : decode cX11_trace 37 = .ok (.iconst (-1), 1) := by decide +kernel
theorem dX11_trace_38 : decode cX11_trace 38 = .ok (.ireturn, 1) := by decide +kernel
set_option maxRecDepth 20000 in
theorem ggX11_as_X11_isCard : GoodIn wsX11_as wsX11_isCard := goodIn_r _ [6, 1, 7, 8, 5, 9, 13, 14, 15, 16, 17, 18, 19, 20, 21, 22, 23, 24, 25, 26, 27, 28, 29, 30, 31, 32, 33, 34, 35, 36, 37, 38, 39, 40, 41, 42, 43, 44, 45, 46, 47, 48, 49, 50] (by decide +kernel) (by decide +kernel)
set_option maxRecDepth 20000 in
theorem gX11_as_X11_isCard : GoodIn wsX11_as (wsV RX11 160 RX11 yX11_isCard wsX11_isCard) := goodIn_app (goodIn_of _ (by decide +kernel)) ggX11_as_X11_isCard
set_option maxRecDepth 20000 in
theorem ggX11_as_X11_in : GoodIn wsX11_as wsX11_in := goodIn_r _ [9] (by decide +kernel) (by decide +kernel)
set_option maxRecDepth 20000 in
theorem gX11_as_X11_in : GoodIn wsX11_as (va_wsS RX11 59 yX11_in wsX11_in) := goodIn_app (goodIn_of _ (by decide +kernel)) ggX11_as_X11_in
set_option maxRecDepth 20000 in
theorem ggX11_as_X11_isUnder : GoodIn wsX11_as wsX11_isUnder := goodIn_r _ [12] (by decide +kernel) (by decide +kernel)
set_option maxRecDepth 20000 in
theorem gX11_as_X11_isUnder : GoodIn wsX11_as (va_wsS RX11 277 yX11_isUnder wsX11_isUnder) := goodIn_app (goodIn_of _ (by decide +kernel)) ggX11_as_X11_isUnder
theorem dX11_as_0 : decode cX11_as 0 = .ok (.aload_n 0, 1) := by decide +kernel
theorem dX11_as_1 : decode cX11_as 1 = .ok (.iload_n 1, 1) := by decide +kernel
theorem dX11_as_2 : decode cX11_as 2 = .ok (.invokevirtual 160, 3) := by decide +kernel
theorem dX11_as_5 : decode cX11_as 5 = .ok (.ifCond .eq 13, 3) := by decide +kernel
theorem dX11_as_8 : decode cX11_as 8 = .ok (.iload_n 2, 1) := by decide +kernel
theorem dX11_as_9 : decode cX11_as 9 = .ok (.iconst 0, 1) := by decide +kernel
theorem dX11_as_10 : decode cX11_as 10 = .ok (.bipush 6, 2) := by decide +kernel
theorem dX11_as_12 : decode cX11_as 12 = .ok (.invokestatic 59, 3) := by decide +kernel
theorem dX11_as_15 : decode cX11_as 15 = .ok (.ifCond .ne 5, 3) := by decide +kernel
theorem dX11_as_18 : decode cX11_as 18 = .ok (.iconst (-1), 1) := by decide +kernel
theorem dX11_as_19 : decode cX11_as 19 = .ok (.ireturn, 1) := by decide +kernel
theorem dX11_as_20 : decode cX11_as 20 = .ok (.aload_n 0, 1) := by decide +kernel
theorem dX11_as_21 : decode cX11_as 21 = .ok (.getfield 9, 3) := by decide +kernel
theorem dX11_as_24 : decode cX11_as 24 = .ok (.sipush 158, 3) := by decide +kernel
theorem dX11_as_27 : decode cX11_as 27 = .ok (.iload_n 1, 1) := by decide +kernel
theorem dX11_as_28 : decode cX11_as 28 = .ok (.iadd, 1) := by decide +kernel
theorem dX11_as_29 : decode cX11_as 29 = .ok (.iaload, 1) := by decide +kernel
theorem dX11_as_30 : decode cX11_as 30 = .ok (.iload_n 2, 1) := by decide +kernel
theorem dX11_as_31 : decode cX11_as 31 = .ok (.invokestatic 277, 3) := by decide +kernel
theorem dX11_as_34 : decode cX11_as 34 = .ok (.ifCond .eq 16, 3) := by decide +kernel
theorem dX11_as_37 : decode cX11_as 37 = .ok (.aload_n 0, 1) := by decide +kernel
theorem dX11_as_38 : decode cX11_as 38 = .ok (.getfield 9, 3) := by decide +kernel
theorem dX11_as_41 : decode cX11_as 41 = .ok (.sipush 166, 3) := by decide +kernel
theorem dX11_as_44 : decode cX11_as 44 = .ok (.iload_n 1, 1) := by decide +kernel
theorem dX11_as_45 : decode cX11_as 45 = .ok (.iadd, 1) := by decide +kernel
theorem dX11_as_46 : decode cX11_as 46 = .ok (.iaload, 1) := by decide +kernel
theorem dX11_as_47 : decode cX11_as 47 = .ok (.goto 5, 3) := by decide +kernel
theorem dX11_as_50 : decode cX11_as 50 = .ok (.bipush (-6), 2) := by decide +kernel
theorem dX11_as_52 : decode cX11_as 52 = .ok (.ireturn, 1) := by decide +kernel
theorem dX11_image_0 : decode cX11_image 0 = .ok (.iconst 0, 1) := by decide +kernel
theorem dX11_image_1 : decode cX11_image 1 = .ok (.istore_n 1, 1) := by decide +kernel
theorem dX11_image_2 : decode cX11_image 2 = .ok (.iload_n 1, 1) := by decide +kernel
theorem dX11_image_3 : decode cX11_image 3 = .ok (.sipush 1454, 3) := by decide +kernel
theorem dX11_image_6 : decode cX11_image 6 = .ok (.if_icmp .ge 21, 3) := by decide +kernel
theorem dX11_image_9 : decode cX11_image 9 = .ok (.aload_n 0, 1) := by decide +kernel
theorem dX11_image_10 : decode cX11_image 10 = .ok (.getfield 15, 3) := by decide +kernel
theorem dX11_image_13 : decode cX11_image 13 = .ok (.iload_n 1, 1) := by decide +kernel
theorem dX11_image_14 : decode cX11_image 14 = .ok (.aload_n 0, 1) := by decide +kernel
theorem dX11_image_15 : decode cX11_image 15 = .ok (.getfield 9, 3) := by decide +kernel
theorem dX11_image_18 : decode cX11_image 18 = .ok (.iload_n 1, 1) := by decide +kernel
theorem dX11_image_19 : decode cX11_image 19 = .ok (.iaload, 1) := by decide +kernel
theorem dX11_image_20 : decode cX11_image 20 = .ok (.iastore, 1) := by decide +kernel
theorem dX11_image_21 : decode cX11_image 21 = .ok (.iinc 1 1, 3) := by decide +kernel
theorem dX11_image_24 : decode cX11_image 24 = .ok (.goto (-22), 3) := by decide +kernel
theorem dX11_image_27 : decode cX11_image 27 = .ok (.aload_n 0, 1) := by decide +kernel
theorem dX11_image_28 : decode cX11_image 28 = .ok (.iconst 1, 1) := by decide +kernel
theorem dX11_image_29 : decode cX11_image 29 = .ok (.putfield 298, 3) := by decide +kernel
theorem dX11_image_32 : decode cX11_image 32 = .ok (.aload_n 0, 1) := by decide +kernel
theorem dX11_image_33 : decode cX11_image 33 = .ok (.getfield 9, 3) := by decide +kernel
theorem dX11_image_36 : decode cX11_image 36 = .ok (.iconst 5, 1) := by decide +kernel
theorem dX11_image_37 : decode cX11_image 37 = .ok (.iaload, 1) := by decide +kernel
theorem dX11_image_38 : decode cX11_image 38 = .ok (.ireturn, 1) := by decide +kernel
theorem dX11_undo_0 : decode cX11_undo 0 = .ok (.aload_n 0, 1) := by decide +kernel
theorem dX11_undo_1 : decode cX11_undo 1 = .ok (.getfield 298, 3) := by decide +kernel
theorem dX11_undo_4 : decode cX11_undo 4 = .ok (.ifCond .ne 6, 3) := by decide +kernel
theorem dX11_undo_7 : decode cX11_undo 7 = .ok (.bipush (-3), 2) := by decide +kernel
theorem dX11_undo_9 : decode cX11_undo 9 = .ok (.ireturn, 1) := by decide +kernel
theorem dX11_undo_10 : decode cX11_undo 10 = .ok (.iconst 0, 1) := by decide +kernel
theorem dX11_undo_11 : decode cX11_undo 11 = .ok (.istore_n 1, 1) := by decide +kernel
theorem dX11_undo_12 : decode cX11_undo 12 = .ok (.iload_n 1, 1) := by decide +kernel
theorem dX11_undo_13 : decode cX11_undo 13 = .ok (.sipush 1454, 3) := by decide +kernel
theorem dX11_undo_16 : decode cX11_undo 16 = .ok (.if_icmp .ge 21, 3) := by decide +kernel
theorem dX11_undo_19 : decode cX11_undo 19 = .ok (.aload_n 0, 1) := by decide +kernel
theorem dX11_undo_20 : decode cX11_undo 20 = .ok (.getfield 9, 3) := by decide +kernel
theorem dX11_undo_23 : decode cX11_undo 23 = .ok (.iload_n 1, 1) := by decide +kernel
theorem dX11_undo_24 : decode cX11_undo 24 = .ok (.aload_n 0, 1) := by decide +kernel
theorem dX11_undo_25 : decode cX11_undo 25 = .ok (.getfield 15, 3) := by decide +kernel
theorem dX11_undo_28 : decode cX11_undo 28 = .ok (.iload_n 1, 1) := by decide +kernel
theorem dX11_undo_29 : decode cX11_undo 29 = .ok (.iaload, 1) := by decide +kernel
theorem dX11_undo_30 : decode cX11_undo 30 = .ok (.iastore, 1) := by decide +kernel
theorem dX11_undo_31 : decode cX11_undo 31 = .ok (.iinc 1 1, 3) := by decide +kernel
theorem dX11_undo_34 : decode cX11_undo 34 = .ok (.goto (-22), 3) := by decide +kernel
theorem dX11_undo_37 : decode cX11_undo 37 = .ok (.aload_n 0, 1) := by decide +kernel
theorem dX11_undo_38 : decode cX11_undo 38 = .ok (.getfield 9, 3) := by decide +kernel
theorem dX11_undo_41 : decode cX11_undo 41 = .ok (.iconst 5, 1) := by decide +kernel
theorem dX11_undo_42 : decode cX11_undo 42 = .ok (.iaload, 1) := by decide +kernel
theorem dX11_undo_43 : decode cX11_undo 43 = .ok (.ireturn, 1) := by decide +kernel
theorem dX11_count_0 : decode cX11_count 0 = .ok (.iload_n 1, 1) := by decide +kernel
theorem dX11_count_1 : decode cX11_count 1 = .ok (.tableswitch 70 0 4 #[35, 42, 49, 57, 65], 35) := by decide +kernel
theorem dX11_count_36 : decode cX11_count 36 = .ok (.aload_n 0, 1) := by decide +kernel
theorem dX11_count_37 : decode cX11_count 37 = .ok (.getfield 9, 3) := by decide +kernel
theorem dX11_count_40 : decode cX11_count 40 = .ok (.iconst 0, 1) := by decide +kernel
theorem dX11_count_41 : decode cX11_count 41 = .ok (.iaload, 1) := by decide +kernel
theorem dX11_count_42 : decode cX11_count 42 = .ok (.ireturn, 1) := by decide +kernel
theorem dX11_count_43 : decode cX11_count 43 = .ok (.aload_n 0, 1) := by decide +kernel
theorem dX11_count_44 : decode cX11_count 44 = .ok (.getfield 9, 3) := by decide +kernel
theorem dX11_count_47 : decode cX11_count 47 = .ok (.iconst 5, 1) := by decide +kernel
theorem dX11_count_48 : decode cX11_count 48 = .ok (.iaload, 1) := by decide +kernel
theorem dX11_count_49 : decode cX11_count 49 = .ok (.ireturn, 1) := by decide +kernel
theorem dX11_count_50 : decode cX11_count 50 = .ok (.aload_n 0, 1) := by decide +kernel
theorem dX11_count_51 : decode cX11_count 51 = .ok (.getfield 9, 3) := by decide +kernel
theorem dX11_count_54 : decode cX11_count 54 = .ok (.bipush 6, 2) := by decide +kernel
theorem dX11_count_56 : decode cX11_count 56 = .ok (.iaload, 1) := by decide +kernel
theorem dX11_count_57 : decode cX11_count 57 = .ok (.ireturn, 1) := by decide +kernel
theorem dX11_count_58 : decode cX11_count 58 = .ok (.aload_n 0, 1) := by decide +kernel
theorem dX11_count_59 : decode cX11_count 59 = .ok (.getfield 9, 3) := by decide +kernel
theorem dX11_count_62 : decode cX11_count 62 = .ok (.bipush 7, 2) := by decide +kernel
theorem dX11_count_64 : decode cX11_count 64 = .ok (.iaload, 1) := by decide +kernel
theorem dX11_count_65 : decode cX11_count 65 = .ok (.ireturn, 1) := by decide +kernel
theorem dX11_count_66 : decode cX11_count 66 = .ok (.aload_n 0, 1) := by decide +kernel
theorem dX11_count_67 : decode cX11_count 67 = .ok (.getfield 259, 3) := by decide +kernel
theorem dX11_count_70 : decode cX11_count 70 = .ok (.ireturn, 1) := by decide +kernel
theorem dX11_count_71 : decode cX11_count 71 = .ok (.iconst (-1), 1) := by decide +kernel
theorem dX11_count_72 : decode cX11_count 72 = .ok (.ireturn, 1) := by decide +kernel
theorem dJ6_bitCount_0f7a4_0 : decode cJ6_bitCount_0f7a4 0 = .ok (.iload_n 0, 1) := by decide +kernel
theorem dJ6_bitCount_0f7a4_1 : decode cJ6_bitCount_0f7a4 1 = .ok (.iload_n 0, 1) := by decide +kernel
theorem dJ6_bitCount_0f7a4_2 : decode cJ6_bitCount_0f7a4 2 = .ok (.iconst 1, 1) := by decide +kernel
theorem dJ6_bitCount_0f7a4_3 : decode cJ6_bitCount_0f7a4 3 = .ok (.iushr, 1) := by decide +kernel
theorem dJ6_bitCount_0f7a4_4 : decode cJ6_bitCount_0f7a4 4 = .ok (.ldc_w 265, 3) := by decide +kernel
theorem dJ6_bitCount_0f7a4_7 : decode cJ6_bitCount_0f7a4 7 = .ok (.iand, 1) := by decide +kernel
theorem dJ6_bitCount_0f7a4_8 : decode cJ6_bitCount_0f7a4 8 = .ok (.isub, 1) := by decide +kernel
theorem dJ6_bitCount_0f7a4_9 : decode cJ6_bitCount_0f7a4 9 = .ok (.istore_n 0, 1) := by decide +kernel
theorem dJ6_bitCount_0f7a4_10 : decode cJ6_bitCount_0f7a4 10 = .ok (.iload_n 0, 1) := by decide +kernel
theorem dJ6_bitCount_0f7a4_11 : decode cJ6_bitCount_0f7a4 11 = .ok (.ldc_w 266, 3) := by decide +kernel
theorem dJ6_bitCount_0f7a4_14 : decode cJ6_bitCount_0f7a4 14 = .ok (.iand, 1) := by decide +kernel
theorem dJ6_bitCount_0f7a4_15 : decode cJ6_bitCount_0f7a4 15 = .ok (.iload_n 0, 1) := by decide +kernel
theorem dJ6_bitCount_0f7a4_16 : decode cJ6_bitCount_0f7a4 16 = .ok (.iconst 2, 1) := by decide +kernel
theorem dJ6_bitCount_0f7a4_17 : decode cJ6_bitCount_0f7a4 17 = .ok (.iushr, 1) := by decide +kernel
theorem dJ6_bitCount_0f7a4_18 : decode cJ6_bitCount_0f7a4 18 = .ok (.ldc_w 266, 3) := by decide +kernel
theorem dJ6_bitCount_0f7a4_21 : decode cJ6_bitCount_0f7a4 21 = .ok (.iand, 1) := by decide +kernel
theorem dJ6_bitCount_0f7a4_22 : decode cJ6_bitCount_0f7a4 22 = .ok (.iadd, 1) := by decide +kernel
theorem dJ6_bitCount_0f7a4_23 : decode cJ6_bitCount_0f7a4 23 = .ok (.istore_n 0, 1) := by decide +kernel
theorem dJ6_bitCount_0f7a4_24 : decode cJ6_bitCount_0f7a4 24 = .ok (.iload_n 0, 1) := by decide +kernel
theorem dJ6_bitCount_0f7a4_25 : decode cJ6_bitCount_0f7a4 25 = .ok (.iload_n 0, 1) := by decide +kernel
theorem dJ6_bitCount_0f7a4_26 : decode cJ6_bitCount_0f7a4 26 = .ok (.iconst 4, 1) := by decide +kernel
theorem dJ6_bitCount_0f7a4_27 : decode cJ6_bitCount_0f7a4 27 = .ok (.iushr, 1) := by decide +kernel
theorem dJ6_bitCount_0f7a4_28 : decode cJ6_bitCount_0f7a4 28 = .ok (.iadd, 1) := by decide +kernel
theorem dJ6_bitCount_0f7a4_29 : decode cJ6_bitCount_0f7a4 29 = .ok (.ldc_w 267, 3) := by decide +kernel
theorem dJ6_bitCount_0f7a4_32 : decode cJ6_bitCount_0f7a4 32 = .ok (.iand, 1) := by decide +kernel
theorem dJ6_bitCount_0f7a4_33 : decode cJ6_bitCount_0f7a4 33 = .ok (.istore_n 0, 1) := by decide +kernel
theorem dJ6_bitCount_0f7a4_34 : decode cJ6_bitCount_0f7a4 34 = .ok (.iload_n 0, 1) := by decide +kernel
theorem dJ6_bitCount_0f7a4_35 : decode cJ6_bitCount_0f7a4 35 = .ok (.iload_n 0, 1) := by decide +kernel
theorem dJ6_bitCount_0f7a4_36 : decode cJ6_bitCount_0f7a4 36 = .ok (.bipush 8, 2) := by decide +kernel
theorem dJ6_bitCount_0f7a4_38 : decode cJ6_bitCount_0f7a4 38 = .ok (.iushr, 1) := by decide +kernel
theorem dJ6_bitCount_0f7a4_39 : decode cJ6_bitCount_0f7a4 39 = .ok (.iadd, 1) := by decide +kernel
theorem dJ6_bitCount_0f7a4_40 : decode cJ6_bitCount_0f7a4 40 = .ok (.istore_n 0, 1) := by decide +kernel
theorem dJ6_bitCount_0f7a4_41 : decode cJ6_bitCount_0f7a4 41 = .ok (.iload_n 0, 1) := by decide +kernel
theorem dJ6_bitCount_0f7a4_42 : decode cJ6_bitCount_0f7a4 42 = .ok (.iload_n 0, 1) := by decide +kernel
theorem dJ6_bitCount_0f7a4_43 : decode cJ6_bitCount_0f7a4 43 = .ok (.bipush 16, 2) := by decide +kernel
theorem dJ6_bitCount_0f7a4_45 : decode cJ6_bitCount_0f7a4 45 = .ok (.iushr, 1) := by decide +kernel
theorem dJ6_bitCount_0f7a4_46 : decode cJ6_bitCount_0f7a4 46 = .ok (.iadd, 1) := by decide +kernel
theorem dJ6_bitCount_0f7a4_47 : decode cJ6_bitCount_0f7a4 47 = .ok (.istore_n 0, 1) := by decide +kernel
theorem dJ6_bitCount_0f7a4_48 : decode cJ6_bitCount_0f7a4 48 = .ok (.iload_n 0, 1) := by decide +kernel
theorem dJ6_bitCount_0f7a4_49 : decode cJ6_bitCount_0f7a4 49 = .ok (.bipush 63, 2) := by decide +kernel
theorem dJ6_bitCount_0f7a4_51 : decode cJ6_bitCount_0f7a4 51 = .ok (.iand, 1) := by decide +kernel
theorem dJ6_bitCount_0f7a4_52 : decode cJ6_bitCount_0f7a4 52 = .ok (.ireturn, 1) := by decide +kernel
theorem dJ9_floorMod_7cf53_0 : decode cJ9_floorMod_7cf53 0 = .ok (.iload_n 0, 1) := by decide +kernel
theorem dJ9_floorMod_7cf53_1 : decode cJ9_floorMod_7cf53 1 = .ok (.iload_n 1, 1) := by decide +kernel
theorem dJ9_floorMod_7cf53_2 : decode cJ9_floorMod_7cf53 2 = .ok (.irem, 1) := by decide +kernel
theorem dJ9_floorMod_7cf53_3 : decode cJ9_floorMod_7cf53 3 = .ok (.istore_n 2, 1) := by decide +kernel
theorem dJ9_floorMod_7cf53_4 : decode cJ9_floorMod_7cf53 4 = .ok (.iload_n 0, 1) := by decide +kernel
theorem dJ9_floorMod_7cf53_5 : decode cJ9_floorMod_7cf53 5 = .ok (.iload_n 1, 1) := by decide +kernel
theorem dJ9_floorMod_7cf53_6 : decode cJ9_floorMod_7cf53 6 = .ok (.ixor, 1) := by decide +kernel
theorem dJ9_floorMod_7cf53_7 : decode cJ9_floorMod_7cf53 7 = .ok (.ifCond .ge 11, 3) := by decide +kernel
theorem dJ9_floorMod_7cf53_10 : decode cJ9_floorMod_7cf53 10 = .ok (.iload_n 2, 1) := by decide +kernel
theorem dJ9_floorMod_7cf53_11 : decode cJ9_floorMod_7cf53 11 = .ok (.ifCond .eq 7, 3) := by decide +kernel
theorem dJ9_floorMod_7cf53_14 : decode cJ9_floorMod_7cf53 14 = .ok (.iload_n 2, 1) := by decide +kernel
theorem dJ9_floorMod_7cf53_15 : decode cJ9_floorMod_7cf53 15 = .ok (.iload_n 1, 1) := by decide +kernel
theorem dJ9_floorMod_7cf53_16 : decode cJ9_floorMod_7cf53 16 = .ok (.iadd, 1) := by decide +kernel
theorem dJ9_floorMod_7cf53_17 : decode cJ9_floorMod_7cf53 17 = .ok (.ireturn, 1) := by decide +kernel
theorem dJ9_floorMod_7cf53_18 : decode cJ9_floorMod_7cf53 18 = .ok (.iload_n 2, 1) := by decide +kernel
theorem dJ9_floorMod_7cf53_19 : decode cJ9_floorMod_7cf53 19 = .ok (.ireturn, 1) := by decide +kernel
theorem dJ9_max_7cf53_0 : decode cJ9_max_7cf53 0 = .ok (.iload_n 0, 1) := by decide +kernel
theorem dJ9_max_7cf53_1 : decode cJ9_max_7cf53 1 = .ok (.iload_n 1, 1) := by decide +kernel
theorem dJ9_max_7cf53_2 : decode cJ9_max_7cf53 2 = .ok (.if_icmp .lt 7, 3) := by decide +kernel
theorem dJ9_max_7cf53_5 : decode cJ9_max_7cf53 5 = .ok (.iload_n 0, 1) := by decide +kernel
theorem dJ9_max_7cf53_6 : decode cJ9_max_7cf53 6 = .ok (.goto 4, 3) := by decide +kernel
theorem dJ9_max_7cf53_9 : decode cJ9_max_7cf53 9 = .ok (.iload_n 1, 1) := by decide +kernel
theorem dJ9_max_7cf53_10 : decode cJ9_max_7cf53 10 = .ok (.ireturn, 1) := by decide +kernel
theorem dJ9_min_7cf53_0 : decode cJ9_min_7cf53 0 = .ok (.iload_n 0, 1) := by decide +kernel
theorem dJ9_min_7cf53_1 : decode cJ9_min_7cf53 1 = .ok (.iload_n 1, 1) := by decide +kernel
theorem dJ9_min_7cf53_2 : decode cJ9_min_7cf53 2 = .ok (.if_icmp .gt 7, 3) := by decide +kernel
theorem dJ9_min_7cf53_5 : decode cJ9_min_7cf53 5 = .ok (.iload_n 0, 1) := by decide +kernel
theorem dJ9_min_7cf53_6 : decode cJ9_min_7cf53 6 = .ok (.goto 4, 3) := by decide +kernel
theorem dJ9_min_7cf53_9 : decode cJ9_min_7cf53 9 = .ok (.iload_n 1, 1) := by decide +kernel
theorem dJ9_min_7cf53_10 : decode cJ9_min_7cf53 10 = .ok (.ireturn, 1) := by decide +kernel
set_option maxRecDepth 20000 in
theorem ggJ0_length_8abf5_J0_coder_7d493 : GoodIn wsJ0_length_8abf5 wsJ0_coder_7d493 := goodIn_r _ [6, 7, 8] (by decide +kernel) (by decide +kernel)
set_option maxRecDepth 20000 in
theorem gJ0_length_8abf5_J0_coder_7d493 : GoodIn wsJ0_length_8abf5 (wsV RJ0 335 RJ0 yJ0_coder_7d493 wsJ0_coder_7d493) := goodIn_app (goodIn_of _ (by decide +kernel)) ggJ0_length_8abf5_J0_coder_7d493
theorem dJ0_length_8abf5_0 : decode cJ0_length_8abf5 0 = .ok (.aload_n 0, 1) := by decide +kernel
theorem dJ0_length_8abf5_1 : decode cJ0_length_8abf5 1 = .ok (.getfield 9, 3) := by decide +kernel
theorem dJ0_length_8abf5_4 : decode cJ0_length_8abf5 4 = .ok (.arraylength, 1) := by decide +kernel
theorem dJ0_length_8abf5_5 : decode cJ0_length_8abf5 5 = .ok (.aload_n 0, 1) := by decide +kernel
theorem dJ0_length_8abf5_6 : decode cJ0_length_8abf5 6 = .ok (.invokevirtual 335, 3) := by decide +kernel
theorem dJ0_length_8abf5_9 : decode cJ0_length_8abf5 9 = .ok (.ishr, 1) := by decide +kernel
theorem dJ0_length_8abf5_10 : decode cJ0_length_8abf5 10 = .ok (.ireturn, 1) := by decide +kernel
set_option maxRecDepth 20000 in
theorem ggJ0_charAt_5068e_J0_isLatin1_aae02 : GoodIn wsJ0_charAt_5068e wsJ0_isLatin1_aae02 := goodIn_r _ [6, 7, 8] (by decide +kernel) (by decide +kernel)
set_option maxRecDepth 20000 in
theorem gJ0_charAt_5068e_J0_isLatin1_aae02 : GoodIn wsJ0_charAt_5068e (wsV RJ0 492 RJ0 yJ0_isLatin1_aae02 wsJ0_isLatin1_aae02) := goodIn_app (goodIn_of _ (by decide +kernel)) ggJ0_charAt_5068e_J0_isLatin1_aae02
set_option maxRecDepth 20000 in
theorem ggJ0_charAt_5068e_J1_charAt_3b067 : GoodIn wsJ0_charAt_5068e wsJ1_charAt_3b067 := goodIn_r _ [12, 13, 14, 5, 15, 16, 17, 18, 19, 20] (by decide +kernel) (by decide +kernel)
set_option maxRecDepth 20000 in
theorem gJ0_charAt_5068e_J1_charAt_3b067 : GoodIn wsJ0_charAt_5068e (va_wsS RJ0 495 yJ1_charAt_3b067 wsJ1_charAt_3b067) := goodIn_app (goodIn_of _ (by decide +kernel)) ggJ0_charAt_5068e_J1_charAt_3b067
set_option maxRecDepth 20000 in
theorem ggJ0_charAt_5068e_J2_charAt_3b067 : GoodIn wsJ0_charAt_5068e wsJ2_charAt_3b067 := goodIn_r _ [24, 25, 26, 23, 27, 28, 29, 30, 31, 14, 5, 15, 16, 17, 18, 19, 20, 32, 33, 34, 35, 36, 37] (by decide +kernel) (by decide +kernel)
set_option maxRecDepth 20000 in
theorem gJ0_charAt_5068e_J2_charAt_3b067 : GoodIn wsJ0_charAt_5068e (va_wsS RJ0 498 yJ2_charAt_3b067 wsJ2_charAt_3b067) := goodIn_app (goodIn_of _ (by decide +kernel)) ggJ0_charAt_5068e_J2_charAt_3b067
theorem dJ0_charAt_5068e_0 : decode cJ0_charAt_5068e 0 = .ok (.aload_n 0, 1) := by decide +kernel
theorem dJ0_charAt_5068e_1 : decode cJ0_charAt_5068e 1 = .ok (.invokevirtual 492, 3) := by decide +kernel
theorem dJ0_charAt_5068e_4 : decode cJ0_charAt_5068e 4 = .ok (.ifCond .eq 12, 3) := by decide +kernel
theorem dJ0_charAt_5068e_7 : decode cJ0_charAt_5068e 7 = .ok (.aload_n 0, 1) := by decide +kernel
theorem dJ0_charAt_5068e_8 : decode cJ0_charAt_5068e 8 = .ok (.getfield 9, 3) := by decide +kernel
theorem dJ0_charAt_5068e_11 : decode cJ0_charAt_5068e 11 = .ok (.iload_n 1, 1) := by decide +kernel
theorem dJ0_charAt_5068e_12 : decode cJ0_charAt_5068e 12 = .ok (.invokestatic 495, 3) := by decide +kernel
theorem dJ0_charAt_5068e_15 : decode cJ0_charAt_5068e 15 = .ok (.ireturn, 1) := by decide +kernel
theorem dJ0_charAt_5068e_16 : decode cJ0_charAt_5068e 16 = .ok (.aload_n 0, 1) := by decide +kernel
theorem dJ0_charAt_5068e_17 : decode cJ0_charAt_5068e 17 = .ok (.getfield 9, 3) := by decide +kernel
theorem dJ0_charAt_5068e_20 : decode cJ0_charAt_5068e 20 = .ok (.iload_n 1, 1) := by decide +kernel
theorem dJ0_charAt_5068e_21 : decode cJ0_charAt_5068e 21 = .ok (.invokestatic 498, 3) := by decide +kernel
theorem dJ0_charAt_5068e_24 : decode cJ0_charAt_5068e 24 = .ok (.ireturn, 1) := by decide +kernel
theorem dJ0_coder_7d493_0 : decode cJ0_coder_7d493 0 = .ok (.getstatic 38, 3) := by decide +kernel
theorem dJ0_coder_7d493_3 : decode cJ0_coder_7d493 3 = .ok (.ifCond .eq 10, 3) := by decide +kernel
theorem dJ0_coder_7d493_6 : decode cJ0_coder_7d493 6 = .ok (.aload_n 0, 1) := by decide +kernel
theorem dJ0_coder_7d493_7 : decode cJ0_coder_7d493 7 = .ok (.getfield 15, 3) := by decide +kernel
theorem dJ0_coder_7d493_10 : decode cJ0_coder_7d493 10 = .ok (.goto 4, 3) := by decide +kernel
theorem dJ0_coder_7d493_13 : decode cJ0_coder_7d493 13 = .ok (.iconst 1, 1) := by decide +kernel
theorem dJ0_coder_7d493_14 : decode cJ0_coder_7d493 14 = .ok (.ireturn, 1) := by decide +kernel
theorem dJ0_isLatin1_aae02_0 : decode cJ0_isLatin1_aae02 0 = .ok (.getstatic 38, 3) := by decide +kernel
theorem dJ0_isLatin1_aae02_3 : decode cJ0_isLatin1_aae02 3 = .ok (.ifCond .eq 14, 3) := by decide +kernel
theorem dJ0_isLatin1_aae02_6 : decode cJ0_isLatin1_aae02 6 = .ok (.aload_n 0, 1) := by decide +kernel
theorem dJ0_isLatin1_aae02_7 : decode cJ0_isLatin1_aae02 7 = .ok (.getfield 15, 3) := by decide +kernel
theorem dJ0_isLatin1_aae02_10 : decode cJ0_isLatin1_aae02 10 = .ok (.ifCond .ne 7, 3) := by decide +kernel
theorem dJ0_isLatin1_aae02_13 : decode cJ0_isLatin1_aae02 13 = .ok (.iconst 1, 1) := by decide +kernel
theorem dJ0_isLatin1_aae02_14 : decode cJ0_isLatin1_aae02 14 = .ok (.goto 4, 3) := by decide +kernel
theorem dJ0_isLatin1_aae02_17 : decode cJ0_isLatin1_aae02 17 = .ok (.iconst 0, 1) := by decide +kernel
theorem dJ0_isLatin1_aae02_18 : decode cJ0_isLatin1_aae02 18 = .ok (.ireturn, 1) := by decide +kernel
set_option maxRecDepth 20000 in
theorem ggJ0_checkIndex_df160_J3_checkIndex_8e157 : GoodIn wsJ0_checkIndex_df160 wsJ3_checkIndex_8e157 := goodIn_r _ [5] (by decide +kernel) (by decide +kernel)
set_option maxRecDepth 20000 in
theorem gJ0_checkIndex_df160_J3_checkIndex_8e157 : GoodIn wsJ0_checkIndex_df160 (va_wsS RJ0 1059 yJ3_checkIndex_8e157 wsJ3_checkIndex_8e157) := goodIn_app (goodIn_of _ (by decide +kernel)) ggJ0_checkIndex_df160_J3_checkIndex_8e157
theorem dJ0_checkIndex_df160_0 : decode cJ0_checkIndex_df160 0 = .ok (.iload_n 0, 1) := by decide +kernel
theorem dJ0_checkIndex_df160_1 : decode cJ0_checkIndex_df160 1 = .ok (.iload_n 1, 1) := by decide +kernel
theorem dJ0_checkIndex_df160_2 : decode cJ0_checkIndex_df160 2 = .ok (.getstatic 1053, 3) := by decide +kernel
theorem dJ0_checkIndex_df160_5 : decode cJ0_checkIndex_df160 5 = .ok (.invokestatic 1059, 3) := by decide +kernel
theorem dJ0_checkIndex_df160_8 : decode cJ0_checkIndex_df160 8 = .ok (.pop, 1) := by decide +kernel
theorem dJ0_checkIndex_df160_9 : decode cJ0_checkIndex_df160 9 = .ok (.return_, 1) := by decide +kernel
set_option maxRecDepth 20000 in
theorem ggJ1_charAt_3b067_J0_checkIndex_df160 : GoodIn wsJ1_charAt_3b067 wsJ0_checkIndex_df160 := goodIn_r _ [4, 5, 6, 7, 8, 9] (by decide +kernel) (by decide +kernel)
set_option maxRecDepth 20000 in
theorem gJ1_charAt_3b067_J0_checkIndex_df160 : GoodIn wsJ1_charAt_3b067 (va_wsS RJ1 9 yJ0_checkIndex_df160 wsJ0_checkIndex_df160) := goodIn_app (goodIn_of _ (by decide +kernel)) ggJ1_charAt_3b067_J0_checkIndex_df160
theorem dJ1_charAt_3b067_0 : decode cJ1_charAt_3b067 0 = .ok (.iload_n 1, 1) := by decide +kernel
theorem dJ1_charAt_3b067_1 : decode cJ1_charAt_3b067 1 = .ok (.aload_n 0, 1) := by decide +kernel
theorem dJ1_charAt_3b067_2 : decode cJ1_charAt_3b067 2 = .ok (.arraylength, 1) := by decide +kernel
theorem dJ1_charAt_3b067_3 : decode cJ1_charAt_3b067 3 = .ok (.invokestatic 9, 3) := by decide +kernel
theorem dJ1_charAt_3b067_6 : decode cJ1_charAt_3b067 6 = .ok (.aload_n 0, 1) := by decide +kernel
theorem dJ1_charAt_3b067_7 : decode cJ1_charAt_3b067 7 = .ok (.iload_n 1, 1) := by decide +kernel
theorem dJ1_charAt_3b067_8 : decode cJ1_charAt_3b067 8 = .ok (.baload, 1) := by decide +kernel
theorem dJ1_charAt_3b067_9 : decode cJ1_charAt_3b067 9 = .ok (.sipush 255, 3) := by decide +kernel
theorem dJ1_charAt_3b067_12 : decode cJ1_charAt_3b067 12 = .ok (.iand, 1) := by decide +kernel
theorem dJ1_charAt_3b067_13 : decode cJ1_charAt_3b067 13 = .ok (.i2c, 1) := by decide +kernel
theorem dJ1_charAt_3b067_14 : decode cJ1_charAt_3b067 14 = .ok (.ireturn, 1) := by decide +kernel
set_option maxRecDepth 20000 in
theorem ggJ2_getChar_3b067_J2_length_9d52b : GoodIn wsJ2_getChar_3b067 wsJ2_length_9d52b := goodIn_r _ [7] (by decide +kernel) (by decide +kernel)
set_option maxRecDepth 20000 in
theorem gJ2_getChar_3b067_J2_length_9d52b : GoodIn wsJ2_getChar_3b067 (va_wsS RJ2 48 yJ2_length_9d52b wsJ2_length_9d52b) := goodIn_app (goodIn_of _ (by decide +kernel)) ggJ2_getChar_3b067_J2_length_9d52b
theorem dJ2_getChar_3b067_0 : decode cJ2_getChar_3b067 0 = .ok (.getstatic 44, 3) := by decide +kernel
theorem dJ2_getChar_3b067_3 : decode cJ2_getChar_3b067 3 = .ok (.ifCond .ne 25, 3) := by decide +kernel
theorem dJ2_getChar_3b067_6 : decode cJ2_getChar_3b067 6 = .ok (.iload_n 1, 1) := by decide +kernel
theorem dJ2_getChar_3b067_7 : decode cJ2_getChar_3b067 7 = .ok (.ifCond .lt 11, 3) := by decide +kernel
theorem dJ2_getChar_3b067_10 : decode cJ2_getChar_3b067 10 = .ok (.iload_n 1, 1) := by decide +kernel
theorem dJ2_getChar_3b067_11 : decode cJ2_getChar_3b067 11 = .ok (.aload_n 0, 1) := by decide +kernel
theorem dJ2_getChar_3b067_12 : decode cJ2_getChar_3b067 12 = .ok (.invokestatic 48, 3) := by decide +kernel
theorem dJ2_getChar_3b067_15 : decode cJ2_getChar_3b067 15 = .ok (.if_icmp .lt 13, 3) := by decide +kernel
theorem dJ2_getChar_3b067_18 : decode cJ2_getChar_3b067 18 = .ok (.new 52, 3) := by decide +kernel
theorem dJ2_getChar_3b067_21 : decode cJ2_getChar_3b067 21 = .ok (.dup, 1) := by decide +kernel
theorem dJ2_getChar_3b067_22 : decode cJ2_getChar_3b067 22 = .ok (.ldc 54, 2) := by decide +kernel
theorem dJ2_getChar_3b067_24 : decode cJ2_getChar_3b067 24 = .ok (.invokespecial 56, 3) := by decide +kernel
theorem dJ2_getChar_3b067_27 : decode cJ2_getChar_3b067 27 = .ok (.athrow, 1) := by decide +kernel
theorem dJ2_getChar_3b067_28 : decode cJ2_getChar_3b067 28 = .ok (.iload_n 1, 1) := by decide +kernel
theorem dJ2_getChar_3b067_29 : decode cJ2_getChar_3b067 29 = .ok (.iconst 1, 1) := by decide +kernel
theorem dJ2_getChar_3b067_30 : decode cJ2_getChar_3b067 30 = .ok (.ishl, 1) := by decide +kernel
theorem dJ2_getChar_3b067_31 : decode cJ2_getChar_3b067 31 = .ok (.istore_n 1, 1) := by decide +kernel
theorem dJ2_getChar_3b067_32 : decode cJ2_getChar_3b067 32 = .ok (.aload_n 0, 1) := by decide +kernel
theorem dJ2_getChar_3b067_33 : decode cJ2_getChar_3b067 33 = .ok (.iload_n 1, 1) := by decide +kernel
theorem dJ2_getChar_3b067_34 : decode cJ2_getChar_3b067 34 = .ok (.iinc 1 1, 3) := by decide +kernel
theorem dJ2_getChar_3b067_37 : decode cJ2_getChar_3b067 37 = .ok (.baload, 1) := by decide +kernel
theorem dJ2_getChar_3b067_38 : decode cJ2_getChar_3b067 38 = .ok (.sipush 255, 3) := by decide +kernel
theorem dJ2_getChar_3b067_41 : decode cJ2_getChar_3b067 41 = .ok (.iand, 1) := by decide +kernel
theorem dJ2_getChar_3b067_42 : decode cJ2_getChar_3b067 42 = .ok (.getstatic 59, 3) := by decide +kernel
theorem dJ2_getChar_3b067_45 : decode cJ2_getChar_3b067 45 = .ok (.ishl, 1) := by decide +kernel
theorem dJ2_getChar_3b067_46 : decode cJ2_getChar_3b067 46 = .ok (.aload_n 0, 1) := by decide +kernel
theorem dJ2_getChar_3b067_47 : decode cJ2_getChar_3b067 47 = .ok (.iload_n 1, 1) := by decide +kernel
theorem dJ2_getChar_3b067_48 : decode cJ2_getChar_3b067 48 = .ok (.baload, 1) := by decide +kernel
theorem dJ2_getChar_3b067_49 : decode cJ2_getChar_3b067 49 = .ok (.sipush 255, 3) := by decide +kernel
theorem dJ2_getChar_3b067_52 : decode cJ2_getChar_3b067 52 = .ok (.iand, 1) := by decide +kernel
theorem dJ2_getChar_3b067_53 : decode cJ2_getChar_3b067 53 = .ok (.getstatic 63, 3) := by decide +kernel
theorem dJ2_getChar_3b067_56 : decode cJ2_getChar_3b067 56 = .ok (.ishl, 1) := by decide +kernel
theorem dJ2_getChar_3b067_57 : decode cJ2_getChar_3b067 57 = .ok (.ior, 1) := by decide +kernel
theorem dJ2_getChar_3b067_58 : decode cJ2_getChar_3b067 58 = .ok (.i2c, 1) := by decide +kernel
theorem dJ2_getChar_3b067_59 : decode cJ2_getChar_3b067 59 = .ok (.ireturn, 1) := by decide +kernel
theorem dJ2_length_9d52b_0 : decode cJ2_length_9d52b 0 = .ok (.aload_n 0, 1) := by decide +kernel
theorem dJ2_length_9d52b_1 : decode cJ2_length_9d52b 1 = .ok (.arraylength, 1) := by decide +kernel
theorem dJ2_length_9d52b_2 : decode cJ2_length_9d52b 2 = .ok (.iconst 1, 1) := by decide +kernel
theorem dJ2_length_9d52b_3 : decode cJ2_length_9d52b 3 = .ok (.ishr, 1) := by decide +kernel
theorem dJ2_length_9d52b_4 : decode cJ2_length_9d52b 4 = .ok (.ireturn, 1) := by decide +kernel
set_option maxRecDepth 20000 in
theorem ggJ2_charAt_3b067_J2_checkIndex_2214a : GoodIn wsJ2_charAt_3b067 wsJ2_checkIndex_2214a := goodIn_r _ [4, 5, 6, 3, 7, 8, 9, 10, 11, 12, 13, 14, 15, 16] (by decide +kernel) (by decide +kernel)
set_option maxRecDepth 20000 in
theorem gJ2_charAt_3b067_J2_checkIndex_2214a : GoodIn wsJ2_charAt_3b067 (va_wsS RJ2 67 yJ2_checkIndex_2214a wsJ2_checkIndex_2214a) := goodIn_app (goodIn_of _ (by decide +kernel)) ggJ2_charAt_3b067_J2_checkIndex_2214a
set_option maxRecDepth 20000 in
theorem ggJ2_charAt_3b067_J2_getChar_3b067 : GoodIn wsJ2_charAt_3b067 wsJ2_getChar_3b067 := goodIn_r _ [19, 20, 21, 22, 5, 6, 3, 7] (by decide +kernel) (by decide +kernel)
set_option maxRecDepth 20000 in
theorem gJ2_charAt_3b067_J2_getChar_3b067 : GoodIn wsJ2_charAt_3b067 (va_wsS RJ2 71 yJ2_getChar_3b067 wsJ2_getChar_3b067) := goodIn_app (goodIn_of _ (by decide +kernel)) ggJ2_charAt_3b067_J2_getChar_3b067
theorem dJ2_charAt_3b067_0 : decode cJ2_charAt_3b067 0 = .ok (.iload_n 1, 1) := by decide +kernel
theorem dJ2_charAt_3b067_1 : decode cJ2_charAt_3b067 1 = .ok (.aload_n 0, 1) := by decide +kernel
theorem dJ2_charAt_3b067_2 : decode cJ2_charAt_3b067 2 = .ok (.invokestatic 67, 3) := by decide +kernel
theorem dJ2_charAt_3b067_5 : decode cJ2_charAt_3b067 5 = .ok (.aload_n 0, 1) := by decide +kernel
theorem dJ2_charAt_3b067_6 : decode cJ2_charAt_3b067 6 = .ok (.iload_n 1, 1) := by decide +kernel
theorem dJ2_charAt_3b067_7 : decode cJ2_charAt_3b067 7 = .ok (.invokestatic 71, 3) := by decide +kernel
theorem dJ2_charAt_3b067_10 : decode cJ2_charAt_3b067 10 = .ok (.ireturn, 1) := by decide +kernel
set_option maxRecDepth 20000 in
theorem ggJ2_checkIndex_2214a_J2_length_9d52b : GoodIn wsJ2_checkIndex_2214a wsJ2_length_9d52b := goodIn_r _ [4] (by decide +kernel) (by decide +kernel)
set_option maxRecDepth 20000 in
theorem gJ2_checkIndex_2214a_J2_length_9d52b : GoodIn wsJ2_checkIndex_2214a (va_wsS RJ2 48 yJ2_length_9d52b wsJ2_length_9d52b) := goodIn_app (goodIn_of _ (by decide +kernel)) ggJ2_checkIndex_2214a_J2_length_9d52b
set_option maxRecDepth 20000 in
theorem ggJ2_checkIndex_2214a_J0_checkIndex_df160 : GoodIn wsJ2_checkIndex_2214a wsJ0_checkIndex_df160 := goodIn_r _ [8, 9, 10, 11, 12, 13] (by decide +kernel) (by decide +kernel)
set_option maxRecDepth 20000 in
theorem gJ2_checkIndex_2214a_J0_checkIndex_df160 : GoodIn wsJ2_checkIndex_2214a (va_wsS RJ2 414 yJ0_checkIndex_df160 wsJ0_checkIndex_df160) := goodIn_app (goodIn_of _ (by decide +kernel)) ggJ2_checkIndex_2214a_J0_checkIndex_df160
theorem dJ2_checkIndex_2214a_0 : decode cJ2_checkIndex_2214a 0 = .ok (.iload_n 0, 1) := by decide +kernel
theorem dJ2_checkIndex_2214a_1 : decode cJ2_checkIndex_2214a 1 = .ok (.aload_n 1, 1) := by decide +kernel
theorem dJ2_checkIndex_2214a_2 : decode cJ2_checkIndex_2214a 2 = .ok (.invokestatic 48, 3) := by decide +kernel
theorem dJ2_checkIndex_2214a_5 : decode cJ2_checkIndex_2214a 5 = .ok (.invokestatic 414, 3) := by decide +kernel
theorem dJ2_checkIndex_2214a_8 : decode cJ2_checkIndex_2214a 8 = .ok (.return_, 1) := by decide +kernel
theorem dJ3_checkIndex_8e157_0 : decode cJ3_checkIndex_8e157 0 = .ok (.iload_n 0, 1) := by decide +kernel
theorem dJ3_checkIndex_8e157_1 : decode cJ3_checkIndex_8e157 1 = .ok (.ifCond .lt 8, 3) := by decide +kernel
theorem dJ3_checkIndex_8e157_4 : decode cJ3_checkIndex_8e157 4 = .ok (.iload_n 0, 1) := by decide +kernel
theorem dJ3_checkIndex_8e157_5 : decode cJ3_checkIndex_8e157 5 = .ok (.iload_n 1, 1) := by decide +kernel
theorem dJ3_checkIndex_8e157_6 : decode cJ3_checkIndex_8e157 6 = .ok (.if_icmp .lt 10, 3) := by decide +kernel
theorem dJ3_checkIndex_8e157_9 : decode cJ3_checkIndex_8e157 9 = .ok (.aload_n 2, 1) := by decide +kernel
theorem dJ3_checkIndex_8e157_10 : decode cJ3_checkIndex_8e157 10 = .ok (.iload_n 0, 1) := by decide +kernel
theorem dJ3_checkIndex_8e157_11 : decode cJ3_checkIndex_8e157 11 = .ok (.iload_n 1, 1) := by decide +kernel
theorem dJ3_checkIndex_8e157_12 : decode cJ3_checkIndex_8e157 12 = .ok (.invokestatic 95, 3) := by decide +kernel
theorem dJ3_checkIndex_8e157_15 : decode cJ3_checkIndex_8e157 15 = .ok (.athrow, 1) := by decide +kernel
theorem dJ3_checkIndex_8e157_16 : decode cJ3_checkIndex_8e157 16 = .ok (.iload_n 0, 1) := by decide +kernel
theorem dJ3_checkIndex_8e157_17 : decode cJ3_checkIndex_8e157 17 = .ok (.ireturn, 1) := by decide +kernel
