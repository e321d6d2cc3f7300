theorem dX11_riverHere_50 : decode cX11_riverHere 50 = .ok (.invokevirtual 91, 3) := by decide +kernel
theorem dX11_riverHere_53 : decode cX11_riverHere 53 = .ok (.aload_n 0, 1) := by decide +kernel
theorem dX11_riverHere_54 : decode cX11_riverHere 54 = .ok (.invokevirtual 78, 3) := by decide +kernel
theorem dX11_riverHere_57 : decode cX11_riverHere 57 = .ok (.bipush 112, 2) := by decide +kernel
theorem dX11_riverHere_59 : decode cX11_riverHere 59 = .ok (.if_icmp .ne 7, 3) := by decide +kernel
theorem dX11_riverHere_62 : decode cX11_riverHere 62 = .ok (.iconst 1, 1) := by decide +kernel
theorem dX11_riverHere_63 : decode cX11_riverHere 63 = .ok (.goto 4, 3) := by decide +kernel
theorem dX11_riverHere_66 : decode cX11_riverHere 66 = .ok (.iconst 0, 1) := by decide +kernel
theorem dX11_riverHere_67 : decode cX11_riverHere 67 = .ok (.istore_n 1, 1) := by decide +kernel
theorem dX11_riverHere_68 : decode cX11_riverHere 68 = .ok (.aload_n 0, 1) := by decide +kernel
theorem dX11_riverHere_69 : decode cX11_riverHere 69 = .ok (.iload_n 1, 1) := by decide +kernel
theorem dX11_riverHere_70 : decode cX11_riverHere 70 = .ok (.ifCond .eq 8, 3) := by decide +kernel
theorem dX11_riverHere_73 : decode cX11_riverHere 73 = .ok (.ldc 111, 2) := by decide +kernel
theorem dX11_riverHere_75 : decode cX11_riverHere 75 = .ok (.goto 5, 3) := by decide +kernel
theorem dX11_riverHere_78 : decode cX11_riverHere 78 = .ok (.ldc 113, 2) := by decide +kernel
theorem dX11_riverHere_80 : decode cX11_riverHere 80 = .ok (.invokevirtual 100, 3) := by decide +kernel
theorem dX11_riverHere_83 : decode cX11_riverHere 83 = .ok (.aload_n 0, 1) := by decide +kernel
theorem dX11_riverHere_84 : decode cX11_riverHere 84 = .ok (.iconst 0, 1) := by decide +kernel
theorem dX11_riverHere_85 : decode cX11_riverHere 85 = .ok (.bipush 9, 2) := by decide +kernel
theorem dX11_riverHere_87 : decode cX11_riverHere 87 = .ok (.invokevirtual 104, 3) := by decide +kernel
theorem dX11_riverHere_90 : decode cX11_riverHere 90 = .ok (.istore_n 2, 1) := by decide +kernel
theorem dX11_riverHere_91 : decode cX11_riverHere 91 = .ok (.aload_n 0, 1) := by decide +kernel
theorem dX11_riverHere_92 : decode cX11_riverHere 92 = .ok (.iload_n 1, 1) := by decide +kernel
theorem dX11_riverHere_93 : decode cX11_riverHere 93 = .ok (.ifCond .eq 7, 3) := by decide +kernel
theorem dX11_riverHere_96 : decode cX11_riverHere 96 = .ok (.iload_n 2, 1) := by decide +kernel
theorem dX11_riverHere_97 : decode cX11_riverHere 97 = .ok (.goto 7, 3) := by decide +kernel
theorem dX11_riverHere_100 : decode cX11_riverHere 100 = .ok (.aload_n 0, 1) := by decide +kernel
theorem dX11_riverHere_101 : decode cX11_riverHere 101 = .ok (.getfield 115, 3) := by decide +kernel
theorem dX11_riverHere_104 : decode cX11_riverHere 104 = .ok (.putfield 115, 3) := by decide +kernel
theorem dX11_riverHere_107 : decode cX11_riverHere 107 = .ok (.aload_n 0, 1) := by decide +kernel
theorem dX11_riverHere_108 : decode cX11_riverHere 108 = .ok (.iload_n 1, 1) := by decide +kernel
theorem dX11_riverHere_109 : decode cX11_riverHere 109 = .ok (.ifCond .eq 10, 3) := by decide +kernel
theorem dX11_riverHere_112 : decode cX11_riverHere 112 = .ok (.aload_n 0, 1) := by decide +kernel
theorem dX11_riverHere_113 : decode cX11_riverHere 113 = .ok (.getfield 118, 3) := by decide +kernel
theorem dX11_riverHere_116 : decode cX11_riverHere 116 = .ok (.goto 4, 3) := by decide +kernel
theorem dX11_riverHere_119 : decode cX11_riverHere 119 = .ok (.iload_n 2, 1) := by decide +kernel
theorem dX11_riverHere_120 : decode cX11_riverHere 120 = .ok (.putfield 118, 3) := by decide +kernel
theorem dX11_riverHere_123 : decode cX11_riverHere 123 = .ok (.goto 28, 3) := by decide +kernel
theorem dX11_riverHere_126 : decode cX11_riverHere 126 = .ok (.aload_n 0, 1) := by decide +kernel
theorem dX11_riverHere_127 : decode cX11_riverHere 127 = .ok (.ldc 121, 2) := by decide +kernel
theorem dX11_riverHere_129 : decode cX11_riverHere 129 = .ok (.invokevirtual 100, 3) := by decide +kernel
theorem dX11_riverHere_132 : decode cX11_riverHere 132 = .ok (.aload_n 0, 1) := by decide +kernel
theorem dX11_riverHere_133 : decode cX11_riverHere 133 = .ok (.aload_n 0, 1) := by decide +kernel
theorem dX11_riverHere_134 : decode cX11_riverHere 134 = .ok (.iconst 0, 1) := by decide +kernel
theorem dX11_riverHere_135 : decode cX11_riverHere 135 = .ok (.bipush 9, 2) := by decide +kernel
theorem dX11_riverHere_137 : decode cX11_riverHere 137 = .ok (.invokevirtual 104, 3) := by decide +kernel
theorem dX11_riverHere_140 : decode cX11_riverHere 140 = .ok (.putfield 123, 3) := by decide +kernel
theorem dX11_riverHere_143 : decode cX11_riverHere 143 = .ok (.goto 8, 3) := by decide +kernel
theorem dX11_riverHere_146 : decode cX11_riverHere 146 = .ok (.aload_n 0, 1) := by decide +kernel
theorem dX11_riverHere_147 : decode cX11_riverHere 147 = .ok (.iconst 1, 1) := by decide +kernel
theorem dX11_riverHere_148 : decode cX11_riverHere 148 = .ok (.putfield 71, 3) := by decide +kernel
theorem dX11_riverHere_151 : decode cX11_riverHere 151 = .ok (.return_, 1) := by decide +kernel
set_option maxRecDepth 20000 in
theorem ggX11_river_X11_starts : GoodIn wsX11_river wsX11_starts := goodIn_r _ [16, 8, 7, 6, 5, 17, 94, 95, 96, 97, 98, 99, 100, 101, 102, 103, 104, 105, 106, 107, 108, 109, 110, 111, 112, 113, 114, 115, 116, 117, 118, 119, 120, 121, 122, 123, 124, 125, 126, 127, 128, 129, 130, 131] (by decide +kernel) (by decide +kernel)
set_option maxRecDepth 20000 in
theorem gX11_river_X11_starts : GoodIn wsX11_river (wsV RX11 126 RX11 yX11_starts wsX11_starts) := goodIn_app (goodIn_of _ (by decide +kernel)) ggX11_river_X11_starts
set_option maxRecDepth 20000 in
theorem ggX11_river_X11_riverHere : GoodIn wsX11_river wsX11_riverHere := goodIn_r _ [21, 2, 3, 4, 5, 22, 23, 24, 15, 25, 6, 7, 8, 26, 27, 28, 29, 1, 9, 10, 11, 30, 31, 32, 33, 34, 35, 36, 37, 38, 39, 40, 41, 42, 43, 44, 45, 46, 47, 48, 49, 50, 51, 52, 53, 54, 55, 56, 57, 58, 59, 60, 61, 62, 63, 64, 65, 66, 67, 68, 69, 70, 71, 72, 73, 74, 75, 76, 77, 78, 79, 80, 81, 82, 83, 84, 85, 86, 87, 88, 89, 90, 91, 92, 93, 94, 95, 96, 97, 98, 99, 100, 101, 102, 103, 104, 105, 106, 107, 108, 109, 110, 111, 112, 113, 114, 115, 116, 117, 118, 119, 120, 121, 122, 123, 124, 125, 126, 127, 128, 129, 130, 131] (by decide +kernel) (by decide +kernel)
set_option maxRecDepth 20000 in
theorem gX11_river_X11_riverHere : GoodIn wsX11_river (wsV RX11 129 RX11 yX11_riverHere wsX11_riverHere) := goodIn_app (goodIn_of _ (by decide +kernel)) ggX11_river_X11_riverHere
set_option maxRecDepth 20000 in
theorem ggX11_river_X11_here : GoodIn wsX11_river wsX11_here := goodIn_r _ [25, 6, 7, 8, 94, 95, 96, 97, 98, 99, 100, 101, 102, 103, 104, 105, 106, 107, 108, 109, 110, 111, 112, 113, 114, 115, 116, 117, 118, 119, 120, 121, 122, 123, 124, 125, 126, 127, 128, 129, 130, 131] (by decide +kernel) (by decide +kernel)
set_option maxRecDepth 20000 in
theorem gX11_river_X11_here : GoodIn wsX11_river (wsV RX11 78 RX11 yX11_here wsX11_here) := goodIn_app (goodIn_of _ (by decide +kernel)) ggX11_river_X11_here
theorem dX11_river_0 : decode cX11_river 0 = .ok (.aload_n 0, 1) := by decide +kernel
theorem dX11_river_1 : decode cX11_river 1 = .ok (.invokevirtual 126, 3) := by decide +kernel
theorem dX11_river_4 : decode cX11_river 4 = .ok (.aload_n 0, 1) := by decide +kernel
theorem dX11_river_5 : decode cX11_river 5 = .ok (.iconst 0, 1) := by decide +kernel
theorem dX11_river_6 : decode cX11_river 6 = .ok (.putfield 95, 3) := by decide +kernel
theorem dX11_river_9 : decode cX11_river 9 = .ok (.aload_n 0, 1) := by decide +kernel
theorem dX11_river_10 : decode cX11_river 10 = .ok (.iconst 3, 1) := by decide +kernel
theorem dX11_river_11 : decode cX11_river 11 = .ok (.putfield 115, 3) := by decide +kernel
theorem dX11_river_14 : decode cX11_river 14 = .ok (.aload_n 0, 1) := by decide +kernel
theorem dX11_river_15 : decode cX11_river 15 = .ok (.bipush 9, 2) := by decide +kernel
theorem dX11_river_17 : decode cX11_river 17 = .ok (.putfield 118, 3) := by decide +kernel
theorem dX11_river_20 : decode cX11_river 20 = .ok (.aload_n 0, 1) := by decide +kernel
theorem dX11_river_21 : decode cX11_river 21 = .ok (.iconst 5, 1) := by decide +kernel
theorem dX11_river_22 : decode cX11_river 22 = .ok (.putfield 123, 3) := by decide +kernel
theorem dX11_river_25 : decode cX11_river 25 = .ok (.iconst 1, 1) := by decide +kernel
theorem dX11_river_26 : decode cX11_river 26 = .ok (.istore_n 1, 1) := by decide +kernel
theorem dX11_river_27 : decode cX11_river 27 = .ok (.aload_n 0, 1) := by decide +kernel
theorem dX11_river_28 : decode cX11_river 28 = .ok (.invokevirtual 129, 3) := by decide +kernel
theorem dX11_river_31 : decode cX11_river 31 = .ok (.aload_n 0, 1) := by decide +kernel
theorem dX11_river_32 : decode cX11_river 32 = .ok (.getfield 71, 3) := by decide +kernel
theorem dX11_river_35 : decode cX11_river 35 = .ok (.ifCond .ne 38, 3) := by decide +kernel
theorem dX11_river_38 : decode cX11_river 38 = .ok (.iload_n 1, 1) := by decide +kernel
theorem dX11_river_39 : decode cX11_river 39 = .ok (.bipush 12, 2) := by decide +kernel
theorem dX11_river_41 : decode cX11_river 41 = .ok (.if_icmp .ge 32, 3) := by decide +kernel
theorem dX11_river_44 : decode cX11_river 44 = .ok (.aload_n 0, 1) := by decide +kernel
theorem dX11_river_45 : decode cX11_river 45 = .ok (.invokevirtual 78, 3) := by decide +kernel
theorem dX11_river_48 : decode cX11_river 48 = .ok (.bipush 59, 2) := by decide +kernel
theorem dX11_river_50 : decode cX11_river 50 = .ok (.if_icmp .ne 23, 3) := by decide +kernel
theorem dX11_river_53 : decode cX11_river 53 = .ok (.aload_n 0, 1) := by decide +kernel
theorem dX11_river_54 : decode cX11_river 54 = .ok (.dup, 1) := by decide +kernel
theorem dX11_river_55 : decode cX11_river 55 = .ok (.getfield 68, 3) := by decide +kernel
theorem dX11_river_58 : decode cX11_river 58 = .ok (.iconst 1, 1) := by decide +kernel
theorem dX11_river_59 : decode cX11_river 59 = .ok (.iadd, 1) := by decide +kernel
theorem dX11_river_60 : decode cX11_river 60 = .ok (.putfield 68, 3) := by decide +kernel
theorem dX11_river_63 : decode cX11_river 63 = .ok (.aload_n 0, 1) := by decide +kernel
theorem dX11_river_64 : decode cX11_river 64 = .ok (.invokevirtual 129, 3) := by decide +kernel
theorem dX11_river_67 : decode cX11_river 67 = .ok (.iinc 1 1, 3) := by decide +kernel
theorem dX11_river_70 : decode cX11_river 70 = .ok (.goto (-39), 3) := by decide +kernel
theorem dX11_river_73 : decode cX11_river 73 = .ok (.aload_n 0, 1) := by decide +kernel
theorem dX11_river_74 : decode cX11_river 74 = .ok (.getfield 71, 3) := by decide +kernel
theorem dX11_river_77 : decode cX11_river 77 = .ok (.ifCond .ne 21, 3) := by decide +kernel
theorem dX11_river_80 : decode cX11_river 80 = .ok (.aload_n 0, 1) := by decide +kernel
theorem dX11_river_81 : decode cX11_river 81 = .ok (.getfield 68, 3) := by decide +kernel
theorem dX11_river_84 : decode cX11_river 84 = .ok (.aload_n 0, 1) := by decide +kernel
theorem dX11_river_85 : decode cX11_river 85 = .ok (.getfield 65, 3) := by decide +kernel
theorem dX11_river_88 : decode cX11_river 88 = .ok (.if_icmp .ne 10, 3) := by decide +kernel
theorem dX11_river_91 : decode cX11_river 91 = .ok (.aload_n 0, 1) := by decide +kernel
theorem dX11_river_92 : decode cX11_river 92 = .ok (.getfield 95, 3) := by decide +kernel
theorem dX11_river_95 : decode cX11_river 95 = .ok (.ifCond .ne 11, 3) := by decide +kernel
theorem dX11_river_98 : decode cX11_river 98 = .ok (.bipush (-10), 2) := by decide +kernel
theorem dX11_river_100 : decode cX11_river 100 = .ok (.aload_n 0, 1) := by decide +kernel
theorem dX11_river_101 : decode cX11_river 101 = .ok (.getfield 68, 3) := by decide +kernel
theorem dX11_river_104 : decode cX11_river 104 = .ok (.isub, 1) := by decide +kernel
theorem dX11_river_105 : decode cX11_river 105 = .ok (.ireturn, 1) := by decide +kernel
theorem dX11_river_106 : decode cX11_river 106 = .ok (.aload_n 0, 1) := by decide +kernel
theorem dX11_river_107 : decode cX11_river 107 = .ok (.getfield 9, 3) := by decide +kernel
theorem dX11_river_110 : decode cX11_river 110 = .ok (.iconst 0, 1) := by decide +kernel
theorem dX11_river_111 : decode cX11_river 111 = .ok (.aload_n 0, 1) := by decide +kernel
theorem dX11_river_112 : decode cX11_river 112 = .ok (.getfield 95, 3) := by decide +kernel
theorem dX11_river_115 : decode cX11_river 115 = .ok (.iastore, 1) := by decide +kernel
theorem dX11_river_116 : decode cX11_river 116 = .ok (.aload_n 0, 1) := by decide +kernel
theorem dX11_river_117 : decode cX11_river 117 = .ok (.getfield 9, 3) := by decide +kernel
theorem dX11_river_120 : decode cX11_river 120 = .ok (.iconst 1, 1) := by decide +kernel
theorem dX11_river_121 : decode cX11_river 121 = .ok (.aload_n 0, 1) := by decide +kernel
theorem dX11_river_122 : decode cX11_river 122 = .ok (.getfield 115, 3) := by decide +kernel
theorem dX11_river_125 : decode cX11_river 125 = .ok (.iconst 1, 1) := by decide +kernel
theorem dX11_river_126 : decode cX11_river 126 = .ok (.if_icmp .ge 7, 3) := by decide +kernel
theorem dX11_river_129 : decode cX11_river 129 = .ok (.iconst 1, 1) := by decide +kernel
theorem dX11_river_130 : decode cX11_river 130 = .ok (.goto 19, 3) := by decide +kernel
theorem dX11_river_133 : decode cX11_river 133 = .ok (.aload_n 0, 1) := by decide +kernel
theorem dX11_river_134 : decode cX11_river 134 = .ok (.getfield 115, 3) := by decide +kernel
theorem dX11_river_137 : decode cX11_river 137 = .ok (.iconst 3, 1) := by decide +kernel
theorem dX11_river_138 : decode cX11_river 138 = .ok (.if_icmp .le 7, 3) := by decide +kernel
theorem dX11_river_141 : decode cX11_river 141 = .ok (.iconst 3, 1) := by decide +kernel
theorem dX11_river_142 : decode cX11_river 142 = .ok (.goto 7, 3) := by decide +kernel
theorem dX11_river_145 : decode cX11_river 145 = .ok (.aload_n 0, 1) := by decide +kernel
theorem dX11_river_146 : decode cX11_river 146 = .ok (.getfield 115, 3) := by decide +kernel
theorem dX11_river_149 : decode cX11_river 149 = .ok (.iastore, 1) := by decide +kernel
theorem dX11_river_150 : decode cX11_river 150 = .ok (.aload_n 0, 1) := by decide +kernel
theorem dX11_river_151 : decode cX11_river 151 = .ok (.getfield 9, 3) := by decide +kernel
theorem dX11_river_154 : decode cX11_river 154 = .ok (.iconst 2, 1) := by decide +kernel
theorem dX11_river_155 : decode cX11_river 155 = .ok (.aload_n 0, 1) := by decide +kernel
theorem dX11_river_156 : decode cX11_river 156 = .ok (.getfield 118, 3) := by decide +kernel
theorem dX11_river_159 : decode cX11_river 159 = .ok (.iastore, 1) := by decide +kernel
theorem dX11_river_160 : decode cX11_river 160 = .ok (.aload_n 0, 1) := by decide +kernel
theorem dX11_river_161 : decode cX11_river 161 = .ok (.getfield 9, 3) := by decide +kernel
theorem dX11_river_164 : decode cX11_river 164 = .ok (.iconst 3, 1) := by decide +kernel
theorem dX11_river_165 : decode cX11_river 165 = .ok (.aload_n 0, 1) := by decide +kernel
theorem dX11_river_166 : decode cX11_river 166 = .ok (.getfield 123, 3) := by decide +kernel
theorem dX11_river_169 : decode cX11_river 169 = .ok (.iastore, 1) := by decide +kernel
theorem dX11_river_170 : decode cX11_river 170 = .ok (.aload_n 0, 1) := by decide +kernel
theorem dX11_river_171 : decode cX11_river 171 = .ok (.getfield 9, 3) := by decide +kernel
theorem dX11_river_174 : decode cX11_river 174 = .ok (.iconst 4, 1) := by decide +kernel
theorem dX11_river_175 : decode cX11_river 175 = .ok (.iconst 0, 1) := by decide +kernel
theorem dX11_river_176 : decode cX11_river 176 = .ok (.iastore, 1) := by decide +kernel
theorem dX11_river_177 : decode cX11_river 177 = .ok (.iconst 0, 1) := by decide +kernel
theorem dX11_river_178 : decode cX11_river 178 = .ok (.istore_n 2, 1) := by decide +kernel
theorem dX11_river_179 : decode cX11_river 179 = .ok (.iload_n 2, 1) := by decide +kernel
theorem dX11_river_180 : decode cX11_river 180 = .ok (.iconst 3, 1) := by decide +kernel
theorem dX11_river_181 : decode cX11_river 181 = .ok (.if_icmp .ge 150, 3) := by decide +kernel
theorem dX11_river_184 : decode cX11_river 184 = .ok (.aload_n 0, 1) := by decide +kernel
theorem dX11_river_185 : decode cX11_river 185 = .ok (.getfield 9, 3) := by decide +kernel
theorem dX11_river_188 : decode cX11_river 188 = .ok (.sipush 133, 3) := by decide +kernel
theorem dX11_river_191 : decode cX11_river 191 = .ok (.iload_n 2, 1) := by decide +kernel
theorem dX11_river_192 : decode cX11_river 192 = .ok (.iadd, 1) := by decide +kernel
theorem dX11_river_193 : decode cX11_river 193 = .ok (.iload_n 2, 1) := by decide +kernel
theorem dX11_river_194 : decode cX11_river 194 = .ok (.aload_n 0, 1) := by decide +kernel
theorem dX11_river_195 : decode cX11_river 195 = .ok (.getfield 95, 3) := by decide +kernel
theorem dX11_river_198 : decode cX11_river 198 = .ok (.if_icmp .ge 12, 3) := by decide +kernel
theorem dX11_river_201 : decode cX11_river 201 = .ok (.aload_n 0, 1) := by decide +kernel
theorem dX11_river_202 : decode cX11_river 202 = .ok (.getfield 18, 3) := by decide +kernel
theorem dX11_river_205 : decode cX11_river 205 = .ok (.iload_n 2, 1) := by decide +kernel
theorem dX11_river_206 : decode cX11_river 206 = .ok (.iaload, 1) := by decide +kernel
theorem dX11_river_207 : decode cX11_river 207 = .ok (.goto 4, 3) := by decide +kernel
theorem dX11_river_210 : decode cX11_river 210 = .ok (.iconst 0, 1) := by decide +kernel
theorem dX11_river_211 : decode cX11_river 211 = .ok (.iastore, 1) := by decide +kernel
theorem dX11_river_212 : decode cX11_river 212 = .ok (.aload_n 0, 1) := by decide +kernel
theorem dX11_river_213 : decode cX11_river 213 = .ok (.getfield 9, 3) := by decide +kernel
theorem dX11_river_216 : decode cX11_river 216 = .ok (.sipush 136, 3) := by decide +kernel
theorem dX11_river_219 : decode cX11_river 219 = .ok (.iload_n 2, 1) := by decide +kernel
theorem dX11_river_220 : decode cX11_river 220 = .ok (.iadd, 1) := by decide +kernel
theorem dX11_river_221 : decode cX11_river 221 = .ok (.iload_n 2, 1) := by decide +kernel
theorem dX11_river_222 : decode cX11_river 222 = .ok (.aload_n 0, 1) := by decide +kernel
theorem dX11_river_223 : decode cX11_river 223 = .ok (.getfield 95, 3) := by decide +kernel
theorem dX11_river_226 : decode cX11_river 226 = .ok (.if_icmp .ge 12, 3) := by decide +kernel
theorem dX11_river_229 : decode cX11_river 229 = .ok (.aload_n 0, 1) := by decide +kernel
theorem dX11_river_230 : decode cX11_river 230 = .ok (.getfield 21, 3) := by decide +kernel
theorem dX11_river_233 : decode cX11_river 233 = .ok (.iload_n 2, 1) := by decide +kernel
theorem dX11_river_234 : decode cX11_river 234 = .ok (.iaload, 1) := by decide +kernel
theorem dX11_river_235 : decode cX11_river 235 = .ok (.goto 4, 3) := by decide +kernel
theorem dX11_river_238 : decode cX11_river 238 = .ok (.iconst 0, 1) := by decide +kernel
theorem dX11_river_239 : decode cX11_river 239 = .ok (.iastore, 1) := by decide +kernel
theorem dX11_river_240 : decode cX11_river 240 = .ok (.aload_n 0, 1) := by decide +kernel
theorem dX11_river_241 : decode cX11_river 241 = .ok (.getfield 9, 3) := by decide +kernel
theorem dX11_river_244 : decode cX11_river 244 = .ok (.sipush 130, 3) := by decide +kernel
theorem dX11_river_247 : decode cX11_river 247 = .ok (.iload_n 2, 1) := by decide +kernel
theorem dX11_river_248 : decode cX11_river 248 = .ok (.iadd, 1) := by decide +kernel
theorem dX11_river_249 : decode cX11_river 249 = .ok (.iload_n 2, 1) := by decide +kernel
theorem dX11_river_250 : decode cX11_river 250 = .ok (.aload_n 0, 1) := by decide +kernel
theorem dX11_river_251 : decode cX11_river 251 = .ok (.getfield 95, 3) := by decide +kernel
theorem dX11_river_254 : decode cX11_river 254 = .ok (.if_icmp .ge 36, 3) := by decide +kernel
theorem dX11_river_257 : decode cX11_river 257 = .ok (.aload_n 0, 1) := by decide +kernel
theorem dX11_river_258 : decode cX11_river 258 = .ok (.getfield 24, 3) := by decide +kernel
theorem dX11_river_261 : decode cX11_river 261 = .ok (.iload_n 2, 1) := by decide +kernel
theorem dX11_river_262 : decode cX11_river 262 = .ok (.iaload, 1) := by decide +kernel
theorem dX11_river_263 : decode cX11_river 263 = .ok (.aload_n 0, 1) := by decide +kernel
theorem dX11_river_264 : decode cX11_river 264 = .ok (.getfield 18, 3) := by decide +kernel
theorem dX11_river_267 : decode cX11_river 267 = .ok (.iload_n 2, 1) := by decide +kernel
theorem dX11_river_268 : decode cX11_river 268 = .ok (.iaload, 1) := by decide +kernel
theorem dX11_river_269 : decode cX11_river 269 = .ok (.if_icmp .le 12, 3) := by decide +kernel
theorem dX11_river_272 : decode cX11_river 272 = .ok (.aload_n 0, 1) := by decide +kernel
theorem dX11_river_273 : decode cX11_river 273 = .ok (.getfield 18, 3) := by decide +kernel
theorem dX11_river_276 : decode cX11_river 276 = .ok (.iload_n 2, 1) := by decide +kernel
theorem dX11_river_277 : decode cX11_river 277 = .ok (.iaload, 1) := by decide +kernel
theorem dX11_river_278 : decode cX11_river 278 = .ok (.goto 13, 3) := by decide +kernel
theorem dX11_river_281 : decode cX11_river 281 = .ok (.aload_n 0, 1) := by decide +kernel
theorem dX11_river_282 : decode cX11_river 282 = .ok (.getfield 24, 3) := by decide +kernel
theorem dX11_river_285 : decode cX11_river 285 = .ok (.iload_n 2, 1) := by decide +kernel
theorem dX11_river_286 : decode cX11_river 286 = .ok (.iaload, 1) := by decide +kernel
theorem dX11_river_287 : decode cX11_river 287 = .ok (.goto 4, 3) := by decide +kernel
theorem dX11_river_290 : decode cX11_river 290 = .ok (.iconst 0, 1) := by decide +kernel
theorem dX11_river_291 : decode cX11_river 291 = .ok (.iastore, 1) := by decide +kernel
theorem dX11_river_292 : decode cX11_river 292 = .ok (.aload_n 0, 1) := by decide +kernel
theorem dX11_river_293 : decode cX11_river 293 = .ok (.getfield 9, 3) := by decide +kernel
theorem dX11_river_296 : decode cX11_river 296 = .ok (.sipush 139, 3) := by decide +kernel
theorem dX11_river_299 : decode cX11_river 299 = .ok (.iload_n 2, 1) := by decide +kernel
theorem dX11_river_300 : decode cX11_river 300 = .ok (.iadd, 1) := by decide +kernel
theorem dX11_river_301 : decode cX11_river 301 = .ok (.iconst 0, 1) := by decide +kernel
theorem dX11_river_302 : decode cX11_river 302 = .ok (.iastore, 1) := by decide +kernel
theorem dX11_river_303 : decode cX11_river 303 = .ok (.aload_n 0, 1) := by decide +kernel
theorem dX11_river_304 : decode cX11_river 304 = .ok (.getfield 9, 3) := by decide +kernel
theorem dX11_river_307 : decode cX11_river 307 = .ok (.sipush 142, 3) := by decide +kernel
theorem dX11_river_310 : decode cX11_river 310 = .ok (.iload_n 2, 1) := by decide +kernel
theorem dX11_river_311 : decode cX11_river 311 = .ok (.iadd, 1) := by decide +kernel
theorem dX11_river_312 : decode cX11_river 312 = .ok (.iconst 1, 1) := by decide +kernel
theorem dX11_river_313 : decode cX11_river 313 = .ok (.iastore, 1) := by decide +kernel
theorem dX11_river_314 : decode cX11_river 314 = .ok (.aload_n 0, 1) := by decide +kernel
theorem dX11_river_315 : decode cX11_river 315 = .ok (.getfield 9, 3) := by decide +kernel
theorem dX11_river_318 : decode cX11_river 318 = .ok (.sipush 145, 3) := by decide +kernel
theorem dX11_river_321 : decode cX11_river 321 = .ok (.iload_n 2, 1) := by decide +kernel
theorem dX11_river_322 : decode cX11_river 322 = .ok (.iadd, 1) := by decide +kernel
theorem dX11_river_323 : decode cX11_river 323 = .ok (.iconst (-1), 1) := by decide +kernel
theorem dX11_river_324 : decode cX11_river 324 = .ok (.iastore, 1) := by decide +kernel
theorem dX11_river_325 : decode cX11_river 325 = .ok (.iinc 2 1, 3) := by decide +kernel
theorem dX11_river_328 : decode cX11_river 328 = .ok (.goto (-149), 3) := by decide +kernel
theorem dX11_river_331 : decode cX11_river 331 = .ok (.aload_n 0, 1) := by decide +kernel
theorem dX11_river_332 : decode cX11_river 332 = .ok (.getfield 95, 3) := by decide +kernel
theorem dX11_river_335 : decode cX11_river 335 = .ok (.ireturn, 1) := by decide +kernel
theorem dX11_emits_0 : decode cX11_emits 0 = .ok (.aload_n 0, 1) := by decide +kernel
theorem dX11_emits_1 : decode cX11_emits 1 = .ok (.getfield 71, 3) := by decide +kernel
theorem dX11_emits_4 : decode cX11_emits 4 = .ok (.ifCond .ne 52, 3) := by decide +kernel
theorem dX11_emits_7 : decode cX11_emits 7 = .ok (.aload_n 0, 1) := by decide +kernel
theorem dX11_emits_8 : decode cX11_emits 8 = .ok (.getfield 9, 3) := by decide +kernel
theorem dX11_emits_11 : decode cX11_emits 11 = .ok (.sipush 334, 3) := by decide +kernel
theorem dX11_emits_14 : decode cX11_emits 14 = .ok (.sipush 140, 3) := by decide +kernel
theorem dX11_emits_17 : decode cX11_emits 17 = .ok (.aload_n 0, 1) := by decide +kernel
theorem dX11_emits_18 : decode cX11_emits 18 = .ok (.getfield 132, 3) := by decide +kernel
theorem dX11_emits_21 : decode cX11_emits 21 = .ok (.imul, 1) := by decide +kernel
theorem dX11_emits_22 : decode cX11_emits 22 = .ok (.iadd, 1) := by decide +kernel
theorem dX11_emits_23 : decode cX11_emits 23 = .ok (.aload_n 0, 1) := by decide +kernel
theorem dX11_emits_24 : decode cX11_emits 24 = .ok (.getfield 9, 3) := by decide +kernel
theorem dX11_emits_27 : decode cX11_emits 27 = .ok (.sipush 326, 3) := by decide +kernel
theorem dX11_emits_30 : decode cX11_emits 30 = .ok (.aload_n 0, 1) := by decide +kernel
theorem dX11_emits_31 : decode cX11_emits 31 = .ok (.getfield 132, 3) := by decide +kernel
theorem dX11_emits_34 : decode cX11_emits 34 = .ok (.iadd, 1) := by decide +kernel
theorem dX11_emits_35 : decode cX11_emits 35 = .ok (.iaload, 1) := by decide +kernel
theorem dX11_emits_36 : decode cX11_emits 36 = .ok (.iadd, 1) := by decide +kernel
theorem dX11_emits_37 : decode cX11_emits 37 = .ok (.iload_n 1, 1) := by decide +kernel
theorem dX11_emits_38 : decode cX11_emits 38 = .ok (.iastore, 1) := by decide +kernel
theorem dX11_emits_39 : decode cX11_emits 39 = .ok (.aload_n 0, 1) := by decide +kernel
theorem dX11_emits_40 : decode cX11_emits 40 = .ok (.getfield 9, 3) := by decide +kernel
theorem dX11_emits_43 : decode cX11_emits 43 = .ok (.sipush 326, 3) := by decide +kernel
theorem dX11_emits_46 : decode cX11_emits 46 = .ok (.aload_n 0, 1) := by decide +kernel
theorem dX11_emits_47 : decode cX11_emits 47 = .ok (.getfield 132, 3) := by decide +kernel
theorem dX11_emits_50 : decode cX11_emits 50 = .ok (.iadd, 1) := by decide +kernel
theorem dX11_emits_51 : decode cX11_emits 51 = .ok (.dup2, 1) := by decide +kernel
theorem dX11_emits_52 : decode cX11_emits 52 = .ok (.iaload, 1) := by decide +kernel
theorem dX11_emits_53 : decode cX11_emits 53 = .ok (.iconst 1, 1) := by decide +kernel
theorem dX11_emits_54 : decode cX11_emits 54 = .ok (.iadd, 1) := by decide +kernel
theorem dX11_emits_55 : decode cX11_emits 55 = .ok (.iastore, 1) := by decide +kernel
theorem dX11_emits_56 : decode cX11_emits 56 = .ok (.return_, 1) := by decide +kernel
set_option maxRecDepth 20000 in
theorem ggX11_among_J0_length_8abf5 : GoodIn wsX11_among wsJ0_length_8abf5 := goodIn_r _ [6, 7, 8, 9, 10, 5, 11, 12, 13] (by decide +kernel) (by decide +kernel)
set_option maxRecDepth 20000 in
theorem gX11_among_J0_length_8abf5 : GoodIn wsX11_among (wsV RX11 82 RJ0 yJ0_length_8abf5 wsJ0_length_8abf5) := goodIn_app (goodIn_of _ (by decide +kernel)) ggX11_among_J0_length_8abf5
set_option maxRecDepth 20000 in
theorem ggX11_among_X11_here : GoodIn wsX11_among wsX11_here := goodIn_r _ [18, 1, 19, 20, 58, 59, 60, 61, 62, 63, 64, 65, 66, 67, 68, 69, 70, 71, 72, 73, 74, 75, 76, 77, 78, 79, 80, 81, 82, 83, 84, 85, 86, 87, 88, 89, 90, 91, 92, 93, 94, 95] (by decide +kernel) (by decide +kernel)
set_option maxRecDepth 20000 in
theorem gX11_among_X11_here : GoodIn wsX11_among (wsV RX11 78 RX11 yX11_here wsX11_here) := goodIn_app (goodIn_of _ (by decide +kernel)) ggX11_among_X11_here
set_option maxRecDepth 20000 in
theorem ggX11_among_J0_charAt_5068e : GoodIn wsX11_among wsJ0_charAt_5068e := goodIn_r _ [24, 7, 25, 26, 27, 5, 28, 12, 13, 29, 30, 31, 32, 33, 34, 35, 36, 37, 38, 39, 40, 41, 42, 43, 44, 45, 46, 47, 48, 49, 50, 51, 52, 53, 54, 55, 56, 57] (by decide +kernel) (by decide +kernel)
set_option maxRecDepth 20000 in
theorem gX11_among_J0_charAt_5068e : GoodIn wsX11_among (wsV RX11 87 RJ0 yJ0_charAt_5068e wsJ0_charAt_5068e) := goodIn_app (goodIn_of _ (by decide +kernel)) ggX11_among_J0_charAt_5068e
theorem dX11_among_0 : decode cX11_among 0 = .ok (.iconst 0, 1) := by decide +kernel
theorem dX11_among_1 : decode cX11_among 1 = .ok (.istore_n 2, 1) := by decide +kernel
theorem dX11_among_2 : decode cX11_among 2 = .ok (.iload_n 2, 1) := by decide +kernel
theorem dX11_among_3 : decode cX11_among 3 = .ok (.aload_n 1, 1) := by decide +kernel
theorem dX11_among_4 : decode cX11_among 4 = .ok (.invokevirtual 82, 3) := by decide +kernel
theorem dX11_among_7 : decode cX11_among 7 = .ok (.if_icmp .ge 33, 3) := by decide +kernel
theorem dX11_among_10 : decode cX11_among 10 = .ok (.aload_n 0, 1) := by decide +kernel
theorem dX11_among_11 : decode cX11_among 11 = .ok (.invokevirtual 78, 3) := by decide +kernel
theorem dX11_among_14 : decode cX11_among 14 = .ok (.aload_n 1, 1) := by decide +kernel
theorem dX11_among_15 : decode cX11_among 15 = .ok (.iload_n 2, 1) := by decide +kernel
theorem dX11_among_16 : decode cX11_among 16 = .ok (.invokevirtual 87, 3) := by decide +kernel
theorem dX11_among_19 : decode cX11_among 19 = .ok (.if_icmp .ne 15, 3) := by decide +kernel
theorem dX11_among_22 : decode cX11_among 22 = .ok (.aload_n 0, 1) := by decide +kernel
theorem dX11_among_23 : decode cX11_among 23 = .ok (.dup, 1) := by decide +kernel
theorem dX11_among_24 : decode cX11_among 24 = .ok (.getfield 68, 3) := by decide +kernel
theorem dX11_among_27 : decode cX11_among 27 = .ok (.iconst 1, 1) := by decide +kernel
theorem dX11_among_28 : decode cX11_among 28 = .ok (.iadd, 1) := by decide +kernel
theorem dX11_among_29 : decode cX11_among 29 = .ok (.putfield 68, 3) := by decide +kernel
theorem dX11_among_32 : decode cX11_among 32 = .ok (.iload_n 2, 1) := by decide +kernel
theorem dX11_among_33 : decode cX11_among 33 = .ok (.ireturn, 1) := by decide +kernel
theorem dX11_among_34 : decode cX11_among 34 = .ok (.iinc 2 1, 3) := by decide +kernel
theorem dX11_among_37 : decode cX11_among 37 = .ok (.goto (-35), 3) := by decide +kernel
theorem dX11_among_40 : decode cX11_among 40 = .ok (.iconst (-1), 1) := by decide +kernel
theorem dX11_among_41 : decode cX11_among 41 = .ok (.ireturn, 1) := by decide +kernel
set_option maxRecDepth 20000 in
theorem ggX11_factor_X11_here : GoodIn wsX11_factor wsX11_here := goodIn_r _ [8, 3, 9, 10, 91, 92, 93, 94, 95, 96, 97, 98, 99, 100, 101, 102, 103, 104, 105, 106, 107, 108, 109, 110, 111, 112, 113, 114, 115, 116, 117, 118, 119, 120, 121, 122, 123, 124, 125, 126, 127, 128] (by decide +kernel) (by decide +kernel)
set_option maxRecDepth 20000 in
theorem gX11_factor_X11_here : GoodIn wsX11_factor (wsV RX11 78 RX11 yX11_here wsX11_here) := goodIn_app (goodIn_of _ (by decide +kernel)) ggX11_factor_X11_here
set_option maxRecDepth 20000 in
theorem ggX11_factor_X11_factor : GoodIn wsX11_factor wsX11_factor := goodIn_r _ [0, 1, 2, 3, 4, 5, 6, 7, 8, 9, 10, 11, 12, 13, 14, 15, 16, 17, 18, 19, 20, 21, 22, 23, 24, 25, 26, 27, 28, 29, 30, 31, 32, 33, 34, 35, 36, 37, 38, 39, 40, 41, 42, 43, 44, 45, 46, 47, 48, 49, 50, 51, 52, 53, 54, 55, 56, 57, 58, 59, 60, 61, 62, 63, 64, 65, 66, 67, 68, 69, 70, 71, 72, 73, 74, 75, 76, 77, 78, 79, 80, 81, 82, 83, 84, 85, 86, 87, 88, 89, 90, 91, 92, 93, 94, 95, 96, 97, 98, 99, 100, 101, 102, 103, 104, 105, 106, 107, 108, 109, 110, 111, 112, 113, 114, 115, 116, 117, 118, 119, 120, 121, 122, 123, 124, 125, 126, 127, 128] (by decide +kernel) (by decide +kernel)
set_option maxRecDepth 20000 in
theorem gX11_factor_X11_factor : GoodIn wsX11_factor (wsV RX11 135 RX11 yX11_factor wsX11_factor) := goodIn_app (goodIn_of _ (by decide +kernel)) ggX11_factor_X11_factor
set_option maxRecDepth 20000 in
theorem ggX11_factor_X11_emits : GoodIn wsX11_factor wsX11_emits := goodIn_r _ [17, 1, 10, 18, 91, 92, 93, 94, 95, 96, 97, 98, 99, 100, 101, 102, 103, 104, 105, 106, 107, 108, 109, 110, 111, 112, 113, 114, 115, 116, 117, 118, 119, 120, 121, 122, 123, 124, 125, 126, 127, 128] (by decide +kernel) (by decide +kernel)
set_option maxRecDepth 20000 in
theorem gX11_factor_X11_emits : GoodIn wsX11_factor (wsV RX11 138 RX11 yX11_emits wsX11_emits) := goodIn_app (goodIn_of _ (by decide +kernel)) ggX11_factor_X11_emits
set_option maxRecDepth 20000 in
theorem ggX11_factor_X11_some : GoodIn wsX11_factor wsX11_some := goodIn_r _ [87, 1, 3, 88, 89, 90, 7, 4, 5, 6, 8, 9, 10, 14, 15, 16, 17, 18, 86, 11, 12, 13, 0, 2, 19, 20, 21, 22, 23, 24, 25, 26, 27, 28, 29, 30, 31, 32, 33, 34, 35, 36, 37, 38, 39, 40, 41, 42, 43, 44, 45, 46, 47, 48, 49, 50, 51, 52, 53, 54, 55, 56, 57, 58, 59, 60, 61, 62, 63, 64, 65, 66, 67, 68, 69, 70, 71, 72, 73, 74, 75, 76, 77, 78, 79, 80, 81, 82, 83, 84, 85, 91, 92, 93, 94, 95, 96, 97, 98, 99, 100, 101, 102, 103, 104, 105, 106, 107, 108, 109, 110, 111, 112, 113, 114, 115, 116, 117, 118, 119, 120, 121, 122, 123, 124, 125, 126, 127, 128] (by decide +kernel) (by decide +kernel)
set_option maxRecDepth 20000 in
theorem gX11_factor_X11_some : GoodIn wsX11_factor (wsV RX11 141 RX11 yX11_some wsX11_some) := goodIn_app (goodIn_of _ (by decide +kernel)) ggX11_factor_X11_some
set_option maxRecDepth 20000 in
theorem ggX11_factor_X11_must : GoodIn wsX11_factor wsX11_must := goodIn_r _ [25, 1, 3, 4, 5, 6, 7, 8, 9, 10, 91, 92, 93, 94, 95, 96, 97, 98, 99, 100, 101, 102, 103, 104, 105, 106, 107, 108, 109, 110, 111, 112, 113, 114, 115, 116, 117, 118, 119, 120, 121, 122, 123, 124, 125, 126, 127, 128] (by decide +kernel) (by decide +kernel)
set_option maxRecDepth 20000 in
theorem gX11_factor_X11_must : GoodIn wsX11_factor (wsV RX11 91 RX11 yX11_must wsX11_must) := goodIn_app (goodIn_of _ (by decide +kernel)) ggX11_factor_X11_must
set_option maxRecDepth 20000 in
theorem ggX11_factor_X11_among : GoodIn wsX11_factor wsX11_among := goodIn_r _ [29, 3, 30, 31, 32, 33, 34, 35, 36, 37, 38, 39, 40, 41, 4, 5, 6, 7, 8, 9, 10, 42, 43, 44, 45, 46, 47, 48, 49, 50, 51, 52, 53, 54, 55, 56, 57, 58, 59, 60, 61, 62, 63, 64, 65, 66, 67, 68, 69, 70, 71, 72, 73, 74, 75, 76, 77, 78, 91, 92, 93, 94, 95, 96, 97, 98, 99, 100, 101, 102, 103, 104, 105, 106, 107, 108, 109, 110, 111, 112, 113, 114, 115, 116, 117, 118, 119, 120, 121, 122, 123, 124, 125, 126, 127, 128] (by decide +kernel) (by decide +kernel)
set_option maxRecDepth 20000 in
theorem gX11_factor_X11_among : GoodIn wsX11_factor (wsV RX11 146 RX11 yX11_among wsX11_among) := goodIn_app (goodIn_of _ (by decide +kernel)) ggX11_factor_X11_among
set_option maxRecDepth 20000 in
theorem ggX11_factor_X11_figure : GoodIn wsX11_factor wsX11_figure := goodIn_r _ [82, 1, 3, 4, 5, 6, 7, 8, 9, 10, 83, 84, 85, 91, 92, 93, 94, 95, 96, 97, 98, 99, 100, 101, 102, 103, 104, 105, 106, 107, 108, 109, 110, 111, 112, 113, 114, 115, 116, 117, 118, 119, 120, 121, 122, 123, 124, 125, 126, 127, 128] (by decide +kernel) (by decide +kernel)
set_option maxRecDepth 20000 in
theorem gX11_factor_X11_figure : GoodIn wsX11_factor (wsV RX11 104 RX11 yX11_figure wsX11_figure) := goodIn_app (goodIn_of _ (by decide +kernel)) ggX11_factor_X11_figure
theorem dX11_factor_0 : decode cX11_factor 0 = .ok (.aload_n 0, 1) := by decide +kernel
theorem dX11_factor_1 : decode cX11_factor 1 = .ok (.getfield 71, 3) := by decide +kernel
theorem dX11_factor_4 : decode cX11_factor 4 = .ok (.ifCond .eq 4, 3) := by decide +kernel
theorem dX11_factor_7 : decode cX11_factor 7 = .ok (.return_, 1) := by decide +kernel
theorem dX11_factor_8 : decode cX11_factor 8 = .ok (.aload_n 0, 1) := by decide +kernel
theorem dX11_factor_9 : decode cX11_factor 9 = .ok (.invokevirtual 78, 3) := by decide +kernel
theorem dX11_factor_12 : decode cX11_factor 12 = .ok (.istore_n 1, 1) := by decide +kernel
theorem dX11_factor_13 : decode cX11_factor 13 = .ok (.iload_n 1, 1) := by decide +kernel
theorem dX11_factor_14 : decode cX11_factor 14 = .ok (.bipush 33, 2) := by decide +kernel
theorem dX11_factor_16 : decode cX11_factor 16 = .ok (.if_icmp .eq 9, 3) := by decide +kernel
theorem dX11_factor_19 : decode cX11_factor 19 = .ok (.iload_n 1, 1) := by decide +kernel
theorem dX11_factor_20 : decode cX11_factor 20 = .ok (.bipush 40, 2) := by decide +kernel
theorem dX11_factor_22 : decode cX11_factor 22 = .ok (.if_icmp .ne 90, 3) := by decide +kernel
theorem dX11_factor_25 : decode cX11_factor 25 = .ok (.aload_n 0, 1) := by decide +kernel
theorem dX11_factor_26 : decode cX11_factor 26 = .ok (.aload_n 0, 1) := by decide +kernel
theorem dX11_factor_27 : decode cX11_factor 27 = .ok (.getfield 75, 3) := by decide +kernel
theorem dX11_factor_30 : decode cX11_factor 30 = .ok (.iconst 5, 1) := by decide +kernel
theorem dX11_factor_31 : decode cX11_factor 31 = .ok (.if_icmp .ne 7, 3) := by decide +kernel
theorem dX11_factor_34 : decode cX11_factor 34 = .ok (.iconst 1, 1) := by decide +kernel
theorem dX11_factor_35 : decode cX11_factor 35 = .ok (.goto 4, 3) := by decide +kernel
theorem dX11_factor_38 : decode cX11_factor 38 = .ok (.iconst 0, 1) := by decide +kernel
theorem dX11_factor_39 : decode cX11_factor 39 = .ok (.putfield 71, 3) := by decide +kernel
theorem dX11_factor_42 : decode cX11_factor 42 = .ok (.aload_n 0, 1) := by decide +kernel
theorem dX11_factor_43 : decode cX11_factor 43 = .ok (.dup, 1) := by decide +kernel
theorem dX11_factor_44 : decode cX11_factor 44 = .ok (.getfield 75, 3) := by decide +kernel
theorem dX11_factor_47 : decode cX11_factor 47 = .ok (.iconst 1, 1) := by decide +kernel
theorem dX11_factor_48 : decode cX11_factor 48 = .ok (.iadd, 1) := by decide +kernel
theorem dX11_factor_49 : decode cX11_factor 49 = .ok (.putfield 75, 3) := by decide +kernel
theorem dX11_factor_52 : decode cX11_factor 52 = .ok (.aload_n 0, 1) := by decide +kernel
theorem dX11_factor_53 : decode cX11_factor 53 = .ok (.dup, 1) := by decide +kernel
theorem dX11_factor_54 : decode cX11_factor 54 = .ok (.getfield 68, 3) := by decide +kernel
theorem dX11_factor_57 : decode cX11_factor 57 = .ok (.aload_n 0, 1) := by decide +kernel
theorem dX11_factor_58 : decode cX11_factor 58 = .ok (.getfield 71, 3) := by decide +kernel
theorem dX11_factor_61 : decode cX11_factor 61 = .ok (.ifCond .eq 7, 3) := by decide +kernel
theorem dX11_factor_64 : decode cX11_factor 64 = .ok (.iconst 0, 1) := by decide +kernel
theorem dX11_factor_65 : decode cX11_factor 65 = .ok (.goto 4, 3) := by decide +kernel
theorem dX11_factor_68 : decode cX11_factor 68 = .ok (.iconst 1, 1) := by decide +kernel
theorem dX11_factor_69 : decode cX11_factor 69 = .ok (.iadd, 1) := by decide +kernel
theorem dX11_factor_70 : decode cX11_factor 70 = .ok (.putfield 68, 3) := by decide +kernel
theorem dX11_factor_73 : decode cX11_factor 73 = .ok (.iload_n 1, 1) := by decide +kernel
theorem dX11_factor_74 : decode cX11_factor 74 = .ok (.bipush 33, 2) := by decide +kernel
theorem dX11_factor_76 : decode cX11_factor 76 = .ok (.if_icmp .ne 15, 3) := by decide +kernel
theorem dX11_factor_79 : decode cX11_factor 79 = .ok (.aload_n 0, 1) := by decide +kernel
theorem dX11_factor_80 : decode cX11_factor 80 = .ok (.invokevirtual 135, 3) := by decide +kernel
theorem dX11_factor_83 : decode cX11_factor 83 = .ok (.aload_n 0, 1) := by decide +kernel
theorem dX11_factor_84 : decode cX11_factor 84 = .ok (.iconst (-1), 1) := by decide +kernel
theorem dX11_factor_85 : decode cX11_factor 85 = .ok (.invokevirtual 138, 3) := by decide +kernel
theorem dX11_factor_88 : decode cX11_factor 88 = .ok (.goto 13, 3) := by decide +kernel
theorem dX11_factor_91 : decode cX11_factor 91 = .ok (.aload_n 0, 1) := by decide +kernel
theorem dX11_factor_92 : decode cX11_factor 92 = .ok (.invokevirtual 141, 3) := by decide +kernel
theorem dX11_factor_95 : decode cX11_factor 95 = .ok (.aload_n 0, 1) := by decide +kernel
theorem dX11_factor_96 : decode cX11_factor 96 = .ok (.bipush 41, 2) := by decide +kernel
theorem dX11_factor_98 : decode cX11_factor 98 = .ok (.invokevirtual 91, 3) := by decide +kernel
theorem dX11_factor_101 : decode cX11_factor 101 = .ok (.aload_n 0, 1) := by decide +kernel
theorem dX11_factor_102 : decode cX11_factor 102 = .ok (.dup, 1) := by decide +kernel
theorem dX11_factor_103 : decode cX11_factor 103 = .ok (.getfield 75, 3) := by decide +kernel
theorem dX11_factor_106 : decode cX11_factor 106 = .ok (.iconst 1, 1) := by decide +kernel
theorem dX11_factor_107 : decode cX11_factor 107 = .ok (.isub, 1) := by decide +kernel
theorem dX11_factor_108 : decode cX11_factor 108 = .ok (.putfield 75, 3) := by decide +kernel
theorem dX11_factor_111 : decode cX11_factor 111 = .ok (.return_, 1) := by decide +kernel
theorem dX11_factor_112 : decode cX11_factor 112 = .ok (.aload_n 0, 1) := by decide +kernel
theorem dX11_factor_113 : decode cX11_factor 113 = .ok (.ldc 144, 2) := by decide +kernel
theorem dX11_factor_115 : decode cX11_factor 115 = .ok (.invokevirtual 146, 3) := by decide +kernel
theorem dX11_factor_118 : decode cX11_factor 118 = .ok (.istore_n 2, 1) := by decide +kernel
theorem dX11_factor_119 : decode cX11_factor 119 = .ok (.aload_n 0, 1) := by decide +kernel
theorem dX11_factor_120 : decode cX11_factor 120 = .ok (.iload_n 2, 1) := by decide +kernel
theorem dX11_factor_121 : decode cX11_factor 121 = .ok (.iconst (-1), 1) := by decide +kernel
theorem dX11_factor_122 : decode cX11_factor 122 = .ok (.if_icmp .ne 7, 3) := by decide +kernel
theorem dX11_factor_125 : decode cX11_factor 125 = .ok (.iconst 1, 1) := by decide +kernel
theorem dX11_factor_126 : decode cX11_factor 126 = .ok (.goto 4, 3) := by decide +kernel
theorem dX11_factor_129 : decode cX11_factor 129 = .ok (.iconst 0, 1) := by decide +kernel
theorem dX11_factor_130 : decode cX11_factor 130 = .ok (.putfield 71, 3) := by decide +kernel
theorem dX11_factor_133 : decode cX11_factor 133 = .ok (.aload_n 0, 1) := by decide +kernel
theorem dX11_factor_134 : decode cX11_factor 134 = .ok (.getfield 71, 3) := by decide +kernel
theorem dX11_factor_137 : decode cX11_factor 137 = .ok (.ifCond .eq 7, 3) := by decide +kernel
theorem dX11_factor_140 : decode cX11_factor 140 = .ok (.iconst 0, 1) := by decide +kernel
theorem dX11_factor_141 : decode cX11_factor 141 = .ok (.goto 9, 3) := by decide +kernel
theorem dX11_factor_144 : decode cX11_factor 144 = .ok (.aload_n 0, 1) := by decide +kernel
theorem dX11_factor_145 : decode cX11_factor 145 = .ok (.ldc 150, 2) := by decide +kernel
theorem dX11_factor_147 : decode cX11_factor 147 = .ok (.invokevirtual 146, 3) := by decide +kernel
theorem dX11_factor_150 : decode cX11_factor 150 = .ok (.istore_n 3, 1) := by decide +kernel
theorem dX11_factor_151 : decode cX11_factor 151 = .ok (.aload_n 0, 1) := by decide +kernel
theorem dX11_factor_152 : decode cX11_factor 152 = .ok (.aload_n 0, 1) := by decide +kernel
theorem dX11_factor_153 : decode cX11_factor 153 = .ok (.getfield 71, 3) := by decide +kernel
theorem dX11_factor_156 : decode cX11_factor 156 = .ok (.ifCond .ne 8, 3) := by decide +kernel
theorem dX11_factor_159 : decode cX11_factor 159 = .ok (.iload_n 3, 1) := by decide +kernel
theorem dX11_factor_160 : decode cX11_factor 160 = .ok (.iconst (-1), 1) := by decide +kernel
theorem dX11_factor_161 : decode cX11_factor 161 = .ok (.if_icmp .ne 7, 3) := by decide +kernel
theorem dX11_factor_164 : decode cX11_factor 164 = .ok (.iconst 1, 1) := by decide +kernel
theorem dX11_factor_165 : decode cX11_factor 165 = .ok (.goto 4, 3) := by decide +kernel
theorem dX11_factor_168 : decode cX11_factor 168 = .ok (.iconst 0, 1) := by decide +kernel
theorem dX11_factor_169 : decode cX11_factor 169 = .ok (.putfield 71, 3) := by decide +kernel
theorem dX11_factor_172 : decode cX11_factor 172 = .ok (.aload_n 0, 1) := by decide +kernel
theorem dX11_factor_173 : decode cX11_factor 173 = .ok (.iconst 0, 1) := by decide +kernel
theorem dX11_factor_174 : decode cX11_factor 174 = .ok (.bipush 9, 2) := by decide +kernel
theorem dX11_factor_176 : decode cX11_factor 176 = .ok (.invokevirtual 104, 3) := by decide +kernel
theorem dX11_factor_179 : decode cX11_factor 179 = .ok (.istore 4, 2) := by decide +kernel
theorem dX11_factor_181 : decode cX11_factor 181 = .ok (.aload_n 0, 1) := by decide +kernel
theorem dX11_factor_182 : decode cX11_factor 182 = .ok (.iload_n 2, 1) := by decide +kernel
theorem dX11_factor_183 : decode cX11_factor 183 = .ok (.iconst 4, 1) := by decide +kernel
theorem dX11_factor_184 : decode cX11_factor 184 = .ok (.iload_n 3, 1) := by decide +kernel
theorem dX11_factor_185 : decode cX11_factor 185 = .ok (.imul, 1) := by decide +kernel
theorem dX11_factor_186 : decode cX11_factor 186 = .ok (.iadd, 1) := by decide +kernel
theorem dX11_factor_187 : decode cX11_factor 187 = .ok (.bipush 16, 2) := by decide +kernel
theorem dX11_factor_189 : decode cX11_factor 189 = .ok (.iload 4, 2) := by decide +kernel
theorem dX11_factor_191 : decode cX11_factor 191 = .ok (.imul, 1) := by decide +kernel
theorem dX11_factor_192 : decode cX11_factor 192 = .ok (.iadd, 1) := by decide +kernel
theorem dX11_factor_193 : decode cX11_factor 193 = .ok (.invokevirtual 138, 3) := by decide +kernel
theorem dX11_factor_196 : decode cX11_factor 196 = .ok (.return_, 1) := by decide +kernel
set_option maxRecDepth 20000 in
theorem ggX11_every_X11_factor : GoodIn wsX11_every wsX11_factor := goodIn_r _ [18, 1, 19, 2, 7, 8, 9, 6, 10, 11, 12, 3, 4, 5, 13, 14, 15, 16, 17, 20, 21, 22, 23, 24, 25, 26, 27, 28, 29, 30, 31, 32, 33, 34, 35, 36, 37, 38, 39, 40, 41, 42, 43, 44, 45, 46, 47, 48, 49, 50, 51, 52, 53, 54, 55, 56, 57, 58, 59, 60, 61, 62, 63, 64, 65, 66, 67, 68, 69, 70, 71, 72, 73, 74, 75, 76, 77, 78, 79, 80, 81, 82, 83, 84, 85, 86, 0, 87, 88, 89, 90, 91, 92, 93, 94, 95, 96, 97, 98, 99, 100, 101, 102, 103, 104, 105, 106, 107, 108, 109, 110, 111, 112, 113, 114, 115, 116, 117, 118, 119, 120, 121, 122, 123, 124, 125, 126, 127, 128] (by decide +kernel) (by decide +kernel)
set_option maxRecDepth 20000 in
theorem gX11_every_X11_factor : GoodIn wsX11_every (wsV RX11 135 RX11 yX11_factor wsX11_factor) := goodIn_app (goodIn_of _ (by decide +kernel)) ggX11_every_X11_factor
set_option maxRecDepth 20000 in
theorem ggX11_every_X11_here : GoodIn wsX11_every wsX11_here := goodIn_r _ [10, 2, 11, 12, 91, 92, 93, 94, 95, 96, 97, 98, 99, 100, 101, 102, 103, 104, 105, 106, 107, 108, 109, 110, 111, 112, 113, 114, 115, 116, 117, 118, 119, 120, 121, 122, 123, 124, 125, 126, 127, 128] (by decide +kernel) (by decide +kernel)
set_option maxRecDepth 20000 in
theorem gX11_every_X11_here : GoodIn wsX11_every (wsV RX11 78 RX11 yX11_here wsX11_here) := goodIn_app (goodIn_of _ (by decide +kernel)) ggX11_every_X11_here
set_option maxRecDepth 20000 in
theorem ggX11_every_X11_emits : GoodIn wsX11_every wsX11_emits := goodIn_r _ [16, 1, 12, 17, 91, 92, 93, 94, 95, 96, 97, 98, 99, 100, 101, 102, 103, 104, 105, 106, 107, 108, 109, 110, 111, 112, 113, 114, 115, 116, 117, 118, 119, 120, 121, 122, 123, 124, 125, 126, 127, 128] (by decide +kernel) (by decide +kernel)
set_option maxRecDepth 20000 in
theorem gX11_every_X11_emits : GoodIn wsX11_every (wsV RX11 138 RX11 yX11_emits wsX11_emits) := goodIn_app (goodIn_of _ (by decide +kernel)) ggX11_every_X11_emits
theorem dX11_every_0 : decode cX11_every 0 = .ok (.aload_n 0, 1) := by decide +kernel
theorem dX11_every_1 : decode cX11_every 1 = .ok (.invokevirtual 135, 3) := by decide +kernel
theorem dX11_every_4 : decode cX11_every 4 = .ok (.aload_n 0, 1) := by decide +kernel
theorem dX11_every_5 : decode cX11_every 5 = .ok (.getfield 71, 3) := by decide +kernel
theorem dX11_every_8 : decode cX11_every 8 = .ok (.ifCond .ne 35, 3) := by decide +kernel
theorem dX11_every_11 : decode cX11_every 11 = .ok (.aload_n 0, 1) := by decide +kernel
theorem dX11_every_12 : decode cX11_every 12 = .ok (.invokevirtual 78, 3) := by decide +kernel
theorem dX11_every_15 : decode cX11_every 15 = .ok (.bipush 38, 2) := by decide +kernel
theorem dX11_every_17 : decode cX11_every 17 = .ok (.if_icmp .ne 26, 3) := by decide +kernel
theorem dX11_every_20 : decode cX11_every 20 = .ok (.aload_n 0, 1) := by decide +kernel
theorem dX11_every_21 : decode cX11_every 21 = .ok (.dup, 1) := by decide +kernel
theorem dX11_every_22 : decode cX11_every 22 = .ok (.getfield 68, 3) := by decide +kernel
theorem dX11_every_25 : decode cX11_every 25 = .ok (.iconst 1, 1) := by decide +kernel
theorem dX11_every_26 : decode cX11_every 26 = .ok (.iadd, 1) := by decide +kernel
theorem dX11_every_27 : decode cX11_every 27 = .ok (.putfield 68, 3) := by decide +kernel
theorem dX11_every_30 : decode cX11_every 30 = .ok (.aload_n 0, 1) := by decide +kernel
theorem dX11_every_31 : decode cX11_every 31 = .ok (.invokevirtual 135, 3) := by decide +kernel
theorem dX11_every_34 : decode cX11_every 34 = .ok (.aload_n 0, 1) := by decide +kernel
theorem dX11_every_35 : decode cX11_every 35 = .ok (.bipush (-2), 2) := by decide +kernel
theorem dX11_every_37 : decode cX11_every 37 = .ok (.invokevirtual 138, 3) := by decide +kernel
theorem dX11_every_40 : decode cX11_every 40 = .ok (.goto (-36), 3) := by decide +kernel
theorem dX11_every_43 : decode cX11_every 43 = .ok (.return_, 1) := by decide +kernel
set_option maxRecDepth 20000 in
theorem ggX11_some_X11_every : GoodIn wsX11_some wsX11_every := goodIn_r _ [18, 1, 2, 19, 20, 21, 6, 7, 8, 9, 10, 11, 12, 13, 14, 15, 16, 17, 22, 23, 24, 25, 26, 27, 28, 29, 30, 31, 32, 33, 34, 35, 36, 37, 38, 39, 40, 41, 42, 43, 44, 45, 46, 47, 48, 49, 50, 51, 52, 53, 54, 55, 56, 57, 58, 59, 60, 61, 62, 63, 64, 65, 66, 67, 68, 69, 70, 71, 72, 73, 74, 75, 76, 77, 78, 79, 80, 81, 82, 83, 84, 85, 86, 87, 88, 89, 90, 0, 3, 4, 5, 91, 92, 93, 94, 95, 96, 97, 98, 99, 100, 101, 102, 103, 104, 105, 106, 107, 108, 109, 110, 111, 112, 113, 114, 115, 116, 117, 118, 119, 120, 121, 122, 123, 124, 125, 126, 127, 128] (by decide +kernel) (by decide +kernel)
set_option maxRecDepth 20000 in
theorem gX11_some_X11_every : GoodIn wsX11_some (wsV RX11 152 RX11 yX11_every wsX11_every) := goodIn_app (goodIn_of _ (by decide +kernel)) ggX11_some_X11_every
set_option maxRecDepth 20000 in
theorem ggX11_some_X11_here : GoodIn wsX11_some wsX11_here := goodIn_r _ [10, 2, 11, 12, 91, 92, 93, 94, 95, 96, 97, 98, 99, 100, 101, 102, 103, 104, 105, 106, 107, 108, 109, 110, 111, 112, 113, 114, 115, 116, 117, 118, 119, 120, 121, 122, 123, 124, 125, 126, 127, 128] (by decide +kernel) (by decide +kernel)
set_option maxRecDepth 20000 in
theorem gX11_some_X11_here : GoodIn wsX11_some (wsV RX11 78 RX11 yX11_here wsX11_here) := goodIn_app (goodIn_of _ (by decide +kernel)) ggX11_some_X11_here
set_option maxRecDepth 20000 in
theorem ggX11_some_X11_emits : GoodIn wsX11_some wsX11_emits := goodIn_r _ [16, 1, 12, 17, 91, 92, 93, 94, 95, 96, 97, 98, 99, 100, 101, 102, 103, 104, 105, 106, 107, 108, 109, 110, 111, 112, 113, 114, 115, 116, 117, 118, 119, 120, 121, 122, 123, 124, 125, 126, 127, 128] (by decide +kernel) (by decide +kernel)
set_option maxRecDepth 20000 in
theorem gX11_some_X11_emits : GoodIn wsX11_some (wsV RX11 138 RX11 yX11_emits wsX11_emits) := goodIn_app (goodIn_of _ (by decide +kernel)) ggX11_some_X11_emits
theorem dX11_some_0 : decode cX11_some 0 = .ok (.aload_n 0, 1) := by decide +kernel
theorem dX11_some_1 : decode cX11_some 1 = .ok (.invokevirtual 152, 3) := by decide +kernel
theorem dX11_some_4 : decode cX11_some 4 = .ok (.aload_n 0, 1) := by decide +kernel
theorem dX11_some_5 : decode cX11_some 5 = .ok (.getfield 71, 3) := by decide +kernel
theorem dX11_some_8 : decode cX11_some 8 = .ok (.ifCond .ne 35, 3) := by decide +kernel
theorem dX11_some_11 : decode cX11_some 11 = .ok (.aload_n 0, 1) := by decide +kernel
theorem dX11_some_12 : decode cX11_some 12 = .ok (.invokevirtual 78, 3) := by decide +kernel
theorem dX11_some_15 : decode cX11_some 15 = .ok (.bipush 124, 2) := by decide +kernel
theorem dX11_some_17 : decode cX11_some 17 = .ok (.if_icmp .ne 26, 3) := by decide +kernel
theorem dX11_some_20 : decode cX11_some 20 = .ok (.aload_n 0, 1) := by decide +kernel
theorem dX11_some_21 : decode cX11_some 21 = .ok (.dup, 1) := by decide +kernel
theorem dX11_some_22 : decode cX11_some 22 = .ok (.getfield 68, 3) := by decide +kernel
theorem dX11_some_25 : decode cX11_some 25 = .ok (.iconst 1, 1) := by decide +kernel
theorem dX11_some_26 : decode cX11_some 26 = .ok (.iadd, 1) := by decide +kernel
theorem dX11_some_27 : decode cX11_some 27 = .ok (.putfield 68, 3) := by decide +kernel
theorem dX11_some_30 : decode cX11_some 30 = .ok (.aload_n 0, 1) := by decide +kernel
theorem dX11_some_31 : decode cX11_some 31 = .ok (.invokevirtual 152, 3) := by decide +kernel
theorem dX11_some_34 : decode cX11_some 34 = .ok (.aload_n 0, 1) := by decide +kernel
theorem dX11_some_35 : decode cX11_some 35 = .ok (.bipush (-3), 2) := by decide +kernel
theorem dX11_some_37 : decode cX11_some 37 = .ok (.invokevirtual 138, 3) := by decide +kernel
theorem dX11_some_40 : decode cX11_some 40 = .ok (.goto (-36), 3) := by decide +kernel
theorem dX11_some_43 : decode cX11_some 43 = .ok (.return_, 1) := by decide +kernel
set_option maxRecDepth 20000 in
theorem ggX11_lineHere_X11_figure : GoodIn wsX11_lineHere wsX11_figure := goodIn_r _ [8, 3, 9, 10, 11, 12, 7, 13, 14, 2, 15, 16, 17, 96, 97, 98, 99, 100, 101, 102, 103, 104, 105, 106, 107, 108, 109, 110, 111, 112, 113, 114, 115, 116, 117, 118, 119, 120, 121, 122, 123, 124, 125, 126, 127, 128, 129, 130, 131, 132, 133] (by decide +kernel) (by decide +kernel)
set_option maxRecDepth 20000 in
theorem gX11_lineHere_X11_figure : GoodIn wsX11_lineHere (wsV RX11 104 RX11 yX11_figure wsX11_figure) := goodIn_app (goodIn_of _ (by decide +kernel)) ggX11_lineHere_X11_figure
set_option maxRecDepth 20000 in
theorem ggX11_lineHere_X11_spells : GoodIn wsX11_lineHere wsX11_spells := goodIn_r _ [21, 22, 23, 24, 25, 26, 27, 28, 29, 30, 31, 32, 33, 34, 35, 36, 37, 38, 39, 40, 41, 42, 43, 44, 45, 46, 47, 48, 49, 50, 51, 52, 53, 54, 55, 56, 57, 58, 59, 60, 61, 62, 63, 64, 65, 66, 67, 68, 69, 70, 71, 72, 73, 7, 74, 3, 9, 10, 11, 12, 13, 14, 2, 96, 97, 98, 99, 100, 101, 102, 103, 104, 105, 106, 107, 108, 109, 110, 111, 112, 113, 114, 115, 116, 117, 118, 119, 120, 121, 122, 123, 124, 125, 126, 127, 128, 129, 130, 131, 132, 133] (by decide +kernel) (by decide +kernel)
set_option maxRecDepth 20000 in
theorem gX11_lineHere_X11_spells : GoodIn wsX11_lineHere (wsV RX11 100 RX11 yX11_spells wsX11_spells) := goodIn_app (goodIn_of _ (by decide +kernel)) ggX11_lineHere_X11_spells
set_option maxRecDepth 20000 in
theorem ggX11_lineHere_X11_some : GoodIn wsX11_lineHere wsX11_some := goodIn_r _ [78, 3, 9, 79, 80, 81, 7, 10, 11, 12, 13, 14, 2, 82, 83, 84, 85, 1, 86, 87, 88, 89, 90, 91, 75, 76, 77, 71, 72, 73, 74, 92, 93, 94, 95, 22, 23, 24, 25, 26, 27, 28, 29, 30, 31, 32, 33, 34, 35, 36, 37, 38, 39, 40, 41, 42, 43, 44, 45, 46, 47, 48, 49, 50, 51, 52, 53, 54, 55, 56, 57, 58, 59, 60, 61, 62, 63, 64, 65, 66, 67, 68, 69, 70, 4, 5, 6, 8, 15, 16, 17, 96, 97, 98, 99, 100, 101, 102, 103, 104, 105, 106, 107, 108, 109, 110, 111, 112, 113, 114, 115, 116, 117, 118, 119, 120, 121, 122, 123, 124, 125, 126, 127, 128, 129, 130, 131, 132, 133] (by decide +kernel) (by decide +kernel)
set_option maxRecDepth 20000 in
theorem gX11_lineHere_X11_some : GoodIn wsX11_lineHere (wsV RX11 141 RX11 yX11_some wsX11_some) := goodIn_app (goodIn_of _ (by decide +kernel)) ggX11_lineHere_X11_some
theorem dX11_lineHere_0 : decode cX11_lineHere 0 = .ok (.bipush 6, 2) := by decide +kernel
theorem dX11_lineHere_2 : decode cX11_lineHere 2 = .ok (.aload_n 0, 1) := by decide +kernel
theorem dX11_lineHere_3 : decode cX11_lineHere 3 = .ok (.getfield 132, 3) := by decide +kernel
theorem dX11_lineHere_6 : decode cX11_lineHere 6 = .ok (.imul, 1) := by decide +kernel
theorem dX11_lineHere_7 : decode cX11_lineHere 7 = .ok (.aload_n 0, 1) := by decide +kernel
theorem dX11_lineHere_8 : decode cX11_lineHere 8 = .ok (.getfield 9, 3) := by decide +kernel
theorem dX11_lineHere_11 : decode cX11_lineHere 11 = .ok (.sipush 174, 3) := by decide +kernel
theorem dX11_lineHere_14 : decode cX11_lineHere 14 = .ok (.aload_n 0, 1) := by decide +kernel
theorem dX11_lineHere_15 : decode cX11_lineHere 15 = .ok (.getfield 132, 3) := by decide +kernel
theorem dX11_lineHere_18 : decode cX11_lineHere 18 = .ok (.iadd, 1) := by decide +kernel
theorem dX11_lineHere_19 : decode cX11_lineHere 19 = .ok (.iaload, 1) := by decide +kernel
theorem dX11_lineHere_20 : decode cX11_lineHere 20 = .ok (.iadd, 1) := by decide +kernel
theorem dX11_lineHere_21 : decode cX11_lineHere 21 = .ok (.istore_n 1, 1) := by decide +kernel
theorem dX11_lineHere_22 : decode cX11_lineHere 22 = .ok (.aload_n 0, 1) := by decide +kernel
theorem dX11_lineHere_23 : decode cX11_lineHere 23 = .ok (.getfield 9, 3) := by decide +kernel
theorem dX11_lineHere_26 : decode cX11_lineHere 26 = .ok (.sipush 182, 3) := by decide +kernel
theorem dX11_lineHere_29 : decode cX11_lineHere 29 = .ok (.iload_n 1, 1) := by decide +kernel
theorem dX11_lineHere_30 : decode cX11_lineHere 30 = .ok (.iadd, 1) := by decide +kernel
theorem dX11_lineHere_31 : decode cX11_lineHere 31 = .ok (.aload_n 0, 1) := by decide +kernel
theorem dX11_lineHere_32 : decode cX11_lineHere 32 = .ok (.iconst 0, 1) := by decide +kernel
theorem dX11_lineHere_33 : decode cX11_lineHere 33 = .ok (.iconst 3, 1) := by decide +kernel
theorem dX11_lineHere_34 : decode cX11_lineHere 34 = .ok (.invokevirtual 104, 3) := by decide +kernel
theorem dX11_lineHere_37 : decode cX11_lineHere 37 = .ok (.iastore, 1) := by decide +kernel
theorem dX11_lineHere_38 : decode cX11_lineHere 38 = .ok (.aload_n 0, 1) := by decide +kernel
theorem dX11_lineHere_39 : decode cX11_lineHere 39 = .ok (.ldc 155, 2) := by decide +kernel
theorem dX11_lineHere_41 : decode cX11_lineHere 41 = .ok (.invokevirtual 100, 3) := by decide +kernel
theorem dX11_lineHere_44 : decode cX11_lineHere 44 = .ok (.aload_n 0, 1) := by decide +kernel
theorem dX11_lineHere_45 : decode cX11_lineHere 45 = .ok (.getfield 9, 3) := by decide +kernel
theorem dX11_lineHere_48 : decode cX11_lineHere 48 = .ok (.sipush 230, 3) := by decide +kernel
theorem dX11_lineHere_51 : decode cX11_lineHere 51 = .ok (.iload_n 1, 1) := by decide +kernel
theorem dX11_lineHere_52 : decode cX11_lineHere 52 = .ok (.iadd, 1) := by decide +kernel
theorem dX11_lineHere_53 : decode cX11_lineHere 53 = .ok (.aload_n 0, 1) := by decide +kernel
theorem dX11_lineHere_54 : decode cX11_lineHere 54 = .ok (.getfield 9, 3) := by decide +kernel
theorem dX11_lineHere_57 : decode cX11_lineHere 57 = .ok (.sipush 326, 3) := by decide +kernel
theorem dX11_lineHere_60 : decode cX11_lineHere 60 = .ok (.aload_n 0, 1) := by decide +kernel
theorem dX11_lineHere_61 : decode cX11_lineHere 61 = .ok (.getfield 132, 3) := by decide +kernel
theorem dX11_lineHere_64 : decode cX11_lineHere 64 = .ok (.iadd, 1) := by decide +kernel
theorem dX11_lineHere_65 : decode cX11_lineHere 65 = .ok (.iaload, 1) := by decide +kernel
theorem dX11_lineHere_66 : decode cX11_lineHere 66 = .ok (.iastore, 1) := by decide +kernel
theorem dX11_lineHere_67 : decode cX11_lineHere 67 = .ok (.aload_n 0, 1) := by decide +kernel
theorem dX11_lineHere_68 : decode cX11_lineHere 68 = .ok (.invokevirtual 141, 3) := by decide +kernel
theorem dX11_lineHere_71 : decode cX11_lineHere 71 = .ok (.aload_n 0, 1) := by decide +kernel
theorem dX11_lineHere_72 : decode cX11_lineHere 72 = .ok (.getfield 9, 3) := by decide +kernel
theorem dX11_lineHere_75 : decode cX11_lineHere 75 = .ok (.sipush 278, 3) := by decide +kernel
theorem dX11_lineHere_78 : decode cX11_lineHere 78 = .ok (.iload_n 1, 1) := by decide +kernel
theorem dX11_lineHere_79 : decode cX11_lineHere 79 = .ok (.iadd, 1) := by decide +kernel
theorem dX11_lineHere_80 : decode cX11_lineHere 80 = .ok (.aload_n 0, 1) := by decide +kernel
theorem dX11_lineHere_81 : decode cX11_lineHere 81 = .ok (.getfield 9, 3) := by decide +kernel
theorem dX11_lineHere_84 : decode cX11_lineHere 84 = .ok (.sipush 326, 3) := by decide +kernel
theorem dX11_lineHere_87 : decode cX11_lineHere 87 = .ok (.aload_n 0, 1) := by decide +kernel
theorem dX11_lineHere_88 : decode cX11_lineHere 88 = .ok (.getfield 132, 3) := by decide +kernel
theorem dX11_lineHere_91 : decode cX11_lineHere 91 = .ok (.iadd, 1) := by decide +kernel
theorem dX11_lineHere_92 : decode cX11_lineHere 92 = .ok (.iaload, 1) := by decide +kernel
theorem dX11_lineHere_93 : decode cX11_lineHere 93 = .ok (.iastore, 1) := by decide +kernel
theorem dX11_lineHere_94 : decode cX11_lineHere 94 = .ok (.aload_n 0, 1) := by decide +kernel
theorem dX11_lineHere_95 : decode cX11_lineHere 95 = .ok (.getfield 9, 3) := by decide +kernel
theorem dX11_lineHere_98 : decode cX11_lineHere 98 = .ok (.sipush 174, 3) := by decide +kernel
theorem dX11_lineHere_101 : decode cX11_lineHere 101 = .ok (.aload_n 0, 1) := by decide +kernel
theorem dX11_lineHere_102 : decode cX11_lineHere 102 = .ok (.getfield 132, 3) := by decide +kernel
theorem dX11_lineHere_105 : decode cX11_lineHere 105 = .ok (.iadd, 1) := by decide +kernel
theorem dX11_lineHere_106 : decode cX11_lineHere 106 = .ok (.dup2, 1) := by decide +kernel
theorem dX11_lineHere_107 : decode cX11_lineHere 107 = .ok (.iaload, 1) := by decide +kernel
theorem dX11_lineHere_108 : decode cX11_lineHere 108 = .ok (.aload_n 0, 1) := by decide +kernel
theorem dX11_lineHere_109 : decode cX11_lineHere 109 = .ok (.getfield 71, 3) := by decide +kernel
theorem dX11_lineHere_112 : decode cX11_lineHere 112 = .ok (.ifCond .eq 7, 3) := by decide +kernel
theorem dX11_lineHere_115 : decode cX11_lineHere 115 = .ok (.iconst 0, 1) := by decide +kernel
theorem dX11_lineHere_116 : decode cX11_lineHere 116 = .ok (.goto 4, 3) := by decide +kernel
theorem dX11_lineHere_119 : decode cX11_lineHere 119 = .ok (.iconst 1, 1) := by decide +kernel
theorem dX11_lineHere_120 : decode cX11_lineHere 120 = .ok (.iadd, 1) := by decide +kernel
theorem dX11_lineHere_121 : decode cX11_lineHere 121 = .ok (.iastore, 1) := by decide +kernel
theorem dX11_lineHere_122 : decode cX11_lineHere 122 = .ok (.return_, 1) := by decide +kernel
set_option maxRecDepth 20000 in
theorem ggX11_card_X11_in : GoodIn wsX11_card wsX11_in := goodIn_r _ [9] (by decide +kernel) (by decide +kernel)
set_option maxRecDepth 20000 in
theorem gX11_card_X11_in : GoodIn wsX11_card (va_wsS RX11 59 yX11_in wsX11_in) := goodIn_app (goodIn_of _ (by decide +kernel)) ggX11_card_X11_in
set_option maxRecDepth 20000 in
theorem ggX11_card_X11_starts : GoodIn wsX11_card wsX11_starts := goodIn_r _ [13, 1, 5, 4, 3, 14, 104, 105, 106, 107, 108, 109, 110, 111, 112, 113, 114, 115, 116, 117, 118, 119, 120, 121, 122, 123, 124, 125, 126, 127, 128, 129, 130, 131, 132, 133, 134, 135, 136, 137, 138, 139, 140, 141] (by decide +kernel) (by decide +kernel)
set_option maxRecDepth 20000 in
theorem gX11_card_X11_starts : GoodIn wsX11_card (wsV RX11 126 RX11 yX11_starts wsX11_starts) := goodIn_app (goodIn_of _ (by decide +kernel)) ggX11_card_X11_starts
set_option maxRecDepth 20000 in
theorem ggX11_card_X11_lineHere : GoodIn wsX11_card wsX11_lineHere := goodIn_r _ [18, 2, 1, 3, 19, 20, 21, 8, 22, 4, 23, 24, 25, 26, 5, 6, 7, 9, 27, 28, 29, 30, 31, 32, 33, 34, 35, 36, 37, 38, 39, 40, 41, 42, 43, 44, 45, 46, 47, 48, 49, 50, 51, 52, 53, 54, 55, 56, 57, 58, 59, 60, 61, 62, 63, 64, 65, 66, 67, 68, 69, 70, 71, 72, 73, 74, 75, 76, 77, 78, 79, 80, 81, 82, 83, 84, 85, 86, 87, 88, 89, 90, 91, 92, 93, 94, 95, 96, 97, 98, 99, 14, 100, 101, 102, 103, 104, 105, 106, 107, 108, 109, 110, 111, 112, 113, 114, 115, 116, 117, 118, 119, 120, 121, 122, 123, 124, 125, 126, 127, 128, 129, 130, 131, 132, 133, 134, 135, 136, 137, 138, 139, 140, 141] (by decide +kernel) (by decide +kernel)
set_option maxRecDepth 20000 in
theorem gX11_card_X11_lineHere : GoodIn wsX11_card (wsV RX11 157 RX11 yX11_lineHere wsX11_lineHere) := goodIn_app (goodIn_of _ (by decide +kernel)) ggX11_card_X11_lineHere
set_option maxRecDepth 20000 in
theorem ggX11_card_X11_here : GoodIn wsX11_card wsX11_here := goodIn_r _ [26, 4, 5, 1, 104, 105, 106, 107, 108, 109, 110, 111, 112, 113, 114, 115, 116, 117, 118, 119, 120, 121, 122, 123, 124, 125, 126, 127, 128, 129, 130, 131, 132, 133, 134, 135, 136, 137, 138, 139, 140, 141] (by decide +kernel) (by decide +kernel)
set_option maxRecDepth 20000 in
theorem gX11_card_X11_here : GoodIn wsX11_card (wsV RX11 78 RX11 yX11_here wsX11_here) := goodIn_app (goodIn_of _ (by decide +kernel)) ggX11_card_X11_here
theorem dX11_card_0 : decode cX11_card 0 = .ok (.iload_n 1, 1) := by decide +kernel
theorem dX11_card_1 : decode cX11_card 1 = .ok (.iconst 0, 1) := by decide +kernel
theorem dX11_card_2 : decode cX11_card 2 = .ok (.bipush 6, 2) := by decide +kernel
theorem dX11_card_4 : decode cX11_card 4 = .ok (.invokestatic 59, 3) := by decide +kernel
theorem dX11_card_7 : decode cX11_card 7 = .ok (.ifCond .ne 5, 3) := by decide +kernel
theorem dX11_card_10 : decode cX11_card 10 = .ok (.iconst (-1), 1) := by decide +kernel
theorem dX11_card_11 : decode cX11_card 11 = .ok (.ireturn, 1) := by decide +kernel
theorem dX11_card_12 : decode cX11_card 12 = .ok (.iload_n 2, 1) := by decide +kernel
theorem dX11_card_13 : decode cX11_card 13 = .ok (.iconst 0, 1) := by decide +kernel
theorem dX11_card_14 : decode cX11_card 14 = .ok (.iconst 3, 1) := by decide +kernel
theorem dX11_card_15 : decode cX11_card 15 = .ok (.invokestatic 59, 3) := by decide +kernel
theorem dX11_card_18 : decode cX11_card 18 = .ok (.ifCond .ne 6, 3) := by decide +kernel
theorem dX11_card_21 : decode cX11_card 21 = .ok (.bipush (-2), 2) := by decide +kernel
theorem dX11_card_23 : decode cX11_card 23 = .ok (.ireturn, 1) := by decide +kernel
theorem dX11_card_24 : decode cX11_card 24 = .ok (.aload_n 0, 1) := by decide +kernel
theorem dX11_card_25 : decode cX11_card 25 = .ok (.getfield 9, 3) := by decide +kernel
theorem dX11_card_28 : decode cX11_card 28 = .ok (.iconst 5, 1) := by decide +kernel
theorem dX11_card_29 : decode cX11_card 29 = .ok (.iaload, 1) := by decide +kernel
theorem dX11_card_30 : decode cX11_card 30 = .ok (.bipush 8, 2) := by decide +kernel
theorem dX11_card_32 : decode cX11_card 32 = .ok (.if_icmp .ne 6, 3) := by decide +kernel
theorem dX11_card_35 : decode cX11_card 35 = .ok (.bipush (-4), 2) := by decide +kernel
theorem dX11_card_37 : decode cX11_card 37 = .ok (.ireturn, 1) := by decide +kernel
theorem dX11_card_38 : decode cX11_card 38 = .ok (.aload_n 0, 1) := by decide +kernel
theorem dX11_card_39 : decode cX11_card 39 = .ok (.aload_n 0, 1) := by decide +kernel
theorem dX11_card_40 : decode cX11_card 40 = .ok (.getfield 9, 3) := by decide +kernel
theorem dX11_card_43 : decode cX11_card 43 = .ok (.iconst 5, 1) := by decide +kernel
theorem dX11_card_44 : decode cX11_card 44 = .ok (.iaload, 1) := by decide +kernel
theorem dX11_card_45 : decode cX11_card 45 = .ok (.putfield 132, 3) := by decide +kernel
theorem dX11_card_48 : decode cX11_card 48 = .ok (.aload_n 0, 1) := by decide +kernel
theorem dX11_card_49 : decode cX11_card 49 = .ok (.invokevirtual 126, 3) := by decide +kernel
theorem dX11_card_52 : decode cX11_card 52 = .ok (.aload_n 0, 1) := by decide +kernel
theorem dX11_card_53 : decode cX11_card 53 = .ok (.getfield 9, 3) := by decide +kernel
theorem dX11_card_56 : decode cX11_card 56 = .ok (.sipush 158, 3) := by decide +kernel
theorem dX11_card_59 : decode cX11_card 59 = .ok (.aload_n 0, 1) := by decide +kernel
theorem dX11_card_60 : decode cX11_card 60 = .ok (.getfield 132, 3) := by decide +kernel
theorem dX11_card_63 : decode cX11_card 63 = .ok (.iadd, 1) := by decide +kernel
theorem dX11_card_64 : decode cX11_card 64 = .ok (.iload_n 1, 1) := by decide +kernel
theorem dX11_card_65 : decode cX11_card 65 = .ok (.iastore, 1) := by decide +kernel
theorem dX11_card_66 : decode cX11_card 66 = .ok (.aload_n 0, 1) := by decide +kernel
theorem dX11_card_67 : decode cX11_card 67 = .ok (.getfield 9, 3) := by decide +kernel
theorem dX11_card_70 : decode cX11_card 70 = .ok (.sipush 166, 3) := by decide +kernel
theorem dX11_card_73 : decode cX11_card 73 = .ok (.aload_n 0, 1) := by decide +kernel
theorem dX11_card_74 : decode cX11_card 74 = .ok (.getfield 132, 3) := by decide +kernel
theorem dX11_card_77 : decode cX11_card 77 = .ok (.iadd, 1) := by decide +kernel
theorem dX11_card_78 : decode cX11_card 78 = .ok (.iload_n 2, 1) := by decide +kernel
theorem dX11_card_79 : decode cX11_card 79 = .ok (.iastore, 1) := by decide +kernel
theorem dX11_card_80 : decode cX11_card 80 = .ok (.aload_n 0, 1) := by decide +kernel
theorem dX11_card_81 : decode cX11_card 81 = .ok (.getfield 9, 3) := by decide +kernel
theorem dX11_card_84 : decode cX11_card 84 = .ok (.sipush 174, 3) := by decide +kernel
theorem dX11_card_87 : decode cX11_card 87 = .ok (.aload_n 0, 1) := by decide +kernel
theorem dX11_card_88 : decode cX11_card 88 = .ok (.getfield 132, 3) := by decide +kernel
theorem dX11_card_91 : decode cX11_card 91 = .ok (.iadd, 1) := by decide +kernel
theorem dX11_card_92 : decode cX11_card 92 = .ok (.iconst 0, 1) := by decide +kernel
theorem dX11_card_93 : decode cX11_card 93 = .ok (.iastore, 1) := by decide +kernel
theorem dX11_card_94 : decode cX11_card 94 = .ok (.aload_n 0, 1) := by decide +kernel
theorem dX11_card_95 : decode cX11_card 95 = .ok (.getfield 9, 3) := by decide +kernel
theorem dX11_card_98 : decode cX11_card 98 = .ok (.sipush 326, 3) := by decide +kernel
theorem dX11_card_101 : decode cX11_card 101 = .ok (.aload_n 0, 1) := by decide +kernel
theorem dX11_card_102 : decode cX11_card 102 = .ok (.getfield 132, 3) := by decide +kernel
theorem dX11_card_105 : decode cX11_card 105 = .ok (.iadd, 1) := by decide +kernel
theorem dX11_card_106 : decode cX11_card 106 = .ok (.iconst 0, 1) := by decide +kernel
theorem dX11_card_107 : decode cX11_card 107 = .ok (.iastore, 1) := by decide +kernel
theorem dX11_card_108 : decode cX11_card 108 = .ok (.aload_n 0, 1) := by decide +kernel
theorem dX11_card_109 : decode cX11_card 109 = .ok (.invokevirtual 157, 3) := by decide +kernel
theorem dX11_card_112 : decode cX11_card 112 = .ok (.aload_n 0, 1) := by decide +kernel
theorem dX11_card_113 : decode cX11_card 113 = .ok (.getfield 71, 3) := by decide +kernel
theorem dX11_card_116 : decode cX11_card 116 = .ok (.ifCond .ne 47, 3) := by decide +kernel
theorem dX11_card_119 : decode cX11_card 119 = .ok (.aload_n 0, 1) := by decide +kernel
theorem dX11_card_120 : decode cX11_card 120 = .ok (.getfield 9, 3) := by decide +kernel
theorem dX11_card_123 : decode cX11_card 123 = .ok (.sipush 174, 3) := by decide +kernel
theorem dX11_card_126 : decode cX11_card 126 = .ok (.aload_n 0, 1) := by decide +kernel
theorem dX11_card_127 : decode cX11_card 127 = .ok (.getfield 132, 3) := by decide +kernel
theorem dX11_card_130 : decode cX11_card 130 = .ok (.iadd, 1) := by decide +kernel
theorem dX11_card_131 : decode cX11_card 131 = .ok (.iaload, 1) := by decide +kernel
theorem dX11_card_132 : decode cX11_card 132 = .ok (.bipush 6, 2) := by decide +kernel
theorem dX11_card_134 : decode cX11_card 134 = .ok (.if_icmp .ge 29, 3) := by decide +kernel
theorem dX11_card_137 : decode cX11_card 137 = .ok (.aload_n 0, 1) := by decide +kernel
theorem dX11_card_138 : decode cX11_card 138 = .ok (.invokevirtual 78, 3) := by decide +kernel
theorem dX11_card_141 : decode cX11_card 141 = .ok (.bipush 59, 2) := by decide +kernel
theorem dX11_card_143 : decode cX11_card 143 = .ok (.if_icmp .ne 20, 3) := by decide +kernel
theorem dX11_card_146 : decode cX11_card 146 = .ok (.aload_n 0, 1) := by decide +kernel
theorem dX11_card_147 : decode cX11_card 147 = .ok (.dup, 1) := by decide +kernel
theorem dX11_card_148 : decode cX11_card 148 = .ok (.getfield 68, 3) := by decide +kernel
theorem dX11_card_151 : decode cX11_card 151 = .ok (.iconst 1, 1) := by decide +kernel
theorem dX11_card_152 : decode cX11_card 152 = .ok (.iadd, 1) := by decide +kernel
theorem dX11_card_153 : decode cX11_card 153 = .ok (.putfield 68, 3) := by decide +kernel
theorem dX11_card_156 : decode cX11_card 156 = .ok (.aload_n 0, 1) := by decide +kernel
theorem dX11_card_157 : decode cX11_card 157 = .ok (.invokevirtual 157, 3) := by decide +kernel
theorem dX11_card_160 : decode cX11_card 160 = .ok (.goto (-48), 3) := by decide +kernel
theorem dX11_card_163 : decode cX11_card 163 = .ok (.aload_n 0, 1) := by decide +kernel
theorem dX11_card_164 : decode cX11_card 164 = .ok (.getfield 71, 3) := by decide +kernel
theorem dX11_card_167 : decode cX11_card 167 = .ok (.ifCond .ne 14, 3) := by decide +kernel
theorem dX11_card_170 : decode cX11_card 170 = .ok (.aload_n 0, 1) := by decide +kernel
theorem dX11_card_171 : decode cX11_card 171 = .ok (.getfield 68, 3) := by decide +kernel
theorem dX11_card_174 : decode cX11_card 174 = .ok (.aload_n 0, 1) := by decide +kernel
theorem dX11_card_175 : decode cX11_card 175 = .ok (.getfield 65, 3) := by decide +kernel
theorem dX11_card_178 : decode cX11_card 178 = .ok (.if_icmp .eq 11, 3) := by decide +kernel
theorem dX11_card_181 : decode cX11_card 181 = .ok (.bipush (-10), 2) := by decide +kernel
theorem dX11_card_183 : decode cX11_card 183 = .ok (.aload_n 0, 1) := by decide +kernel
theorem dX11_card_184 : decode cX11_card 184 = .ok (.getfield 68, 3) := by decide +kernel
theorem dX11_card_187 : decode cX11_card 187 = .ok (.isub, 1) := by decide +kernel
theorem dX11_card_188 : decode cX11_card 188 = .ok (.ireturn, 1) := by decide +kernel
theorem dX11_card_189 : decode cX11_card 189 = .ok (.aload_n 0, 1) := by decide +kernel
theorem dX11_card_190 : decode cX11_card 190 = .ok (.getfield 9, 3) := by decide +kernel
theorem dX11_card_193 : decode cX11_card 193 = .ok (.iconst 5, 1) := by decide +kernel
theorem dX11_card_194 : decode cX11_card 194 = .ok (.dup2, 1) := by decide +kernel
theorem dX11_card_195 : decode cX11_card 195 = .ok (.iaload, 1) := by decide +kernel
theorem dX11_card_196 : decode cX11_card 196 = .ok (.iconst 1, 1) := by decide +kernel
theorem dX11_card_197 : decode cX11_card 197 = .ok (.iadd, 1) := by decide +kernel
theorem dX11_card_198 : decode cX11_card 198 = .ok (.iastore, 1) := by decide +kernel
theorem dX11_card_199 : decode cX11_card 199 = .ok (.aload_n 0, 1) := by decide +kernel
theorem dX11_card_200 : decode cX11_card 200 = .ok (.getfield 132, 3) := by decide +kernel
theorem dX11_card_203 : decode cX11_card 203 = .ok (.ireturn, 1) := by decide +kernel
set_option maxRecDepth 20000 in
theorem ggX11_told_X11_isCard : GoodIn wsX11_told wsX11_isCard := goodIn_r _ [6, 1, 7, 8, 5, 9, 10, 11, 12, 13, 14, 15, 16, 17, 18, 19, 20, 21, 22, 23, 24, 25, 26, 27, 28, 29, 30, 31, 32, 33, 34, 35, 36, 37, 38, 39, 40, 41, 42, 43, 44, 45, 46, 47] (by decide +kernel) (by decide +kernel)
set_option maxRecDepth 20000 in
theorem gX11_told_X11_isCard : GoodIn wsX11_told (wsV RX11 160 RX11 yX11_isCard wsX11_isCard) := goodIn_app (goodIn_of _ (by decide +kernel)) ggX11_told_X11_isCard
set_option maxRecDepth 20000 in
theorem ggX11_told_X11_in : GoodIn wsX11_told wsX11_in := goodIn_r _ [9] (by decide +kernel) (by decide +kernel)
set_option maxRecDepth 20000 in
theorem gX11_told_X11_in : GoodIn wsX11_told (va_wsS RX11 59 yX11_in wsX11_in) := goodIn_app (goodIn_of _ (by decide +kernel)) ggX11_told_X11_in
theorem dX11_told_0 : decode cX11_told 0 = .ok (.aload_n 0, 1) := by decide +kernel
theorem dX11_told_1 : decode cX11_told 1 = .ok (.iload_n 1, 1) := by decide +kernel
theorem dX11_told_2 : decode cX11_told 2 = .ok (.invokevirtual 160, 3) := by decide +kernel
theorem dX11_told_5 : decode cX11_told 5 = .ok (.ifCond .eq 30, 3) := by decide +kernel
theorem dX11_told_8 : decode cX11_told 8 = .ok (.iload_n 2, 1) := by decide +kernel
theorem dX11_told_9 : decode cX11_told 9 = .ok (.iconst 0, 1) := by decide +kernel
theorem dX11_told_10 : decode cX11_told 10 = .ok (.iconst 2, 1) := by decide +kernel
theorem dX11_told_11 : decode cX11_told 11 = .ok (.invokestatic 59, 3) := by decide +kernel
theorem dX11_told_14 : decode cX11_told 14 = .ok (.ifCond .eq 21, 3) := by decide +kernel
theorem dX11_told_17 : decode cX11_told 17 = .ok (.aload_n 0, 1) := by decide +kernel
theorem dX11_told_18 : decode cX11_told 18 = .ok (.getfield 9, 3) := by decide +kernel
theorem dX11_told_21 : decode cX11_told 21 = .ok (.sipush 158, 3) := by decide +kernel
theorem dX11_told_24 : decode cX11_told 24 = .ok (.bipush 8, 2) := by decide +kernel
theorem dX11_told_26 : decode cX11_told 26 = .ok (.iload_n 2, 1) := by decide +kernel
theorem dX11_told_27 : decode cX11_told 27 = .ok (.imul, 1) := by decide +kernel
theorem dX11_told_28 : decode cX11_told 28 = .ok (.iadd, 1) := by decide +kernel
theorem dX11_told_29 : decode cX11_told 29 = .ok (.iload_n 1, 1) := by decide +kernel
theorem dX11_told_30 : decode cX11_told 30 = .ok (.iadd, 1) := by decide +kernel
theorem dX11_told_31 : decode cX11_told 31 = .ok (.iaload, 1) := by decide +kernel
theorem dX11_told_32 : decode cX11_told 32 = .ok (.goto 4, 3) := by decide +kernel
theorem dX11_told_35 : decode cX11_told 35 = .ok (.iconst (-1), 1) := by decide +kernel
theorem dX11_told_36 : decode cX11_told 36 = .ok (.ireturn, 1) := by decide +kernel
set_option maxRecDepth 20000 in
theorem ggX11_hang_X11_isReach : GoodIn wsX11_hang wsX11_isReach := goodIn_r _ [6, 1, 7, 8, 5, 9, 10, 11, 12, 13, 14, 15, 16, 17, 18, 19, 20, 21, 22, 23, 24, 25, 26, 27, 28, 29, 30, 31, 32, 33, 34, 35, 36, 37, 38, 39, 40, 41, 42, 43, 44, 45, 46, 47] (by decide +kernel) (by decide +kernel)
set_option maxRecDepth 20000 in
theorem gX11_hang_X11_isReach : GoodIn wsX11_hang (wsV RX11 164 RX11 yX11_isReach wsX11_isReach) := goodIn_app (goodIn_of _ (by decide +kernel)) ggX11_hang_X11_isReach
set_option maxRecDepth 20000 in
theorem ggX11_hang_X11_in : GoodIn wsX11_hang wsX11_in := goodIn_r _ [9] (by decide +kernel) (by decide +kernel)
set_option maxRecDepth 20000 in
theorem gX11_hang_X11_in : GoodIn wsX11_hang (va_wsS RX11 59 yX11_in wsX11_in) := goodIn_app (goodIn_of _ (by decide +kernel)) ggX11_hang_X11_in
theorem dX11_hang_0 : decode cX11_hang 0 = .ok (.aload_n 0, 1) := by decide +kernel
theorem dX11_hang_1 : decode cX11_hang 1 = .ok (.iload_n 1, 1) := by decide +kernel
theorem dX11_hang_2 : decode cX11_hang 2 = .ok (.invokevirtual 164, 3) := by decide +kernel
theorem dX11_hang_5 : decode cX11_hang 5 = .ok (.ifCond .eq 19, 3) := by decide +kernel
theorem dX11_hang_8 : decode cX11_hang 8 = .ok (.iload_n 2, 1) := by decide +kernel
theorem dX11_hang_9 : decode cX11_hang 9 = .ok (.iconst (-1), 1) := by decide +kernel
theorem dX11_hang_10 : decode cX11_hang 10 = .ok (.aload_n 0, 1) := by decide +kernel
theorem dX11_hang_11 : decode cX11_hang 11 = .ok (.getfield 9, 3) := by decide +kernel
theorem dX11_hang_14 : decode cX11_hang 14 = .ok (.iconst 5, 1) := by decide +kernel
theorem dX11_hang_15 : decode cX11_hang 15 = .ok (.iaload, 1) := by decide +kernel
theorem dX11_hang_16 : decode cX11_hang 16 = .ok (.iconst 1, 1) := by decide +kernel
theorem dX11_hang_17 : decode cX11_hang 17 = .ok (.isub, 1) := by decide +kernel
theorem dX11_hang_18 : decode cX11_hang 18 = .ok (.invokestatic 59, 3) := by decide +kernel
theorem dX11_hang_21 : decode cX11_hang 21 = .ok (.ifCond .ne 5, 3) := by decide +kernel
theorem dX11_hang_24 : decode cX11_hang 24 = .ok (.iconst (-1), 1) := by decide +kernel
theorem dX11_hang_25 : decode cX11_hang 25 = .ok (.ireturn, 1) := by decide +kernel
theorem dX11_hang_26 : decode cX11_hang 26 = .ok (.aload_n 0, 1) := by decide +kernel
theorem dX11_hang_27 : decode cX11_hang 27 = .ok (.getfield 9, 3) := by decide +kernel
theorem dX11_hang_30 : decode cX11_hang 30 = .ok (.sipush 145, 3) := by decide +kernel
theorem dX11_hang_33 : decode cX11_hang 33 = .ok (.iload_n 1, 1) := by decide +kernel
theorem dX11_hang_34 : decode cX11_hang 34 = .ok (.iadd, 1) := by decide +kernel
theorem dX11_hang_35 : decode cX11_hang 35 = .ok (.iaload, 1) := by decide +kernel
theorem dX11_hang_36 : decode cX11_hang 36 = .ok (.istore_n 3, 1) := by decide +kernel
theorem dX11_hang_37 : decode cX11_hang 37 = .ok (.aload_n 0, 1) := by decide +kernel
theorem dX11_hang_38 : decode cX11_hang 38 = .ok (.getfield 9, 3) := by decide +kernel
theorem dX11_hang_41 : decode cX11_hang 41 = .ok (.sipush 145, 3) := by decide +kernel
theorem dX11_hang_44 : decode cX11_hang 44 = .ok (.iload_n 1, 1) := by decide +kernel
theorem dX11_hang_45 : decode cX11_hang 45 = .ok (.iadd, 1) := by decide +kernel
theorem dX11_hang_46 : decode cX11_hang 46 = .ok (.iload_n 2, 1) := by decide +kernel
theorem dX11_hang_47 : decode cX11_hang 47 = .ok (.iastore, 1) := by decide +kernel
theorem dX11_hang_48 : decode cX11_hang 48 = .ok (.iload_n 3, 1) := by decide +kernel
theorem dX11_hang_49 : decode cX11_hang 49 = .ok (.iconst (-1), 1) := by decide +kernel
theorem dX11_hang_50 : decode cX11_hang 50 = .ok (.if_icmp .ne 8, 3) := by decide +kernel
theorem dX11_hang_53 : decode cX11_hang 53 = .ok (.bipush (-5), 2) := by decide +kernel
theorem dX11_hang_55 : decode cX11_hang 55 = .ok (.goto 4, 3) := by decide +kernel
theorem dX11_hang_58 : decode cX11_hang 58 = .ok (.iload_n 3, 1) := by decide +kernel
theorem dX11_hang_59 : decode cX11_hang 59 = .ok (.ireturn, 1) := by decide +kernel
theorem dX11_takes_0 : decode cX11_takes 0 = .ok (.iconst 0, 1) := by decide +kernel
theorem dX11_takes_1 : decode cX11_takes 1 = .ok (.istore_n 1, 1) := by decide +kernel
theorem dX11_takes_2 : decode cX11_takes 2 = .ok (.iload_n 1, 1) := by decide +kernel
theorem dX11_takes_3 : decode cX11_takes 3 = .ok (.iconst 3, 1) := by decide +kernel
theorem dX11_takes_4 : decode cX11_takes 4 = .ok (.if_icmp .ge 57, 3) := by decide +kernel
theorem dX11_takes_7 : decode cX11_takes 7 = .ok (.aload_n 0, 1) := by decide +kernel
theorem dX11_takes_8 : decode cX11_takes 8 = .ok (.getfield 27, 3) := by decide +kernel
theorem dX11_takes_11 : decode cX11_takes 11 = .ok (.iload_n 1, 1) := by decide +kernel
theorem dX11_takes_12 : decode cX11_takes 12 = .ok (.aload_n 0, 1) := by decide +kernel
theorem dX11_takes_13 : decode cX11_takes 13 = .ok (.getfield 9, 3) := by decide +kernel
theorem dX11_takes_16 : decode cX11_takes 16 = .ok (.sipush 130, 3) := by decide +kernel
theorem dX11_takes_19 : decode cX11_takes 19 = .ok (.iload_n 1, 1) := by decide +kernel
theorem dX11_takes_20 : decode cX11_takes 20 = .ok (.iadd, 1) := by decide +kernel
theorem dX11_takes_21 : decode cX11_takes 21 = .ok (.iaload, 1) := by decide +kernel
theorem dX11_takes_22 : decode cX11_takes 22 = .ok (.iastore, 1) := by decide +kernel
theorem dX11_takes_23 : decode cX11_takes 23 = .ok (.aload_n 0, 1) := by decide +kernel
theorem dX11_takes_24 : decode cX11_takes 24 = .ok (.getfield 30, 3) := by decide +kernel
theorem dX11_takes_27 : decode cX11_takes 27 = .ok (.iload_n 1, 1) := by decide +kernel
theorem dX11_takes_28 : decode cX11_takes 28 = .ok (.aload_n 0, 1) := by decide +kernel
theorem dX11_takes_29 : decode cX11_takes 29 = .ok (.getfield 9, 3) := by decide +kernel
theorem dX11_takes_32 : decode cX11_takes 32 = .ok (.sipush 139, 3) := by decide +kernel
theorem dX11_takes_35 : decode cX11_takes 35 = .ok (.iload_n 1, 1) := by decide +kernel
theorem dX11_takes_36 : decode cX11_takes 36 = .ok (.iadd, 1) := by decide +kernel
theorem dX11_takes_37 : decode cX11_takes 37 = .ok (.iaload, 1) := by decide +kernel
theorem dX11_takes_38 : decode cX11_takes 38 = .ok (.iastore, 1) := by decide +kernel
theorem dX11_takes_39 : decode cX11_takes 39 = .ok (.aload_n 0, 1) := by decide +kernel
theorem dX11_takes_40 : decode cX11_takes 40 = .ok (.getfield 33, 3) := by decide +kernel
theorem dX11_takes_43 : decode cX11_takes 43 = .ok (.iload_n 1, 1) := by decide +kernel
theorem dX11_takes_44 : decode cX11_takes 44 = .ok (.aload_n 0, 1) := by decide +kernel
theorem dX11_takes_45 : decode cX11_takes 45 = .ok (.getfield 9, 3) := by decide +kernel
theorem dX11_takes_48 : decode cX11_takes 48 = .ok (.sipush 142, 3) := by decide +kernel
theorem dX11_takes_51 : decode cX11_takes 51 = .ok (.iload_n 1, 1) := by decide +kernel
theorem dX11_takes_52 : decode cX11_takes 52 = .ok (.iadd, 1) := by decide +kernel
theorem dX11_takes_53 : decode cX11_takes 53 = .ok (.iaload, 1) := by decide +kernel
theorem dX11_takes_54 : decode cX11_takes 54 = .ok (.iastore, 1) := by decide +kernel
theorem dX11_takes_55 : decode cX11_takes 55 = .ok (.iinc 1 1, 3) := by decide +kernel
theorem dX11_takes_58 : decode cX11_takes 58 = .ok (.goto (-56), 3) := by decide +kernel
theorem dX11_takes_61 : decode cX11_takes 61 = .ok (.aload_n 0, 1) := by decide +kernel
theorem dX11_takes_62 : decode cX11_takes 62 = .ok (.aload_n 0, 1) := by decide +kernel
theorem dX11_takes_63 : decode cX11_takes 63 = .ok (.getfield 9, 3) := by decide +kernel
theorem dX11_takes_66 : decode cX11_takes 66 = .ok (.iconst 4, 1) := by decide +kernel
theorem dX11_takes_67 : decode cX11_takes 67 = .ok (.iaload, 1) := by decide +kernel
theorem dX11_takes_68 : decode cX11_takes 68 = .ok (.putfield 167, 3) := by decide +kernel
theorem dX11_takes_71 : decode cX11_takes 71 = .ok (.return_, 1) := by decide +kernel
theorem dX11_bank_0 : decode cX11_bank 0 = .ok (.aload_n 0, 1) := by decide +kernel
theorem dX11_bank_1 : decode cX11_bank 1 = .ok (.getfield 9, 3) := by decide +kernel
theorem dX11_bank_4 : decode cX11_bank 4 = .ok (.sipush 133, 3) := by decide +kernel
theorem dX11_bank_7 : decode cX11_bank 7 = .ok (.iload_n 1, 1) := by decide +kernel
theorem dX11_bank_8 : decode cX11_bank 8 = .ok (.iadd, 1) := by decide +kernel
theorem dX11_bank_9 : decode cX11_bank 9 = .ok (.iaload, 1) := by decide +kernel
theorem dX11_bank_10 : decode cX11_bank 10 = .ok (.aload_n 0, 1) := by decide +kernel
theorem dX11_bank_11 : decode cX11_bank 11 = .ok (.getfield 170, 3) := by decide +kernel
theorem dX11_bank_14 : decode cX11_bank 14 = .ok (.iadd, 1) := by decide +kernel
theorem dX11_bank_15 : decode cX11_bank 15 = .ok (.bipush 9, 2) := by decide +kernel
theorem dX11_bank_17 : decode cX11_bank 17 = .ok (.if_icmp .le 8, 3) := by decide +kernel
theorem dX11_bank_20 : decode cX11_bank 20 = .ok (.bipush 9, 2) := by decide +kernel
theorem dX11_bank_22 : decode cX11_bank 22 = .ok (.goto 18, 3) := by decide +kernel
theorem dX11_bank_25 : decode cX11_bank 25 = .ok (.aload_n 0, 1) := by decide +kernel
theorem dX11_bank_26 : decode cX11_bank 26 = .ok (.getfield 9, 3) := by decide +kernel
theorem dX11_bank_29 : decode cX11_bank 29 = .ok (.sipush 133, 3) := by decide +kernel
theorem dX11_bank_32 : decode cX11_bank 32 = .ok (.iload_n 1, 1) := by decide +kernel
theorem dX11_bank_33 : decode cX11_bank 33 = .ok (.iadd, 1) := by decide +kernel
theorem dX11_bank_34 : decode cX11_bank 34 = .ok (.iaload, 1) := by decide +kernel
theorem dX11_bank_35 : decode cX11_bank 35 = .ok (.aload_n 0, 1) := by decide +kernel
theorem dX11_bank_36 : decode cX11_bank 36 = .ok (.getfield 170, 3) := by decide +kernel
theorem dX11_bank_39 : decode cX11_bank 39 = .ok (.iadd, 1) := by decide +kernel
theorem dX11_bank_40 : decode cX11_bank 40 = .ok (.ireturn, 1) := by decide +kernel
set_option maxRecDepth 20000 in
theorem ggX11_rings_X11_bank : GoodIn wsX11_rings wsX11_bank := goodIn_r _ [7, 8, 9, 10, 11, 12, 13, 14, 15, 16, 17, 18, 19, 20, 21, 22, 23, 24, 25, 26, 27, 28, 29, 30, 31, 32, 33, 34, 35, 36, 37, 38, 39, 40, 41, 42, 43, 44, 45, 46, 47] (by decide +kernel) (by decide +kernel)
set_option maxRecDepth 20000 in
theorem gX11_rings_X11_bank : GoodIn wsX11_rings (wsV RX11 176 RX11 yX11_bank wsX11_bank) := goodIn_app (goodIn_of _ (by decide +kernel)) ggX11_rings_X11_bank
theorem dX11_rings_0 : decode cX11_rings 0 = .ok (.aload_n 0, 1) := by decide +kernel
theorem dX11_rings_1 : decode cX11_rings 1 = .ok (.getfield 173, 3) := by decide +kernel
theorem dX11_rings_4 : decode cX11_rings 4 = .ok (.ifCond .ne 21, 3) := by decide +kernel
theorem dX11_rings_7 : decode cX11_rings 7 = .ok (.aload_n 0, 1) := by decide +kernel
theorem dX11_rings_8 : decode cX11_rings 8 = .ok (.getfield 27, 3) := by decide +kernel
theorem dX11_rings_11 : decode cX11_rings 11 = .ok (.iconst 0, 1) := by decide +kernel
theorem dX11_rings_12 : decode cX11_rings 12 = .ok (.iaload, 1) := by decide +kernel
theorem dX11_rings_13 : decode cX11_rings 13 = .ok (.aload_n 0, 1) := by decide +kernel
theorem dX11_rings_14 : decode cX11_rings 14 = .ok (.iconst 0, 1) := by decide +kernel
theorem dX11_rings_15 : decode cX11_rings 15 = .ok (.invokevirtual 176, 3) := by decide +kernel
theorem dX11_rings_18 : decode cX11_rings 18 = .ok (.if_icmp .ne 7, 3) := by decide +kernel
theorem dX11_rings_21 : decode cX11_rings 21 = .ok (.iconst 1, 1) := by decide +kernel
theorem dX11_rings_22 : decode cX11_rings 22 = .ok (.goto 4, 3) := by decide +kernel
theorem dX11_rings_25 : decode cX11_rings 25 = .ok (.iconst 0, 1) := by decide +kernel
theorem dX11_rings_26 : decode cX11_rings 26 = .ok (.ireturn, 1) := by decide +kernel
set_option maxRecDepth 20000 in
theorem ggX11_lineHolds_X11_rings : GoodIn wsX11_lineHolds wsX11_rings := goodIn_r _ [10, 11, 2, 12, 13, 14, 9, 15, 1, 16, 17, 18, 19, 20, 21, 22, 23, 24, 25, 26, 27, 28, 29, 30, 31, 32, 33, 34, 35, 36, 37, 38, 39, 40, 41, 42, 43, 44, 45, 46, 47, 48, 49, 50, 51, 52, 53, 54] (by decide +kernel) (by decide +kernel)
