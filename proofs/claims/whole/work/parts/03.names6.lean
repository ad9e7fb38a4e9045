theorem dX4_undo_8 : decode cX4_undo 8 = .ok (.bipush (-4), 2) := by decide +kernel
theorem dX4_undo_10 : decode cX4_undo 10 = .ok (.invokevirtual 42, 3) := by decide +kernel
theorem dX4_undo_13 : decode cX4_undo 13 = .ok (.ireturn, 1) := by decide +kernel
theorem dX4_undo_14 : decode cX4_undo 14 = .ok (.aload_n 0, 1) := by decide +kernel
theorem dX4_undo_15 : decode cX4_undo 15 = .ok (.dup, 1) := by decide +kernel
theorem dX4_undo_16 : decode cX4_undo 16 = .ok (.getfield 26, 3) := by decide +kernel
theorem dX4_undo_19 : decode cX4_undo 19 = .ok (.iconst 1, 1) := by decide +kernel
theorem dX4_undo_20 : decode cX4_undo 20 = .ok (.isub, 1) := by decide +kernel
theorem dX4_undo_21 : decode cX4_undo 21 = .ok (.putfield 26, 3) := by decide +kernel
theorem dX4_undo_24 : decode cX4_undo 24 = .ok (.aload_n 0, 1) := by decide +kernel
theorem dX4_undo_25 : decode cX4_undo 25 = .ok (.getfield 16, 3) := by decide +kernel
theorem dX4_undo_28 : decode cX4_undo 28 = .ok (.bipush 39, 2) := by decide +kernel
theorem dX4_undo_30 : decode cX4_undo 30 = .ok (.aload_n 0, 1) := by decide +kernel
theorem dX4_undo_31 : decode cX4_undo 31 = .ok (.getfield 26, 3) := by decide +kernel
theorem dX4_undo_34 : decode cX4_undo 34 = .ok (.imul, 1) := by decide +kernel
theorem dX4_undo_35 : decode cX4_undo 35 = .ok (.aload_n 0, 1) := by decide +kernel
theorem dX4_undo_36 : decode cX4_undo 36 = .ok (.getfield 7, 3) := by decide +kernel
theorem dX4_undo_39 : decode cX4_undo 39 = .ok (.iconst 0, 1) := by decide +kernel
theorem dX4_undo_40 : decode cX4_undo 40 = .ok (.invokestatic 30, 3) := by decide +kernel
theorem dX4_undo_43 : decode cX4_undo 43 = .ok (.aload_n 0, 1) := by decide +kernel
theorem dX4_undo_44 : decode cX4_undo 44 = .ok (.getfield 26, 3) := by decide +kernel
theorem dX4_undo_47 : decode cX4_undo 47 = .ok (.ireturn, 1) := by decide +kernel
set_option maxRecDepth 20000 in
theorem ggX4_errorCount_X4_in : GoodIn wsX4_errorCount wsX4_in := goodIn_r _ [5] (by decide +kernel) (by decide +kernel)
set_option maxRecDepth 20000 in
theorem gX4_errorCount_X4_in : GoodIn wsX4_errorCount (va_wsS RX4 34 yX4_in wsX4_in) := goodIn_app (goodIn_of _ (by decide +kernel)) ggX4_errorCount_X4_in
set_option maxRecDepth 20000 in
theorem ggX4_errorCount_X4_error : GoodIn wsX4_errorCount wsX4_error := goodIn_r _ [9, 1, 10, 11, 12, 13, 14, 15] (by decide +kernel) (by decide +kernel)
set_option maxRecDepth 20000 in
theorem gX4_errorCount_X4_error : GoodIn wsX4_errorCount (wsV RX4 42 RX4 yX4_error wsX4_error) := goodIn_app (goodIn_of _ (by decide +kernel)) ggX4_errorCount_X4_error
theorem dX4_errorCount_0 : decode cX4_errorCount 0 = .ok (.iload_n 1, 1) := by decide +kernel
theorem dX4_errorCount_1 : decode cX4_errorCount 1 = .ok (.bipush (-4), 2) := by decide +kernel
theorem dX4_errorCount_3 : decode cX4_errorCount 3 = .ok (.bipush (-2), 2) := by decide +kernel
theorem dX4_errorCount_5 : decode cX4_errorCount 5 = .ok (.invokestatic 34, 3) := by decide +kernel
theorem dX4_errorCount_8 : decode cX4_errorCount 8 = .ok (.ifCond .eq 15, 3) := by decide +kernel
theorem dX4_errorCount_11 : decode cX4_errorCount 11 = .ok (.aload_n 0, 1) := by decide +kernel
theorem dX4_errorCount_12 : decode cX4_errorCount 12 = .ok (.getfield 19, 3) := by decide +kernel
theorem dX4_errorCount_15 : decode cX4_errorCount 15 = .ok (.bipush (-2), 2) := by decide +kernel
theorem dX4_errorCount_17 : decode cX4_errorCount 17 = .ok (.iload_n 1, 1) := by decide +kernel
theorem dX4_errorCount_18 : decode cX4_errorCount 18 = .ok (.isub, 1) := by decide +kernel
theorem dX4_errorCount_19 : decode cX4_errorCount 19 = .ok (.iaload, 1) := by decide +kernel
theorem dX4_errorCount_20 : decode cX4_errorCount 20 = .ok (.goto 9, 3) := by decide +kernel
theorem dX4_errorCount_23 : decode cX4_errorCount 23 = .ok (.aload_n 0, 1) := by decide +kernel
theorem dX4_errorCount_24 : decode cX4_errorCount 24 = .ok (.bipush (-2), 2) := by decide +kernel
theorem dX4_errorCount_26 : decode cX4_errorCount 26 = .ok (.invokevirtual 42, 3) := by decide +kernel
theorem dX4_errorCount_29 : decode cX4_errorCount 29 = .ok (.ireturn, 1) := by decide +kernel
theorem dX4_mix_0 : decode cX4_mix 0 = .ok (.aload_n 0, 1) := by decide +kernel
theorem dX4_mix_1 : decode cX4_mix 1 = .ok (.ldc2_w 86, 3) := by decide +kernel
theorem dX4_mix_4 : decode cX4_mix 4 = .ok (.aload_n 0, 1) := by decide +kernel
theorem dX4_mix_5 : decode cX4_mix 5 = .ok (.getfield 88, 3) := by decide +kernel
theorem dX4_mix_8 : decode cX4_mix 8 = .ok (.lmul, 1) := by decide +kernel
theorem dX4_mix_9 : decode cX4_mix 9 = .ok (.lload_n 1, 1) := by decide +kernel
theorem dX4_mix_10 : decode cX4_mix 10 = .ok (.ladd, 1) := by decide +kernel
theorem dX4_mix_11 : decode cX4_mix 11 = .ok (.putfield 88, 3) := by decide +kernel
theorem dX4_mix_14 : decode cX4_mix 14 = .ok (.return_, 1) := by decide +kernel
set_option maxRecDepth 20000 in
theorem ggX4_digest_X4_mix : GoodIn wsX4_digest wsX4_mix := goodIn_r _ [10, 11, 2, 25, 26, 27, 28, 29, 30] (by decide +kernel) (by decide +kernel)
set_option maxRecDepth 20000 in
theorem gX4_digest_X4_mix : GoodIn wsX4_digest (wsV RX4 94 RX4 yX4_mix wsX4_mix) := goodIn_app (goodIn_of _ (by decide +kernel)) ggX4_digest_X4_mix
set_option maxRecDepth 20000 in
theorem ggX4_digest_X4_at : GoodIn wsX4_digest wsX4_at := goodIn_r _ [14] (by decide +kernel) (by decide +kernel)
set_option maxRecDepth 20000 in
theorem gX4_digest_X4_at : GoodIn wsX4_digest (va_wsS RX4 22 yX4_at wsX4_at) := goodIn_app (goodIn_of _ (by decide +kernel)) ggX4_digest_X4_at
set_option maxRecDepth 20000 in
theorem ggX4_digest_X4_dueAfter : GoodIn wsX4_digest wsX4_dueAfter := goodIn_r _ [17, 18, 19, 9, 20] (by decide +kernel) (by decide +kernel)
set_option maxRecDepth 20000 in
theorem gX4_digest_X4_dueAfter : GoodIn wsX4_digest (va_wsS RX4 66 yX4_dueAfter wsX4_dueAfter) := goodIn_app (goodIn_of _ (by decide +kernel)) ggX4_digest_X4_dueAfter
set_option maxRecDepth 20000 in
theorem ggX4_digest_X4_lagAt : GoodIn wsX4_digest wsX4_lagAt := goodIn_r _ [24, 4, 12, 13, 9, 14, 18, 19, 20, 15, 16, 17, 25, 26, 27, 28, 29, 30] (by decide +kernel) (by decide +kernel)
set_option maxRecDepth 20000 in
theorem gX4_digest_X4_lagAt : GoodIn wsX4_digest (wsV RX4 76 RX4 yX4_lagAt wsX4_lagAt) := goodIn_app (goodIn_of _ (by decide +kernel)) ggX4_digest_X4_lagAt
theorem dX4_digest_0 : decode cX4_digest 0 = .ok (.aload_n 0, 1) := by decide +kernel
theorem dX4_digest_1 : decode cX4_digest 1 = .ok (.ldc2_w 92, 3) := by decide +kernel
theorem dX4_digest_4 : decode cX4_digest 4 = .ok (.putfield 88, 3) := by decide +kernel
theorem dX4_digest_7 : decode cX4_digest 7 = .ok (.iconst 0, 1) := by decide +kernel
theorem dX4_digest_8 : decode cX4_digest 8 = .ok (.istore_n 1, 1) := by decide +kernel
theorem dX4_digest_9 : decode cX4_digest 9 = .ok (.iload_n 1, 1) := by decide +kernel
theorem dX4_digest_10 : decode cX4_digest 10 = .ok (.iconst 3, 1) := by decide +kernel
theorem dX4_digest_11 : decode cX4_digest 11 = .ok (.if_icmp .ge 20, 3) := by decide +kernel
theorem dX4_digest_14 : decode cX4_digest 14 = .ok (.aload_n 0, 1) := by decide +kernel
theorem dX4_digest_15 : decode cX4_digest 15 = .ok (.aload_n 0, 1) := by decide +kernel
theorem dX4_digest_16 : decode cX4_digest 16 = .ok (.getfield 19, 3) := by decide +kernel
theorem dX4_digest_19 : decode cX4_digest 19 = .ok (.iload_n 1, 1) := by decide +kernel
theorem dX4_digest_20 : decode cX4_digest 20 = .ok (.iaload, 1) := by decide +kernel
theorem dX4_digest_21 : decode cX4_digest 21 = .ok (.i2l, 1) := by decide +kernel
theorem dX4_digest_22 : decode cX4_digest 22 = .ok (.invokevirtual 94, 3) := by decide +kernel
theorem dX4_digest_25 : decode cX4_digest 25 = .ok (.iinc 1 1, 3) := by decide +kernel
theorem dX4_digest_28 : decode cX4_digest 28 = .ok (.goto (-19), 3) := by decide +kernel
theorem dX4_digest_31 : decode cX4_digest 31 = .ok (.aload_n 0, 1) := by decide +kernel
theorem dX4_digest_32 : decode cX4_digest 32 = .ok (.aload_n 0, 1) := by decide +kernel
theorem dX4_digest_33 : decode cX4_digest 33 = .ok (.getfield 7, 3) := by decide +kernel
theorem dX4_digest_36 : decode cX4_digest 36 = .ok (.iconst 0, 1) := by decide +kernel
theorem dX4_digest_37 : decode cX4_digest 37 = .ok (.iaload, 1) := by decide +kernel
theorem dX4_digest_38 : decode cX4_digest 38 = .ok (.i2l, 1) := by decide +kernel
theorem dX4_digest_39 : decode cX4_digest 39 = .ok (.invokevirtual 94, 3) := by decide +kernel
theorem dX4_digest_42 : decode cX4_digest 42 = .ok (.iconst 0, 1) := by decide +kernel
theorem dX4_digest_43 : decode cX4_digest 43 = .ok (.istore_n 1, 1) := by decide +kernel
theorem dX4_digest_44 : decode cX4_digest 44 = .ok (.iload_n 1, 1) := by decide +kernel
theorem dX4_digest_45 : decode cX4_digest 45 = .ok (.iconst 2, 1) := by decide +kernel
theorem dX4_digest_46 : decode cX4_digest 46 = .ok (.if_icmp .ge 68, 3) := by decide +kernel
theorem dX4_digest_49 : decode cX4_digest 49 = .ok (.iconst 0, 1) := by decide +kernel
theorem dX4_digest_50 : decode cX4_digest 50 = .ok (.istore_n 2, 1) := by decide +kernel
theorem dX4_digest_51 : decode cX4_digest 51 = .ok (.iload_n 2, 1) := by decide +kernel
theorem dX4_digest_52 : decode cX4_digest 52 = .ok (.iconst 5, 1) := by decide +kernel
theorem dX4_digest_53 : decode cX4_digest 53 = .ok (.if_icmp .ge 24, 3) := by decide +kernel
theorem dX4_digest_56 : decode cX4_digest 56 = .ok (.aload_n 0, 1) := by decide +kernel
theorem dX4_digest_57 : decode cX4_digest 57 = .ok (.aload_n 0, 1) := by decide +kernel
theorem dX4_digest_58 : decode cX4_digest 58 = .ok (.getfield 7, 3) := by decide +kernel
theorem dX4_digest_61 : decode cX4_digest 61 = .ok (.iload_n 1, 1) := by decide +kernel
theorem dX4_digest_62 : decode cX4_digest 62 = .ok (.iload_n 2, 1) := by decide +kernel
theorem dX4_digest_63 : decode cX4_digest 63 = .ok (.invokestatic 22, 3) := by decide +kernel
theorem dX4_digest_66 : decode cX4_digest 66 = .ok (.iaload, 1) := by decide +kernel
theorem dX4_digest_67 : decode cX4_digest 67 = .ok (.i2l, 1) := by decide +kernel
theorem dX4_digest_68 : decode cX4_digest 68 = .ok (.invokevirtual 94, 3) := by decide +kernel
theorem dX4_digest_71 : decode cX4_digest 71 = .ok (.iinc 2 1, 3) := by decide +kernel
theorem dX4_digest_74 : decode cX4_digest 74 = .ok (.goto (-23), 3) := by decide +kernel
theorem dX4_digest_77 : decode cX4_digest 77 = .ok (.aload_n 0, 1) := by decide +kernel
theorem dX4_digest_78 : decode cX4_digest 78 = .ok (.iload_n 1, 1) := by decide +kernel
theorem dX4_digest_79 : decode cX4_digest 79 = .ok (.aload_n 0, 1) := by decide +kernel
theorem dX4_digest_80 : decode cX4_digest 80 = .ok (.getfield 7, 3) := by decide +kernel
theorem dX4_digest_83 : decode cX4_digest 83 = .ok (.iconst 0, 1) := by decide +kernel
theorem dX4_digest_84 : decode cX4_digest 84 = .ok (.iaload, 1) := by decide +kernel
theorem dX4_digest_85 : decode cX4_digest 85 = .ok (.invokestatic 66, 3) := by decide +kernel
theorem dX4_digest_88 : decode cX4_digest 88 = .ok (.i2l, 1) := by decide +kernel
theorem dX4_digest_89 : decode cX4_digest 89 = .ok (.invokevirtual 94, 3) := by decide +kernel
theorem dX4_digest_92 : decode cX4_digest 92 = .ok (.aload_n 0, 1) := by decide +kernel
theorem dX4_digest_93 : decode cX4_digest 93 = .ok (.aload_n 0, 1) := by decide +kernel
theorem dX4_digest_94 : decode cX4_digest 94 = .ok (.iload_n 1, 1) := by decide +kernel
theorem dX4_digest_95 : decode cX4_digest 95 = .ok (.aload_n 0, 1) := by decide +kernel
theorem dX4_digest_96 : decode cX4_digest 96 = .ok (.getfield 7, 3) := by decide +kernel
theorem dX4_digest_99 : decode cX4_digest 99 = .ok (.iconst 0, 1) := by decide +kernel
theorem dX4_digest_100 : decode cX4_digest 100 = .ok (.iaload, 1) := by decide +kernel
theorem dX4_digest_101 : decode cX4_digest 101 = .ok (.invokevirtual 76, 3) := by decide +kernel
theorem dX4_digest_104 : decode cX4_digest 104 = .ok (.i2l, 1) := by decide +kernel
theorem dX4_digest_105 : decode cX4_digest 105 = .ok (.invokevirtual 94, 3) := by decide +kernel
theorem dX4_digest_108 : decode cX4_digest 108 = .ok (.iinc 1 1, 3) := by decide +kernel
theorem dX4_digest_111 : decode cX4_digest 111 = .ok (.goto (-67), 3) := by decide +kernel
theorem dX4_digest_114 : decode cX4_digest 114 = .ok (.aload_n 0, 1) := by decide +kernel
theorem dX4_digest_115 : decode cX4_digest 115 = .ok (.aload_n 0, 1) := by decide +kernel
theorem dX4_digest_116 : decode cX4_digest 116 = .ok (.getfield 7, 3) := by decide +kernel
theorem dX4_digest_119 : decode cX4_digest 119 = .ok (.iconst 1, 1) := by decide +kernel
theorem dX4_digest_120 : decode cX4_digest 120 = .ok (.iaload, 1) := by decide +kernel
theorem dX4_digest_121 : decode cX4_digest 121 = .ok (.i2l, 1) := by decide +kernel
theorem dX4_digest_122 : decode cX4_digest 122 = .ok (.invokevirtual 94, 3) := by decide +kernel
theorem dX4_digest_125 : decode cX4_digest 125 = .ok (.aload_n 0, 1) := by decide +kernel
theorem dX4_digest_126 : decode cX4_digest 126 = .ok (.aload_n 0, 1) := by decide +kernel
theorem dX4_digest_127 : decode cX4_digest 127 = .ok (.getfield 7, 3) := by decide +kernel
theorem dX4_digest_130 : decode cX4_digest 130 = .ok (.iconst 2, 1) := by decide +kernel
theorem dX4_digest_131 : decode cX4_digest 131 = .ok (.iaload, 1) := by decide +kernel
theorem dX4_digest_132 : decode cX4_digest 132 = .ok (.i2l, 1) := by decide +kernel
theorem dX4_digest_133 : decode cX4_digest 133 = .ok (.invokevirtual 94, 3) := by decide +kernel
theorem dX4_digest_136 : decode cX4_digest 136 = .ok (.aload_n 0, 1) := by decide +kernel
theorem dX4_digest_137 : decode cX4_digest 137 = .ok (.aload_n 0, 1) := by decide +kernel
theorem dX4_digest_138 : decode cX4_digest 138 = .ok (.getfield 7, 3) := by decide +kernel
theorem dX4_digest_141 : decode cX4_digest 141 = .ok (.iconst 3, 1) := by decide +kernel
theorem dX4_digest_142 : decode cX4_digest 142 = .ok (.iaload, 1) := by decide +kernel
theorem dX4_digest_143 : decode cX4_digest 143 = .ok (.i2l, 1) := by decide +kernel
theorem dX4_digest_144 : decode cX4_digest 144 = .ok (.invokevirtual 94, 3) := by decide +kernel
theorem dX4_digest_147 : decode cX4_digest 147 = .ok (.aload_n 0, 1) := by decide +kernel
theorem dX4_digest_148 : decode cX4_digest 148 = .ok (.aload_n 0, 1) := by decide +kernel
theorem dX4_digest_149 : decode cX4_digest 149 = .ok (.getfield 7, 3) := by decide +kernel
theorem dX4_digest_152 : decode cX4_digest 152 = .ok (.bipush 14, 2) := by decide +kernel
theorem dX4_digest_154 : decode cX4_digest 154 = .ok (.iaload, 1) := by decide +kernel
theorem dX4_digest_155 : decode cX4_digest 155 = .ok (.i2l, 1) := by decide +kernel
theorem dX4_digest_156 : decode cX4_digest 156 = .ok (.invokevirtual 94, 3) := by decide +kernel
theorem dX4_digest_159 : decode cX4_digest 159 = .ok (.iconst 0, 1) := by decide +kernel
theorem dX4_digest_160 : decode cX4_digest 160 = .ok (.istore_n 1, 1) := by decide +kernel
theorem dX4_digest_161 : decode cX4_digest 161 = .ok (.iload_n 1, 1) := by decide +kernel
theorem dX4_digest_162 : decode cX4_digest 162 = .ok (.aload_n 0, 1) := by decide +kernel
theorem dX4_digest_163 : decode cX4_digest 163 = .ok (.getfield 7, 3) := by decide +kernel
theorem dX4_digest_166 : decode cX4_digest 166 = .ok (.bipush 14, 2) := by decide +kernel
theorem dX4_digest_168 : decode cX4_digest 168 = .ok (.iaload, 1) := by decide +kernel
theorem dX4_digest_169 : decode cX4_digest 169 = .ok (.if_icmp .ge 40, 3) := by decide +kernel
theorem dX4_digest_172 : decode cX4_digest 172 = .ok (.iconst 0, 1) := by decide +kernel
theorem dX4_digest_173 : decode cX4_digest 173 = .ok (.istore_n 2, 1) := by decide +kernel
theorem dX4_digest_174 : decode cX4_digest 174 = .ok (.iload_n 2, 1) := by decide +kernel
theorem dX4_digest_175 : decode cX4_digest 175 = .ok (.iconst 3, 1) := by decide +kernel
theorem dX4_digest_176 : decode cX4_digest 176 = .ok (.if_icmp .ge 27, 3) := by decide +kernel
theorem dX4_digest_179 : decode cX4_digest 179 = .ok (.aload_n 0, 1) := by decide +kernel
theorem dX4_digest_180 : decode cX4_digest 180 = .ok (.aload_n 0, 1) := by decide +kernel
theorem dX4_digest_181 : decode cX4_digest 181 = .ok (.getfield 7, 3) := by decide +kernel
theorem dX4_digest_184 : decode cX4_digest 184 = .ok (.bipush 15, 2) := by decide +kernel
theorem dX4_digest_186 : decode cX4_digest 186 = .ok (.iconst 4, 1) := by decide +kernel
theorem dX4_digest_187 : decode cX4_digest 187 = .ok (.iload_n 1, 1) := by decide +kernel
theorem dX4_digest_188 : decode cX4_digest 188 = .ok (.imul, 1) := by decide +kernel
theorem dX4_digest_189 : decode cX4_digest 189 = .ok (.iadd, 1) := by decide +kernel
theorem dX4_digest_190 : decode cX4_digest 190 = .ok (.iload_n 2, 1) := by decide +kernel
theorem dX4_digest_191 : decode cX4_digest 191 = .ok (.iadd, 1) := by decide +kernel
theorem dX4_digest_192 : decode cX4_digest 192 = .ok (.iaload, 1) := by decide +kernel
theorem dX4_digest_193 : decode cX4_digest 193 = .ok (.i2l, 1) := by decide +kernel
theorem dX4_digest_194 : decode cX4_digest 194 = .ok (.invokevirtual 94, 3) := by decide +kernel
theorem dX4_digest_197 : decode cX4_digest 197 = .ok (.iinc 2 1, 3) := by decide +kernel
theorem dX4_digest_200 : decode cX4_digest 200 = .ok (.goto (-26), 3) := by decide +kernel
theorem dX4_digest_203 : decode cX4_digest 203 = .ok (.iinc 1 1, 3) := by decide +kernel
theorem dX4_digest_206 : decode cX4_digest 206 = .ok (.goto (-45), 3) := by decide +kernel
theorem dX4_digest_209 : decode cX4_digest 209 = .ok (.aload_n 0, 1) := by decide +kernel
theorem dX4_digest_210 : decode cX4_digest 210 = .ok (.aload_n 0, 1) := by decide +kernel
theorem dX4_digest_211 : decode cX4_digest 211 = .ok (.getfield 26, 3) := by decide +kernel
theorem dX4_digest_214 : decode cX4_digest 214 = .ok (.i2l, 1) := by decide +kernel
theorem dX4_digest_215 : decode cX4_digest 215 = .ok (.invokevirtual 94, 3) := by decide +kernel
theorem dX4_digest_218 : decode cX4_digest 218 = .ok (.aload_n 0, 1) := by decide +kernel
theorem dX4_digest_219 : decode cX4_digest 219 = .ok (.getfield 88, 3) := by decide +kernel
theorem dX4_digest_222 : decode cX4_digest 222 = .ok (.lreturn, 1) := by decide +kernel
theorem dJ9_min_7cf53_0 : decode cJ9_min_7cf53 0 = .ok (.iload_n 0, 1) := by decide +kernel
theorem dJ9_min_7cf53_1 : decode cJ9_min_7cf53 1 = .ok (.iload_n 1, 1) := by decide +kernel
theorem dJ9_min_7cf53_2 : decode cJ9_min_7cf53 2 = .ok (.if_icmp .gt 7, 3) := by decide +kernel
theorem dJ9_min_7cf53_5 : decode cJ9_min_7cf53 5 = .ok (.iload_n 0, 1) := by decide +kernel
theorem dJ9_min_7cf53_6 : decode cJ9_min_7cf53 6 = .ok (.goto 4, 3) := by decide +kernel
theorem dJ9_min_7cf53_9 : decode cJ9_min_7cf53 9 = .ok (.iload_n 1, 1) := by decide +kernel
theorem dJ9_min_7cf53_10 : decode cJ9_min_7cf53 10 = .ok (.ireturn, 1) := by decide +kernel
set_option maxRecDepth 20000 in
theorem ggL_law_X3_init : GoodIn wsL_law wsX3_init := goodIn_r _ [8, 9, 10, 11, 12, 13, 14, 15, 16, 17, 18, 19, 20, 21, 22, 23, 24, 25, 26, 27, 28, 29, 30, 31, 32, 33, 34, 35, 36, 37, 38, 39, 40, 41, 42, 43, 44, 45, 46, 47, 48, 49, 50, 51, 52, 53, 54, 55, 487, 488, 489, 490, 491, 492, 493, 476, 477, 478, 479, 480, 494, 495, 496, 497, 498, 499, 500, 501, 502, 503] (by decide +kernel) (by decide +kernel)
set_option maxRecDepth 20000 in
theorem gL_law_X3_init : GoodIn wsL_law (wsX3_init) := ggL_law_X3_init
set_option maxRecDepth 20000 in
theorem ggL_law_X4_init : GoodIn wsL_law wsX4_init := goodIn_r _ [58, 59, 10, 11, 21, 60, 61, 62, 63, 64, 65, 5, 66, 481, 482, 483, 484, 485, 486] (by decide +kernel) (by decide +kernel)
set_option maxRecDepth 20000 in
theorem gL_law_X4_init : GoodIn wsL_law (wsX4_init) := ggL_law_X4_init
set_option maxRecDepth 20000 in
theorem ggL_law_X3_setMechanism : GoodIn wsL_law wsX3_setMechanism := goodIn_r _ [70, 15, 71, 72, 73, 2, 74, 75, 76, 77, 78, 22, 79, 80, 81, 82, 83, 84, 85, 23, 16, 86, 87, 88, 89, 90, 91, 92, 14, 93, 28, 29, 33, 34, 35, 36, 37, 94, 95, 96, 19, 97, 47, 42, 43, 44, 45, 46, 98, 99, 100, 32, 101, 51, 52, 53, 54, 102, 103, 104, 105, 476, 477, 478, 479, 480, 494, 495, 496, 497, 498, 499, 487, 488, 489, 490, 491, 492, 493, 500, 501, 502, 503] (by decide +kernel) (by decide +kernel)
set_option maxRecDepth 20000 in
theorem gL_law_X3_setMechanism : GoodIn wsL_law (wsV RL 13 RX3 yX3_setMechanism wsX3_setMechanism) := goodIn_app (goodIn_of _ (by decide +kernel)) ggL_law_X3_setMechanism
set_option maxRecDepth 20000 in
theorem ggL_law_X4_setMechanism : GoodIn wsL_law wsX4_setMechanism := goodIn_r _ [109, 60, 110, 111, 5, 112, 113, 114, 115, 116, 117, 118, 119, 63, 120, 121, 122, 123, 124, 62, 125, 126, 127, 64, 65, 66, 481, 482, 483, 484, 485, 486] (by decide +kernel) (by decide +kernel)
set_option maxRecDepth 20000 in
theorem gL_law_X4_setMechanism : GoodIn wsL_law (wsV RL 17 RX4 yX4_setMechanism wsX4_setMechanism) := goodIn_app (goodIn_of _ (by decide +kernel)) ggL_law_X4_setMechanism
set_option maxRecDepth 20000 in
theorem ggL_law_X3_setPosition : GoodIn wsL_law wsX3_setPosition := goodIn_r _ [131, 15, 132, 72, 73, 2, 74, 102, 103, 104, 14, 105, 28, 29, 133, 134, 135, 19, 136, 47, 75, 76, 77, 78, 22, 79, 80, 81, 82, 83, 84, 85, 23, 16, 86, 87, 88, 89, 90, 91, 92, 93, 33, 34, 35, 36, 37, 94, 95, 96, 97, 42, 43, 44, 45, 46, 98, 99, 100, 32, 101, 51, 52, 53, 54, 476, 477, 478, 479, 480, 494, 495, 496, 497, 498, 499, 487, 488, 489, 490, 491, 492, 493, 500, 501, 502, 503] (by decide +kernel) (by decide +kernel)
set_option maxRecDepth 20000 in
theorem gL_law_X3_setPosition : GoodIn wsL_law (wsV RL 18 RX3 yX3_setPosition wsX3_setPosition) := goodIn_app (goodIn_of _ (by decide +kernel)) ggL_law_X3_setPosition
set_option maxRecDepth 20000 in
theorem ggL_law_X4_setPosition : GoodIn wsL_law wsX4_setPosition := goodIn_r _ [140, 60, 110, 111, 5, 112, 113, 114, 115, 141, 142, 143, 116, 117, 118, 119, 63, 120, 121, 122, 123, 124, 62, 125, 126, 127, 64, 65, 66, 481, 482, 483, 484, 485, 486] (by decide +kernel) (by decide +kernel)
set_option maxRecDepth 20000 in
theorem gL_law_X4_setPosition : GoodIn wsL_law (wsV RL 21 RX4 yX4_setPosition wsX4_setPosition) := goodIn_app (goodIn_of _ (by decide +kernel)) ggL_law_X4_setPosition
set_option maxRecDepth 20000 in
theorem ggL_law_X3_setSilence : GoodIn wsL_law wsX3_setSilence := goodIn_r _ [147, 15, 148, 149, 150, 151, 152, 2, 153, 75, 76, 77, 78, 22, 79, 80, 81, 82, 83, 84, 85, 23, 16, 86, 87, 88, 89, 90, 91, 92, 14, 93, 28, 29, 33, 34, 35, 36, 37, 94, 95, 96, 19, 97, 47, 42, 43, 44, 45, 46, 98, 99, 100, 32, 101, 51, 52, 53, 54, 476, 477, 478, 479, 480, 487, 488, 489, 490, 491, 492, 493, 494, 495, 496, 497, 498, 499, 500, 501, 502, 503] (by decide +kernel) (by decide +kernel)
set_option maxRecDepth 20000 in
theorem gL_law_X3_setSilence : GoodIn wsL_law (wsV RL 22 RX3 yX3_setSilence wsX3_setSilence) := goodIn_app (goodIn_of _ (by decide +kernel)) ggL_law_X3_setSilence
set_option maxRecDepth 20000 in
theorem ggL_law_X4_setSilence : GoodIn wsL_law wsX4_setSilence := goodIn_r _ [157, 60, 113, 114, 5, 115, 116, 117, 118, 119, 63, 120, 121, 122, 123, 124, 62, 125, 126, 127, 481, 482, 483, 484, 485, 486] (by decide +kernel) (by decide +kernel)
set_option maxRecDepth 20000 in
theorem gL_law_X4_setSilence : GoodIn wsL_law (wsV RL 26 RX4 yX4_setSilence wsX4_setSilence) := goodIn_app (goodIn_of _ (by decide +kernel)) ggL_law_X4_setSilence
set_option maxRecDepth 20000 in
theorem ggL_law_X3_wind : GoodIn wsL_law wsX3_wind := goodIn_r _ [161, 15, 162, 163, 164, 165, 166, 72, 73, 2, 74, 75, 76, 77, 78, 22, 79, 80, 81, 82, 83, 84, 85, 23, 16, 86, 87, 88, 89, 90, 91, 92, 14, 93, 28, 29, 33, 34, 35, 36, 37, 94, 95, 96, 19, 97, 47, 42, 43, 44, 45, 46, 98, 99, 100, 32, 101, 51, 52, 53, 54, 102, 103, 104, 105, 476, 477, 478, 479, 480, 494, 495, 496, 497, 498, 499, 487, 488, 489, 490, 491, 492, 493, 500, 501, 502, 503] (by decide +kernel) (by decide +kernel)
set_option maxRecDepth 20000 in
theorem gL_law_X3_wind : GoodIn wsL_law (wsV RL 27 RX3 yX3_wind wsX3_wind) := goodIn_app (goodIn_of _ (by decide +kernel)) ggL_law_X3_wind
set_option maxRecDepth 20000 in
theorem ggL_law_X4_wind : GoodIn wsL_law wsX4_wind := goodIn_r _ [170, 60, 110, 111, 5, 112, 113, 114, 115, 116, 117, 118, 119, 63, 120, 121, 122, 123, 124, 62, 125, 126, 127, 64, 65, 66, 481, 482, 483, 484, 485, 486] (by decide +kernel) (by decide +kernel)
set_option maxRecDepth 20000 in
theorem gL_law_X4_wind : GoodIn wsL_law (wsV RL 30 RX4 yX4_wind wsX4_wind) := goodIn_app (goodIn_of _ (by decide +kernel)) ggL_law_X4_wind
set_option maxRecDepth 20000 in
theorem ggL_law_X3_run : GoodIn wsL_law wsX3_run := goodIn_r _ [174, 15, 175, 75, 76, 77, 2, 78, 22, 79, 80, 81, 82, 83, 84, 85, 23, 16, 86, 87, 88, 89, 90, 91, 92, 14, 93, 28, 29, 33, 34, 35, 36, 37, 94, 95, 96, 19, 97, 47, 42, 43, 44, 45, 46, 98, 99, 100, 32, 101, 51, 52, 53, 54, 176, 177, 178, 179, 180, 181, 182, 183, 184, 185, 186, 187, 188, 189, 190, 191, 192, 193, 194, 195, 134, 135, 136, 196, 197, 198, 199, 200, 201, 202, 203, 204, 205, 206, 207, 208, 209, 210, 211, 212, 213, 214, 215, 216, 217, 218, 219, 220, 221, 222, 223, 164, 165, 166, 224, 225, 226, 227, 228, 229, 230, 231, 476, 477, 478, 479, 480, 487, 488, 489, 490, 491, 492, 493, 494, 495, 496, 497, 498, 499, 500, 501, 502, 503] (by decide +kernel) (by decide +kernel)
set_option maxRecDepth 20000 in
theorem gL_law_X3_run : GoodIn wsL_law (wsV RL 31 RX3 yX3_run wsX3_run) := goodIn_app (goodIn_of _ (by decide +kernel)) ggL_law_X3_run
set_option maxRecDepth 20000 in
theorem ggL_law_X4_run : GoodIn wsL_law wsX4_run := goodIn_r _ [235, 113, 114, 5, 115, 116, 117, 118, 119, 63, 120, 121, 122, 123, 124, 62, 60, 125, 126, 127, 236, 237, 238, 239, 240, 241, 242, 243, 244, 245, 246, 141, 142, 143, 247, 248, 249, 250, 251, 252, 253, 254, 64, 65, 66, 255, 256, 257, 258, 259, 260, 261, 262, 481, 482, 483, 484, 485, 486] (by decide +kernel) (by decide +kernel)
set_option maxRecDepth 20000 in
theorem gL_law_X4_run : GoodIn wsL_law (wsV RL 35 RX4 yX4_run wsX4_run) := goodIn_app (goodIn_of _ (by decide +kernel)) ggL_law_X4_run
set_option maxRecDepth 20000 in
theorem ggL_law_X3_setHands : GoodIn wsL_law wsX3_setHands := goodIn_r _ [266, 15, 175, 151, 152, 2, 153, 75, 76, 77, 78, 22, 79, 80, 81, 82, 83, 84, 85, 23, 16, 86, 87, 88, 89, 90, 91, 92, 14, 93, 28, 29, 33, 34, 35, 36, 37, 94, 95, 96, 19, 97, 47, 42, 43, 44, 45, 46, 98, 99, 100, 32, 101, 51, 52, 53, 54, 476, 477, 478, 479, 480, 487, 488, 489, 490, 491, 492, 493, 494, 495, 496, 497, 498, 499, 500, 501, 502, 503] (by decide +kernel) (by decide +kernel)
set_option maxRecDepth 20000 in
theorem gL_law_X3_setHands : GoodIn wsL_law (wsV RL 36 RX3 yX3_setHands wsX3_setHands) := goodIn_app (goodIn_of _ (by decide +kernel)) ggL_law_X3_setHands
set_option maxRecDepth 20000 in
theorem ggL_law_X4_setHands : GoodIn wsL_law wsX4_setHands := goodIn_r _ [270, 60, 113, 114, 5, 115, 116, 117, 118, 119, 63, 120, 121, 122, 123, 124, 62, 125, 126, 127, 481, 482, 483, 484, 485, 486] (by decide +kernel) (by decide +kernel)
set_option maxRecDepth 20000 in
theorem gL_law_X4_setHands : GoodIn wsL_law (wsV RL 39 RX4 yX4_setHands wsX4_setHands) := goodIn_app (goodIn_of _ (by decide +kernel)) ggL_law_X4_setHands
set_option maxRecDepth 20000 in
theorem ggL_law_X3_trip : GoodIn wsL_law wsX3_trip := goodIn_r _ [274, 15, 175, 72, 73, 2, 74, 75, 76, 77, 78, 22, 79, 80, 81, 102, 103, 104, 14, 105, 28, 29, 275, 276, 277, 19, 278, 279, 280, 281, 282, 47, 283, 192, 193, 194, 195, 134, 135, 136, 284, 208, 209, 210, 42, 44, 211, 212, 213, 214, 43, 82, 83, 84, 85, 23, 16, 86, 87, 88, 89, 90, 91, 92, 93, 33, 34, 35, 36, 37, 94, 95, 96, 97, 45, 46, 98, 99, 100, 32, 101, 51, 52, 53, 54, 196, 197, 198, 199, 200, 201, 202, 203, 204, 205, 206, 207, 215, 216, 217, 218, 219, 220, 221, 222, 223, 164, 165, 166, 476, 477, 478, 479, 480, 487, 488, 489, 490, 491, 492, 493, 494, 495, 496, 497, 498, 499, 500, 501, 502, 503] (by decide +kernel) (by decide +kernel)
set_option maxRecDepth 20000 in
theorem gL_law_X3_trip : GoodIn wsL_law (wsV RL 40 RX3 yX3_trip wsX3_trip) := goodIn_app (goodIn_of _ (by decide +kernel)) ggL_law_X3_trip
set_option maxRecDepth 20000 in
theorem ggL_law_X4_trip : GoodIn wsL_law wsX4_trip := goodIn_r _ [288, 60, 110, 111, 5, 112, 113, 114, 115, 116, 117, 118, 119, 63, 244, 245, 246, 141, 142, 143, 251, 252, 253, 254, 64, 65, 66, 120, 121, 122, 123, 124, 62, 125, 126, 127, 255, 256, 257, 258, 259, 260, 261, 262, 481, 482, 483, 484, 485, 486] (by decide +kernel) (by decide +kernel)
set_option maxRecDepth 20000 in
theorem gL_law_X4_trip : GoodIn wsL_law (wsV RL 43 RX4 yX4_trip wsX4_trip) := goodIn_app (goodIn_of _ (by decide +kernel)) ggL_law_X4_trip
set_option maxRecDepth 20000 in
theorem ggL_law_X3_nextDue : GoodIn wsL_law wsX3_nextDue := goodIn_r _ [292, 15, 175, 72, 73, 2, 74, 102, 103, 104, 14, 105, 28, 29, 275, 276, 277, 19, 278, 279, 280, 281, 282, 47, 283, 192, 193, 194, 195, 134, 135, 136, 75, 76, 77, 78, 22, 79, 80, 81, 476, 477, 478, 479, 480, 487, 488, 489, 490, 491, 492, 493, 494, 495, 496, 497, 498, 499] (by decide +kernel) (by decide +kernel)
set_option maxRecDepth 20000 in
theorem gL_law_X3_nextDue : GoodIn wsL_law (wsV RL 44 RX3 yX3_nextDue wsX3_nextDue) := goodIn_app (goodIn_of _ (by decide +kernel)) ggL_law_X3_nextDue
set_option maxRecDepth 20000 in
theorem ggL_law_X4_nextDue : GoodIn wsL_law wsX4_nextDue := goodIn_r _ [296, 60, 110, 111, 5, 112, 113, 114, 115, 244, 245, 246, 141, 142, 143, 116, 117, 118, 119, 63, 481, 482, 483, 484, 485, 486] (by decide +kernel) (by decide +kernel)
set_option maxRecDepth 20000 in
theorem gL_law_X4_nextDue : GoodIn wsL_law (wsV RL 47 RX4 yX4_nextDue wsX4_nextDue) := goodIn_app (goodIn_of _ (by decide +kernel)) ggL_law_X4_nextDue
set_option maxRecDepth 20000 in
theorem ggL_law_X3_lag : GoodIn wsL_law wsX3_lag := goodIn_r _ [300, 15, 175, 72, 73, 2, 74, 102, 103, 104, 14, 105, 28, 29, 301, 302, 303, 19, 304, 42, 43, 305, 276, 277, 278, 279, 280, 281, 282, 47, 283, 192, 193, 194, 195, 134, 135, 136, 75, 76, 77, 78, 22, 79, 80, 81, 476, 477, 478, 479, 480, 487, 488, 489, 490, 491, 492, 493, 494, 495, 496, 497, 498, 499] (by decide +kernel) (by decide +kernel)
set_option maxRecDepth 20000 in
theorem gL_law_X3_lag : GoodIn wsL_law (wsV RL 48 RX3 yX3_lag wsX3_lag) := goodIn_app (goodIn_of _ (by decide +kernel)) ggL_law_X3_lag
set_option maxRecDepth 20000 in
theorem ggL_law_X4_lag : GoodIn wsL_law wsX4_lag := goodIn_r _ [309, 60, 110, 111, 5, 112, 113, 114, 115, 310, 311, 312, 313, 64, 65, 66, 141, 142, 143, 244, 245, 246, 116, 117, 118, 119, 63, 481, 482, 483, 484, 485, 486] (by decide +kernel) (by decide +kernel)
set_option maxRecDepth 20000 in
theorem gL_law_X4_lag : GoodIn wsL_law (wsV RL 51 RX4 yX4_lag wsX4_lag) := goodIn_app (goodIn_of _ (by decide +kernel)) ggL_law_X4_lag
set_option maxRecDepth 20000 in
theorem ggL_law_X3_blowsToCorrect : GoodIn wsL_law wsX3_blowsToCorrect := goodIn_r _ [317, 15, 175, 132, 72, 73, 2, 74, 75, 76, 77, 78, 22, 79, 80, 81, 102, 103, 104, 14, 105, 28, 29, 301, 302, 303, 19, 304, 42, 43, 305, 276, 277, 278, 279, 280, 281, 282, 47, 283, 192, 193, 194, 195, 134, 135, 136, 318, 216, 217, 218, 476, 477, 478, 479, 480, 487, 488, 489, 490, 491, 492, 493, 494, 495, 496, 497, 498, 499] (by decide +kernel) (by decide +kernel)
set_option maxRecDepth 20000 in
theorem gL_law_X3_blowsToCorrect : GoodIn wsL_law (wsV RL 52 RX3 yX3_blowsToCorrect wsX3_blowsToCorrect) := goodIn_app (goodIn_of _ (by decide +kernel)) ggL_law_X3_blowsToCorrect
set_option maxRecDepth 20000 in
theorem ggL_law_X4_blowsToCorrect : GoodIn wsL_law wsX4_blowsToCorrect := goodIn_r _ [322, 60, 110, 111, 5, 112, 113, 114, 115, 116, 117, 118, 119, 63, 64, 65, 66, 310, 311, 312, 313, 141, 142, 143, 244, 245, 246, 481, 482, 483, 484, 485, 486] (by decide +kernel) (by decide +kernel)
set_option maxRecDepth 20000 in
theorem gL_law_X4_blowsToCorrect : GoodIn wsL_law (wsV RL 55 RX4 yX4_blowsToCorrect wsX4_blowsToCorrect) := goodIn_app (goodIn_of _ (by decide +kernel)) ggL_law_X4_blowsToCorrect
set_option maxRecDepth 20000 in
theorem ggL_law_X3_handsToCorrect : GoodIn wsL_law wsX3_handsToCorrect := goodIn_r _ [326, 15, 175, 72, 73, 2, 74, 75, 76, 77, 78, 22, 79, 80, 81, 102, 103, 104, 14, 105, 28, 29, 301, 302, 303, 19, 304, 42, 43, 305, 276, 277, 278, 279, 280, 281, 282, 47, 283, 192, 193, 194, 195, 134, 135, 136, 133, 327, 229, 230, 231, 328, 476, 477, 478, 479, 480, 487, 488, 489, 490, 491, 492, 493, 494, 495, 496, 497, 498, 499] (by decide +kernel) (by decide +kernel)
set_option maxRecDepth 20000 in
theorem gL_law_X3_handsToCorrect : GoodIn wsL_law (wsV RL 56 RX3 yX3_handsToCorrect wsX3_handsToCorrect) := goodIn_app (goodIn_of _ (by decide +kernel)) ggL_law_X3_handsToCorrect
set_option maxRecDepth 20000 in
theorem ggL_law_X4_handsToCorrect : GoodIn wsL_law wsX4_handsToCorrect := goodIn_r _ [332, 60, 110, 111, 5, 112, 113, 114, 115, 116, 117, 118, 119, 63, 310, 311, 312, 313, 64, 65, 66, 141, 142, 143, 244, 245, 246, 481, 482, 483, 484, 485, 486] (by decide +kernel) (by decide +kernel)
set_option maxRecDepth 20000 in
theorem gL_law_X4_handsToCorrect : GoodIn wsL_law (wsV RL 59 RX4 yX4_handsToCorrect wsX4_handsToCorrect) := goodIn_app (goodIn_of _ (by decide +kernel)) ggL_law_X4_handsToCorrect
set_option maxRecDepth 20000 in
theorem ggL_law_X3_minutesToMiss : GoodIn wsL_law wsX3_minutesToMiss := goodIn_r _ [336, 20, 15, 337, 175, 72, 73, 2, 74, 75, 76, 77, 78, 22, 79, 80, 81, 102, 103, 104, 14, 105, 28, 29, 338, 95, 96, 19, 97, 47, 42, 43, 44, 45, 46, 224, 225, 226, 227, 228, 229, 230, 231, 182, 183, 184, 185, 35, 186, 187, 188, 189, 36, 37, 191, 192, 193, 194, 195, 134, 135, 136, 203, 204, 205, 206, 207, 208, 209, 210, 211, 212, 213, 214, 215, 216, 217, 218, 476, 477, 478, 479, 480, 494, 495, 496, 497, 498, 499, 487, 488, 489, 490, 491, 492, 493] (by decide +kernel) (by decide +kernel)
set_option maxRecDepth 20000 in
theorem gL_law_X3_minutesToMiss : GoodIn wsL_law (wsV RL 60 RX3 yX3_minutesToMiss wsX3_minutesToMiss) := goodIn_app (goodIn_of _ (by decide +kernel)) ggL_law_X3_minutesToMiss
set_option maxRecDepth 20000 in
theorem ggL_law_X4_minutesToMiss : GoodIn wsL_law wsX4_minutesToMiss := goodIn_r _ [342, 60, 61, 110, 111, 5, 112, 113, 114, 115, 116, 117, 118, 119, 63, 125, 126, 127, 64, 65, 66, 236, 237, 238, 239, 240, 241, 242, 243, 244, 245, 246, 141, 142, 143, 247, 248, 249, 250, 251, 252, 253, 254, 255, 256, 257, 258, 259, 260, 261, 262, 481, 482, 483, 484, 485, 486] (by decide +kernel) (by decide +kernel)
set_option maxRecDepth 20000 in
theorem gL_law_X4_minutesToMiss : GoodIn wsL_law (wsV RL 63 RX4 yX4_minutesToMiss wsX4_minutesToMiss) := goodIn_app (goodIn_of _ (by decide +kernel)) ggL_law_X4_minutesToMiss
set_option maxRecDepth 20000 in
theorem ggL_law_X3_minute : GoodIn wsL_law wsX3_minute := goodIn_r _ [346, 15, 175, 476, 477, 478, 479, 480, 487, 488, 489, 490, 491, 492, 493] (by decide +kernel) (by decide +kernel)
set_option maxRecDepth 20000 in
theorem gL_law_X3_minute : GoodIn wsL_law (wsV RL 64 RX3 yX3_minute wsX3_minute) := goodIn_app (goodIn_of _ (by decide +kernel)) ggL_law_X3_minute
set_option maxRecDepth 20000 in
theorem ggL_law_X4_minute : GoodIn wsL_law wsX4_minute := goodIn_r _ [350, 60, 481, 482, 483, 484, 485, 486] (by decide +kernel) (by decide +kernel)
set_option maxRecDepth 20000 in
theorem gL_law_X4_minute : GoodIn wsL_law (wsV RL 68 RX4 yX4_minute wsX4_minute) := goodIn_app (goodIn_of _ (by decide +kernel)) ggL_law_X4_minute
set_option maxRecDepth 20000 in
theorem ggL_law_X3_position : GoodIn wsL_law wsX3_position := goodIn_r _ [354, 15, 132, 72, 73, 2, 74, 102, 103, 104, 14, 105, 28, 29, 75, 76, 77, 78, 22, 79, 80, 81, 476, 477, 478, 479, 480, 494, 495, 496, 497, 498, 499, 487, 488, 489, 490, 491, 492, 493] (by decide +kernel) (by decide +kernel)
set_option maxRecDepth 20000 in
theorem gL_law_X3_position : GoodIn wsL_law (wsV RL 69 RX3 yX3_position wsX3_position) := goodIn_app (goodIn_of _ (by decide +kernel)) ggL_law_X3_position
set_option maxRecDepth 20000 in
theorem ggL_law_X4_position : GoodIn wsL_law wsX4_position := goodIn_r _ [358, 359, 360, 361, 5, 362, 60, 110, 111, 112, 113, 114, 115, 64, 65, 66, 116, 117, 118, 119, 63, 481, 482, 483, 484, 485, 486] (by decide +kernel) (by decide +kernel)
set_option maxRecDepth 20000 in
theorem gL_law_X4_position : GoodIn wsL_law (wsV RL 72 RX4 yX4_position wsX4_position) := goodIn_app (goodIn_of _ (by decide +kernel)) ggL_law_X4_position
set_option maxRecDepth 20000 in
theorem ggL_law_X3_weight : GoodIn wsL_law wsX3_weight := goodIn_r _ [366, 15, 162, 72, 73, 2, 74, 102, 103, 104, 14, 105, 28, 29, 75, 76, 77, 78, 22, 79, 80, 81, 476, 477, 478, 479, 480, 494, 495, 496, 497, 498, 499, 487, 488, 489, 490, 491, 492, 493] (by decide +kernel) (by decide +kernel)
set_option maxRecDepth 20000 in
theorem gL_law_X3_weight : GoodIn wsL_law (wsV RL 73 RX3 yX3_weight wsX3_weight) := goodIn_app (goodIn_of _ (by decide +kernel)) ggL_law_X3_weight
set_option maxRecDepth 20000 in
theorem ggL_law_X4_weight : GoodIn wsL_law wsX4_weight := goodIn_r _ [370, 359, 360, 361, 5, 362, 60, 110, 111, 112, 113, 114, 115, 64, 65, 66, 116, 117, 118, 119, 63, 481, 482, 483, 484, 485, 486] (by decide +kernel) (by decide +kernel)
set_option maxRecDepth 20000 in
theorem gL_law_X4_weight : GoodIn wsL_law (wsV RL 76 RX4 yX4_weight wsX4_weight) := goodIn_app (goodIn_of _ (by decide +kernel)) ggL_law_X4_weight
set_option maxRecDepth 20000 in
theorem ggL_law_X3_sounded : GoodIn wsL_law wsX3_sounded := goodIn_r _ [374, 15, 202, 72, 73, 2, 74, 102, 103, 104, 14, 105, 28, 29, 75, 76, 77, 78, 22, 79, 80, 81, 476, 477, 478, 479, 480, 494, 495, 496, 497, 498, 499, 487, 488, 489, 490, 491, 492, 493] (by decide +kernel) (by decide +kernel)
set_option maxRecDepth 20000 in
theorem gL_law_X3_sounded : GoodIn wsL_law (wsV RL 77 RX3 yX3_sounded wsX3_sounded) := goodIn_app (goodIn_of _ (by decide +kernel)) ggL_law_X3_sounded
set_option maxRecDepth 20000 in
theorem ggL_law_X4_sounded : GoodIn wsL_law wsX4_sounded := goodIn_r _ [378, 359, 360, 361, 5, 362, 60, 110, 111, 112, 113, 114, 115, 64, 65, 66, 116, 117, 118, 119, 63, 481, 482, 483, 484, 485, 486] (by decide +kernel) (by decide +kernel)
set_option maxRecDepth 20000 in
theorem gL_law_X4_sounded : GoodIn wsL_law (wsV RL 80 RX4 yX4_sounded wsX4_sounded) := goodIn_app (goodIn_of _ (by decide +kernel)) ggL_law_X4_sounded
set_option maxRecDepth 20000 in
theorem ggL_law_X3_missed : GoodIn wsL_law wsX3_missed := goodIn_r _ [382, 15, 337, 72, 73, 2, 74, 102, 103, 104, 14, 105, 28, 29, 75, 76, 77, 78, 22, 79, 80, 81, 476, 477, 478, 479, 480, 494, 495, 496, 497, 498, 499, 487, 488, 489, 490, 491, 492, 493] (by decide +kernel) (by decide +kernel)
set_option maxRecDepth 20000 in
theorem gL_law_X3_missed : GoodIn wsL_law (wsV RL 81 RX3 yX3_missed wsX3_missed) := goodIn_app (goodIn_of _ (by decide +kernel)) ggL_law_X3_missed
set_option maxRecDepth 20000 in
theorem ggL_law_X4_missed : GoodIn wsL_law wsX4_missed := goodIn_r _ [386, 359, 360, 361, 5, 362, 60, 110, 111, 112, 113, 114, 115, 64, 65, 66, 116, 117, 118, 119, 63, 481, 482, 483, 484, 485, 486] (by decide +kernel) (by decide +kernel)
set_option maxRecDepth 20000 in
theorem gL_law_X4_missed : GoodIn wsL_law (wsV RL 84 RX4 yX4_missed wsX4_missed) := goodIn_app (goodIn_of _ (by decide +kernel)) ggL_law_X4_missed
set_option maxRecDepth 20000 in
theorem ggL_law_X3_isSilent : GoodIn wsL_law wsX3_isSilent := goodIn_r _ [390, 15, 151, 152, 2, 153, 75, 76, 77, 78, 22, 79, 80, 81, 190, 187, 188, 14, 189, 35, 36, 37, 476, 477, 478, 479, 480, 487, 488, 489, 490, 491, 492, 493] (by decide +kernel) (by decide +kernel)
set_option maxRecDepth 20000 in
theorem gL_law_X3_isSilent : GoodIn wsL_law (wsV RL 85 RX3 yX3_isSilent wsX3_isSilent) := goodIn_app (goodIn_of _ (by decide +kernel)) ggL_law_X3_isSilent
set_option maxRecDepth 20000 in
theorem ggL_law_X4_isSilent : GoodIn wsL_law wsX4_isSilent := goodIn_r _ [394, 113, 114, 5, 115, 116, 117, 118, 119, 63, 240, 241, 242, 243, 60, 481, 482, 483, 484, 485, 486] (by decide +kernel) (by decide +kernel)
set_option maxRecDepth 20000 in
theorem gL_law_X4_isSilent : GoodIn wsL_law (wsV RL 88 RX4 yX4_isSilent wsX4_isSilent) := goodIn_app (goodIn_of _ (by decide +kernel)) ggL_law_X4_isSilent
set_option maxRecDepth 20000 in
theorem ggL_law_X3_strikeMinute : GoodIn wsL_law wsX3_strikeMinute := goodIn_r _ [398, 15, 200, 399, 400, 75, 76, 77, 2, 78, 22, 79, 80, 81, 476, 477, 478, 479, 480, 487, 488, 489, 490, 491, 492, 493, 500, 501, 502, 503] (by decide +kernel) (by decide +kernel)
set_option maxRecDepth 20000 in
theorem gL_law_X3_strikeMinute : GoodIn wsL_law (wsV RL 89 RX3 yX3_strikeMinute wsX3_strikeMinute) := goodIn_app (goodIn_of _ (by decide +kernel)) ggL_law_X3_strikeMinute
set_option maxRecDepth 20000 in
theorem ggL_law_X4_strikeMinute : GoodIn wsL_law wsX4_strikeMinute := goodIn_r _ [404, 405, 406, 407, 5, 408, 60, 116, 117, 118, 119, 63, 481, 482, 483, 484, 485, 486] (by decide +kernel) (by decide +kernel)
set_option maxRecDepth 20000 in
theorem gL_law_X4_strikeMinute : GoodIn wsL_law (wsV RL 92 RX4 yX4_strikeMinute wsX4_strikeMinute) := goodIn_app (goodIn_of _ (by decide +kernel)) ggL_law_X4_strikeMinute
set_option maxRecDepth 20000 in
theorem ggL_law_X3_strikeTrain : GoodIn wsL_law wsX3_strikeTrain := goodIn_r _ [412, 15, 200, 399, 413, 75, 76, 77, 2, 78, 22, 79, 80, 81, 476, 477, 478, 479, 480, 487, 488, 489, 490, 491, 492, 493, 500, 501, 502, 503] (by decide +kernel) (by decide +kernel)
set_option maxRecDepth 20000 in
theorem gL_law_X3_strikeTrain : GoodIn wsL_law (wsV RL 93 RX3 yX3_strikeTrain wsX3_strikeTrain) := goodIn_app (goodIn_of _ (by decide +kernel)) ggL_law_X3_strikeTrain
set_option maxRecDepth 20000 in
theorem ggL_law_X4_strikeTrain : GoodIn wsL_law wsX4_strikeTrain := goodIn_r _ [417, 405, 406, 407, 5, 408, 60, 116, 117, 118, 119, 63, 481, 482, 483, 484, 485, 486] (by decide +kernel) (by decide +kernel)
set_option maxRecDepth 20000 in
theorem gL_law_X4_strikeTrain : GoodIn wsL_law (wsV RL 96 RX4 yX4_strikeTrain wsX4_strikeTrain) := goodIn_app (goodIn_of _ (by decide +kernel)) ggL_law_X4_strikeTrain
set_option maxRecDepth 20000 in
theorem ggL_law_X3_strikeBlows : GoodIn wsL_law wsX3_strikeBlows := goodIn_r _ [421, 15, 200, 399, 422, 75, 76, 77, 2, 78, 22, 79, 80, 81, 476, 477, 478, 479, 480, 487, 488, 489, 490, 491, 492, 493, 500, 501, 502, 503] (by decide +kernel) (by decide +kernel)
set_option maxRecDepth 20000 in
theorem gL_law_X3_strikeBlows : GoodIn wsL_law (wsV RL 97 RX3 yX3_strikeBlows wsX3_strikeBlows) := goodIn_app (goodIn_of _ (by decide +kernel)) ggL_law_X3_strikeBlows
set_option maxRecDepth 20000 in
theorem ggL_law_X4_strikeBlows : GoodIn wsL_law wsX4_strikeBlows := goodIn_r _ [426, 405, 406, 407, 5, 408, 60, 116, 117, 118, 119, 63, 481, 482, 483, 484, 485, 486] (by decide +kernel) (by decide +kernel)
set_option maxRecDepth 20000 in
theorem gL_law_X4_strikeBlows : GoodIn wsL_law (wsV RL 100 RX4 yX4_strikeBlows wsX4_strikeBlows) := goodIn_app (goodIn_of _ (by decide +kernel)) ggL_law_X4_strikeBlows
set_option maxRecDepth 20000 in
theorem ggL_law_X3_undo : GoodIn wsL_law wsX3_undo := goodIn_r _ [430, 23, 15, 16, 75, 76, 77, 2, 78, 22, 79, 80, 81, 90, 91, 92, 14, 93, 28, 29, 33, 34, 35, 36, 37, 94, 95, 96, 19, 97, 47, 42, 43, 44, 45, 46, 98, 99, 100, 32, 101, 51, 52, 53, 54, 476, 477, 478, 479, 480, 487, 488, 489, 490, 491, 492, 493, 494, 495, 496, 497, 498, 499, 500, 501, 502, 503] (by decide +kernel) (by decide +kernel)
set_option maxRecDepth 20000 in
theorem gL_law_X3_undo : GoodIn wsL_law (wsV RL 101 RX3 yX3_undo wsX3_undo) := goodIn_app (goodIn_of _ (by decide +kernel)) ggL_law_X3_undo
set_option maxRecDepth 20000 in
theorem ggL_law_X4_undo : GoodIn wsL_law wsX4_undo := goodIn_r _ [434, 124, 62, 60, 116, 117, 118, 5, 119, 63, 125, 126, 127, 481, 482, 483, 484, 485, 486] (by decide +kernel) (by decide +kernel)
set_option maxRecDepth 20000 in
theorem gL_law_X4_undo : GoodIn wsL_law (wsV RL 104 RX4 yX4_undo wsX4_undo) := goodIn_app (goodIn_of _ (by decide +kernel)) ggL_law_X4_undo
set_option maxRecDepth 20000 in
theorem ggL_law_X3_errorCount : GoodIn wsL_law wsX3_errorCount := goodIn_r _ [438, 22, 75, 76, 77, 2, 78, 79, 80, 81, 476, 477, 478, 479, 480] (by decide +kernel) (by decide +kernel)
set_option maxRecDepth 20000 in
theorem gL_law_X3_errorCount : GoodIn wsL_law (wsV RL 105 RX3 yX3_errorCount wsX3_errorCount) := goodIn_app (goodIn_of _ (by decide +kernel)) ggL_law_X3_errorCount
set_option maxRecDepth 20000 in
theorem ggL_law_X4_errorCount : GoodIn wsL_law wsX4_errorCount := goodIn_r _ [442, 63, 113, 114, 5, 115, 116, 117, 118, 119, 481, 482, 483, 484, 485, 486] (by decide +kernel) (by decide +kernel)
set_option maxRecDepth 20000 in
theorem gL_law_X4_errorCount : GoodIn wsL_law (wsV RL 108 RX4 yX4_errorCount wsX4_errorCount) := goodIn_app (goodIn_of _ (by decide +kernel)) ggL_law_X4_errorCount
set_option maxRecDepth 20000 in
theorem ggL_law_X3_digest : GoodIn wsL_law wsX3_digest := goodIn_r _ [446, 447, 448, 22, 15, 23, 449, 450, 451, 14, 452, 453, 34, 28, 29, 35, 36, 37, 33, 454, 455, 456, 19, 457, 458, 42, 43, 44, 45, 46, 305, 276, 277, 278, 279, 280, 281, 282, 47, 283, 192, 193, 194, 195, 134, 135, 136, 459, 302, 303, 304, 460, 461, 462, 32, 463, 464, 54, 51, 52, 53, 476, 477, 478, 479, 480, 487, 488, 489, 490, 491, 492, 493, 494, 495, 496, 497, 498, 499, 500, 501, 502, 503] (by decide +kernel) (by decide +kernel)
set_option maxRecDepth 20000 in
theorem gL_law_X3_digest : GoodIn wsL_law (wsV RL 109 RX3 yX3_digest wsX3_digest) := goodIn_app (goodIn_of _ (by decide +kernel)) ggL_law_X3_digest
set_option maxRecDepth 20000 in
theorem ggL_law_X4_digest : GoodIn wsL_law wsX4_digest := goodIn_r _ [468, 469, 470, 63, 60, 124, 471, 472, 473, 5, 474, 475, 64, 65, 66, 244, 245, 246, 141, 142, 143, 310, 311, 312, 313, 481, 482, 483, 484, 485, 486] (by decide +kernel) (by decide +kernel)
set_option maxRecDepth 20000 in
theorem gL_law_X4_digest : GoodIn wsL_law (wsV RL 113 RX4 yX4_digest wsX4_digest) := goodIn_app (goodIn_of _ (by decide +kernel)) ggL_law_X4_digest
theorem dL_law_0 : decode cL_law 0 = .ok (.new 7, 3) := by decide +kernel
theorem dL_law_3 : decode cL_law 3 = .ok (.dup, 1) := by decide +kernel
theorem dL_law_4 : decode cL_law 4 = .ok (.invokespecial 9, 3) := by decide +kernel
theorem dL_law_7 : decode cL_law 7 = .ok (.astore_n 1, 1) := by decide +kernel
theorem dL_law_8 : decode cL_law 8 = .ok (.new 10, 3) := by decide +kernel
theorem dL_law_11 : decode cL_law 11 = .ok (.dup, 1) := by decide +kernel
theorem dL_law_12 : decode cL_law 12 = .ok (.invokespecial 12, 3) := by decide +kernel
theorem dL_law_15 : decode cL_law 15 = .ok (.astore_n 2, 1) := by decide +kernel
theorem dL_law_16 : decode cL_law 16 = .ok (.iconst 0, 1) := by decide +kernel
theorem dL_law_17 : decode cL_law 17 = .ok (.istore_n 3, 1) := by decide +kernel
theorem dL_law_18 : decode cL_law 18 = .ok (.iload_n 3, 1) := by decide +kernel
theorem dL_law_19 : decode cL_law 19 = .ok (.aload_n 0, 1) := by decide +kernel
theorem dL_law_20 : decode cL_law 20 = .ok (.arraylength, 1) := by decide +kernel
theorem dL_law_21 : decode cL_law 21 = .ok (.iconst 4, 1) := by decide +kernel
theorem dL_law_22 : decode cL_law 22 = .ok (.isub, 1) := by decide +kernel
theorem dL_law_23 : decode cL_law 23 = .ok (.if_icmp .gt 700, 3) := by decide +kernel
theorem dL_law_26 : decode cL_law 26 = .ok (.aload_n 0, 1) := by decide +kernel
theorem dL_law_27 : decode cL_law 27 = .ok (.iload_n 3, 1) := by decide +kernel
theorem dL_law_28 : decode cL_law 28 = .ok (.iaload, 1) := by decide +kernel
theorem dL_law_29 : decode cL_law 29 = .ok (.bipush 31, 2) := by decide +kernel
theorem dL_law_31 : decode cL_law 31 = .ok (.iand, 1) := by decide +kernel
theorem dL_law_32 : decode cL_law 32 = .ok (.tableswitch 685 0 23 #[112, 145, 178, 221, 254, 277, 300, 323, 346, 369, 392, 415, 438, 451, 474, 497, 520, 543, 566, 589, 612, 635, 648, 671], 112) := by decide +kernel
theorem dL_law_144 : decode cL_law 144 = .ok (.aload_n 1, 1) := by decide +kernel
theorem dL_law_145 : decode cL_law 145 = .ok (.aload_n 0, 1) := by decide +kernel
theorem dL_law_146 : decode cL_law 146 = .ok (.iload_n 3, 1) := by decide +kernel
theorem dL_law_147 : decode cL_law 147 = .ok (.iconst 1, 1) := by decide +kernel
theorem dL_law_148 : decode cL_law 148 = .ok (.iadd, 1) := by decide +kernel
theorem dL_law_149 : decode cL_law 149 = .ok (.iaload, 1) := by decide +kernel
theorem dL_law_150 : decode cL_law 150 = .ok (.aload_n 0, 1) := by decide +kernel
theorem dL_law_151 : decode cL_law 151 = .ok (.iload_n 3, 1) := by decide +kernel
theorem dL_law_152 : decode cL_law 152 = .ok (.iconst 2, 1) := by decide +kernel
theorem dL_law_153 : decode cL_law 153 = .ok (.iadd, 1) := by decide +kernel
theorem dL_law_154 : decode cL_law 154 = .ok (.iaload, 1) := by decide +kernel
theorem dL_law_155 : decode cL_law 155 = .ok (.invokevirtual 13, 3) := by decide +kernel
theorem dL_law_158 : decode cL_law 158 = .ok (.aload_n 2, 1) := by decide +kernel
theorem dL_law_159 : decode cL_law 159 = .ok (.aload_n 0, 1) := by decide +kernel
theorem dL_law_160 : decode cL_law 160 = .ok (.iload_n 3, 1) := by decide +kernel
theorem dL_law_161 : decode cL_law 161 = .ok (.iconst 1, 1) := by decide +kernel
theorem dL_law_162 : decode cL_law 162 = .ok (.iadd, 1) := by decide +kernel
theorem dL_law_163 : decode cL_law 163 = .ok (.iaload, 1) := by decide +kernel
theorem dL_law_164 : decode cL_law 164 = .ok (.aload_n 0, 1) := by decide +kernel
theorem dL_law_165 : decode cL_law 165 = .ok (.iload_n 3, 1) := by decide +kernel
theorem dL_law_166 : decode cL_law 166 = .ok (.iconst 2, 1) := by decide +kernel
theorem dL_law_167 : decode cL_law 167 = .ok (.iadd, 1) := by decide +kernel
theorem dL_law_168 : decode cL_law 168 = .ok (.iaload, 1) := by decide +kernel
theorem dL_law_169 : decode cL_law 169 = .ok (.invokevirtual 17, 3) := by decide +kernel
theorem dL_law_172 : decode cL_law 172 = .ok (.if_icmp .eq 545, 3) := by decide +kernel
theorem dL_law_175 : decode cL_law 175 = .ok (.iconst 0, 1) := by decide +kernel
theorem dL_law_176 : decode cL_law 176 = .ok (.ireturn, 1) := by decide +kernel
theorem dL_law_177 : decode cL_law 177 = .ok (.aload_n 1, 1) := by decide +kernel
theorem dL_law_178 : decode cL_law 178 = .ok (.aload_n 0, 1) := by decide +kernel
theorem dL_law_179 : decode cL_law 179 = .ok (.iload_n 3, 1) := by decide +kernel
theorem dL_law_180 : decode cL_law 180 = .ok (.iconst 1, 1) := by decide +kernel
theorem dL_law_181 : decode cL_law 181 = .ok (.iadd, 1) := by decide +kernel
theorem dL_law_182 : decode cL_law 182 = .ok (.iaload, 1) := by decide +kernel
theorem dL_law_183 : decode cL_law 183 = .ok (.aload_n 0, 1) := by decide +kernel
theorem dL_law_184 : decode cL_law 184 = .ok (.iload_n 3, 1) := by decide +kernel
theorem dL_law_185 : decode cL_law 185 = .ok (.iconst 2, 1) := by decide +kernel
theorem dL_law_186 : decode cL_law 186 = .ok (.iadd, 1) := by decide +kernel
theorem dL_law_187 : decode cL_law 187 = .ok (.iaload, 1) := by decide +kernel
theorem dL_law_188 : decode cL_law 188 = .ok (.invokevirtual 18, 3) := by decide +kernel
theorem dL_law_191 : decode cL_law 191 = .ok (.aload_n 2, 1) := by decide +kernel
theorem dL_law_192 : decode cL_law 192 = .ok (.aload_n 0, 1) := by decide +kernel
theorem dL_law_193 : decode cL_law 193 = .ok (.iload_n 3, 1) := by decide +kernel
theorem dL_law_194 : decode cL_law 194 = .ok (.iconst 1, 1) := by decide +kernel
theorem dL_law_195 : decode cL_law 195 = .ok (.iadd, 1) := by decide +kernel
theorem dL_law_196 : decode cL_law 196 = .ok (.iaload, 1) := by decide +kernel
theorem dL_law_197 : decode cL_law 197 = .ok (.aload_n 0, 1) := by decide +kernel
theorem dL_law_198 : decode cL_law 198 = .ok (.iload_n 3, 1) := by decide +kernel
theorem dL_law_199 : decode cL_law 199 = .ok (.iconst 2, 1) := by decide +kernel
theorem dL_law_200 : decode cL_law 200 = .ok (.iadd, 1) := by decide +kernel
theorem dL_law_201 : decode cL_law 201 = .ok (.iaload, 1) := by decide +kernel
theorem dL_law_202 : decode cL_law 202 = .ok (.invokevirtual 21, 3) := by decide +kernel
theorem dL_law_205 : decode cL_law 205 = .ok (.if_icmp .eq 512, 3) := by decide +kernel
theorem dL_law_208 : decode cL_law 208 = .ok (.iconst 0, 1) := by decide +kernel
theorem dL_law_209 : decode cL_law 209 = .ok (.ireturn, 1) := by decide +kernel
theorem dL_law_210 : decode cL_law 210 = .ok (.aload_n 1, 1) := by decide +kernel
theorem dL_law_211 : decode cL_law 211 = .ok (.aload_n 0, 1) := by decide +kernel
theorem dL_law_212 : decode cL_law 212 = .ok (.iload_n 3, 1) := by decide +kernel
theorem dL_law_213 : decode cL_law 213 = .ok (.iconst 1, 1) := by decide +kernel
theorem dL_law_214 : decode cL_law 214 = .ok (.iadd, 1) := by decide +kernel
theorem dL_law_215 : decode cL_law 215 = .ok (.iaload, 1) := by decide +kernel
theorem dL_law_216 : decode cL_law 216 = .ok (.aload_n 0, 1) := by decide +kernel
theorem dL_law_217 : decode cL_law 217 = .ok (.iload_n 3, 1) := by decide +kernel
theorem dL_law_218 : decode cL_law 218 = .ok (.iconst 2, 1) := by decide +kernel
theorem dL_law_219 : decode cL_law 219 = .ok (.iadd, 1) := by decide +kernel
theorem dL_law_220 : decode cL_law 220 = .ok (.iaload, 1) := by decide +kernel
theorem dL_law_221 : decode cL_law 221 = .ok (.aload_n 0, 1) := by decide +kernel
theorem dL_law_222 : decode cL_law 222 = .ok (.iload_n 3, 1) := by decide +kernel
theorem dL_law_223 : decode cL_law 223 = .ok (.iconst 3, 1) := by decide +kernel
theorem dL_law_224 : decode cL_law 224 = .ok (.iadd, 1) := by decide +kernel
theorem dL_law_225 : decode cL_law 225 = .ok (.iaload, 1) := by decide +kernel
theorem dL_law_226 : decode cL_law 226 = .ok (.invokevirtual 22, 3) := by decide +kernel
theorem dL_law_229 : decode cL_law 229 = .ok (.aload_n 2, 1) := by decide +kernel
theorem dL_law_230 : decode cL_law 230 = .ok (.aload_n 0, 1) := by decide +kernel
theorem dL_law_231 : decode cL_law 231 = .ok (.iload_n 3, 1) := by decide +kernel
theorem dL_law_232 : decode cL_law 232 = .ok (.iconst 1, 1) := by decide +kernel
theorem dL_law_233 : decode cL_law 233 = .ok (.iadd, 1) := by decide +kernel
theorem dL_law_234 : decode cL_law 234 = .ok (.iaload, 1) := by decide +kernel
theorem dL_law_235 : decode cL_law 235 = .ok (.aload_n 0, 1) := by decide +kernel
theorem dL_law_236 : decode cL_law 236 = .ok (.iload_n 3, 1) := by decide +kernel
theorem dL_law_237 : decode cL_law 237 = .ok (.iconst 2, 1) := by decide +kernel
theorem dL_law_238 : decode cL_law 238 = .ok (.iadd, 1) := by decide +kernel
theorem dL_law_239 : decode cL_law 239 = .ok (.iaload, 1) := by decide +kernel
theorem dL_law_240 : decode cL_law 240 = .ok (.aload_n 0, 1) := by decide +kernel
theorem dL_law_241 : decode cL_law 241 = .ok (.iload_n 3, 1) := by decide +kernel
theorem dL_law_242 : decode cL_law 242 = .ok (.iconst 3, 1) := by decide +kernel
theorem dL_law_243 : decode cL_law 243 = .ok (.iadd, 1) := by decide +kernel
theorem dL_law_244 : decode cL_law 244 = .ok (.iaload, 1) := by decide +kernel
theorem dL_law_245 : decode cL_law 245 = .ok (.invokevirtual 26, 3) := by decide +kernel
theorem dL_law_248 : decode cL_law 248 = .ok (.if_icmp .eq 469, 3) := by decide +kernel
theorem dL_law_251 : decode cL_law 251 = .ok (.iconst 0, 1) := by decide +kernel
theorem dL_law_252 : decode cL_law 252 = .ok (.ireturn, 1) := by decide +kernel
theorem dL_law_253 : decode cL_law 253 = .ok (.aload_n 1, 1) := by decide +kernel
theorem dL_law_254 : decode cL_law 254 = .ok (.aload_n 0, 1) := by decide +kernel
theorem dL_law_255 : decode cL_law 255 = .ok (.iload_n 3, 1) := by decide +kernel
theorem dL_law_256 : decode cL_law 256 = .ok (.iconst 1, 1) := by decide +kernel
theorem dL_law_257 : decode cL_law 257 = .ok (.iadd, 1) := by decide +kernel
theorem dL_law_258 : decode cL_law 258 = .ok (.iaload, 1) := by decide +kernel
theorem dL_law_259 : decode cL_law 259 = .ok (.aload_n 0, 1) := by decide +kernel
theorem dL_law_260 : decode cL_law 260 = .ok (.iload_n 3, 1) := by decide +kernel
theorem dL_law_261 : decode cL_law 261 = .ok (.iconst 2, 1) := by decide +kernel
theorem dL_law_262 : decode cL_law 262 = .ok (.iadd, 1) := by decide +kernel
theorem dL_law_263 : decode cL_law 263 = .ok (.iaload, 1) := by decide +kernel
theorem dL_law_264 : decode cL_law 264 = .ok (.invokevirtual 27, 3) := by decide +kernel
theorem dL_law_267 : decode cL_law 267 = .ok (.aload_n 2, 1) := by decide +kernel
theorem dL_law_268 : decode cL_law 268 = .ok (.aload_n 0, 1) := by decide +kernel
theorem dL_law_269 : decode cL_law 269 = .ok (.iload_n 3, 1) := by decide +kernel
theorem dL_law_270 : decode cL_law 270 = .ok (.iconst 1, 1) := by decide +kernel
theorem dL_law_271 : decode cL_law 271 = .ok (.iadd, 1) := by decide +kernel
theorem dL_law_272 : decode cL_law 272 = .ok (.iaload, 1) := by decide +kernel
theorem dL_law_273 : decode cL_law 273 = .ok (.aload_n 0, 1) := by decide +kernel
theorem dL_law_274 : decode cL_law 274 = .ok (.iload_n 3, 1) := by decide +kernel
theorem dL_law_275 : decode cL_law 275 = .ok (.iconst 2, 1) := by decide +kernel
theorem dL_law_276 : decode cL_law 276 = .ok (.iadd, 1) := by decide +kernel
theorem dL_law_277 : decode cL_law 277 = .ok (.iaload, 1) := by decide +kernel
theorem dL_law_278 : decode cL_law 278 = .ok (.invokevirtual 30, 3) := by decide +kernel
theorem dL_law_281 : decode cL_law 281 = .ok (.if_icmp .eq 436, 3) := by decide +kernel
theorem dL_law_284 : decode cL_law 284 = .ok (.iconst 0, 1) := by decide +kernel
theorem dL_law_285 : decode cL_law 285 = .ok (.ireturn, 1) := by decide +kernel
theorem dL_law_286 : decode cL_law 286 = .ok (.aload_n 1, 1) := by decide +kernel
theorem dL_law_287 : decode cL_law 287 = .ok (.aload_n 0, 1) := by decide +kernel
theorem dL_law_288 : decode cL_law 288 = .ok (.iload_n 3, 1) := by decide +kernel
theorem dL_law_289 : decode cL_law 289 = .ok (.iconst 1, 1) := by decide +kernel
theorem dL_law_290 : decode cL_law 290 = .ok (.iadd, 1) := by decide +kernel
theorem dL_law_291 : decode cL_law 291 = .ok (.iaload, 1) := by decide +kernel
theorem dL_law_292 : decode cL_law 292 = .ok (.invokevirtual 31, 3) := by decide +kernel
theorem dL_law_295 : decode cL_law 295 = .ok (.aload_n 2, 1) := by decide +kernel
theorem dL_law_296 : decode cL_law 296 = .ok (.aload_n 0, 1) := by decide +kernel
theorem dL_law_297 : decode cL_law 297 = .ok (.iload_n 3, 1) := by decide +kernel
theorem dL_law_298 : decode cL_law 298 = .ok (.iconst 1, 1) := by decide +kernel
theorem dL_law_299 : decode cL_law 299 = .ok (.iadd, 1) := by decide +kernel
theorem dL_law_300 : decode cL_law 300 = .ok (.iaload, 1) := by decide +kernel
theorem dL_law_301 : decode cL_law 301 = .ok (.invokevirtual 35, 3) := by decide +kernel
theorem dL_law_304 : decode cL_law 304 = .ok (.if_icmp .eq 413, 3) := by decide +kernel
theorem dL_law_307 : decode cL_law 307 = .ok (.iconst 0, 1) := by decide +kernel
theorem dL_law_308 : decode cL_law 308 = .ok (.ireturn, 1) := by decide +kernel
theorem dL_law_309 : decode cL_law 309 = .ok (.aload_n 1, 1) := by decide +kernel
theorem dL_law_310 : decode cL_law 310 = .ok (.aload_n 0, 1) := by decide +kernel
theorem dL_law_311 : decode cL_law 311 = .ok (.iload_n 3, 1) := by decide +kernel
theorem dL_law_312 : decode cL_law 312 = .ok (.iconst 1, 1) := by decide +kernel
theorem dL_law_313 : decode cL_law 313 = .ok (.iadd, 1) := by decide +kernel
theorem dL_law_314 : decode cL_law 314 = .ok (.iaload, 1) := by decide +kernel
theorem dL_law_315 : decode cL_law 315 = .ok (.invokevirtual 36, 3) := by decide +kernel
theorem dL_law_318 : decode cL_law 318 = .ok (.aload_n 2, 1) := by decide +kernel
theorem dL_law_319 : decode cL_law 319 = .ok (.aload_n 0, 1) := by decide +kernel
theorem dL_law_320 : decode cL_law 320 = .ok (.iload_n 3, 1) := by decide +kernel
theorem dL_law_321 : decode cL_law 321 = .ok (.iconst 1, 1) := by decide +kernel
theorem dL_law_322 : decode cL_law 322 = .ok (.iadd, 1) := by decide +kernel
theorem dL_law_323 : decode cL_law 323 = .ok (.iaload, 1) := by decide +kernel
theorem dL_law_324 : decode cL_law 324 = .ok (.invokevirtual 39, 3) := by decide +kernel
theorem dL_law_327 : decode cL_law 327 = .ok (.if_icmp .eq 390, 3) := by decide +kernel
theorem dL_law_330 : decode cL_law 330 = .ok (.iconst 0, 1) := by decide +kernel
theorem dL_law_331 : decode cL_law 331 = .ok (.ireturn, 1) := by decide +kernel
theorem dL_law_332 : decode cL_law 332 = .ok (.aload_n 1, 1) := by decide +kernel
theorem dL_law_333 : decode cL_law 333 = .ok (.aload_n 0, 1) := by decide +kernel
theorem dL_law_334 : decode cL_law 334 = .ok (.iload_n 3, 1) := by decide +kernel
theorem dL_law_335 : decode cL_law 335 = .ok (.iconst 1, 1) := by decide +kernel
theorem dL_law_336 : decode cL_law 336 = .ok (.iadd, 1) := by decide +kernel
theorem dL_law_337 : decode cL_law 337 = .ok (.iaload, 1) := by decide +kernel
theorem dL_law_338 : decode cL_law 338 = .ok (.invokevirtual 40, 3) := by decide +kernel
theorem dL_law_341 : decode cL_law 341 = .ok (.aload_n 2, 1) := by decide +kernel
theorem dL_law_342 : decode cL_law 342 = .ok (.aload_n 0, 1) := by decide +kernel
theorem dL_law_343 : decode cL_law 343 = .ok (.iload_n 3, 1) := by decide +kernel
theorem dL_law_344 : decode cL_law 344 = .ok (.iconst 1, 1) := by decide +kernel
theorem dL_law_345 : decode cL_law 345 = .ok (.iadd, 1) := by decide +kernel
theorem dL_law_346 : decode cL_law 346 = .ok (.iaload, 1) := by decide +kernel
theorem dL_law_347 : decode cL_law 347 = .ok (.invokevirtual 43, 3) := by decide +kernel
theorem dL_law_350 : decode cL_law 350 = .ok (.if_icmp .eq 367, 3) := by decide +kernel
theorem dL_law_353 : decode cL_law 353 = .ok (.iconst 0, 1) := by decide +kernel
theorem dL_law_354 : decode cL_law 354 = .ok (.ireturn, 1) := by decide +kernel
theorem dL_law_355 : decode cL_law 355 = .ok (.aload_n 1, 1) := by decide +kernel
theorem dL_law_356 : decode cL_law 356 = .ok (.aload_n 0, 1) := by decide +kernel
theorem dL_law_357 : decode cL_law 357 = .ok (.iload_n 3, 1) := by decide +kernel
theorem dL_law_358 : decode cL_law 358 = .ok (.iconst 1, 1) := by decide +kernel
theorem dL_law_359 : decode cL_law 359 = .ok (.iadd, 1) := by decide +kernel
theorem dL_law_360 : decode cL_law 360 = .ok (.iaload, 1) := by decide +kernel
theorem dL_law_361 : decode cL_law 361 = .ok (.invokevirtual 44, 3) := by decide +kernel
theorem dL_law_364 : decode cL_law 364 = .ok (.aload_n 2, 1) := by decide +kernel
theorem dL_law_365 : decode cL_law 365 = .ok (.aload_n 0, 1) := by decide +kernel
theorem dL_law_366 : decode cL_law 366 = .ok (.iload_n 3, 1) := by decide +kernel
theorem dL_law_367 : decode cL_law 367 = .ok (.iconst 1, 1) := by decide +kernel
theorem dL_law_368 : decode cL_law 368 = .ok (.iadd, 1) := by decide +kernel
theorem dL_law_369 : decode cL_law 369 = .ok (.iaload, 1) := by decide +kernel
theorem dL_law_370 : decode cL_law 370 = .ok (.invokevirtual 47, 3) := by decide +kernel
theorem dL_law_373 : decode cL_law 373 = .ok (.if_icmp .eq 344, 3) := by decide +kernel
theorem dL_law_376 : decode cL_law 376 = .ok (.iconst 0, 1) := by decide +kernel
theorem dL_law_377 : decode cL_law 377 = .ok (.ireturn, 1) := by decide +kernel
theorem dL_law_378 : decode cL_law 378 = .ok (.aload_n 1, 1) := by decide +kernel
theorem dL_law_379 : decode cL_law 379 = .ok (.aload_n 0, 1) := by decide +kernel
theorem dL_law_380 : decode cL_law 380 = .ok (.iload_n 3, 1) := by decide +kernel
theorem dL_law_381 : decode cL_law 381 = .ok (.iconst 1, 1) := by decide +kernel
theorem dL_law_382 : decode cL_law 382 = .ok (.iadd, 1) := by decide +kernel
theorem dL_law_383 : decode cL_law 383 = .ok (.iaload, 1) := by decide +kernel
theorem dL_law_384 : decode cL_law 384 = .ok (.invokevirtual 48, 3) := by decide +kernel
theorem dL_law_387 : decode cL_law 387 = .ok (.aload_n 2, 1) := by decide +kernel
theorem dL_law_388 : decode cL_law 388 = .ok (.aload_n 0, 1) := by decide +kernel
theorem dL_law_389 : decode cL_law 389 = .ok (.iload_n 3, 1) := by decide +kernel
theorem dL_law_390 : decode cL_law 390 = .ok (.iconst 1, 1) := by decide +kernel
theorem dL_law_391 : decode cL_law 391 = .ok (.iadd, 1) := by decide +kernel
theorem dL_law_392 : decode cL_law 392 = .ok (.iaload, 1) := by decide +kernel
theorem dL_law_393 : decode cL_law 393 = .ok (.invokevirtual 51, 3) := by decide +kernel
theorem dL_law_396 : decode cL_law 396 = .ok (.if_icmp .eq 321, 3) := by decide +kernel
theorem dL_law_399 : decode cL_law 399 = .ok (.iconst 0, 1) := by decide +kernel
theorem dL_law_400 : decode cL_law 400 = .ok (.ireturn, 1) := by decide +kernel
theorem dL_law_401 : decode cL_law 401 = .ok (.aload_n 1, 1) := by decide +kernel
theorem dL_law_402 : decode cL_law 402 = .ok (.aload_n 0, 1) := by decide +kernel
theorem dL_law_403 : decode cL_law 403 = .ok (.iload_n 3, 1) := by decide +kernel
theorem dL_law_404 : decode cL_law 404 = .ok (.iconst 1, 1) := by decide +kernel
theorem dL_law_405 : decode cL_law 405 = .ok (.iadd, 1) := by decide +kernel
theorem dL_law_406 : decode cL_law 406 = .ok (.iaload, 1) := by decide +kernel
theorem dL_law_407 : decode cL_law 407 = .ok (.invokevirtual 52, 3) := by decide +kernel
theorem dL_law_410 : decode cL_law 410 = .ok (.aload_n 2, 1) := by decide +kernel
theorem dL_law_411 : decode cL_law 411 = .ok (.aload_n 0, 1) := by decide +kernel
theorem dL_law_412 : decode cL_law 412 = .ok (.iload_n 3, 1) := by decide +kernel
theorem dL_law_413 : decode cL_law 413 = .ok (.iconst 1, 1) := by decide +kernel
theorem dL_law_414 : decode cL_law 414 = .ok (.iadd, 1) := by decide +kernel
theorem dL_law_415 : decode cL_law 415 = .ok (.iaload, 1) := by decide +kernel
theorem dL_law_416 : decode cL_law 416 = .ok (.invokevirtual 55, 3) := by decide +kernel
theorem dL_law_419 : decode cL_law 419 = .ok (.if_icmp .eq 298, 3) := by decide +kernel
theorem dL_law_422 : decode cL_law 422 = .ok (.iconst 0, 1) := by decide +kernel
theorem dL_law_423 : decode cL_law 423 = .ok (.ireturn, 1) := by decide +kernel
theorem dL_law_424 : decode cL_law 424 = .ok (.aload_n 1, 1) := by decide +kernel
theorem dL_law_425 : decode cL_law 425 = .ok (.aload_n 0, 1) := by decide +kernel
theorem dL_law_426 : decode cL_law 426 = .ok (.iload_n 3, 1) := by decide +kernel
theorem dL_law_427 : decode cL_law 427 = .ok (.iconst 1, 1) := by decide +kernel
theorem dL_law_428 : decode cL_law 428 = .ok (.iadd, 1) := by decide +kernel
theorem dL_law_429 : decode cL_law 429 = .ok (.iaload, 1) := by decide +kernel
theorem dL_law_430 : decode cL_law 430 = .ok (.invokevirtual 56, 3) := by decide +kernel
theorem dL_law_433 : decode cL_law 433 = .ok (.aload_n 2, 1) := by decide +kernel
theorem dL_law_434 : decode cL_law 434 = .ok (.aload_n 0, 1) := by decide +kernel
theorem dL_law_435 : decode cL_law 435 = .ok (.iload_n 3, 1) := by decide +kernel
theorem dL_law_436 : decode cL_law 436 = .ok (.iconst 1, 1) := by decide +kernel
theorem dL_law_437 : decode cL_law 437 = .ok (.iadd, 1) := by decide +kernel
theorem dL_law_438 : decode cL_law 438 = .ok (.iaload, 1) := by decide +kernel
theorem dL_law_439 : decode cL_law 439 = .ok (.invokevirtual 59, 3) := by decide +kernel
theorem dL_law_442 : decode cL_law 442 = .ok (.if_icmp .eq 275, 3) := by decide +kernel
theorem dL_law_445 : decode cL_law 445 = .ok (.iconst 0, 1) := by decide +kernel
theorem dL_law_446 : decode cL_law 446 = .ok (.ireturn, 1) := by decide +kernel
theorem dL_law_447 : decode cL_law 447 = .ok (.aload_n 1, 1) := by decide +kernel
theorem dL_law_448 : decode cL_law 448 = .ok (.aload_n 0, 1) := by decide +kernel
theorem dL_law_449 : decode cL_law 449 = .ok (.iload_n 3, 1) := by decide +kernel
theorem dL_law_450 : decode cL_law 450 = .ok (.iconst 1, 1) := by decide +kernel
theorem dL_law_451 : decode cL_law 451 = .ok (.iadd, 1) := by decide +kernel
theorem dL_law_452 : decode cL_law 452 = .ok (.iaload, 1) := by decide +kernel
theorem dL_law_453 : decode cL_law 453 = .ok (.invokevirtual 60, 3) := by decide +kernel
theorem dL_law_456 : decode cL_law 456 = .ok (.aload_n 2, 1) := by decide +kernel
theorem dL_law_457 : decode cL_law 457 = .ok (.aload_n 0, 1) := by decide +kernel
theorem dL_law_458 : decode cL_law 458 = .ok (.iload_n 3, 1) := by decide +kernel
theorem dL_law_459 : decode cL_law 459 = .ok (.iconst 1, 1) := by decide +kernel
theorem dL_law_460 : decode cL_law 460 = .ok (.iadd, 1) := by decide +kernel
theorem dL_law_461 : decode cL_law 461 = .ok (.iaload, 1) := by decide +kernel
theorem dL_law_462 : decode cL_law 462 = .ok (.invokevirtual 63, 3) := by decide +kernel
theorem dL_law_465 : decode cL_law 465 = .ok (.if_icmp .eq 252, 3) := by decide +kernel
theorem dL_law_468 : decode cL_law 468 = .ok (.iconst 0, 1) := by decide +kernel
theorem dL_law_469 : decode cL_law 469 = .ok (.ireturn, 1) := by decide +kernel
theorem dL_law_470 : decode cL_law 470 = .ok (.aload_n 1, 1) := by decide +kernel
theorem dL_law_471 : decode cL_law 471 = .ok (.invokevirtual 64, 3) := by decide +kernel
theorem dL_law_474 : decode cL_law 474 = .ok (.aload_n 2, 1) := by decide +kernel
theorem dL_law_475 : decode cL_law 475 = .ok (.invokevirtual 68, 3) := by decide +kernel
theorem dL_law_478 : decode cL_law 478 = .ok (.if_icmp .eq 239, 3) := by decide +kernel
theorem dL_law_481 : decode cL_law 481 = .ok (.iconst 0, 1) := by decide +kernel
theorem dL_law_482 : decode cL_law 482 = .ok (.ireturn, 1) := by decide +kernel
theorem dL_law_483 : decode cL_law 483 = .ok (.aload_n 1, 1) := by decide +kernel
theorem dL_law_484 : decode cL_law 484 = .ok (.aload_n 0, 1) := by decide +kernel
theorem dL_law_485 : decode cL_law 485 = .ok (.iload_n 3, 1) := by decide +kernel
theorem dL_law_486 : decode cL_law 486 = .ok (.iconst 1, 1) := by decide +kernel
theorem dL_law_487 : decode cL_law 487 = .ok (.iadd, 1) := by decide +kernel
theorem dL_law_488 : decode cL_law 488 = .ok (.iaload, 1) := by decide +kernel
theorem dL_law_489 : decode cL_law 489 = .ok (.invokevirtual 69, 3) := by decide +kernel
theorem dL_law_492 : decode cL_law 492 = .ok (.aload_n 2, 1) := by decide +kernel
theorem dL_law_493 : decode cL_law 493 = .ok (.aload_n 0, 1) := by decide +kernel
theorem dL_law_494 : decode cL_law 494 = .ok (.iload_n 3, 1) := by decide +kernel
theorem dL_law_495 : decode cL_law 495 = .ok (.iconst 1, 1) := by decide +kernel
theorem dL_law_496 : decode cL_law 496 = .ok (.iadd, 1) := by decide +kernel
theorem dL_law_497 : decode cL_law 497 = .ok (.iaload, 1) := by decide +kernel
theorem dL_law_498 : decode cL_law 498 = .ok (.invokevirtual 72, 3) := by decide +kernel
theorem dL_law_501 : decode cL_law 501 = .ok (.if_icmp .eq 216, 3) := by decide +kernel
theorem dL_law_504 : decode cL_law 504 = .ok (.iconst 0, 1) := by decide +kernel
theorem dL_law_505 : decode cL_law 505 = .ok (.ireturn, 1) := by decide +kernel
theorem dL_law_506 : decode cL_law 506 = .ok (.aload_n 1, 1) := by decide +kernel
theorem dL_law_507 : decode cL_law 507 = .ok (.aload_n 0, 1) := by decide +kernel
theorem dL_law_508 : decode cL_law 508 = .ok (.iload_n 3, 1) := by decide +kernel
theorem dL_law_509 : decode cL_law 509 = .ok (.iconst 1, 1) := by decide +kernel
theorem dL_law_510 : decode cL_law 510 = .ok (.iadd, 1) := by decide +kernel
theorem dL_law_511 : decode cL_law 511 = .ok (.iaload, 1) := by decide +kernel
theorem dL_law_512 : decode cL_law 512 = .ok (.invokevirtual 73, 3) := by decide +kernel
theorem dL_law_515 : decode cL_law 515 = .ok (.aload_n 2, 1) := by decide +kernel
theorem dL_law_516 : decode cL_law 516 = .ok (.aload_n 0, 1) := by decide +kernel
theorem dL_law_517 : decode cL_law 517 = .ok (.iload_n 3, 1) := by decide +kernel
theorem dL_law_518 : decode cL_law 518 = .ok (.iconst 1, 1) := by decide +kernel
theorem dL_law_519 : decode cL_law 519 = .ok (.iadd, 1) := by decide +kernel
theorem dL_law_520 : decode cL_law 520 = .ok (.iaload, 1) := by decide +kernel
theorem dL_law_521 : decode cL_law 521 = .ok (.invokevirtual 76, 3) := by decide +kernel
theorem dL_law_524 : decode cL_law 524 = .ok (.if_icmp .eq 193, 3) := by decide +kernel
theorem dL_law_527 : decode cL_law 527 = .ok (.iconst 0, 1) := by decide +kernel
theorem dL_law_528 : decode cL_law 528 = .ok (.ireturn, 1) := by decide +kernel
theorem dL_law_529 : decode cL_law 529 = .ok (.aload_n 1, 1) := by decide +kernel
theorem dL_law_530 : decode cL_law 530 = .ok (.aload_n 0, 1) := by decide +kernel
theorem dL_law_531 : decode cL_law 531 = .ok (.iload_n 3, 1) := by decide +kernel
theorem dL_law_532 : decode cL_law 532 = .ok (.iconst 1, 1) := by decide +kernel
theorem dL_law_533 : decode cL_law 533 = .ok (.iadd, 1) := by decide +kernel
theorem dL_law_534 : decode cL_law 534 = .ok (.iaload, 1) := by decide +kernel
theorem dL_law_535 : decode cL_law 535 = .ok (.invokevirtual 77, 3) := by decide +kernel
theorem dL_law_538 : decode cL_law 538 = .ok (.aload_n 2, 1) := by decide +kernel
theorem dL_law_539 : decode cL_law 539 = .ok (.aload_n 0, 1) := by decide +kernel
theorem dL_law_540 : decode cL_law 540 = .ok (.iload_n 3, 1) := by decide +kernel
theorem dL_law_541 : decode cL_law 541 = .ok (.iconst 1, 1) := by decide +kernel
theorem dL_law_542 : decode cL_law 542 = .ok (.iadd, 1) := by decide +kernel
theorem dL_law_543 : decode cL_law 543 = .ok (.iaload, 1) := by decide +kernel
theorem dL_law_544 : decode cL_law 544 = .ok (.invokevirtual 80, 3) := by decide +kernel
theorem dL_law_547 : decode cL_law 547 = .ok (.if_icmp .eq 170, 3) := by decide +kernel
theorem dL_law_550 : decode cL_law 550 = .ok (.iconst 0, 1) := by decide +kernel
theorem dL_law_551 : decode cL_law 551 = .ok (.ireturn, 1) := by decide +kernel
theorem dL_law_552 : decode cL_law 552 = .ok (.aload_n 1, 1) := by decide +kernel
theorem dL_law_553 : decode cL_law 553 = .ok (.aload_n 0, 1) := by decide +kernel
theorem dL_law_554 : decode cL_law 554 = .ok (.iload_n 3, 1) := by decide +kernel
theorem dL_law_555 : decode cL_law 555 = .ok (.iconst 1, 1) := by decide +kernel
theorem dL_law_556 : decode cL_law 556 = .ok (.iadd, 1) := by decide +kernel
theorem dL_law_557 : decode cL_law 557 = .ok (.iaload, 1) := by decide +kernel
theorem dL_law_558 : decode cL_law 558 = .ok (.invokevirtual 81, 3) := by decide +kernel
theorem dL_law_561 : decode cL_law 561 = .ok (.aload_n 2, 1) := by decide +kernel
theorem dL_law_562 : decode cL_law 562 = .ok (.aload_n 0, 1) := by decide +kernel
theorem dL_law_563 : decode cL_law 563 = .ok (.iload_n 3, 1) := by decide +kernel
theorem dL_law_564 : decode cL_law 564 = .ok (.iconst 1, 1) := by decide +kernel
theorem dL_law_565 : decode cL_law 565 = .ok (.iadd, 1) := by decide +kernel
theorem dL_law_566 : decode cL_law 566 = .ok (.iaload, 1) := by decide +kernel
theorem dL_law_567 : decode cL_law 567 = .ok (.invokevirtual 84, 3) := by decide +kernel
theorem dL_law_570 : decode cL_law 570 = .ok (.if_icmp .eq 147, 3) := by decide +kernel
theorem dL_law_573 : decode cL_law 573 = .ok (.iconst 0, 1) := by decide +kernel
theorem dL_law_574 : decode cL_law 574 = .ok (.ireturn, 1) := by decide +kernel
theorem dL_law_575 : decode cL_law 575 = .ok (.aload_n 1, 1) := by decide +kernel
theorem dL_law_576 : decode cL_law 576 = .ok (.aload_n 0, 1) := by decide +kernel
theorem dL_law_577 : decode cL_law 577 = .ok (.iload_n 3, 1) := by decide +kernel
theorem dL_law_578 : decode cL_law 578 = .ok (.iconst 1, 1) := by decide +kernel
theorem dL_law_579 : decode cL_law 579 = .ok (.iadd, 1) := by decide +kernel
theorem dL_law_580 : decode cL_law 580 = .ok (.iaload, 1) := by decide +kernel
theorem dL_law_581 : decode cL_law 581 = .ok (.invokevirtual 85, 3) := by decide +kernel
theorem dL_law_584 : decode cL_law 584 = .ok (.aload_n 2, 1) := by decide +kernel
theorem dL_law_585 : decode cL_law 585 = .ok (.aload_n 0, 1) := by decide +kernel
theorem dL_law_586 : decode cL_law 586 = .ok (.iload_n 3, 1) := by decide +kernel
theorem dL_law_587 : decode cL_law 587 = .ok (.iconst 1, 1) := by decide +kernel
theorem dL_law_588 : decode cL_law 588 = .ok (.iadd, 1) := by decide +kernel
theorem dL_law_589 : decode cL_law 589 = .ok (.iaload, 1) := by decide +kernel
theorem dL_law_590 : decode cL_law 590 = .ok (.invokevirtual 88, 3) := by decide +kernel
theorem dL_law_593 : decode cL_law 593 = .ok (.if_icmp .eq 124, 3) := by decide +kernel
theorem dL_law_596 : decode cL_law 596 = .ok (.iconst 0, 1) := by decide +kernel
theorem dL_law_597 : decode cL_law 597 = .ok (.ireturn, 1) := by decide +kernel
theorem dL_law_598 : decode cL_law 598 = .ok (.aload_n 1, 1) := by decide +kernel
theorem dL_law_599 : decode cL_law 599 = .ok (.aload_n 0, 1) := by decide +kernel
theorem dL_law_600 : decode cL_law 600 = .ok (.iload_n 3, 1) := by decide +kernel
theorem dL_law_601 : decode cL_law 601 = .ok (.iconst 1, 1) := by decide +kernel
theorem dL_law_602 : decode cL_law 602 = .ok (.iadd, 1) := by decide +kernel
theorem dL_law_603 : decode cL_law 603 = .ok (.iaload, 1) := by decide +kernel
theorem dL_law_604 : decode cL_law 604 = .ok (.invokevirtual 89, 3) := by decide +kernel
theorem dL_law_607 : decode cL_law 607 = .ok (.aload_n 2, 1) := by decide +kernel
theorem dL_law_608 : decode cL_law 608 = .ok (.aload_n 0, 1) := by decide +kernel
theorem dL_law_609 : decode cL_law 609 = .ok (.iload_n 3, 1) := by decide +kernel
theorem dL_law_610 : decode cL_law 610 = .ok (.iconst 1, 1) := by decide +kernel
theorem dL_law_611 : decode cL_law 611 = .ok (.iadd, 1) := by decide +kernel
theorem dL_law_612 : decode cL_law 612 = .ok (.iaload, 1) := by decide +kernel
theorem dL_law_613 : decode cL_law 613 = .ok (.invokevirtual 92, 3) := by decide +kernel
theorem dL_law_616 : decode cL_law 616 = .ok (.if_icmp .eq 101, 3) := by decide +kernel
theorem dL_law_619 : decode cL_law 619 = .ok (.iconst 0, 1) := by decide +kernel
theorem dL_law_620 : decode cL_law 620 = .ok (.ireturn, 1) := by decide +kernel
theorem dL_law_621 : decode cL_law 621 = .ok (.aload_n 1, 1) := by decide +kernel
theorem dL_law_622 : decode cL_law 622 = .ok (.aload_n 0, 1) := by decide +kernel
theorem dL_law_623 : decode cL_law 623 = .ok (.iload_n 3, 1) := by decide +kernel
theorem dL_law_624 : decode cL_law 624 = .ok (.iconst 1, 1) := by decide +kernel
theorem dL_law_625 : decode cL_law 625 = .ok (.iadd, 1) := by decide +kernel
