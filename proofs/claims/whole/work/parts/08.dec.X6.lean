theorem dX6_layerOn_165 : decode cX6_layerOn 165 = .ok (.aload_n 0, 1) := by decide +kernel
theorem dX6_layerOn_166 : decode cX6_layerOn 166 = .ok (.bipush 8, 2) := by decide +kernel
theorem dX6_layerOn_168 : decode cX6_layerOn 168 = .ok (.bipush 8, 2) := by decide +kernel
theorem dX6_layerOn_170 : decode cX6_layerOn 170 = .ok (.bipush 33, 2) := by decide +kernel
theorem dX6_layerOn_172 : decode cX6_layerOn 172 = .ok (.invokevirtual 111, 3) := by decide +kernel
theorem dX6_layerOn_175 : decode cX6_layerOn 175 = .ok (.aload_n 0, 1) := by decide +kernel
theorem dX6_layerOn_176 : decode cX6_layerOn 176 = .ok (.bipush 9, 2) := by decide +kernel
theorem dX6_layerOn_178 : decode cX6_layerOn 178 = .ok (.iconst 3, 1) := by decide +kernel
theorem dX6_layerOn_179 : decode cX6_layerOn 179 = .ok (.bipush 10, 2) := by decide +kernel
theorem dX6_layerOn_181 : decode cX6_layerOn 181 = .ok (.invokevirtual 96, 3) := by decide +kernel
theorem dX6_layerOn_184 : decode cX6_layerOn 184 = .ok (.aload_n 0, 1) := by decide +kernel
theorem dX6_layerOn_185 : decode cX6_layerOn 185 = .ok (.bipush 33, 2) := by decide +kernel
theorem dX6_layerOn_187 : decode cX6_layerOn 187 = .ok (.iconst 2, 1) := by decide +kernel
theorem dX6_layerOn_188 : decode cX6_layerOn 188 = .ok (.bipush 11, 2) := by decide +kernel
theorem dX6_layerOn_190 : decode cX6_layerOn 190 = .ok (.invokevirtual 96, 3) := by decide +kernel
theorem dX6_layerOn_193 : decode cX6_layerOn 193 = .ok (.aload_n 0, 1) := by decide +kernel
theorem dX6_layerOn_194 : decode cX6_layerOn 194 = .ok (.bipush 33, 2) := by decide +kernel
theorem dX6_layerOn_196 : decode cX6_layerOn 196 = .ok (.lload 10, 2) := by decide +kernel
theorem dX6_layerOn_198 : decode cX6_layerOn 198 = .ok (.invokevirtual 133, 3) := by decide +kernel
theorem dX6_layerOn_201 : decode cX6_layerOn 201 = .ok (.aload_n 0, 1) := by decide +kernel
theorem dX6_layerOn_202 : decode cX6_layerOn 202 = .ok (.bipush 9, 2) := by decide +kernel
theorem dX6_layerOn_204 : decode cX6_layerOn 204 = .ok (.bipush 9, 2) := by decide +kernel
theorem dX6_layerOn_206 : decode cX6_layerOn 206 = .ok (.bipush 33, 2) := by decide +kernel
theorem dX6_layerOn_208 : decode cX6_layerOn 208 = .ok (.invokevirtual 108, 3) := by decide +kernel
theorem dX6_layerOn_211 : decode cX6_layerOn 211 = .ok (.aload_n 0, 1) := by decide +kernel
theorem dX6_layerOn_212 : decode cX6_layerOn 212 = .ok (.iconst 0, 1) := by decide +kernel
theorem dX6_layerOn_213 : decode cX6_layerOn 213 = .ok (.bipush 6, 2) := by decide +kernel
theorem dX6_layerOn_215 : decode cX6_layerOn 215 = .ok (.invokevirtual 81, 3) := by decide +kernel
theorem dX6_layerOn_218 : decode cX6_layerOn 218 = .ok (.aload_n 0, 1) := by decide +kernel
theorem dX6_layerOn_219 : decode cX6_layerOn 219 = .ok (.iconst 1, 1) := by decide +kernel
theorem dX6_layerOn_220 : decode cX6_layerOn 220 = .ok (.bipush 7, 2) := by decide +kernel
theorem dX6_layerOn_222 : decode cX6_layerOn 222 = .ok (.invokevirtual 81, 3) := by decide +kernel
theorem dX6_layerOn_225 : decode cX6_layerOn 225 = .ok (.aload_n 0, 1) := by decide +kernel
theorem dX6_layerOn_226 : decode cX6_layerOn 226 = .ok (.iconst 2, 1) := by decide +kernel
theorem dX6_layerOn_227 : decode cX6_layerOn 227 = .ok (.bipush 8, 2) := by decide +kernel
theorem dX6_layerOn_229 : decode cX6_layerOn 229 = .ok (.invokevirtual 81, 3) := by decide +kernel
theorem dX6_layerOn_232 : decode cX6_layerOn 232 = .ok (.aload_n 0, 1) := by decide +kernel
theorem dX6_layerOn_233 : decode cX6_layerOn 233 = .ok (.iconst 3, 1) := by decide +kernel
theorem dX6_layerOn_234 : decode cX6_layerOn 234 = .ok (.bipush 9, 2) := by decide +kernel
theorem dX6_layerOn_236 : decode cX6_layerOn 236 = .ok (.invokevirtual 81, 3) := by decide +kernel
theorem dX6_layerOn_239 : decode cX6_layerOn 239 = .ok (.aload_n 0, 1) := by decide +kernel
theorem dX6_layerOn_240 : decode cX6_layerOn 240 = .ok (.iconst 4, 1) := by decide +kernel
theorem dX6_layerOn_241 : decode cX6_layerOn 241 = .ok (.iload 5, 2) := by decide +kernel
theorem dX6_layerOn_243 : decode cX6_layerOn 243 = .ok (.i2l, 1) := by decide +kernel
theorem dX6_layerOn_244 : decode cX6_layerOn 244 = .ok (.iload_n 3, 1) := by decide +kernel
theorem dX6_layerOn_245 : decode cX6_layerOn 245 = .ok (.invokestatic 136, 3) := by decide +kernel
theorem dX6_layerOn_248 : decode cX6_layerOn 248 = .ok (.iload_n 1, 1) := by decide +kernel
theorem dX6_layerOn_249 : decode cX6_layerOn 249 = .ok (.i2l, 1) := by decide +kernel
theorem dX6_layerOn_250 : decode cX6_layerOn 250 = .ok (.lmul, 1) := by decide +kernel
theorem dX6_layerOn_251 : decode cX6_layerOn 251 = .ok (.iload_n 2, 1) := by decide +kernel
theorem dX6_layerOn_252 : decode cX6_layerOn 252 = .ok (.i2l, 1) := by decide +kernel
theorem dX6_layerOn_253 : decode cX6_layerOn 253 = .ok (.lmul, 1) := by decide +kernel
theorem dX6_layerOn_254 : decode cX6_layerOn 254 = .ok (.invokevirtual 133, 3) := by decide +kernel
theorem dX6_layerOn_257 : decode cX6_layerOn 257 = .ok (.return_, 1) := by decide +kernel
set_option maxRecDepth 20000 in
theorem ggX6_backOf_X6_table : GoodIn wsX6_backOf wsX6_table := goodIn_r _ [9, 10, 11, 12, 13, 14, 15, 16, 8, 17, 18, 19, 20, 21, 22, 23, 24, 25, 26, 27, 28, 29, 30, 31, 32, 33, 34, 35, 36, 37, 38, 39, 40, 41, 42, 43, 44, 45, 46, 47, 48, 49, 50, 51, 52, 53, 54, 55, 56, 57, 58, 59, 60, 61, 62, 63, 64, 65, 66, 67, 68, 69, 70, 71, 72, 73, 74, 75, 76, 77, 78, 79, 80, 81, 82, 83, 84, 85, 86, 87, 88, 89, 90, 91, 92, 93, 94, 95, 96, 97] rfl rfl
set_option maxRecDepth 20000 in
theorem gX6_backOf_X6_table : GoodIn wsX6_backOf (wsV RX6 140 RX6 yX6_table wsX6_table) := goodIn_app (goodIn_r _ [5, 6, 7, 8] rfl rfl) ggX6_backOf_X6_table
set_option maxRecDepth 20000 in
theorem ggX6_backOf_X6_copy : GoodIn wsX6_backOf wsX6_copy := goodIn_r _ [52, 19, 20, 18, 76, 77, 78, 79, 80, 81, 82, 83, 84, 85, 86, 87, 88, 89, 90, 91, 92, 93, 94, 95, 96, 97] rfl rfl
set_option maxRecDepth 20000 in
theorem gX6_backOf_X6_copy : GoodIn wsX6_backOf (wsV RX6 81 RX6 yX6_copy wsX6_copy) := goodIn_app (goodIn_r _ [49, 50, 51, 8] rfl rfl) ggX6_backOf_X6_copy
set_option maxRecDepth 20000 in
theorem ggX6_backOf_X6_by : GoodIn wsX6_backOf wsX6_by := goodIn_r _ [48, 14, 15, 16, 8, 17, 18, 19, 20, 21, 33, 34, 35, 36, 37, 38, 39, 40, 41, 42, 43, 44, 49, 50, 51, 52, 76, 77, 78, 79, 80, 81, 82, 83, 84, 85, 86, 87, 88, 89, 90, 91, 92, 93, 94, 95, 96, 97] rfl rfl
set_option maxRecDepth 20000 in
theorem gX6_backOf_X6_by : GoodIn wsX6_backOf (wsV RX6 133 RX6 yX6_by wsX6_by) := goodIn_app (goodIn_r _ [45, 46, 47, 8] rfl rfl) ggX6_backOf_X6_by
set_option maxRecDepth 20000 in
theorem ggX6_backOf_X6_minus : GoodIn wsX6_backOf wsX6_minus := goodIn_r _ [56, 18, 57, 58, 59, 8, 60, 19, 20, 49, 50, 51, 52, 37, 38, 39, 40, 41, 42, 43, 44, 61, 62, 63, 64, 76, 77, 78, 79, 80, 81, 82, 83, 84, 85, 86, 87, 88, 89, 90, 91, 92, 93, 94, 95, 96, 97] rfl rfl
set_option maxRecDepth 20000 in
theorem gX6_backOf_X6_minus : GoodIn wsX6_backOf (wsV RX6 108 RX6 yX6_minus wsX6_minus) := goodIn_app (goodIn_r _ [53, 54, 55, 8] rfl rfl) ggX6_backOf_X6_minus
set_option maxRecDepth 20000 in
theorem ggX6_backOf_X6_plus : GoodIn wsX6_backOf wsX6_plus := goodIn_r _ [68, 18, 57, 58, 59, 8, 60, 19, 20, 49, 50, 51, 52, 37, 38, 39, 40, 41, 42, 43, 44, 61, 62, 63, 64, 76, 77, 78, 79, 80, 81, 82, 83, 84, 85, 86, 87, 88, 89, 90, 91, 92, 93, 94, 95, 96, 97] rfl rfl
set_option maxRecDepth 20000 in
theorem gX6_backOf_X6_plus : GoodIn wsX6_backOf (wsV RX6 111 RX6 yX6_plus wsX6_plus) := goodIn_app (goodIn_r _ [65, 66, 67, 8] rfl rfl) ggX6_backOf_X6_plus
set_option maxRecDepth 20000 in
theorem ggX6_backOf_X6_times : GoodIn wsX6_backOf wsX6_times := goodIn_r _ [36, 19, 20, 21, 18, 37, 38, 39, 8, 40, 41, 42, 43, 44, 76, 77, 78, 79, 80, 81, 82, 83, 84, 85, 86, 87, 88, 89, 90, 91, 92, 93, 94, 95, 96, 97] rfl rfl
set_option maxRecDepth 20000 in
theorem gX6_backOf_X6_times : GoodIn wsX6_backOf (wsV RX6 96 RX6 yX6_times wsX6_times) := goodIn_app (goodIn_r _ [33, 34, 35, 8] rfl rfl) ggX6_backOf_X6_times
theorem dX6_backOf_0 : decode cX6_backOf 0 = .ok (.aload_n 0, 1) := by decide +kernel
theorem dX6_backOf_1 : decode cX6_backOf 1 = .ok (.iload_n 1, 1) := by decide +kernel
theorem dX6_backOf_2 : decode cX6_backOf 2 = .ok (.iload_n 2, 1) := by decide +kernel
theorem dX6_backOf_3 : decode cX6_backOf 3 = .ok (.iload_n 3, 1) := by decide +kernel
theorem dX6_backOf_4 : decode cX6_backOf 4 = .ok (.invokevirtual 140, 3) := by decide +kernel
theorem dX6_backOf_7 : decode cX6_backOf 7 = .ok (.iload_n 3, 1) := by decide +kernel
theorem dX6_backOf_8 : decode cX6_backOf 8 = .ok (.i2l, 1) := by decide +kernel
theorem dX6_backOf_9 : decode cX6_backOf 9 = .ok (.iload_n 3, 1) := by decide +kernel
theorem dX6_backOf_10 : decode cX6_backOf 10 = .ok (.i2l, 1) := by decide +kernel
theorem dX6_backOf_11 : decode cX6_backOf 11 = .ok (.lmul, 1) := by decide +kernel
theorem dX6_backOf_12 : decode cX6_backOf 12 = .ok (.iload_n 2, 1) := by decide +kernel
theorem dX6_backOf_13 : decode cX6_backOf 13 = .ok (.i2l, 1) := by decide +kernel
theorem dX6_backOf_14 : decode cX6_backOf 14 = .ok (.iload_n 2, 1) := by decide +kernel
theorem dX6_backOf_15 : decode cX6_backOf 15 = .ok (.i2l, 1) := by decide +kernel
theorem dX6_backOf_16 : decode cX6_backOf 16 = .ok (.lmul, 1) := by decide +kernel
theorem dX6_backOf_17 : decode cX6_backOf 17 = .ok (.lsub, 1) := by decide +kernel
theorem dX6_backOf_18 : decode cX6_backOf 18 = .ok (.lstore 4, 2) := by decide +kernel
theorem dX6_backOf_20 : decode cX6_backOf 20 = .ok (.iconst 0, 1) := by decide +kernel
theorem dX6_backOf_21 : decode cX6_backOf 21 = .ok (.istore 6, 2) := by decide +kernel
theorem dX6_backOf_23 : decode cX6_backOf 23 = .ok (.iload 6, 2) := by decide +kernel
theorem dX6_backOf_25 : decode cX6_backOf 25 = .ok (.iconst 2, 1) := by decide +kernel
theorem dX6_backOf_26 : decode cX6_backOf 26 = .ok (.if_icmp .ge 225, 3) := by decide +kernel
theorem dX6_backOf_29 : decode cX6_backOf 29 = .ok (.iload 6, 2) := by decide +kernel
theorem dX6_backOf_31 : decode cX6_backOf 31 = .ok (.ifCond .ne 8, 3) := by decide +kernel
theorem dX6_backOf_34 : decode cX6_backOf 34 = .ok (.bipush 14, 2) := by decide +kernel
theorem dX6_backOf_36 : decode cX6_backOf 36 = .ok (.goto 5, 3) := by decide +kernel
theorem dX6_backOf_39 : decode cX6_backOf 39 = .ok (.bipush 15, 2) := by decide +kernel
theorem dX6_backOf_41 : decode cX6_backOf 41 = .ok (.istore 7, 2) := by decide +kernel
theorem dX6_backOf_43 : decode cX6_backOf 43 = .ok (.aload_n 0, 1) := by decide +kernel
theorem dX6_backOf_44 : decode cX6_backOf 44 = .ok (.bipush 10, 2) := by decide +kernel
theorem dX6_backOf_46 : decode cX6_backOf 46 = .ok (.iconst 0, 1) := by decide +kernel
theorem dX6_backOf_47 : decode cX6_backOf 47 = .ok (.invokevirtual 81, 3) := by decide +kernel
theorem dX6_backOf_50 : decode cX6_backOf 50 = .ok (.aload_n 0, 1) := by decide +kernel
theorem dX6_backOf_51 : decode cX6_backOf 51 = .ok (.bipush 10, 2) := by decide +kernel
theorem dX6_backOf_53 : decode cX6_backOf 53 = .ok (.aload_n 0, 1) := by decide +kernel
theorem dX6_backOf_54 : decode cX6_backOf 54 = .ok (.getfield 7, 3) := by decide +kernel
theorem dX6_backOf_57 : decode cX6_backOf 57 = .ok (.iload_n 1, 1) := by decide +kernel
theorem dX6_backOf_58 : decode cX6_backOf 58 = .ok (.iaload, 1) := by decide +kernel
theorem dX6_backOf_59 : decode cX6_backOf 59 = .ok (.aload_n 0, 1) := by decide +kernel
theorem dX6_backOf_60 : decode cX6_backOf 60 = .ok (.getfield 19, 3) := by decide +kernel
theorem dX6_backOf_63 : decode cX6_backOf 63 = .ok (.iload_n 1, 1) := by decide +kernel
theorem dX6_backOf_64 : decode cX6_backOf 64 = .ok (.iaload, 1) := by decide +kernel
theorem dX6_backOf_65 : decode cX6_backOf 65 = .ok (.imul, 1) := by decide +kernel
theorem dX6_backOf_66 : decode cX6_backOf 66 = .ok (.i2l, 1) := by decide +kernel
theorem dX6_backOf_67 : decode cX6_backOf 67 = .ok (.invokevirtual 133, 3) := by decide +kernel
theorem dX6_backOf_70 : decode cX6_backOf 70 = .ok (.aload_n 0, 1) := by decide +kernel
theorem dX6_backOf_71 : decode cX6_backOf 71 = .ok (.bipush 33, 2) := by decide +kernel
theorem dX6_backOf_73 : decode cX6_backOf 73 = .ok (.iconst 3, 1) := by decide +kernel
theorem dX6_backOf_74 : decode cX6_backOf 74 = .ok (.invokevirtual 81, 3) := by decide +kernel
theorem dX6_backOf_77 : decode cX6_backOf 77 = .ok (.aload_n 0, 1) := by decide +kernel
theorem dX6_backOf_78 : decode cX6_backOf 78 = .ok (.bipush 33, 2) := by decide +kernel
theorem dX6_backOf_80 : decode cX6_backOf 80 = .ok (.aload_n 0, 1) := by decide +kernel
theorem dX6_backOf_81 : decode cX6_backOf 81 = .ok (.getfield 16, 3) := by decide +kernel
theorem dX6_backOf_84 : decode cX6_backOf 84 = .ok (.iload_n 1, 1) := by decide +kernel
theorem dX6_backOf_85 : decode cX6_backOf 85 = .ok (.iaload, 1) := by decide +kernel
theorem dX6_backOf_86 : decode cX6_backOf 86 = .ok (.aload_n 0, 1) := by decide +kernel
theorem dX6_backOf_87 : decode cX6_backOf 87 = .ok (.getfield 13, 3) := by decide +kernel
theorem dX6_backOf_90 : decode cX6_backOf 90 = .ok (.iload_n 1, 1) := by decide +kernel
theorem dX6_backOf_91 : decode cX6_backOf 91 = .ok (.iaload, 1) := by decide +kernel
theorem dX6_backOf_92 : decode cX6_backOf 92 = .ok (.imul, 1) := by decide +kernel
theorem dX6_backOf_93 : decode cX6_backOf 93 = .ok (.i2l, 1) := by decide +kernel
theorem dX6_backOf_94 : decode cX6_backOf 94 = .ok (.invokevirtual 133, 3) := by decide +kernel
theorem dX6_backOf_97 : decode cX6_backOf 97 = .ok (.iload 6, 2) := by decide +kernel
theorem dX6_backOf_99 : decode cX6_backOf 99 = .ok (.ifCond .ne 16, 3) := by decide +kernel
theorem dX6_backOf_102 : decode cX6_backOf 102 = .ok (.aload_n 0, 1) := by decide +kernel
theorem dX6_backOf_103 : decode cX6_backOf 103 = .ok (.bipush 10, 2) := by decide +kernel
theorem dX6_backOf_105 : decode cX6_backOf 105 = .ok (.bipush 10, 2) := by decide +kernel
theorem dX6_backOf_107 : decode cX6_backOf 107 = .ok (.bipush 33, 2) := by decide +kernel
theorem dX6_backOf_109 : decode cX6_backOf 109 = .ok (.invokevirtual 108, 3) := by decide +kernel
theorem dX6_backOf_112 : decode cX6_backOf 112 = .ok (.goto 13, 3) := by decide +kernel
theorem dX6_backOf_115 : decode cX6_backOf 115 = .ok (.aload_n 0, 1) := by decide +kernel
theorem dX6_backOf_116 : decode cX6_backOf 116 = .ok (.bipush 10, 2) := by decide +kernel
theorem dX6_backOf_118 : decode cX6_backOf 118 = .ok (.bipush 10, 2) := by decide +kernel
theorem dX6_backOf_120 : decode cX6_backOf 120 = .ok (.bipush 33, 2) := by decide +kernel
theorem dX6_backOf_122 : decode cX6_backOf 122 = .ok (.invokevirtual 111, 3) := by decide +kernel
theorem dX6_backOf_125 : decode cX6_backOf 125 = .ok (.aload_n 0, 1) := by decide +kernel
theorem dX6_backOf_126 : decode cX6_backOf 126 = .ok (.bipush 11, 2) := by decide +kernel
theorem dX6_backOf_128 : decode cX6_backOf 128 = .ok (.iconst 1, 1) := by decide +kernel
theorem dX6_backOf_129 : decode cX6_backOf 129 = .ok (.invokevirtual 81, 3) := by decide +kernel
theorem dX6_backOf_132 : decode cX6_backOf 132 = .ok (.aload_n 0, 1) := by decide +kernel
theorem dX6_backOf_133 : decode cX6_backOf 133 = .ok (.bipush 11, 2) := by decide +kernel
theorem dX6_backOf_135 : decode cX6_backOf 135 = .ok (.aload_n 0, 1) := by decide +kernel
theorem dX6_backOf_136 : decode cX6_backOf 136 = .ok (.getfield 7, 3) := by decide +kernel
theorem dX6_backOf_139 : decode cX6_backOf 139 = .ok (.iload_n 1, 1) := by decide +kernel
theorem dX6_backOf_140 : decode cX6_backOf 140 = .ok (.iaload, 1) := by decide +kernel
theorem dX6_backOf_141 : decode cX6_backOf 141 = .ok (.aload_n 0, 1) := by decide +kernel
theorem dX6_backOf_142 : decode cX6_backOf 142 = .ok (.getfield 16, 3) := by decide +kernel
theorem dX6_backOf_145 : decode cX6_backOf 145 = .ok (.iload_n 1, 1) := by decide +kernel
theorem dX6_backOf_146 : decode cX6_backOf 146 = .ok (.iaload, 1) := by decide +kernel
theorem dX6_backOf_147 : decode cX6_backOf 147 = .ok (.imul, 1) := by decide +kernel
theorem dX6_backOf_148 : decode cX6_backOf 148 = .ok (.i2l, 1) := by decide +kernel
theorem dX6_backOf_149 : decode cX6_backOf 149 = .ok (.invokevirtual 133, 3) := by decide +kernel
theorem dX6_backOf_152 : decode cX6_backOf 152 = .ok (.aload_n 0, 1) := by decide +kernel
theorem dX6_backOf_153 : decode cX6_backOf 153 = .ok (.bipush 33, 2) := by decide +kernel
theorem dX6_backOf_155 : decode cX6_backOf 155 = .ok (.iconst 2, 1) := by decide +kernel
theorem dX6_backOf_156 : decode cX6_backOf 156 = .ok (.invokevirtual 81, 3) := by decide +kernel
theorem dX6_backOf_159 : decode cX6_backOf 159 = .ok (.aload_n 0, 1) := by decide +kernel
theorem dX6_backOf_160 : decode cX6_backOf 160 = .ok (.bipush 33, 2) := by decide +kernel
theorem dX6_backOf_162 : decode cX6_backOf 162 = .ok (.aload_n 0, 1) := by decide +kernel
theorem dX6_backOf_163 : decode cX6_backOf 163 = .ok (.getfield 13, 3) := by decide +kernel
theorem dX6_backOf_166 : decode cX6_backOf 166 = .ok (.iload_n 1, 1) := by decide +kernel
theorem dX6_backOf_167 : decode cX6_backOf 167 = .ok (.iaload, 1) := by decide +kernel
theorem dX6_backOf_168 : decode cX6_backOf 168 = .ok (.aload_n 0, 1) := by decide +kernel
theorem dX6_backOf_169 : decode cX6_backOf 169 = .ok (.getfield 19, 3) := by decide +kernel
theorem dX6_backOf_172 : decode cX6_backOf 172 = .ok (.iload_n 1, 1) := by decide +kernel
theorem dX6_backOf_173 : decode cX6_backOf 173 = .ok (.iaload, 1) := by decide +kernel
theorem dX6_backOf_174 : decode cX6_backOf 174 = .ok (.imul, 1) := by decide +kernel
theorem dX6_backOf_175 : decode cX6_backOf 175 = .ok (.i2l, 1) := by decide +kernel
theorem dX6_backOf_176 : decode cX6_backOf 176 = .ok (.invokevirtual 133, 3) := by decide +kernel
theorem dX6_backOf_179 : decode cX6_backOf 179 = .ok (.iload 6, 2) := by decide +kernel
theorem dX6_backOf_181 : decode cX6_backOf 181 = .ok (.ifCond .ne 16, 3) := by decide +kernel
theorem dX6_backOf_184 : decode cX6_backOf 184 = .ok (.aload_n 0, 1) := by decide +kernel
theorem dX6_backOf_185 : decode cX6_backOf 185 = .ok (.bipush 11, 2) := by decide +kernel
theorem dX6_backOf_187 : decode cX6_backOf 187 = .ok (.bipush 11, 2) := by decide +kernel
theorem dX6_backOf_189 : decode cX6_backOf 189 = .ok (.bipush 33, 2) := by decide +kernel
theorem dX6_backOf_191 : decode cX6_backOf 191 = .ok (.invokevirtual 108, 3) := by decide +kernel
theorem dX6_backOf_194 : decode cX6_backOf 194 = .ok (.goto 13, 3) := by decide +kernel
theorem dX6_backOf_197 : decode cX6_backOf 197 = .ok (.aload_n 0, 1) := by decide +kernel
theorem dX6_backOf_198 : decode cX6_backOf 198 = .ok (.bipush 11, 2) := by decide +kernel
theorem dX6_backOf_200 : decode cX6_backOf 200 = .ok (.bipush 11, 2) := by decide +kernel
theorem dX6_backOf_202 : decode cX6_backOf 202 = .ok (.bipush 33, 2) := by decide +kernel
theorem dX6_backOf_204 : decode cX6_backOf 204 = .ok (.invokevirtual 111, 3) := by decide +kernel
theorem dX6_backOf_207 : decode cX6_backOf 207 = .ok (.aload_n 0, 1) := by decide +kernel
theorem dX6_backOf_208 : decode cX6_backOf 208 = .ok (.bipush 12, 2) := by decide +kernel
theorem dX6_backOf_210 : decode cX6_backOf 210 = .ok (.bipush 10, 2) := by decide +kernel
theorem dX6_backOf_212 : decode cX6_backOf 212 = .ok (.bipush 10, 2) := by decide +kernel
theorem dX6_backOf_214 : decode cX6_backOf 214 = .ok (.invokevirtual 96, 3) := by decide +kernel
theorem dX6_backOf_217 : decode cX6_backOf 217 = .ok (.aload_n 0, 1) := by decide +kernel
theorem dX6_backOf_218 : decode cX6_backOf 218 = .ok (.bipush 13, 2) := by decide +kernel
theorem dX6_backOf_220 : decode cX6_backOf 220 = .ok (.bipush 11, 2) := by decide +kernel
theorem dX6_backOf_222 : decode cX6_backOf 222 = .ok (.bipush 11, 2) := by decide +kernel
theorem dX6_backOf_224 : decode cX6_backOf 224 = .ok (.invokevirtual 96, 3) := by decide +kernel
theorem dX6_backOf_227 : decode cX6_backOf 227 = .ok (.aload_n 0, 1) := by decide +kernel
theorem dX6_backOf_228 : decode cX6_backOf 228 = .ok (.bipush 13, 2) := by decide +kernel
theorem dX6_backOf_230 : decode cX6_backOf 230 = .ok (.lload 4, 2) := by decide +kernel
theorem dX6_backOf_232 : decode cX6_backOf 232 = .ok (.invokevirtual 133, 3) := by decide +kernel
theorem dX6_backOf_235 : decode cX6_backOf 235 = .ok (.aload_n 0, 1) := by decide +kernel
theorem dX6_backOf_236 : decode cX6_backOf 236 = .ok (.iload 7, 2) := by decide +kernel
theorem dX6_backOf_238 : decode cX6_backOf 238 = .ok (.bipush 12, 2) := by decide +kernel
theorem dX6_backOf_240 : decode cX6_backOf 240 = .ok (.bipush 13, 2) := by decide +kernel
theorem dX6_backOf_242 : decode cX6_backOf 242 = .ok (.invokevirtual 111, 3) := by decide +kernel
theorem dX6_backOf_245 : decode cX6_backOf 245 = .ok (.iinc 6 1, 3) := by decide +kernel
theorem dX6_backOf_248 : decode cX6_backOf 248 = .ok (.goto (-225), 3) := by decide +kernel
theorem dX6_backOf_251 : decode cX6_backOf 251 = .ok (.return_, 1) := by decide +kernel
set_option maxRecDepth 20000 in
theorem ggX6_against_X6_times : GoodIn wsX6_against wsX6_times := goodIn_r _ [5, 6, 7, 8, 9, 10, 11, 12, 4, 13, 14, 15, 16, 17, 26, 27, 28, 29, 30, 31, 32, 33, 34, 35, 36, 37, 38, 39, 40, 41, 42, 43, 44, 45, 46, 47] rfl rfl
set_option maxRecDepth 20000 in
theorem gX6_against_X6_times : GoodIn wsX6_against (wsV RX6 96 RX6 yX6_times wsX6_times) := goodIn_app (goodIn_r _ [1, 2, 3, 4] rfl rfl) ggX6_against_X6_times
set_option maxRecDepth 20000 in
theorem ggX6_against_X6_compare : GoodIn wsX6_against wsX6_compare := goodIn_r _ [21, 9, 22, 23, 24, 4, 25, 6, 10, 11, 12, 13, 7, 26, 27, 28, 29, 30, 31, 32, 33, 34, 35, 36, 37, 38, 39, 40, 41, 42, 43, 44, 45, 46, 47] rfl rfl
set_option maxRecDepth 20000 in
theorem gX6_against_X6_compare : GoodIn wsX6_against (wsV RX6 143 RX6 yX6_compare wsX6_compare) := goodIn_app (goodIn_r _ [18, 19, 20, 4] rfl rfl) ggX6_against_X6_compare
theorem dX6_against_0 : decode cX6_against 0 = .ok (.aload_n 0, 1) := by decide +kernel
theorem dX6_against_1 : decode cX6_against 1 = .ok (.bipush 32, 2) := by decide +kernel
theorem dX6_against_3 : decode cX6_against 3 = .ok (.bipush 14, 2) := by decide +kernel
theorem dX6_against_5 : decode cX6_against 5 = .ok (.iload_n 2, 1) := by decide +kernel
theorem dX6_against_6 : decode cX6_against 6 = .ok (.invokevirtual 96, 3) := by decide +kernel
theorem dX6_against_9 : decode cX6_against 9 = .ok (.aload_n 0, 1) := by decide +kernel
theorem dX6_against_10 : decode cX6_against 10 = .ok (.bipush 33, 2) := by decide +kernel
theorem dX6_against_12 : decode cX6_against 12 = .ok (.iload_n 1, 1) := by decide +kernel
theorem dX6_against_13 : decode cX6_against 13 = .ok (.bipush 15, 2) := by decide +kernel
theorem dX6_against_15 : decode cX6_against 15 = .ok (.invokevirtual 96, 3) := by decide +kernel
theorem dX6_against_18 : decode cX6_against 18 = .ok (.aload_n 0, 1) := by decide +kernel
theorem dX6_against_19 : decode cX6_against 19 = .ok (.bipush 32, 2) := by decide +kernel
theorem dX6_against_21 : decode cX6_against 21 = .ok (.bipush 33, 2) := by decide +kernel
theorem dX6_against_23 : decode cX6_against 23 = .ok (.invokevirtual 143, 3) := by decide +kernel
theorem dX6_against_26 : decode cX6_against 26 = .ok (.ireturn, 1) := by decide +kernel
theorem dX6_isIndex_0 : decode cX6_isIndex 0 = .ok (.iload_n 0, 1) := by decide +kernel
theorem dX6_isIndex_1 : decode cX6_isIndex 1 = .ok (.iconst 1, 1) := by decide +kernel
theorem dX6_isIndex_2 : decode cX6_isIndex 2 = .ok (.if_icmp .lt 24, 3) := by decide +kernel
theorem dX6_isIndex_5 : decode cX6_isIndex 5 = .ok (.iload_n 0, 1) := by decide +kernel
theorem dX6_isIndex_6 : decode cX6_isIndex 6 = .ok (.bipush 9, 2) := by decide +kernel
theorem dX6_isIndex_8 : decode cX6_isIndex 8 = .ok (.if_icmp .gt 18, 3) := by decide +kernel
theorem dX6_isIndex_11 : decode cX6_isIndex 11 = .ok (.iload_n 1, 1) := by decide +kernel
theorem dX6_isIndex_12 : decode cX6_isIndex 12 = .ok (.iconst 1, 1) := by decide +kernel
theorem dX6_isIndex_13 : decode cX6_isIndex 13 = .ok (.if_icmp .lt 13, 3) := by decide +kernel
theorem dX6_isIndex_16 : decode cX6_isIndex 16 = .ok (.iload_n 1, 1) := by decide +kernel
theorem dX6_isIndex_17 : decode cX6_isIndex 17 = .ok (.bipush 9, 2) := by decide +kernel
theorem dX6_isIndex_19 : decode cX6_isIndex 19 = .ok (.if_icmp .gt 7, 3) := by decide +kernel
theorem dX6_isIndex_22 : decode cX6_isIndex 22 = .ok (.iconst 1, 1) := by decide +kernel
theorem dX6_isIndex_23 : decode cX6_isIndex 23 = .ok (.goto 4, 3) := by decide +kernel
theorem dX6_isIndex_26 : decode cX6_isIndex 26 = .ok (.iconst 0, 1) := by decide +kernel
theorem dX6_isIndex_27 : decode cX6_isIndex 27 = .ok (.ireturn, 1) := by decide +kernel
theorem dX6_shared_0 : decode cX6_shared 0 = .ok (.iload_n 0, 1) := by decide +kernel
theorem dX6_shared_1 : decode cX6_shared 1 = .ok (.istore_n 2, 1) := by decide +kernel
theorem dX6_shared_2 : decode cX6_shared 2 = .ok (.iload_n 1, 1) := by decide +kernel
theorem dX6_shared_3 : decode cX6_shared 3 = .ok (.istore_n 3, 1) := by decide +kernel
theorem dX6_shared_4 : decode cX6_shared 4 = .ok (.iload_n 3, 1) := by decide +kernel
theorem dX6_shared_5 : decode cX6_shared 5 = .ok (.ifCond .le 16, 3) := by decide +kernel
theorem dX6_shared_8 : decode cX6_shared 8 = .ok (.iload_n 2, 1) := by decide +kernel
theorem dX6_shared_9 : decode cX6_shared 9 = .ok (.iload_n 3, 1) := by decide +kernel
theorem dX6_shared_10 : decode cX6_shared 10 = .ok (.irem, 1) := by decide +kernel
theorem dX6_shared_11 : decode cX6_shared 11 = .ok (.istore 4, 2) := by decide +kernel
theorem dX6_shared_13 : decode cX6_shared 13 = .ok (.iload_n 3, 1) := by decide +kernel
theorem dX6_shared_14 : decode cX6_shared 14 = .ok (.istore_n 2, 1) := by decide +kernel
theorem dX6_shared_15 : decode cX6_shared 15 = .ok (.iload 4, 2) := by decide +kernel
theorem dX6_shared_17 : decode cX6_shared 17 = .ok (.istore_n 3, 1) := by decide +kernel
theorem dX6_shared_18 : decode cX6_shared 18 = .ok (.goto (-14), 3) := by decide +kernel
theorem dX6_shared_21 : decode cX6_shared 21 = .ok (.iload_n 2, 1) := by decide +kernel
theorem dX6_shared_22 : decode cX6_shared 22 = .ok (.ireturn, 1) := by decide +kernel
set_option maxRecDepth 20000 in
theorem ggX6_edge_X6_isStack : GoodIn wsX6_edge wsX6_isStack := goodIn_r _ [9, 10, 11, 12, 13, 8, 14, 21, 22, 23, 24, 25, 26, 27, 28, 29, 30, 31, 32, 33, 34, 35, 36, 37, 38, 39, 40, 41, 42] rfl rfl
set_option maxRecDepth 20000 in
theorem gX6_edge_X6_isStack : GoodIn wsX6_edge (wsV RX6 146 RX6 yX6_isStack wsX6_isStack) := goodIn_app (goodIn_r _ [5, 6, 7, 8] rfl rfl) ggX6_edge_X6_isStack
set_option maxRecDepth 20000 in
theorem ggX6_edge_X6_isIndex : GoodIn wsX6_edge wsX6_isIndex := goodIn_r _ [17] rfl rfl
set_option maxRecDepth 20000 in
theorem gX6_edge_X6_isIndex : GoodIn wsX6_edge (va_wsS RX6 149 yX6_isIndex wsX6_isIndex) := goodIn_app (goodIn_r _ [15, 16, 8] rfl rfl) ggX6_edge_X6_isIndex
set_option maxRecDepth 20000 in
theorem ggX6_edge_X6_right : GoodIn wsX6_edge wsX6_right := goodIn_r _ [14, 10, 21, 22, 23, 24, 25, 26, 27, 28, 29, 30, 31, 32, 33, 34, 35, 36, 37, 38, 39, 40, 41, 42] rfl rfl
set_option maxRecDepth 20000 in
theorem gX6_edge_X6_right : GoodIn wsX6_edge (wsV RX6 68 RX6 yX6_right wsX6_right) := goodIn_app (goodIn_r _ [11, 12, 13, 8] rfl rfl) ggX6_edge_X6_right
set_option maxRecDepth 20000 in
theorem ggX6_edge_X6_shared : GoodIn wsX6_edge wsX6_shared := goodIn_r _ [20] rfl rfl
set_option maxRecDepth 20000 in
theorem gX6_edge_X6_shared : GoodIn wsX6_edge (va_wsS RX6 153 yX6_shared wsX6_shared) := goodIn_app (goodIn_r _ [18, 19, 8] rfl rfl) ggX6_edge_X6_shared
theorem dX6_edge_0 : decode cX6_edge 0 = .ok (.aload_n 0, 1) := by decide +kernel
theorem dX6_edge_1 : decode cX6_edge 1 = .ok (.iload_n 1, 1) := by decide +kernel
theorem dX6_edge_2 : decode cX6_edge 2 = .ok (.invokevirtual 146, 3) := by decide +kernel
theorem dX6_edge_5 : decode cX6_edge 5 = .ok (.ifCond .eq 34, 3) := by decide +kernel
theorem dX6_edge_8 : decode cX6_edge 8 = .ok (.aload_n 0, 1) := by decide +kernel
theorem dX6_edge_9 : decode cX6_edge 9 = .ok (.iload_n 2, 1) := by decide +kernel
theorem dX6_edge_10 : decode cX6_edge 10 = .ok (.ifCond .eq 8, 3) := by decide +kernel
theorem dX6_edge_13 : decode cX6_edge 13 = .ok (.iload_n 2, 1) := by decide +kernel
theorem dX6_edge_14 : decode cX6_edge 14 = .ok (.iconst 1, 1) := by decide +kernel
theorem dX6_edge_15 : decode cX6_edge 15 = .ok (.if_icmp .ne 16, 3) := by decide +kernel
theorem dX6_edge_18 : decode cX6_edge 18 = .ok (.iload_n 3, 1) := by decide +kernel
theorem dX6_edge_19 : decode cX6_edge 19 = .ok (.iload 4, 2) := by decide +kernel
theorem dX6_edge_21 : decode cX6_edge 21 = .ok (.invokestatic 149, 3) := by decide +kernel
theorem dX6_edge_24 : decode cX6_edge 24 = .ok (.ifCond .eq 7, 3) := by decide +kernel
theorem dX6_edge_27 : decode cX6_edge 27 = .ok (.iconst 1, 1) := by decide +kernel
theorem dX6_edge_28 : decode cX6_edge 28 = .ok (.goto 4, 3) := by decide +kernel
theorem dX6_edge_31 : decode cX6_edge 31 = .ok (.iconst 0, 1) := by decide +kernel
theorem dX6_edge_32 : decode cX6_edge 32 = .ok (.iconst 2, 1) := by decide +kernel
theorem dX6_edge_33 : decode cX6_edge 33 = .ok (.invokevirtual 68, 3) := by decide +kernel
theorem dX6_edge_36 : decode cX6_edge 36 = .ok (.ifCond .ne 4, 3) := by decide +kernel
theorem dX6_edge_39 : decode cX6_edge 39 = .ok (.return_, 1) := by decide +kernel
theorem dX6_edge_40 : decode cX6_edge 40 = .ok (.iload_n 3, 1) := by decide +kernel
theorem dX6_edge_41 : decode cX6_edge 41 = .ok (.iload 4, 2) := by decide +kernel
theorem dX6_edge_43 : decode cX6_edge 43 = .ok (.invokestatic 153, 3) := by decide +kernel
theorem dX6_edge_46 : decode cX6_edge 46 = .ok (.istore 5, 2) := by decide +kernel
theorem dX6_edge_48 : decode cX6_edge 48 = .ok (.iload_n 2, 1) := by decide +kernel
theorem dX6_edge_49 : decode cX6_edge 49 = .ok (.ifCond .ne 27, 3) := by decide +kernel
theorem dX6_edge_52 : decode cX6_edge 52 = .ok (.aload_n 0, 1) := by decide +kernel
theorem dX6_edge_53 : decode cX6_edge 53 = .ok (.getfield 7, 3) := by decide +kernel
theorem dX6_edge_56 : decode cX6_edge 56 = .ok (.iload_n 1, 1) := by decide +kernel
theorem dX6_edge_57 : decode cX6_edge 57 = .ok (.iload_n 3, 1) := by decide +kernel
theorem dX6_edge_58 : decode cX6_edge 58 = .ok (.iload 5, 2) := by decide +kernel
theorem dX6_edge_60 : decode cX6_edge 60 = .ok (.idiv, 1) := by decide +kernel
theorem dX6_edge_61 : decode cX6_edge 61 = .ok (.iastore, 1) := by decide +kernel
theorem dX6_edge_62 : decode cX6_edge 62 = .ok (.aload_n 0, 1) := by decide +kernel
theorem dX6_edge_63 : decode cX6_edge 63 = .ok (.getfield 13, 3) := by decide +kernel
theorem dX6_edge_66 : decode cX6_edge 66 = .ok (.iload_n 1, 1) := by decide +kernel
theorem dX6_edge_67 : decode cX6_edge 67 = .ok (.iload 4, 2) := by decide +kernel
theorem dX6_edge_69 : decode cX6_edge 69 = .ok (.iload 5, 2) := by decide +kernel
theorem dX6_edge_71 : decode cX6_edge 71 = .ok (.idiv, 1) := by decide +kernel
theorem dX6_edge_72 : decode cX6_edge 72 = .ok (.iastore, 1) := by decide +kernel
theorem dX6_edge_73 : decode cX6_edge 73 = .ok (.goto 24, 3) := by decide +kernel
theorem dX6_edge_76 : decode cX6_edge 76 = .ok (.aload_n 0, 1) := by decide +kernel
theorem dX6_edge_77 : decode cX6_edge 77 = .ok (.getfield 16, 3) := by decide +kernel
theorem dX6_edge_80 : decode cX6_edge 80 = .ok (.iload_n 1, 1) := by decide +kernel
theorem dX6_edge_81 : decode cX6_edge 81 = .ok (.iload_n 3, 1) := by decide +kernel
theorem dX6_edge_82 : decode cX6_edge 82 = .ok (.iload 5, 2) := by decide +kernel
theorem dX6_edge_84 : decode cX6_edge 84 = .ok (.idiv, 1) := by decide +kernel
theorem dX6_edge_85 : decode cX6_edge 85 = .ok (.iastore, 1) := by decide +kernel
theorem dX6_edge_86 : decode cX6_edge 86 = .ok (.aload_n 0, 1) := by decide +kernel
theorem dX6_edge_87 : decode cX6_edge 87 = .ok (.getfield 19, 3) := by decide +kernel
theorem dX6_edge_90 : decode cX6_edge 90 = .ok (.iload_n 1, 1) := by decide +kernel
theorem dX6_edge_91 : decode cX6_edge 91 = .ok (.iload 4, 2) := by decide +kernel
theorem dX6_edge_93 : decode cX6_edge 93 = .ok (.iload 5, 2) := by decide +kernel
theorem dX6_edge_95 : decode cX6_edge 95 = .ok (.idiv, 1) := by decide +kernel
theorem dX6_edge_96 : decode cX6_edge 96 = .ok (.iastore, 1) := by decide +kernel
theorem dX6_edge_97 : decode cX6_edge 97 = .ok (.return_, 1) := by decide +kernel
set_option maxRecDepth 20000 in
theorem ggX6_layer_X6_isStack : GoodIn wsX6_layer wsX6_isStack := goodIn_r _ [9, 10, 11, 12, 13, 8, 14, 21, 22, 23, 24, 25, 26, 27, 28, 29, 30, 31, 32, 33, 34, 35, 36, 37, 38, 39, 40, 41, 42] rfl rfl
set_option maxRecDepth 20000 in
theorem gX6_layer_X6_isStack : GoodIn wsX6_layer (wsV RX6 146 RX6 yX6_isStack wsX6_isStack) := goodIn_app (goodIn_r _ [5, 6, 7, 8] rfl rfl) ggX6_layer_X6_isStack
set_option maxRecDepth 20000 in
theorem ggX6_layer_X6_isIndex : GoodIn wsX6_layer wsX6_isIndex := goodIn_r _ [17] rfl rfl
set_option maxRecDepth 20000 in
theorem gX6_layer_X6_isIndex : GoodIn wsX6_layer (va_wsS RX6 149 yX6_isIndex wsX6_isIndex) := goodIn_app (goodIn_r _ [15, 16, 8] rfl rfl) ggX6_layer_X6_isIndex
set_option maxRecDepth 20000 in
theorem ggX6_layer_X6_right : GoodIn wsX6_layer wsX6_right := goodIn_r _ [14, 10, 21, 22, 23, 24, 25, 26, 27, 28, 29, 30, 31, 32, 33, 34, 35, 36, 37, 38, 39, 40, 41, 42] rfl rfl
set_option maxRecDepth 20000 in
theorem gX6_layer_X6_right : GoodIn wsX6_layer (wsV RX6 68 RX6 yX6_right wsX6_right) := goodIn_app (goodIn_r _ [11, 12, 13, 8] rfl rfl) ggX6_layer_X6_right
set_option maxRecDepth 20000 in
theorem ggX6_layer_X6_shared : GoodIn wsX6_layer wsX6_shared := goodIn_r _ [20] rfl rfl
set_option maxRecDepth 20000 in
theorem gX6_layer_X6_shared : GoodIn wsX6_layer (va_wsS RX6 153 yX6_shared wsX6_shared) := goodIn_app (goodIn_r _ [18, 19, 8] rfl rfl) ggX6_layer_X6_shared
theorem dX6_layer_0 : decode cX6_layer 0 = .ok (.aload_n 0, 1) := by decide +kernel
theorem dX6_layer_1 : decode cX6_layer 1 = .ok (.iload_n 1, 1) := by decide +kernel
theorem dX6_layer_2 : decode cX6_layer 2 = .ok (.invokevirtual 146, 3) := by decide +kernel
theorem dX6_layer_5 : decode cX6_layer 5 = .ok (.ifCond .eq 51, 3) := by decide +kernel
theorem dX6_layer_8 : decode cX6_layer 8 = .ok (.aload_n 0, 1) := by decide +kernel
theorem dX6_layer_9 : decode cX6_layer 9 = .ok (.iload_n 3, 1) := by decide +kernel
theorem dX6_layer_10 : decode cX6_layer 10 = .ok (.iload 4, 2) := by decide +kernel
theorem dX6_layer_12 : decode cX6_layer 12 = .ok (.invokestatic 149, 3) := by decide +kernel
theorem dX6_layer_15 : decode cX6_layer 15 = .ok (.ifCond .eq 33, 3) := by decide +kernel
theorem dX6_layer_18 : decode cX6_layer 18 = .ok (.iload 5, 2) := by decide +kernel
theorem dX6_layer_20 : decode cX6_layer 20 = .ok (.iconst 1, 1) := by decide +kernel
theorem dX6_layer_21 : decode cX6_layer 21 = .ok (.if_icmp .lt 27, 3) := by decide +kernel
theorem dX6_layer_24 : decode cX6_layer 24 = .ok (.iload 5, 2) := by decide +kernel
theorem dX6_layer_26 : decode cX6_layer 26 = .ok (.iconst 4, 1) := by decide +kernel
theorem dX6_layer_27 : decode cX6_layer 27 = .ok (.if_icmp .gt 21, 3) := by decide +kernel
theorem dX6_layer_30 : decode cX6_layer 30 = .ok (.iload_n 2, 1) := by decide +kernel
theorem dX6_layer_31 : decode cX6_layer 31 = .ok (.ifCond .lt 17, 3) := by decide +kernel
theorem dX6_layer_34 : decode cX6_layer 34 = .ok (.iload_n 2, 1) := by decide +kernel
theorem dX6_layer_35 : decode cX6_layer 35 = .ok (.aload_n 0, 1) := by decide +kernel
theorem dX6_layer_36 : decode cX6_layer 36 = .ok (.getfield 22, 3) := by decide +kernel
theorem dX6_layer_39 : decode cX6_layer 39 = .ok (.iload_n 1, 1) := by decide +kernel
theorem dX6_layer_40 : decode cX6_layer 40 = .ok (.iaload, 1) := by decide +kernel
theorem dX6_layer_41 : decode cX6_layer 41 = .ok (.if_icmp .gt 7, 3) := by decide +kernel
theorem dX6_layer_44 : decode cX6_layer 44 = .ok (.iconst 1, 1) := by decide +kernel
theorem dX6_layer_45 : decode cX6_layer 45 = .ok (.goto 4, 3) := by decide +kernel
theorem dX6_layer_48 : decode cX6_layer 48 = .ok (.iconst 0, 1) := by decide +kernel
theorem dX6_layer_49 : decode cX6_layer 49 = .ok (.iconst 2, 1) := by decide +kernel
theorem dX6_layer_50 : decode cX6_layer 50 = .ok (.invokevirtual 68, 3) := by decide +kernel
theorem dX6_layer_53 : decode cX6_layer 53 = .ok (.ifCond .ne 5, 3) := by decide +kernel
theorem dX6_layer_56 : decode cX6_layer 56 = .ok (.iconst 0, 1) := by decide +kernel
theorem dX6_layer_57 : decode cX6_layer 57 = .ok (.ireturn, 1) := by decide +kernel
theorem dX6_layer_58 : decode cX6_layer 58 = .ok (.aload_n 0, 1) := by decide +kernel
theorem dX6_layer_59 : decode cX6_layer 59 = .ok (.getfield 22, 3) := by decide +kernel
theorem dX6_layer_62 : decode cX6_layer 62 = .ok (.iload_n 1, 1) := by decide +kernel
theorem dX6_layer_63 : decode cX6_layer 63 = .ok (.iaload, 1) := by decide +kernel
theorem dX6_layer_64 : decode cX6_layer 64 = .ok (.bipush 6, 2) := by decide +kernel
theorem dX6_layer_66 : decode cX6_layer 66 = .ok (.if_icmp .ne 5, 3) := by decide +kernel
theorem dX6_layer_69 : decode cX6_layer 69 = .ok (.iconst (-1), 1) := by decide +kernel
theorem dX6_layer_70 : decode cX6_layer 70 = .ok (.ireturn, 1) := by decide +kernel
theorem dX6_layer_71 : decode cX6_layer 71 = .ok (.bipush 6, 2) := by decide +kernel
theorem dX6_layer_73 : decode cX6_layer 73 = .ok (.iload_n 1, 1) := by decide +kernel
theorem dX6_layer_74 : decode cX6_layer 74 = .ok (.imul, 1) := by decide +kernel
theorem dX6_layer_75 : decode cX6_layer 75 = .ok (.aload_n 0, 1) := by decide +kernel
theorem dX6_layer_76 : decode cX6_layer 76 = .ok (.getfield 22, 3) := by decide +kernel
theorem dX6_layer_79 : decode cX6_layer 79 = .ok (.iload_n 1, 1) := by decide +kernel
theorem dX6_layer_80 : decode cX6_layer 80 = .ok (.iaload, 1) := by decide +kernel
theorem dX6_layer_81 : decode cX6_layer 81 = .ok (.iadd, 1) := by decide +kernel
theorem dX6_layer_82 : decode cX6_layer 82 = .ok (.istore 6, 2) := by decide +kernel
theorem dX6_layer_84 : decode cX6_layer 84 = .ok (.iload 6, 2) := by decide +kernel
theorem dX6_layer_86 : decode cX6_layer 86 = .ok (.bipush 6, 2) := by decide +kernel
theorem dX6_layer_88 : decode cX6_layer 88 = .ok (.iload_n 1, 1) := by decide +kernel
theorem dX6_layer_89 : decode cX6_layer 89 = .ok (.imul, 1) := by decide +kernel
theorem dX6_layer_90 : decode cX6_layer 90 = .ok (.iload_n 2, 1) := by decide +kernel
theorem dX6_layer_91 : decode cX6_layer 91 = .ok (.iadd, 1) := by decide +kernel
theorem dX6_layer_92 : decode cX6_layer 92 = .ok (.if_icmp .le 57, 3) := by decide +kernel
theorem dX6_layer_95 : decode cX6_layer 95 = .ok (.aload_n 0, 1) := by decide +kernel
theorem dX6_layer_96 : decode cX6_layer 96 = .ok (.getfield 25, 3) := by decide +kernel
theorem dX6_layer_99 : decode cX6_layer 99 = .ok (.iload 6, 2) := by decide +kernel
theorem dX6_layer_101 : decode cX6_layer 101 = .ok (.aload_n 0, 1) := by decide +kernel
theorem dX6_layer_102 : decode cX6_layer 102 = .ok (.getfield 25, 3) := by decide +kernel
theorem dX6_layer_105 : decode cX6_layer 105 = .ok (.iload 6, 2) := by decide +kernel
theorem dX6_layer_107 : decode cX6_layer 107 = .ok (.iconst 1, 1) := by decide +kernel
theorem dX6_layer_108 : decode cX6_layer 108 = .ok (.isub, 1) := by decide +kernel
theorem dX6_layer_109 : decode cX6_layer 109 = .ok (.iaload, 1) := by decide +kernel
theorem dX6_layer_110 : decode cX6_layer 110 = .ok (.iastore, 1) := by decide +kernel
theorem dX6_layer_111 : decode cX6_layer 111 = .ok (.aload_n 0, 1) := by decide +kernel
theorem dX6_layer_112 : decode cX6_layer 112 = .ok (.getfield 28, 3) := by decide +kernel
theorem dX6_layer_115 : decode cX6_layer 115 = .ok (.iload 6, 2) := by decide +kernel
theorem dX6_layer_117 : decode cX6_layer 117 = .ok (.aload_n 0, 1) := by decide +kernel
theorem dX6_layer_118 : decode cX6_layer 118 = .ok (.getfield 28, 3) := by decide +kernel
theorem dX6_layer_121 : decode cX6_layer 121 = .ok (.iload 6, 2) := by decide +kernel
theorem dX6_layer_123 : decode cX6_layer 123 = .ok (.iconst 1, 1) := by decide +kernel
theorem dX6_layer_124 : decode cX6_layer 124 = .ok (.isub, 1) := by decide +kernel
theorem dX6_layer_125 : decode cX6_layer 125 = .ok (.iaload, 1) := by decide +kernel
theorem dX6_layer_126 : decode cX6_layer 126 = .ok (.iastore, 1) := by decide +kernel
theorem dX6_layer_127 : decode cX6_layer 127 = .ok (.aload_n 0, 1) := by decide +kernel
theorem dX6_layer_128 : decode cX6_layer 128 = .ok (.getfield 31, 3) := by decide +kernel
theorem dX6_layer_131 : decode cX6_layer 131 = .ok (.iload 6, 2) := by decide +kernel
theorem dX6_layer_133 : decode cX6_layer 133 = .ok (.aload_n 0, 1) := by decide +kernel
theorem dX6_layer_134 : decode cX6_layer 134 = .ok (.getfield 31, 3) := by decide +kernel
theorem dX6_layer_137 : decode cX6_layer 137 = .ok (.iload 6, 2) := by decide +kernel
theorem dX6_layer_139 : decode cX6_layer 139 = .ok (.iconst 1, 1) := by decide +kernel
theorem dX6_layer_140 : decode cX6_layer 140 = .ok (.isub, 1) := by decide +kernel
theorem dX6_layer_141 : decode cX6_layer 141 = .ok (.iaload, 1) := by decide +kernel
theorem dX6_layer_142 : decode cX6_layer 142 = .ok (.iastore, 1) := by decide +kernel
theorem dX6_layer_143 : decode cX6_layer 143 = .ok (.iinc 6 (-1), 3) := by decide +kernel
theorem dX6_layer_146 : decode cX6_layer 146 = .ok (.goto (-62), 3) := by decide +kernel
theorem dX6_layer_149 : decode cX6_layer 149 = .ok (.iload_n 3, 1) := by decide +kernel
theorem dX6_layer_150 : decode cX6_layer 150 = .ok (.iload 4, 2) := by decide +kernel
theorem dX6_layer_152 : decode cX6_layer 152 = .ok (.invokestatic 153, 3) := by decide +kernel
theorem dX6_layer_155 : decode cX6_layer 155 = .ok (.istore 6, 2) := by decide +kernel
theorem dX6_layer_157 : decode cX6_layer 157 = .ok (.aload_n 0, 1) := by decide +kernel
theorem dX6_layer_158 : decode cX6_layer 158 = .ok (.getfield 25, 3) := by decide +kernel
theorem dX6_layer_161 : decode cX6_layer 161 = .ok (.bipush 6, 2) := by decide +kernel
theorem dX6_layer_163 : decode cX6_layer 163 = .ok (.iload_n 1, 1) := by decide +kernel
theorem dX6_layer_164 : decode cX6_layer 164 = .ok (.imul, 1) := by decide +kernel
theorem dX6_layer_165 : decode cX6_layer 165 = .ok (.iload_n 2, 1) := by decide +kernel
theorem dX6_layer_166 : decode cX6_layer 166 = .ok (.iadd, 1) := by decide +kernel
theorem dX6_layer_167 : decode cX6_layer 167 = .ok (.iload_n 3, 1) := by decide +kernel
theorem dX6_layer_168 : decode cX6_layer 168 = .ok (.iload 6, 2) := by decide +kernel
theorem dX6_layer_170 : decode cX6_layer 170 = .ok (.idiv, 1) := by decide +kernel
theorem dX6_layer_171 : decode cX6_layer 171 = .ok (.iastore, 1) := by decide +kernel
theorem dX6_layer_172 : decode cX6_layer 172 = .ok (.aload_n 0, 1) := by decide +kernel
theorem dX6_layer_173 : decode cX6_layer 173 = .ok (.getfield 28, 3) := by decide +kernel
theorem dX6_layer_176 : decode cX6_layer 176 = .ok (.bipush 6, 2) := by decide +kernel
theorem dX6_layer_178 : decode cX6_layer 178 = .ok (.iload_n 1, 1) := by decide +kernel
theorem dX6_layer_179 : decode cX6_layer 179 = .ok (.imul, 1) := by decide +kernel
theorem dX6_layer_180 : decode cX6_layer 180 = .ok (.iload_n 2, 1) := by decide +kernel
theorem dX6_layer_181 : decode cX6_layer 181 = .ok (.iadd, 1) := by decide +kernel
theorem dX6_layer_182 : decode cX6_layer 182 = .ok (.iload 4, 2) := by decide +kernel
theorem dX6_layer_184 : decode cX6_layer 184 = .ok (.iload 6, 2) := by decide +kernel
theorem dX6_layer_186 : decode cX6_layer 186 = .ok (.idiv, 1) := by decide +kernel
theorem dX6_layer_187 : decode cX6_layer 187 = .ok (.iastore, 1) := by decide +kernel
theorem dX6_layer_188 : decode cX6_layer 188 = .ok (.aload_n 0, 1) := by decide +kernel
theorem dX6_layer_189 : decode cX6_layer 189 = .ok (.getfield 31, 3) := by decide +kernel
theorem dX6_layer_192 : decode cX6_layer 192 = .ok (.bipush 6, 2) := by decide +kernel
theorem dX6_layer_194 : decode cX6_layer 194 = .ok (.iload_n 1, 1) := by decide +kernel
theorem dX6_layer_195 : decode cX6_layer 195 = .ok (.imul, 1) := by decide +kernel
theorem dX6_layer_196 : decode cX6_layer 196 = .ok (.iload_n 2, 1) := by decide +kernel
theorem dX6_layer_197 : decode cX6_layer 197 = .ok (.iadd, 1) := by decide +kernel
theorem dX6_layer_198 : decode cX6_layer 198 = .ok (.iload 5, 2) := by decide +kernel
theorem dX6_layer_200 : decode cX6_layer 200 = .ok (.iastore, 1) := by decide +kernel
theorem dX6_layer_201 : decode cX6_layer 201 = .ok (.aload_n 0, 1) := by decide +kernel
theorem dX6_layer_202 : decode cX6_layer 202 = .ok (.getfield 22, 3) := by decide +kernel
theorem dX6_layer_205 : decode cX6_layer 205 = .ok (.iload_n 1, 1) := by decide +kernel
theorem dX6_layer_206 : decode cX6_layer 206 = .ok (.dup2, 1) := by decide +kernel
theorem dX6_layer_207 : decode cX6_layer 207 = .ok (.iaload, 1) := by decide +kernel
theorem dX6_layer_208 : decode cX6_layer 208 = .ok (.iconst 1, 1) := by decide +kernel
theorem dX6_layer_209 : decode cX6_layer 209 = .ok (.iadd, 1) := by decide +kernel
theorem dX6_layer_210 : decode cX6_layer 210 = .ok (.iastore, 1) := by decide +kernel
theorem dX6_layer_211 : decode cX6_layer 211 = .ok (.aload_n 0, 1) := by decide +kernel
theorem dX6_layer_212 : decode cX6_layer 212 = .ok (.getfield 22, 3) := by decide +kernel
theorem dX6_layer_215 : decode cX6_layer 215 = .ok (.iload_n 1, 1) := by decide +kernel
theorem dX6_layer_216 : decode cX6_layer 216 = .ok (.iaload, 1) := by decide +kernel
theorem dX6_layer_217 : decode cX6_layer 217 = .ok (.ireturn, 1) := by decide +kernel
set_option maxRecDepth 20000 in
theorem ggX6_drop_X6_isStack : GoodIn wsX6_drop wsX6_isStack := goodIn_r _ [9, 10, 11, 12, 13, 8, 14, 15, 16, 17, 18, 19, 20, 21, 22, 23, 24, 25, 26, 27, 28, 29, 30, 31, 32, 33, 34, 35, 36] rfl rfl
set_option maxRecDepth 20000 in
theorem gX6_drop_X6_isStack : GoodIn wsX6_drop (wsV RX6 146 RX6 yX6_isStack wsX6_isStack) := goodIn_app (goodIn_r _ [5, 6, 7, 8] rfl rfl) ggX6_drop_X6_isStack
set_option maxRecDepth 20000 in
theorem ggX6_drop_X6_right : GoodIn wsX6_drop wsX6_right := goodIn_r _ [14, 10, 15, 16, 17, 18, 19, 20, 21, 22, 23, 24, 25, 26, 27, 28, 29, 30, 31, 32, 33, 34, 35, 36] rfl rfl
set_option maxRecDepth 20000 in
theorem gX6_drop_X6_right : GoodIn wsX6_drop (wsV RX6 68 RX6 yX6_right wsX6_right) := goodIn_app (goodIn_r _ [11, 12, 13, 8] rfl rfl) ggX6_drop_X6_right
theorem dX6_drop_0 : decode cX6_drop 0 = .ok (.aload_n 0, 1) := by decide +kernel
theorem dX6_drop_1 : decode cX6_drop 1 = .ok (.iload_n 1, 1) := by decide +kernel
theorem dX6_drop_2 : decode cX6_drop 2 = .ok (.invokevirtual 146, 3) := by decide +kernel
theorem dX6_drop_5 : decode cX6_drop 5 = .ok (.ifCond .eq 30, 3) := by decide +kernel
theorem dX6_drop_8 : decode cX6_drop 8 = .ok (.aload_n 0, 1) := by decide +kernel
theorem dX6_drop_9 : decode cX6_drop 9 = .ok (.iload_n 2, 1) := by decide +kernel
theorem dX6_drop_10 : decode cX6_drop 10 = .ok (.ifCond .lt 17, 3) := by decide +kernel
theorem dX6_drop_13 : decode cX6_drop 13 = .ok (.iload_n 2, 1) := by decide +kernel
theorem dX6_drop_14 : decode cX6_drop 14 = .ok (.aload_n 0, 1) := by decide +kernel
theorem dX6_drop_15 : decode cX6_drop 15 = .ok (.getfield 22, 3) := by decide +kernel
theorem dX6_drop_18 : decode cX6_drop 18 = .ok (.iload_n 1, 1) := by decide +kernel
theorem dX6_drop_19 : decode cX6_drop 19 = .ok (.iaload, 1) := by decide +kernel
theorem dX6_drop_20 : decode cX6_drop 20 = .ok (.if_icmp .ge 7, 3) := by decide +kernel
theorem dX6_drop_23 : decode cX6_drop 23 = .ok (.iconst 1, 1) := by decide +kernel
theorem dX6_drop_24 : decode cX6_drop 24 = .ok (.goto 4, 3) := by decide +kernel
theorem dX6_drop_27 : decode cX6_drop 27 = .ok (.iconst 0, 1) := by decide +kernel
theorem dX6_drop_28 : decode cX6_drop 28 = .ok (.iconst 2, 1) := by decide +kernel
theorem dX6_drop_29 : decode cX6_drop 29 = .ok (.invokevirtual 68, 3) := by decide +kernel
theorem dX6_drop_32 : decode cX6_drop 32 = .ok (.ifCond .ne 5, 3) := by decide +kernel
theorem dX6_drop_35 : decode cX6_drop 35 = .ok (.iconst 0, 1) := by decide +kernel
theorem dX6_drop_36 : decode cX6_drop 36 = .ok (.ireturn, 1) := by decide +kernel
theorem dX6_drop_37 : decode cX6_drop 37 = .ok (.aload_n 0, 1) := by decide +kernel
theorem dX6_drop_38 : decode cX6_drop 38 = .ok (.getfield 22, 3) := by decide +kernel
theorem dX6_drop_41 : decode cX6_drop 41 = .ok (.iload_n 1, 1) := by decide +kernel
theorem dX6_drop_42 : decode cX6_drop 42 = .ok (.dup2, 1) := by decide +kernel
theorem dX6_drop_43 : decode cX6_drop 43 = .ok (.iaload, 1) := by decide +kernel
theorem dX6_drop_44 : decode cX6_drop 44 = .ok (.iconst 1, 1) := by decide +kernel
theorem dX6_drop_45 : decode cX6_drop 45 = .ok (.isub, 1) := by decide +kernel
theorem dX6_drop_46 : decode cX6_drop 46 = .ok (.iastore, 1) := by decide +kernel
theorem dX6_drop_47 : decode cX6_drop 47 = .ok (.bipush 6, 2) := by decide +kernel
theorem dX6_drop_49 : decode cX6_drop 49 = .ok (.iload_n 1, 1) := by decide +kernel
theorem dX6_drop_50 : decode cX6_drop 50 = .ok (.imul, 1) := by decide +kernel
theorem dX6_drop_51 : decode cX6_drop 51 = .ok (.iload_n 2, 1) := by decide +kernel
theorem dX6_drop_52 : decode cX6_drop 52 = .ok (.iadd, 1) := by decide +kernel
theorem dX6_drop_53 : decode cX6_drop 53 = .ok (.istore_n 3, 1) := by decide +kernel
theorem dX6_drop_54 : decode cX6_drop 54 = .ok (.iload_n 3, 1) := by decide +kernel
theorem dX6_drop_55 : decode cX6_drop 55 = .ok (.bipush 6, 2) := by decide +kernel
theorem dX6_drop_57 : decode cX6_drop 57 = .ok (.iload_n 1, 1) := by decide +kernel
theorem dX6_drop_58 : decode cX6_drop 58 = .ok (.imul, 1) := by decide +kernel
theorem dX6_drop_59 : decode cX6_drop 59 = .ok (.aload_n 0, 1) := by decide +kernel
theorem dX6_drop_60 : decode cX6_drop 60 = .ok (.getfield 22, 3) := by decide +kernel
theorem dX6_drop_63 : decode cX6_drop 63 = .ok (.iload_n 1, 1) := by decide +kernel
theorem dX6_drop_64 : decode cX6_drop 64 = .ok (.iaload, 1) := by decide +kernel
theorem dX6_drop_65 : decode cX6_drop 65 = .ok (.iadd, 1) := by decide +kernel
theorem dX6_drop_66 : decode cX6_drop 66 = .ok (.if_icmp .ge 51, 3) := by decide +kernel
theorem dX6_drop_69 : decode cX6_drop 69 = .ok (.aload_n 0, 1) := by decide +kernel
theorem dX6_drop_70 : decode cX6_drop 70 = .ok (.getfield 25, 3) := by decide +kernel
theorem dX6_drop_73 : decode cX6_drop 73 = .ok (.iload_n 3, 1) := by decide +kernel
theorem dX6_drop_74 : decode cX6_drop 74 = .ok (.aload_n 0, 1) := by decide +kernel
theorem dX6_drop_75 : decode cX6_drop 75 = .ok (.getfield 25, 3) := by decide +kernel
theorem dX6_drop_78 : decode cX6_drop 78 = .ok (.iload_n 3, 1) := by decide +kernel
theorem dX6_drop_79 : decode cX6_drop 79 = .ok (.iconst 1, 1) := by decide +kernel
theorem dX6_drop_80 : decode cX6_drop 80 = .ok (.iadd, 1) := by decide +kernel
theorem dX6_drop_81 : decode cX6_drop 81 = .ok (.iaload, 1) := by decide +kernel
theorem dX6_drop_82 : decode cX6_drop 82 = .ok (.iastore, 1) := by decide +kernel
theorem dX6_drop_83 : decode cX6_drop 83 = .ok (.aload_n 0, 1) := by decide +kernel
theorem dX6_drop_84 : decode cX6_drop 84 = .ok (.getfield 28, 3) := by decide +kernel
theorem dX6_drop_87 : decode cX6_drop 87 = .ok (.iload_n 3, 1) := by decide +kernel
theorem dX6_drop_88 : decode cX6_drop 88 = .ok (.aload_n 0, 1) := by decide +kernel
theorem dX6_drop_89 : decode cX6_drop 89 = .ok (.getfield 28, 3) := by decide +kernel
theorem dX6_drop_92 : decode cX6_drop 92 = .ok (.iload_n 3, 1) := by decide +kernel
theorem dX6_drop_93 : decode cX6_drop 93 = .ok (.iconst 1, 1) := by decide +kernel
theorem dX6_drop_94 : decode cX6_drop 94 = .ok (.iadd, 1) := by decide +kernel
theorem dX6_drop_95 : decode cX6_drop 95 = .ok (.iaload, 1) := by decide +kernel
theorem dX6_drop_96 : decode cX6_drop 96 = .ok (.iastore, 1) := by decide +kernel
theorem dX6_drop_97 : decode cX6_drop 97 = .ok (.aload_n 0, 1) := by decide +kernel
theorem dX6_drop_98 : decode cX6_drop 98 = .ok (.getfield 31, 3) := by decide +kernel
theorem dX6_drop_101 : decode cX6_drop 101 = .ok (.iload_n 3, 1) := by decide +kernel
theorem dX6_drop_102 : decode cX6_drop 102 = .ok (.aload_n 0, 1) := by decide +kernel
theorem dX6_drop_103 : decode cX6_drop 103 = .ok (.getfield 31, 3) := by decide +kernel
theorem dX6_drop_106 : decode cX6_drop 106 = .ok (.iload_n 3, 1) := by decide +kernel
theorem dX6_drop_107 : decode cX6_drop 107 = .ok (.iconst 1, 1) := by decide +kernel
theorem dX6_drop_108 : decode cX6_drop 108 = .ok (.iadd, 1) := by decide +kernel
theorem dX6_drop_109 : decode cX6_drop 109 = .ok (.iaload, 1) := by decide +kernel
theorem dX6_drop_110 : decode cX6_drop 110 = .ok (.iastore, 1) := by decide +kernel
theorem dX6_drop_111 : decode cX6_drop 111 = .ok (.iinc 3 1, 3) := by decide +kernel
theorem dX6_drop_114 : decode cX6_drop 114 = .ok (.goto (-60), 3) := by decide +kernel
theorem dX6_drop_117 : decode cX6_drop 117 = .ok (.aload_n 0, 1) := by decide +kernel
theorem dX6_drop_118 : decode cX6_drop 118 = .ok (.getfield 22, 3) := by decide +kernel
theorem dX6_drop_121 : decode cX6_drop 121 = .ok (.iload_n 1, 1) := by decide +kernel
theorem dX6_drop_122 : decode cX6_drop 122 = .ok (.iaload, 1) := by decide +kernel
theorem dX6_drop_123 : decode cX6_drop 123 = .ok (.ireturn, 1) := by decide +kernel
set_option maxRecDepth 20000 in
theorem ggX6_about_X6_isStack : GoodIn wsX6_about wsX6_isStack := goodIn_r _ [13, 14, 15, 16, 17, 12, 18, 19, 20, 21, 22, 23, 24, 25, 26, 27, 28, 29, 30, 31, 32, 33, 34, 35, 36, 37, 38, 39, 40] rfl rfl
set_option maxRecDepth 20000 in
theorem gX6_about_X6_isStack : GoodIn wsX6_about (wsV RX6 146 RX6 yX6_isStack wsX6_isStack) := goodIn_app (goodIn_r _ [9, 10, 11, 12] rfl rfl) ggX6_about_X6_isStack
set_option maxRecDepth 20000 in
theorem ggX6_about_X6_right : GoodIn wsX6_about wsX6_right := goodIn_r _ [18, 14, 19, 20, 21, 22, 23, 24, 25, 26, 27, 28, 29, 30, 31, 32, 33, 34, 35, 36, 37, 38, 39, 40] rfl rfl
set_option maxRecDepth 20000 in
theorem gX6_about_X6_right : GoodIn wsX6_about (wsV RX6 68 RX6 yX6_right wsX6_right) := goodIn_app (goodIn_r _ [15, 16, 17, 12] rfl rfl) ggX6_about_X6_right
theorem dX6_about_0 : decode cX6_about 0 = .ok (.aload_n 0, 1) := by decide +kernel
theorem dX6_about_1 : decode cX6_about 1 = .ok (.iload_n 1, 1) := by decide +kernel
theorem dX6_about_2 : decode cX6_about 2 = .ok (.invokevirtual 146, 3) := by decide +kernel
theorem dX6_about_5 : decode cX6_about 5 = .ok (.ifCond .ne 5, 3) := by decide +kernel
theorem dX6_about_8 : decode cX6_about 8 = .ok (.iconst 0, 1) := by decide +kernel
theorem dX6_about_9 : decode cX6_about 9 = .ok (.ireturn, 1) := by decide +kernel
theorem dX6_about_10 : decode cX6_about 10 = .ok (.iload_n 2, 1) := by decide +kernel
theorem dX6_about_11 : decode cX6_about 11 = .ok (.iconst (-1), 1) := by decide +kernel
theorem dX6_about_12 : decode cX6_about 12 = .ok (.if_icmp .ne 15, 3) := by decide +kernel
theorem dX6_about_15 : decode cX6_about 15 = .ok (.iload_n 3, 1) := by decide +kernel
theorem dX6_about_16 : decode cX6_about 16 = .ok (.ifCond .ne 7, 3) := by decide +kernel
theorem dX6_about_19 : decode cX6_about 19 = .ok (.iconst 1, 1) := by decide +kernel
theorem dX6_about_20 : decode cX6_about 20 = .ok (.goto 64, 3) := by decide +kernel
theorem dX6_about_23 : decode cX6_about 23 = .ok (.iconst 0, 1) := by decide +kernel
theorem dX6_about_24 : decode cX6_about 24 = .ok (.goto 60, 3) := by decide +kernel
theorem dX6_about_27 : decode cX6_about 27 = .ok (.iload_n 2, 1) := by decide +kernel
theorem dX6_about_28 : decode cX6_about 28 = .ok (.bipush (-2), 2) := by decide +kernel
theorem dX6_about_30 : decode cX6_about 30 = .ok (.if_icmp .eq 9, 3) := by decide +kernel
theorem dX6_about_33 : decode cX6_about 33 = .ok (.iload_n 2, 1) := by decide +kernel
theorem dX6_about_34 : decode cX6_about 34 = .ok (.bipush (-3), 2) := by decide +kernel
theorem dX6_about_36 : decode cX6_about 36 = .ok (.if_icmp .ne 20, 3) := by decide +kernel
theorem dX6_about_39 : decode cX6_about 39 = .ok (.iload_n 3, 1) := by decide +kernel
theorem dX6_about_40 : decode cX6_about 40 = .ok (.ifCond .eq 8, 3) := by decide +kernel
theorem dX6_about_43 : decode cX6_about 43 = .ok (.iload_n 3, 1) := by decide +kernel
theorem dX6_about_44 : decode cX6_about 44 = .ok (.iconst 1, 1) := by decide +kernel
theorem dX6_about_45 : decode cX6_about 45 = .ok (.if_icmp .ne 7, 3) := by decide +kernel
theorem dX6_about_48 : decode cX6_about 48 = .ok (.iconst 1, 1) := by decide +kernel
theorem dX6_about_49 : decode cX6_about 49 = .ok (.goto 35, 3) := by decide +kernel
theorem dX6_about_52 : decode cX6_about 52 = .ok (.iconst 0, 1) := by decide +kernel
theorem dX6_about_53 : decode cX6_about 53 = .ok (.goto 31, 3) := by decide +kernel
theorem dX6_about_56 : decode cX6_about 56 = .ok (.iload_n 2, 1) := by decide +kernel
theorem dX6_about_57 : decode cX6_about 57 = .ok (.ifCond .lt 26, 3) := by decide +kernel
theorem dX6_about_60 : decode cX6_about 60 = .ok (.iload_n 2, 1) := by decide +kernel
theorem dX6_about_61 : decode cX6_about 61 = .ok (.aload_n 0, 1) := by decide +kernel
theorem dX6_about_62 : decode cX6_about 62 = .ok (.getfield 22, 3) := by decide +kernel
theorem dX6_about_65 : decode cX6_about 65 = .ok (.iload_n 1, 1) := by decide +kernel
theorem dX6_about_66 : decode cX6_about 66 = .ok (.iaload, 1) := by decide +kernel
theorem dX6_about_67 : decode cX6_about 67 = .ok (.if_icmp .ge 16, 3) := by decide +kernel
theorem dX6_about_70 : decode cX6_about 70 = .ok (.iload_n 3, 1) := by decide +kernel
theorem dX6_about_71 : decode cX6_about 71 = .ok (.ifCond .lt 12, 3) := by decide +kernel
theorem dX6_about_74 : decode cX6_about 74 = .ok (.iload_n 3, 1) := by decide +kernel
theorem dX6_about_75 : decode cX6_about 75 = .ok (.iconst 2, 1) := by decide +kernel
theorem dX6_about_76 : decode cX6_about 76 = .ok (.if_icmp .gt 7, 3) := by decide +kernel
theorem dX6_about_79 : decode cX6_about 79 = .ok (.iconst 1, 1) := by decide +kernel
theorem dX6_about_80 : decode cX6_about 80 = .ok (.goto 4, 3) := by decide +kernel
theorem dX6_about_83 : decode cX6_about 83 = .ok (.iconst 0, 1) := by decide +kernel
theorem dX6_about_84 : decode cX6_about 84 = .ok (.istore 4, 2) := by decide +kernel
theorem dX6_about_86 : decode cX6_about 86 = .ok (.aload_n 0, 1) := by decide +kernel
theorem dX6_about_87 : decode cX6_about 87 = .ok (.iload 4, 2) := by decide +kernel
theorem dX6_about_89 : decode cX6_about 89 = .ok (.iconst 2, 1) := by decide +kernel
theorem dX6_about_90 : decode cX6_about 90 = .ok (.invokevirtual 68, 3) := by decide +kernel
theorem dX6_about_93 : decode cX6_about 93 = .ok (.ifCond .ne 5, 3) := by decide +kernel
theorem dX6_about_96 : decode cX6_about 96 = .ok (.iconst 0, 1) := by decide +kernel
theorem dX6_about_97 : decode cX6_about 97 = .ok (.ireturn, 1) := by decide +kernel
theorem dX6_about_98 : decode cX6_about 98 = .ok (.iload_n 2, 1) := by decide +kernel
theorem dX6_about_99 : decode cX6_about 99 = .ok (.iconst (-1), 1) := by decide +kernel
theorem dX6_about_100 : decode cX6_about 100 = .ok (.if_icmp .ne 10, 3) := by decide +kernel
theorem dX6_about_103 : decode cX6_about 103 = .ok (.aload_n 0, 1) := by decide +kernel
theorem dX6_about_104 : decode cX6_about 104 = .ok (.getfield 22, 3) := by decide +kernel
theorem dX6_about_107 : decode cX6_about 107 = .ok (.iload_n 1, 1) := by decide +kernel
theorem dX6_about_108 : decode cX6_about 108 = .ok (.iaload, 1) := by decide +kernel
theorem dX6_about_109 : decode cX6_about 109 = .ok (.ireturn, 1) := by decide +kernel
theorem dX6_about_110 : decode cX6_about 110 = .ok (.iload_n 2, 1) := by decide +kernel
theorem dX6_about_111 : decode cX6_about 111 = .ok (.bipush (-2), 2) := by decide +kernel
theorem dX6_about_113 : decode cX6_about 113 = .ok (.if_icmp .ne 23, 3) := by decide +kernel
theorem dX6_about_116 : decode cX6_about 116 = .ok (.iload_n 3, 1) := by decide +kernel
theorem dX6_about_117 : decode cX6_about 117 = .ok (.ifCond .ne 12, 3) := by decide +kernel
theorem dX6_about_120 : decode cX6_about 120 = .ok (.aload_n 0, 1) := by decide +kernel
theorem dX6_about_121 : decode cX6_about 121 = .ok (.getfield 7, 3) := by decide +kernel
theorem dX6_about_124 : decode cX6_about 124 = .ok (.iload_n 1, 1) := by decide +kernel
theorem dX6_about_125 : decode cX6_about 125 = .ok (.iaload, 1) := by decide +kernel
theorem dX6_about_126 : decode cX6_about 126 = .ok (.goto 9, 3) := by decide +kernel
theorem dX6_about_129 : decode cX6_about 129 = .ok (.aload_n 0, 1) := by decide +kernel
theorem dX6_about_130 : decode cX6_about 130 = .ok (.getfield 13, 3) := by decide +kernel
theorem dX6_about_133 : decode cX6_about 133 = .ok (.iload_n 1, 1) := by decide +kernel
theorem dX6_about_134 : decode cX6_about 134 = .ok (.iaload, 1) := by decide +kernel
theorem dX6_about_135 : decode cX6_about 135 = .ok (.ireturn, 1) := by decide +kernel
theorem dX6_about_136 : decode cX6_about 136 = .ok (.iload_n 2, 1) := by decide +kernel
theorem dX6_about_137 : decode cX6_about 137 = .ok (.bipush (-3), 2) := by decide +kernel
theorem dX6_about_139 : decode cX6_about 139 = .ok (.if_icmp .ne 23, 3) := by decide +kernel
theorem dX6_about_142 : decode cX6_about 142 = .ok (.iload_n 3, 1) := by decide +kernel
theorem dX6_about_143 : decode cX6_about 143 = .ok (.ifCond .ne 12, 3) := by decide +kernel
theorem dX6_about_146 : decode cX6_about 146 = .ok (.aload_n 0, 1) := by decide +kernel
theorem dX6_about_147 : decode cX6_about 147 = .ok (.getfield 16, 3) := by decide +kernel
theorem dX6_about_150 : decode cX6_about 150 = .ok (.iload_n 1, 1) := by decide +kernel
theorem dX6_about_151 : decode cX6_about 151 = .ok (.iaload, 1) := by decide +kernel
theorem dX6_about_152 : decode cX6_about 152 = .ok (.goto 9, 3) := by decide +kernel
theorem dX6_about_155 : decode cX6_about 155 = .ok (.aload_n 0, 1) := by decide +kernel
theorem dX6_about_156 : decode cX6_about 156 = .ok (.getfield 19, 3) := by decide +kernel
theorem dX6_about_159 : decode cX6_about 159 = .ok (.iload_n 1, 1) := by decide +kernel
theorem dX6_about_160 : decode cX6_about 160 = .ok (.iaload, 1) := by decide +kernel
theorem dX6_about_161 : decode cX6_about 161 = .ok (.ireturn, 1) := by decide +kernel
theorem dX6_about_162 : decode cX6_about 162 = .ok (.iload_n 3, 1) := by decide +kernel
theorem dX6_about_163 : decode cX6_about 163 = .ok (.ifCond .ne 17, 3) := by decide +kernel
theorem dX6_about_166 : decode cX6_about 166 = .ok (.aload_n 0, 1) := by decide +kernel
theorem dX6_about_167 : decode cX6_about 167 = .ok (.getfield 25, 3) := by decide +kernel
theorem dX6_about_170 : decode cX6_about 170 = .ok (.bipush 6, 2) := by decide +kernel
theorem dX6_about_172 : decode cX6_about 172 = .ok (.iload_n 1, 1) := by decide +kernel
theorem dX6_about_173 : decode cX6_about 173 = .ok (.imul, 1) := by decide +kernel
theorem dX6_about_174 : decode cX6_about 174 = .ok (.iload_n 2, 1) := by decide +kernel
theorem dX6_about_175 : decode cX6_about 175 = .ok (.iadd, 1) := by decide +kernel
theorem dX6_about_176 : decode cX6_about 176 = .ok (.iaload, 1) := by decide +kernel
theorem dX6_about_177 : decode cX6_about 177 = .ok (.goto 33, 3) := by decide +kernel
theorem dX6_about_180 : decode cX6_about 180 = .ok (.iload_n 3, 1) := by decide +kernel
theorem dX6_about_181 : decode cX6_about 181 = .ok (.iconst 1, 1) := by decide +kernel
theorem dX6_about_182 : decode cX6_about 182 = .ok (.if_icmp .ne 17, 3) := by decide +kernel
theorem dX6_about_185 : decode cX6_about 185 = .ok (.aload_n 0, 1) := by decide +kernel
theorem dX6_about_186 : decode cX6_about 186 = .ok (.getfield 28, 3) := by decide +kernel
theorem dX6_about_189 : decode cX6_about 189 = .ok (.bipush 6, 2) := by decide +kernel
theorem dX6_about_191 : decode cX6_about 191 = .ok (.iload_n 1, 1) := by decide +kernel
theorem dX6_about_192 : decode cX6_about 192 = .ok (.imul, 1) := by decide +kernel
theorem dX6_about_193 : decode cX6_about 193 = .ok (.iload_n 2, 1) := by decide +kernel
theorem dX6_about_194 : decode cX6_about 194 = .ok (.iadd, 1) := by decide +kernel
theorem dX6_about_195 : decode cX6_about 195 = .ok (.iaload, 1) := by decide +kernel
theorem dX6_about_196 : decode cX6_about 196 = .ok (.goto 14, 3) := by decide +kernel
theorem dX6_about_199 : decode cX6_about 199 = .ok (.aload_n 0, 1) := by decide +kernel
theorem dX6_about_200 : decode cX6_about 200 = .ok (.getfield 31, 3) := by decide +kernel
theorem dX6_about_203 : decode cX6_about 203 = .ok (.bipush 6, 2) := by decide +kernel
theorem dX6_about_205 : decode cX6_about 205 = .ok (.iload_n 1, 1) := by decide +kernel
theorem dX6_about_206 : decode cX6_about 206 = .ok (.imul, 1) := by decide +kernel
theorem dX6_about_207 : decode cX6_about 207 = .ok (.iload_n 2, 1) := by decide +kernel
theorem dX6_about_208 : decode cX6_about 208 = .ok (.iadd, 1) := by decide +kernel
theorem dX6_about_209 : decode cX6_about 209 = .ok (.iaload, 1) := by decide +kernel
theorem dX6_about_210 : decode cX6_about 210 = .ok (.ireturn, 1) := by decide +kernel
theorem dX6_changeEdges_0 : decode cX6_changeEdges 0 = .ok (.aload_n 0, 1) := by decide +kernel
theorem dX6_changeEdges_1 : decode cX6_changeEdges 1 = .ok (.getfield 7, 3) := by decide +kernel
theorem dX6_changeEdges_4 : decode cX6_changeEdges 4 = .ok (.iload_n 1, 1) := by decide +kernel
theorem dX6_changeEdges_5 : decode cX6_changeEdges 5 = .ok (.iaload, 1) := by decide +kernel
theorem dX6_changeEdges_6 : decode cX6_changeEdges 6 = .ok (.istore_n 2, 1) := by decide +kernel
theorem dX6_changeEdges_7 : decode cX6_changeEdges 7 = .ok (.aload_n 0, 1) := by decide +kernel
theorem dX6_changeEdges_8 : decode cX6_changeEdges 8 = .ok (.getfield 13, 3) := by decide +kernel
theorem dX6_changeEdges_11 : decode cX6_changeEdges 11 = .ok (.iload_n 1, 1) := by decide +kernel
theorem dX6_changeEdges_12 : decode cX6_changeEdges 12 = .ok (.iaload, 1) := by decide +kernel
theorem dX6_changeEdges_13 : decode cX6_changeEdges 13 = .ok (.istore_n 3, 1) := by decide +kernel
theorem dX6_changeEdges_14 : decode cX6_changeEdges 14 = .ok (.aload_n 0, 1) := by decide +kernel
theorem dX6_changeEdges_15 : decode cX6_changeEdges 15 = .ok (.getfield 7, 3) := by decide +kernel
theorem dX6_changeEdges_18 : decode cX6_changeEdges 18 = .ok (.iload_n 1, 1) := by decide +kernel
theorem dX6_changeEdges_19 : decode cX6_changeEdges 19 = .ok (.aload_n 0, 1) := by decide +kernel
theorem dX6_changeEdges_20 : decode cX6_changeEdges 20 = .ok (.getfield 16, 3) := by decide +kernel
theorem dX6_changeEdges_23 : decode cX6_changeEdges 23 = .ok (.iload_n 1, 1) := by decide +kernel
theorem dX6_changeEdges_24 : decode cX6_changeEdges 24 = .ok (.iaload, 1) := by decide +kernel
theorem dX6_changeEdges_25 : decode cX6_changeEdges 25 = .ok (.iastore, 1) := by decide +kernel
theorem dX6_changeEdges_26 : decode cX6_changeEdges 26 = .ok (.aload_n 0, 1) := by decide +kernel
theorem dX6_changeEdges_27 : decode cX6_changeEdges 27 = .ok (.getfield 13, 3) := by decide +kernel
theorem dX6_changeEdges_30 : decode cX6_changeEdges 30 = .ok (.iload_n 1, 1) := by decide +kernel
theorem dX6_changeEdges_31 : decode cX6_changeEdges 31 = .ok (.aload_n 0, 1) := by decide +kernel
theorem dX6_changeEdges_32 : decode cX6_changeEdges 32 = .ok (.getfield 19, 3) := by decide +kernel
theorem dX6_changeEdges_35 : decode cX6_changeEdges 35 = .ok (.iload_n 1, 1) := by decide +kernel
theorem dX6_changeEdges_36 : decode cX6_changeEdges 36 = .ok (.iaload, 1) := by decide +kernel
theorem dX6_changeEdges_37 : decode cX6_changeEdges 37 = .ok (.iastore, 1) := by decide +kernel
theorem dX6_changeEdges_38 : decode cX6_changeEdges 38 = .ok (.aload_n 0, 1) := by decide +kernel
theorem dX6_changeEdges_39 : decode cX6_changeEdges 39 = .ok (.getfield 16, 3) := by decide +kernel
theorem dX6_changeEdges_42 : decode cX6_changeEdges 42 = .ok (.iload_n 1, 1) := by decide +kernel
theorem dX6_changeEdges_43 : decode cX6_changeEdges 43 = .ok (.iload_n 2, 1) := by decide +kernel
theorem dX6_changeEdges_44 : decode cX6_changeEdges 44 = .ok (.iastore, 1) := by decide +kernel
theorem dX6_changeEdges_45 : decode cX6_changeEdges 45 = .ok (.aload_n 0, 1) := by decide +kernel
theorem dX6_changeEdges_46 : decode cX6_changeEdges 46 = .ok (.getfield 19, 3) := by decide +kernel
theorem dX6_changeEdges_49 : decode cX6_changeEdges 49 = .ok (.iload_n 1, 1) := by decide +kernel
theorem dX6_changeEdges_50 : decode cX6_changeEdges 50 = .ok (.iload_n 3, 1) := by decide +kernel
theorem dX6_changeEdges_51 : decode cX6_changeEdges 51 = .ok (.iastore, 1) := by decide +kernel
theorem dX6_changeEdges_52 : decode cX6_changeEdges 52 = .ok (.return_, 1) := by decide +kernel
set_option maxRecDepth 20000 in
theorem ggX6_turn_X6_isStack : GoodIn wsX6_turn wsX6_isStack := goodIn_r _ [9, 10, 11, 12, 13, 8, 14, 23, 24, 25, 26, 27, 28, 29, 30, 31, 32, 33, 34, 35, 36, 37, 38, 39, 40, 41, 42, 43, 44] rfl rfl
set_option maxRecDepth 20000 in
theorem gX6_turn_X6_isStack : GoodIn wsX6_turn (wsV RX6 146 RX6 yX6_isStack wsX6_isStack) := goodIn_app (goodIn_r _ [5, 6, 7, 8] rfl rfl) ggX6_turn_X6_isStack
set_option maxRecDepth 20000 in
theorem ggX6_turn_X6_changeEdges : GoodIn wsX6_turn wsX6_changeEdges := goodIn_r _ [18, 19, 20, 21, 22, 23, 24, 25, 26, 27, 28, 29, 30, 31, 32, 33, 34, 35, 36, 37, 38, 39, 40, 41, 42, 43, 44] rfl rfl
set_option maxRecDepth 20000 in
theorem gX6_turn_X6_changeEdges : GoodIn wsX6_turn (wsV RX6 156 RX6 yX6_changeEdges wsX6_changeEdges) := goodIn_app (goodIn_r _ [15, 16, 17, 8] rfl rfl) ggX6_turn_X6_changeEdges
theorem dX6_turn_0 : decode cX6_turn 0 = .ok (.aload_n 0, 1) := by decide +kernel
theorem dX6_turn_1 : decode cX6_turn 1 = .ok (.iload_n 1, 1) := by decide +kernel
theorem dX6_turn_2 : decode cX6_turn 2 = .ok (.invokevirtual 146, 3) := by decide +kernel
theorem dX6_turn_5 : decode cX6_turn 5 = .ok (.ifCond .ne 4, 3) := by decide +kernel
theorem dX6_turn_8 : decode cX6_turn 8 = .ok (.return_, 1) := by decide +kernel
theorem dX6_turn_9 : decode cX6_turn 9 = .ok (.aload_n 0, 1) := by decide +kernel
theorem dX6_turn_10 : decode cX6_turn 10 = .ok (.iload_n 1, 1) := by decide +kernel
theorem dX6_turn_11 : decode cX6_turn 11 = .ok (.invokevirtual 156, 3) := by decide +kernel
theorem dX6_turn_14 : decode cX6_turn 14 = .ok (.iconst 0, 1) := by decide +kernel
theorem dX6_turn_15 : decode cX6_turn 15 = .ok (.istore_n 2, 1) := by decide +kernel
theorem dX6_turn_16 : decode cX6_turn 16 = .ok (.iconst 2, 1) := by decide +kernel
theorem dX6_turn_17 : decode cX6_turn 17 = .ok (.iload_n 2, 1) := by decide +kernel
theorem dX6_turn_18 : decode cX6_turn 18 = .ok (.imul, 1) := by decide +kernel
theorem dX6_turn_19 : decode cX6_turn 19 = .ok (.iconst 1, 1) := by decide +kernel
theorem dX6_turn_20 : decode cX6_turn 20 = .ok (.iadd, 1) := by decide +kernel
theorem dX6_turn_21 : decode cX6_turn 21 = .ok (.aload_n 0, 1) := by decide +kernel
theorem dX6_turn_22 : decode cX6_turn 22 = .ok (.getfield 22, 3) := by decide +kernel
theorem dX6_turn_25 : decode cX6_turn 25 = .ok (.iload_n 1, 1) := by decide +kernel
theorem dX6_turn_26 : decode cX6_turn 26 = .ok (.iaload, 1) := by decide +kernel
theorem dX6_turn_27 : decode cX6_turn 27 = .ok (.if_icmp .ge 123, 3) := by decide +kernel
theorem dX6_turn_30 : decode cX6_turn 30 = .ok (.bipush 6, 2) := by decide +kernel
theorem dX6_turn_32 : decode cX6_turn 32 = .ok (.iload_n 1, 1) := by decide +kernel
theorem dX6_turn_33 : decode cX6_turn 33 = .ok (.imul, 1) := by decide +kernel
theorem dX6_turn_34 : decode cX6_turn 34 = .ok (.iload_n 2, 1) := by decide +kernel
theorem dX6_turn_35 : decode cX6_turn 35 = .ok (.iadd, 1) := by decide +kernel
theorem dX6_turn_36 : decode cX6_turn 36 = .ok (.istore_n 3, 1) := by decide +kernel
theorem dX6_turn_37 : decode cX6_turn 37 = .ok (.bipush 6, 2) := by decide +kernel
theorem dX6_turn_39 : decode cX6_turn 39 = .ok (.iload_n 1, 1) := by decide +kernel
theorem dX6_turn_40 : decode cX6_turn 40 = .ok (.imul, 1) := by decide +kernel
theorem dX6_turn_41 : decode cX6_turn 41 = .ok (.aload_n 0, 1) := by decide +kernel
theorem dX6_turn_42 : decode cX6_turn 42 = .ok (.getfield 22, 3) := by decide +kernel
theorem dX6_turn_45 : decode cX6_turn 45 = .ok (.iload_n 1, 1) := by decide +kernel
theorem dX6_turn_46 : decode cX6_turn 46 = .ok (.iaload, 1) := by decide +kernel
theorem dX6_turn_47 : decode cX6_turn 47 = .ok (.iadd, 1) := by decide +kernel
theorem dX6_turn_48 : decode cX6_turn 48 = .ok (.iconst 1, 1) := by decide +kernel
theorem dX6_turn_49 : decode cX6_turn 49 = .ok (.isub, 1) := by decide +kernel
theorem dX6_turn_50 : decode cX6_turn 50 = .ok (.iload_n 2, 1) := by decide +kernel
theorem dX6_turn_51 : decode cX6_turn 51 = .ok (.isub, 1) := by decide +kernel
theorem dX6_turn_52 : decode cX6_turn 52 = .ok (.istore 4, 2) := by decide +kernel
theorem dX6_turn_54 : decode cX6_turn 54 = .ok (.aload_n 0, 1) := by decide +kernel
theorem dX6_turn_55 : decode cX6_turn 55 = .ok (.getfield 25, 3) := by decide +kernel
theorem dX6_turn_58 : decode cX6_turn 58 = .ok (.iload_n 3, 1) := by decide +kernel
theorem dX6_turn_59 : decode cX6_turn 59 = .ok (.iaload, 1) := by decide +kernel
theorem dX6_turn_60 : decode cX6_turn 60 = .ok (.istore 5, 2) := by decide +kernel
theorem dX6_turn_62 : decode cX6_turn 62 = .ok (.aload_n 0, 1) := by decide +kernel
theorem dX6_turn_63 : decode cX6_turn 63 = .ok (.getfield 28, 3) := by decide +kernel
theorem dX6_turn_66 : decode cX6_turn 66 = .ok (.iload_n 3, 1) := by decide +kernel
theorem dX6_turn_67 : decode cX6_turn 67 = .ok (.iaload, 1) := by decide +kernel
theorem dX6_turn_68 : decode cX6_turn 68 = .ok (.istore 6, 2) := by decide +kernel
theorem dX6_turn_70 : decode cX6_turn 70 = .ok (.aload_n 0, 1) := by decide +kernel
theorem dX6_turn_71 : decode cX6_turn 71 = .ok (.getfield 31, 3) := by decide +kernel
theorem dX6_turn_74 : decode cX6_turn 74 = .ok (.iload_n 3, 1) := by decide +kernel
theorem dX6_turn_75 : decode cX6_turn 75 = .ok (.iaload, 1) := by decide +kernel
theorem dX6_turn_76 : decode cX6_turn 76 = .ok (.istore 7, 2) := by decide +kernel
theorem dX6_turn_78 : decode cX6_turn 78 = .ok (.aload_n 0, 1) := by decide +kernel
theorem dX6_turn_79 : decode cX6_turn 79 = .ok (.getfield 25, 3) := by decide +kernel
theorem dX6_turn_82 : decode cX6_turn 82 = .ok (.iload_n 3, 1) := by decide +kernel
theorem dX6_turn_83 : decode cX6_turn 83 = .ok (.aload_n 0, 1) := by decide +kernel
theorem dX6_turn_84 : decode cX6_turn 84 = .ok (.getfield 25, 3) := by decide +kernel
theorem dX6_turn_87 : decode cX6_turn 87 = .ok (.iload 4, 2) := by decide +kernel
theorem dX6_turn_89 : decode cX6_turn 89 = .ok (.iaload, 1) := by decide +kernel
theorem dX6_turn_90 : decode cX6_turn 90 = .ok (.iastore, 1) := by decide +kernel
theorem dX6_turn_91 : decode cX6_turn 91 = .ok (.aload_n 0, 1) := by decide +kernel
theorem dX6_turn_92 : decode cX6_turn 92 = .ok (.getfield 28, 3) := by decide +kernel
theorem dX6_turn_95 : decode cX6_turn 95 = .ok (.iload_n 3, 1) := by decide +kernel
theorem dX6_turn_96 : decode cX6_turn 96 = .ok (.aload_n 0, 1) := by decide +kernel
theorem dX6_turn_97 : decode cX6_turn 97 = .ok (.getfield 28, 3) := by decide +kernel
theorem dX6_turn_100 : decode cX6_turn 100 = .ok (.iload 4, 2) := by decide +kernel
theorem dX6_turn_102 : decode cX6_turn 102 = .ok (.iaload, 1) := by decide +kernel
theorem dX6_turn_103 : decode cX6_turn 103 = .ok (.iastore, 1) := by decide +kernel
theorem dX6_turn_104 : decode cX6_turn 104 = .ok (.aload_n 0, 1) := by decide +kernel
theorem dX6_turn_105 : decode cX6_turn 105 = .ok (.getfield 31, 3) := by decide +kernel
theorem dX6_turn_108 : decode cX6_turn 108 = .ok (.iload_n 3, 1) := by decide +kernel
theorem dX6_turn_109 : decode cX6_turn 109 = .ok (.aload_n 0, 1) := by decide +kernel
theorem dX6_turn_110 : decode cX6_turn 110 = .ok (.getfield 31, 3) := by decide +kernel
theorem dX6_turn_113 : decode cX6_turn 113 = .ok (.iload 4, 2) := by decide +kernel
theorem dX6_turn_115 : decode cX6_turn 115 = .ok (.iaload, 1) := by decide +kernel
theorem dX6_turn_116 : decode cX6_turn 116 = .ok (.iastore, 1) := by decide +kernel
theorem dX6_turn_117 : decode cX6_turn 117 = .ok (.aload_n 0, 1) := by decide +kernel
theorem dX6_turn_118 : decode cX6_turn 118 = .ok (.getfield 25, 3) := by decide +kernel
theorem dX6_turn_121 : decode cX6_turn 121 = .ok (.iload 4, 2) := by decide +kernel
theorem dX6_turn_123 : decode cX6_turn 123 = .ok (.iload 5, 2) := by decide +kernel
theorem dX6_turn_125 : decode cX6_turn 125 = .ok (.iastore, 1) := by decide +kernel
theorem dX6_turn_126 : decode cX6_turn 126 = .ok (.aload_n 0, 1) := by decide +kernel
theorem dX6_turn_127 : decode cX6_turn 127 = .ok (.getfield 28, 3) := by decide +kernel
theorem dX6_turn_130 : decode cX6_turn 130 = .ok (.iload 4, 2) := by decide +kernel
theorem dX6_turn_132 : decode cX6_turn 132 = .ok (.iload 6, 2) := by decide +kernel
theorem dX6_turn_134 : decode cX6_turn 134 = .ok (.iastore, 1) := by decide +kernel
theorem dX6_turn_135 : decode cX6_turn 135 = .ok (.aload_n 0, 1) := by decide +kernel
theorem dX6_turn_136 : decode cX6_turn 136 = .ok (.getfield 31, 3) := by decide +kernel
theorem dX6_turn_139 : decode cX6_turn 139 = .ok (.iload 4, 2) := by decide +kernel
theorem dX6_turn_141 : decode cX6_turn 141 = .ok (.iload 7, 2) := by decide +kernel
theorem dX6_turn_143 : decode cX6_turn 143 = .ok (.iastore, 1) := by decide +kernel
theorem dX6_turn_144 : decode cX6_turn 144 = .ok (.iinc 2 1, 3) := by decide +kernel
theorem dX6_turn_147 : decode cX6_turn 147 = .ok (.goto (-131), 3) := by decide +kernel
theorem dX6_turn_150 : decode cX6_turn 150 = .ok (.return_, 1) := by decide +kernel
set_option maxRecDepth 20000 in
theorem ggX6_copy__X6_isStack : GoodIn wsX6_copy_ wsX6_isStack := goodIn_r _ [13, 14, 15, 16, 17, 12, 18, 19, 20, 21, 22, 23, 24, 25, 26, 27, 28, 29, 30, 31, 32, 33, 34, 35, 36, 37, 38, 39, 40] rfl rfl
set_option maxRecDepth 20000 in
theorem gX6_copy__X6_isStack : GoodIn wsX6_copy_ (wsV RX6 146 RX6 yX6_isStack wsX6_isStack) := goodIn_app (goodIn_r _ [9, 10, 11, 12] rfl rfl) ggX6_copy__X6_isStack
theorem dX6_copy__0 : decode cX6_copy_ 0 = .ok (.aload_n 0, 1) := by decide +kernel
theorem dX6_copy__1 : decode cX6_copy_ 1 = .ok (.iload_n 1, 1) := by decide +kernel
theorem dX6_copy__2 : decode cX6_copy_ 2 = .ok (.invokevirtual 146, 3) := by decide +kernel
theorem dX6_copy__5 : decode cX6_copy_ 5 = .ok (.ifCond .ne 4, 3) := by decide +kernel
theorem dX6_copy__8 : decode cX6_copy_ 8 = .ok (.return_, 1) := by decide +kernel
theorem dX6_copy__9 : decode cX6_copy_ 9 = .ok (.iconst 1, 1) := by decide +kernel
theorem dX6_copy__10 : decode cX6_copy_ 10 = .ok (.iload_n 1, 1) := by decide +kernel
theorem dX6_copy__11 : decode cX6_copy_ 11 = .ok (.isub, 1) := by decide +kernel
theorem dX6_copy__12 : decode cX6_copy_ 12 = .ok (.istore_n 2, 1) := by decide +kernel
theorem dX6_copy__13 : decode cX6_copy_ 13 = .ok (.aload_n 0, 1) := by decide +kernel
theorem dX6_copy__14 : decode cX6_copy_ 14 = .ok (.getfield 7, 3) := by decide +kernel
theorem dX6_copy__17 : decode cX6_copy_ 17 = .ok (.iload_n 2, 1) := by decide +kernel
theorem dX6_copy__18 : decode cX6_copy_ 18 = .ok (.aload_n 0, 1) := by decide +kernel
theorem dX6_copy__19 : decode cX6_copy_ 19 = .ok (.getfield 7, 3) := by decide +kernel
theorem dX6_copy__22 : decode cX6_copy_ 22 = .ok (.iload_n 1, 1) := by decide +kernel
theorem dX6_copy__23 : decode cX6_copy_ 23 = .ok (.iaload, 1) := by decide +kernel
theorem dX6_copy__24 : decode cX6_copy_ 24 = .ok (.iastore, 1) := by decide +kernel
theorem dX6_copy__25 : decode cX6_copy_ 25 = .ok (.aload_n 0, 1) := by decide +kernel
theorem dX6_copy__26 : decode cX6_copy_ 26 = .ok (.getfield 13, 3) := by decide +kernel
theorem dX6_copy__29 : decode cX6_copy_ 29 = .ok (.iload_n 2, 1) := by decide +kernel
theorem dX6_copy__30 : decode cX6_copy_ 30 = .ok (.aload_n 0, 1) := by decide +kernel
theorem dX6_copy__31 : decode cX6_copy_ 31 = .ok (.getfield 13, 3) := by decide +kernel
theorem dX6_copy__34 : decode cX6_copy_ 34 = .ok (.iload_n 1, 1) := by decide +kernel
theorem dX6_copy__35 : decode cX6_copy_ 35 = .ok (.iaload, 1) := by decide +kernel
theorem dX6_copy__36 : decode cX6_copy_ 36 = .ok (.iastore, 1) := by decide +kernel
theorem dX6_copy__37 : decode cX6_copy_ 37 = .ok (.aload_n 0, 1) := by decide +kernel
theorem dX6_copy__38 : decode cX6_copy_ 38 = .ok (.getfield 16, 3) := by decide +kernel
theorem dX6_copy__41 : decode cX6_copy_ 41 = .ok (.iload_n 2, 1) := by decide +kernel
theorem dX6_copy__42 : decode cX6_copy_ 42 = .ok (.aload_n 0, 1) := by decide +kernel
theorem dX6_copy__43 : decode cX6_copy_ 43 = .ok (.getfield 16, 3) := by decide +kernel
theorem dX6_copy__46 : decode cX6_copy_ 46 = .ok (.iload_n 1, 1) := by decide +kernel
theorem dX6_copy__47 : decode cX6_copy_ 47 = .ok (.iaload, 1) := by decide +kernel
theorem dX6_copy__48 : decode cX6_copy_ 48 = .ok (.iastore, 1) := by decide +kernel
theorem dX6_copy__49 : decode cX6_copy_ 49 = .ok (.aload_n 0, 1) := by decide +kernel
theorem dX6_copy__50 : decode cX6_copy_ 50 = .ok (.getfield 19, 3) := by decide +kernel
theorem dX6_copy__53 : decode cX6_copy_ 53 = .ok (.iload_n 2, 1) := by decide +kernel
theorem dX6_copy__54 : decode cX6_copy_ 54 = .ok (.aload_n 0, 1) := by decide +kernel
theorem dX6_copy__55 : decode cX6_copy_ 55 = .ok (.getfield 19, 3) := by decide +kernel
theorem dX6_copy__58 : decode cX6_copy_ 58 = .ok (.iload_n 1, 1) := by decide +kernel
theorem dX6_copy__59 : decode cX6_copy_ 59 = .ok (.iaload, 1) := by decide +kernel
theorem dX6_copy__60 : decode cX6_copy_ 60 = .ok (.iastore, 1) := by decide +kernel
theorem dX6_copy__61 : decode cX6_copy_ 61 = .ok (.aload_n 0, 1) := by decide +kernel
theorem dX6_copy__62 : decode cX6_copy_ 62 = .ok (.getfield 22, 3) := by decide +kernel
theorem dX6_copy__65 : decode cX6_copy_ 65 = .ok (.iload_n 2, 1) := by decide +kernel
theorem dX6_copy__66 : decode cX6_copy_ 66 = .ok (.aload_n 0, 1) := by decide +kernel
theorem dX6_copy__67 : decode cX6_copy_ 67 = .ok (.getfield 22, 3) := by decide +kernel
theorem dX6_copy__70 : decode cX6_copy_ 70 = .ok (.iload_n 1, 1) := by decide +kernel
theorem dX6_copy__71 : decode cX6_copy_ 71 = .ok (.iaload, 1) := by decide +kernel
theorem dX6_copy__72 : decode cX6_copy_ 72 = .ok (.iastore, 1) := by decide +kernel
theorem dX6_copy__73 : decode cX6_copy_ 73 = .ok (.iconst 0, 1) := by decide +kernel
theorem dX6_copy__74 : decode cX6_copy_ 74 = .ok (.istore_n 3, 1) := by decide +kernel
theorem dX6_copy__75 : decode cX6_copy_ 75 = .ok (.iload_n 3, 1) := by decide +kernel
theorem dX6_copy__76 : decode cX6_copy_ 76 = .ok (.bipush 6, 2) := by decide +kernel
theorem dX6_copy__78 : decode cX6_copy_ 78 = .ok (.if_icmp .ge 75, 3) := by decide +kernel
theorem dX6_copy__81 : decode cX6_copy_ 81 = .ok (.aload_n 0, 1) := by decide +kernel
theorem dX6_copy__82 : decode cX6_copy_ 82 = .ok (.getfield 25, 3) := by decide +kernel
theorem dX6_copy__85 : decode cX6_copy_ 85 = .ok (.bipush 6, 2) := by decide +kernel
theorem dX6_copy__87 : decode cX6_copy_ 87 = .ok (.iload_n 2, 1) := by decide +kernel
theorem dX6_copy__88 : decode cX6_copy_ 88 = .ok (.imul, 1) := by decide +kernel
theorem dX6_copy__89 : decode cX6_copy_ 89 = .ok (.iload_n 3, 1) := by decide +kernel
theorem dX6_copy__90 : decode cX6_copy_ 90 = .ok (.iadd, 1) := by decide +kernel
theorem dX6_copy__91 : decode cX6_copy_ 91 = .ok (.aload_n 0, 1) := by decide +kernel
theorem dX6_copy__92 : decode cX6_copy_ 92 = .ok (.getfield 25, 3) := by decide +kernel
theorem dX6_copy__95 : decode cX6_copy_ 95 = .ok (.bipush 6, 2) := by decide +kernel
theorem dX6_copy__97 : decode cX6_copy_ 97 = .ok (.iload_n 1, 1) := by decide +kernel
theorem dX6_copy__98 : decode cX6_copy_ 98 = .ok (.imul, 1) := by decide +kernel
theorem dX6_copy__99 : decode cX6_copy_ 99 = .ok (.iload_n 3, 1) := by decide +kernel
theorem dX6_copy__100 : decode cX6_copy_ 100 = .ok (.iadd, 1) := by decide +kernel
theorem dX6_copy__101 : decode cX6_copy_ 101 = .ok (.iaload, 1) := by decide +kernel
theorem dX6_copy__102 : decode cX6_copy_ 102 = .ok (.iastore, 1) := by decide +kernel
theorem dX6_copy__103 : decode cX6_copy_ 103 = .ok (.aload_n 0, 1) := by decide +kernel
theorem dX6_copy__104 : decode cX6_copy_ 104 = .ok (.getfield 28, 3) := by decide +kernel
theorem dX6_copy__107 : decode cX6_copy_ 107 = .ok (.bipush 6, 2) := by decide +kernel
theorem dX6_copy__109 : decode cX6_copy_ 109 = .ok (.iload_n 2, 1) := by decide +kernel
theorem dX6_copy__110 : decode cX6_copy_ 110 = .ok (.imul, 1) := by decide +kernel
theorem dX6_copy__111 : decode cX6_copy_ 111 = .ok (.iload_n 3, 1) := by decide +kernel
theorem dX6_copy__112 : decode cX6_copy_ 112 = .ok (.iadd, 1) := by decide +kernel
theorem dX6_copy__113 : decode cX6_copy_ 113 = .ok (.aload_n 0, 1) := by decide +kernel
theorem dX6_copy__114 : decode cX6_copy_ 114 = .ok (.getfield 28, 3) := by decide +kernel
theorem dX6_copy__117 : decode cX6_copy_ 117 = .ok (.bipush 6, 2) := by decide +kernel
theorem dX6_copy__119 : decode cX6_copy_ 119 = .ok (.iload_n 1, 1) := by decide +kernel
theorem dX6_copy__120 : decode cX6_copy_ 120 = .ok (.imul, 1) := by decide +kernel
theorem dX6_copy__121 : decode cX6_copy_ 121 = .ok (.iload_n 3, 1) := by decide +kernel
theorem dX6_copy__122 : decode cX6_copy_ 122 = .ok (.iadd, 1) := by decide +kernel
theorem dX6_copy__123 : decode cX6_copy_ 123 = .ok (.iaload, 1) := by decide +kernel
theorem dX6_copy__124 : decode cX6_copy_ 124 = .ok (.iastore, 1) := by decide +kernel
theorem dX6_copy__125 : decode cX6_copy_ 125 = .ok (.aload_n 0, 1) := by decide +kernel
theorem dX6_copy__126 : decode cX6_copy_ 126 = .ok (.getfield 31, 3) := by decide +kernel
theorem dX6_copy__129 : decode cX6_copy_ 129 = .ok (.bipush 6, 2) := by decide +kernel
theorem dX6_copy__131 : decode cX6_copy_ 131 = .ok (.iload_n 2, 1) := by decide +kernel
theorem dX6_copy__132 : decode cX6_copy_ 132 = .ok (.imul, 1) := by decide +kernel
theorem dX6_copy__133 : decode cX6_copy_ 133 = .ok (.iload_n 3, 1) := by decide +kernel
theorem dX6_copy__134 : decode cX6_copy_ 134 = .ok (.iadd, 1) := by decide +kernel
theorem dX6_copy__135 : decode cX6_copy_ 135 = .ok (.aload_n 0, 1) := by decide +kernel
theorem dX6_copy__136 : decode cX6_copy_ 136 = .ok (.getfield 31, 3) := by decide +kernel
theorem dX6_copy__139 : decode cX6_copy_ 139 = .ok (.bipush 6, 2) := by decide +kernel
theorem dX6_copy__141 : decode cX6_copy_ 141 = .ok (.iload_n 1, 1) := by decide +kernel
theorem dX6_copy__142 : decode cX6_copy_ 142 = .ok (.imul, 1) := by decide +kernel
theorem dX6_copy__143 : decode cX6_copy_ 143 = .ok (.iload_n 3, 1) := by decide +kernel
theorem dX6_copy__144 : decode cX6_copy_ 144 = .ok (.iadd, 1) := by decide +kernel
theorem dX6_copy__145 : decode cX6_copy_ 145 = .ok (.iaload, 1) := by decide +kernel
theorem dX6_copy__146 : decode cX6_copy_ 146 = .ok (.iastore, 1) := by decide +kernel
theorem dX6_copy__147 : decode cX6_copy_ 147 = .ok (.iinc 3 1, 3) := by decide +kernel
theorem dX6_copy__150 : decode cX6_copy_ 150 = .ok (.goto (-75), 3) := by decide +kernel
theorem dX6_copy__153 : decode cX6_copy_ 153 = .ok (.return_, 1) := by decide +kernel
set_option maxRecDepth 20000 in
theorem ggX6_light_X6_right : GoodIn wsX6_light wsX6_right := goodIn_r _ [8, 1, 9, 10, 11, 12, 13, 14, 15, 16, 17, 18, 19, 20, 21, 22, 23, 24, 25, 26, 27, 28, 29, 30] rfl rfl
set_option maxRecDepth 20000 in
theorem gX6_light_X6_right : GoodIn wsX6_light (wsV RX6 68 RX6 yX6_right wsX6_right) := goodIn_app (goodIn_r _ [4, 5, 6, 7] rfl rfl) ggX6_light_X6_right
theorem dX6_light_0 : decode cX6_light 0 = .ok (.aload_n 0, 1) := by decide +kernel
theorem dX6_light_1 : decode cX6_light 1 = .ok (.iconst 0, 1) := by decide +kernel
theorem dX6_light_2 : decode cX6_light 2 = .ok (.putfield 65, 3) := by decide +kernel
theorem dX6_light_5 : decode cX6_light 5 = .ok (.aload_n 0, 1) := by decide +kernel
theorem dX6_light_6 : decode cX6_light 6 = .ok (.iload_n 2, 1) := by decide +kernel
theorem dX6_light_7 : decode cX6_light 7 = .ok (.iconst 1, 1) := by decide +kernel
theorem dX6_light_8 : decode cX6_light 8 = .ok (.if_icmp .lt 24, 3) := by decide +kernel
theorem dX6_light_11 : decode cX6_light 11 = .ok (.iload_n 2, 1) := by decide +kernel
theorem dX6_light_12 : decode cX6_light 12 = .ok (.bipush 25, 2) := by decide +kernel
theorem dX6_light_14 : decode cX6_light 14 = .ok (.if_icmp .gt 18, 3) := by decide +kernel
theorem dX6_light_17 : decode cX6_light 17 = .ok (.iload_n 1, 1) := by decide +kernel
theorem dX6_light_18 : decode cX6_light 18 = .ok (.iload_n 2, 1) := by decide +kernel
theorem dX6_light_19 : decode cX6_light 19 = .ok (.ineg, 1) := by decide +kernel
theorem dX6_light_20 : decode cX6_light 20 = .ok (.if_icmp .lt 12, 3) := by decide +kernel
theorem dX6_light_23 : decode cX6_light 23 = .ok (.iload_n 1, 1) := by decide +kernel
theorem dX6_light_24 : decode cX6_light 24 = .ok (.iload_n 2, 1) := by decide +kernel
theorem dX6_light_25 : decode cX6_light 25 = .ok (.if_icmp .gt 7, 3) := by decide +kernel
theorem dX6_light_28 : decode cX6_light 28 = .ok (.iconst 1, 1) := by decide +kernel
theorem dX6_light_29 : decode cX6_light 29 = .ok (.goto 4, 3) := by decide +kernel
theorem dX6_light_32 : decode cX6_light 32 = .ok (.iconst 0, 1) := by decide +kernel
theorem dX6_light_33 : decode cX6_light 33 = .ok (.iconst 1, 1) := by decide +kernel
theorem dX6_light_34 : decode cX6_light 34 = .ok (.invokevirtual 68, 3) := by decide +kernel
theorem dX6_light_37 : decode cX6_light 37 = .ok (.ifCond .ne 4, 3) := by decide +kernel
theorem dX6_light_40 : decode cX6_light 40 = .ok (.return_, 1) := by decide +kernel
theorem dX6_light_41 : decode cX6_light 41 = .ok (.aload_n 0, 1) := by decide +kernel
theorem dX6_light_42 : decode cX6_light 42 = .ok (.iload_n 1, 1) := by decide +kernel
theorem dX6_light_43 : decode cX6_light 43 = .ok (.putfield 159, 3) := by decide +kernel
theorem dX6_light_46 : decode cX6_light 46 = .ok (.aload_n 0, 1) := by decide +kernel
theorem dX6_light_47 : decode cX6_light 47 = .ok (.iload_n 2, 1) := by decide +kernel
theorem dX6_light_48 : decode cX6_light 48 = .ok (.putfield 34, 3) := by decide +kernel
theorem dX6_light_51 : decode cX6_light 51 = .ok (.return_, 1) := by decide +kernel
theorem dX6_isPart_0 : decode cX6_isPart 0 = .ok (.iload_n 0, 1) := by decide +kernel
theorem dX6_isPart_1 : decode cX6_isPart 1 = .ok (.ifCond .lt 13, 3) := by decide +kernel
theorem dX6_isPart_4 : decode cX6_isPart 4 = .ok (.iload_n 0, 1) := by decide +kernel
theorem dX6_isPart_5 : decode cX6_isPart 5 = .ok (.bipush 40, 2) := by decide +kernel
theorem dX6_isPart_7 : decode cX6_isPart 7 = .ok (.if_icmp .ge 7, 3) := by decide +kernel
theorem dX6_isPart_10 : decode cX6_isPart 10 = .ok (.iconst 1, 1) := by decide +kernel
theorem dX6_isPart_11 : decode cX6_isPart 11 = .ok (.goto 4, 3) := by decide +kernel
theorem dX6_isPart_14 : decode cX6_isPart 14 = .ok (.iconst 0, 1) := by decide +kernel
theorem dX6_isPart_15 : decode cX6_isPart 15 = .ok (.ireturn, 1) := by decide +kernel
set_option maxRecDepth 20000 in
theorem ggX6_toldPart_X6_copy : GoodIn wsX6_toldPart wsX6_copy := goodIn_r _ [5, 6, 7, 8, 62, 63, 64, 65, 66, 67, 68, 69, 70, 71, 72, 73, 74, 75, 76, 77, 78, 79, 80, 81, 82, 83] rfl rfl
set_option maxRecDepth 20000 in
theorem gX6_toldPart_X6_copy : GoodIn wsX6_toldPart (wsV RX6 81 RX6 yX6_copy wsX6_copy) := goodIn_app (goodIn_r _ [1, 2, 3, 4] rfl rfl) ggX6_toldPart_X6_copy
set_option maxRecDepth 20000 in
theorem ggX6_toldPart_X6_shorten : GoodIn wsX6_toldPart wsX6_shorten := goodIn_r _ [12, 8, 13, 14, 15, 4, 16, 6, 7, 17, 18, 19, 20, 21, 1, 2, 3, 5, 22, 23, 24, 25, 26, 27, 28, 29, 30, 31, 32, 33, 34, 35, 36, 37, 38, 39, 40, 41, 42, 43, 44, 45, 46, 47, 48, 49, 50, 51, 52, 53, 54, 55, 56, 57, 62, 63, 64, 65, 66, 67, 68, 69, 70, 71, 72, 73, 74, 75, 76, 77, 78, 79, 80, 81, 82, 83] rfl rfl
set_option maxRecDepth 20000 in
theorem gX6_toldPart_X6_shorten : GoodIn wsX6_toldPart (wsV RX6 162 RX6 yX6_shorten wsX6_shorten) := goodIn_app (goodIn_r _ [9, 10, 11, 4] rfl rfl) ggX6_toldPart_X6_shorten
set_option maxRecDepth 20000 in
theorem ggX6_toldPart_X6_part : GoodIn wsX6_toldPart wsX6_part := goodIn_r _ [61, 26, 27, 28, 4, 29, 6, 7, 62, 63, 64, 65, 66, 67, 68, 69, 70, 71, 72, 73, 74, 75, 76, 77, 78, 79, 80, 81, 82, 83] rfl rfl
set_option maxRecDepth 20000 in
theorem gX6_toldPart_X6_part : GoodIn wsX6_toldPart (wsV RX6 165 RX6 yX6_part wsX6_part) := goodIn_app (goodIn_r _ [58, 59, 60, 4] rfl rfl) ggX6_toldPart_X6_part
theorem dX6_toldPart_0 : decode cX6_toldPart 0 = .ok (.aload_n 0, 1) := by decide +kernel
theorem dX6_toldPart_1 : decode cX6_toldPart 1 = .ok (.bipush 18, 2) := by decide +kernel
theorem dX6_toldPart_3 : decode cX6_toldPart 3 = .ok (.iload_n 1, 1) := by decide +kernel
theorem dX6_toldPart_4 : decode cX6_toldPart 4 = .ok (.invokevirtual 81, 3) := by decide +kernel
theorem dX6_toldPart_7 : decode cX6_toldPart 7 = .ok (.aload_n 0, 1) := by decide +kernel
theorem dX6_toldPart_8 : decode cX6_toldPart 8 = .ok (.bipush 19, 2) := by decide +kernel
theorem dX6_toldPart_10 : decode cX6_toldPart 10 = .ok (.iload_n 2, 1) := by decide +kernel
theorem dX6_toldPart_11 : decode cX6_toldPart 11 = .ok (.invokevirtual 81, 3) := by decide +kernel
theorem dX6_toldPart_14 : decode cX6_toldPart 14 = .ok (.aload_n 0, 1) := by decide +kernel
theorem dX6_toldPart_15 : decode cX6_toldPart 15 = .ok (.bipush 18, 2) := by decide +kernel
theorem dX6_toldPart_17 : decode cX6_toldPart 17 = .ok (.bipush 19, 2) := by decide +kernel
theorem dX6_toldPart_19 : decode cX6_toldPart 19 = .ok (.invokevirtual 162, 3) := by decide +kernel
theorem dX6_toldPart_22 : decode cX6_toldPart 22 = .ok (.aload_n 0, 1) := by decide +kernel
theorem dX6_toldPart_23 : decode cX6_toldPart 23 = .ok (.iload_n 3, 1) := by decide +kernel
theorem dX6_toldPart_24 : decode cX6_toldPart 24 = .ok (.ifCond .eq 8, 3) := by decide +kernel
theorem dX6_toldPart_27 : decode cX6_toldPart 27 = .ok (.bipush 19, 2) := by decide +kernel
theorem dX6_toldPart_29 : decode cX6_toldPart 29 = .ok (.goto 5, 3) := by decide +kernel
theorem dX6_toldPart_32 : decode cX6_toldPart 32 = .ok (.bipush 18, 2) := by decide +kernel
theorem dX6_toldPart_34 : decode cX6_toldPart 34 = .ok (.iload 4, 2) := by decide +kernel
theorem dX6_toldPart_36 : decode cX6_toldPart 36 = .ok (.invokevirtual 165, 3) := by decide +kernel
theorem dX6_toldPart_39 : decode cX6_toldPart 39 = .ok (.ireturn, 1) := by decide +kernel
set_option maxRecDepth 20000 in
theorem ggX6_back_X6_isStack : GoodIn wsX6_back wsX6_isStack := goodIn_r _ [7, 8, 9, 10, 11, 6, 12, 118, 119, 120, 121, 122, 123, 124, 125, 126, 127, 128, 129, 130, 131, 132, 133, 134, 135, 136, 137, 138, 139] rfl rfl
set_option maxRecDepth 20000 in
theorem gX6_back_X6_isStack : GoodIn wsX6_back (wsV RX6 146 RX6 yX6_isStack wsX6_isStack) := goodIn_app (goodIn_r _ [3, 4, 5, 6] rfl rfl) ggX6_back_X6_isStack
set_option maxRecDepth 20000 in
theorem ggX6_back_X6_isPart : GoodIn wsX6_back wsX6_isPart := goodIn_r _ [15] rfl rfl
set_option maxRecDepth 20000 in
theorem gX6_back_X6_isPart : GoodIn wsX6_back (va_wsS RX6 168 yX6_isPart wsX6_isPart) := goodIn_app (goodIn_r _ [13, 14, 6] rfl rfl) ggX6_back_X6_isPart
set_option maxRecDepth 20000 in
theorem ggX6_back_X6_right : GoodIn wsX6_back wsX6_right := goodIn_r _ [12, 8, 118, 119, 120, 121, 122, 123, 124, 125, 126, 127, 128, 129, 130, 131, 132, 133, 134, 135, 136, 137, 138, 139] rfl rfl
set_option maxRecDepth 20000 in
theorem gX6_back_X6_right : GoodIn wsX6_back (wsV RX6 68 RX6 yX6_right wsX6_right) := goodIn_app (goodIn_r _ [9, 10, 11, 6] rfl rfl) ggX6_back_X6_right
set_option maxRecDepth 20000 in
theorem ggX6_back_X6_backOf : GoodIn wsX6_back wsX6_backOf := goodIn_r _ [19, 20, 21, 22, 23, 24, 25, 26, 6, 27, 28, 29, 30, 31, 32, 33, 34, 35, 36, 37, 38, 39, 40, 41, 42, 43, 44, 45, 46, 47, 48, 49, 50, 51, 52, 53, 54, 55, 56, 57, 58, 59, 60, 61, 62, 63, 64, 65, 66, 67, 68, 69, 70, 71, 72, 73, 74, 75, 76, 77, 78, 79, 80, 81, 82, 83, 84, 85, 86, 87, 88, 89, 90, 91, 92, 93, 118, 119, 120, 121, 122, 123, 124, 125, 126, 127, 128, 129, 130, 131, 132, 133, 134, 135, 136, 137, 138, 139] rfl rfl
set_option maxRecDepth 20000 in
theorem gX6_back_X6_backOf : GoodIn wsX6_back (wsV RX6 171 RX6 yX6_backOf wsX6_backOf) := goodIn_app (goodIn_r _ [16, 17, 18, 6] rfl rfl) ggX6_back_X6_backOf
set_option maxRecDepth 20000 in
theorem ggX6_back_X6_toldPart : GoodIn wsX6_back wsX6_toldPart := goodIn_r _ [97, 67, 68, 69, 6, 70, 37, 38, 36, 98, 99, 100, 101, 32, 33, 34, 35, 39, 102, 103, 104, 105, 106, 107, 108, 109, 55, 56, 57, 58, 110, 111, 112, 113, 59, 60, 61, 62, 79, 80, 81, 82, 71, 72, 73, 74, 75, 76, 77, 78, 83, 84, 85, 86, 90, 91, 92, 93, 114, 115, 116, 117, 118, 119, 120, 121, 122, 123, 124, 125, 126, 127, 128, 129, 130, 131, 132, 133, 134, 135, 136, 137, 138, 139] rfl rfl
set_option maxRecDepth 20000 in
theorem gX6_back_X6_toldPart : GoodIn wsX6_back (wsV RX6 174 RX6 yX6_toldPart wsX6_toldPart) := goodIn_app (goodIn_r _ [94, 95, 96, 6] rfl rfl) ggX6_back_X6_toldPart
theorem dX6_back_0 : decode cX6_back 0 = .ok (.aload_n 0, 1) := by decide +kernel
theorem dX6_back_1 : decode cX6_back 1 = .ok (.iload_n 1, 1) := by decide +kernel
theorem dX6_back_2 : decode cX6_back 2 = .ok (.invokevirtual 146, 3) := by decide +kernel
theorem dX6_back_5 : decode cX6_back 5 = .ok (.ifCond .eq 15, 3) := by decide +kernel
theorem dX6_back_8 : decode cX6_back 8 = .ok (.aload_n 0, 1) := by decide +kernel
theorem dX6_back_9 : decode cX6_back 9 = .ok (.iload_n 3, 1) := by decide +kernel
theorem dX6_back_10 : decode cX6_back 10 = .ok (.invokestatic 168, 3) := by decide +kernel
theorem dX6_back_13 : decode cX6_back 13 = .ok (.iconst 2, 1) := by decide +kernel
theorem dX6_back_14 : decode cX6_back 14 = .ok (.invokevirtual 68, 3) := by decide +kernel
theorem dX6_back_17 : decode cX6_back 17 = .ok (.ifCond .ne 5, 3) := by decide +kernel
theorem dX6_back_20 : decode cX6_back 20 = .ok (.iconst 0, 1) := by decide +kernel
theorem dX6_back_21 : decode cX6_back 21 = .ok (.ireturn, 1) := by decide +kernel
theorem dX6_back_22 : decode cX6_back 22 = .ok (.aload_n 0, 1) := by decide +kernel
theorem dX6_back_23 : decode cX6_back 23 = .ok (.iload_n 1, 1) := by decide +kernel
theorem dX6_back_24 : decode cX6_back 24 = .ok (.aload_n 0, 1) := by decide +kernel
theorem dX6_back_25 : decode cX6_back 25 = .ok (.getfield 159, 3) := by decide +kernel
theorem dX6_back_28 : decode cX6_back 28 = .ok (.aload_n 0, 1) := by decide +kernel
theorem dX6_back_29 : decode cX6_back 29 = .ok (.getfield 34, 3) := by decide +kernel
theorem dX6_back_32 : decode cX6_back 32 = .ok (.invokevirtual 171, 3) := by decide +kernel
theorem dX6_back_35 : decode cX6_back 35 = .ok (.aload_n 0, 1) := by decide +kernel
theorem dX6_back_36 : decode cX6_back 36 = .ok (.bipush 14, 2) := by decide +kernel
theorem dX6_back_38 : decode cX6_back 38 = .ok (.bipush 15, 2) := by decide +kernel
theorem dX6_back_40 : decode cX6_back 40 = .ok (.iload_n 2, 1) := by decide +kernel
theorem dX6_back_41 : decode cX6_back 41 = .ok (.iload_n 3, 1) := by decide +kernel
theorem dX6_back_42 : decode cX6_back 42 = .ok (.invokevirtual 174, 3) := by decide +kernel
theorem dX6_back_45 : decode cX6_back 45 = .ok (.ireturn, 1) := by decide +kernel
set_option maxRecDepth 20000 in
theorem ggX6_on_X6_isStack : GoodIn wsX6_on wsX6_isStack := goodIn_r _ [7, 8, 9, 10, 11, 6, 12, 118, 119, 120, 121, 122, 123, 124, 125, 126, 127, 128, 129, 130, 131, 132, 133, 134, 135, 136, 137, 138, 139] rfl rfl
set_option maxRecDepth 20000 in
theorem gX6_on_X6_isStack : GoodIn wsX6_on (wsV RX6 146 RX6 yX6_isStack wsX6_isStack) := goodIn_app (goodIn_r _ [3, 4, 5, 6] rfl rfl) ggX6_on_X6_isStack
set_option maxRecDepth 20000 in
theorem ggX6_on_X6_isPart : GoodIn wsX6_on wsX6_isPart := goodIn_r _ [15] rfl rfl
set_option maxRecDepth 20000 in
theorem gX6_on_X6_isPart : GoodIn wsX6_on (va_wsS RX6 168 yX6_isPart wsX6_isPart) := goodIn_app (goodIn_r _ [13, 14, 6] rfl rfl) ggX6_on_X6_isPart
set_option maxRecDepth 20000 in
theorem ggX6_on_X6_right : GoodIn wsX6_on wsX6_right := goodIn_r _ [12, 8, 118, 119, 120, 121, 122, 123, 124, 125, 126, 127, 128, 129, 130, 131, 132, 133, 134, 135, 136, 137, 138, 139] rfl rfl
set_option maxRecDepth 20000 in
theorem gX6_on_X6_right : GoodIn wsX6_on (wsV RX6 68 RX6 yX6_right wsX6_right) := goodIn_app (goodIn_r _ [9, 10, 11, 6] rfl rfl) ggX6_on_X6_right
set_option maxRecDepth 20000 in
theorem ggX6_on_X6_backOf : GoodIn wsX6_on wsX6_backOf := goodIn_r _ [19, 20, 21, 22, 23, 24, 25, 26, 6, 27, 28, 29, 30, 31, 32, 33, 34, 35, 36, 37, 38, 39, 40, 41, 42, 43, 44, 45, 46, 47, 48, 49, 50, 51, 52, 53, 54, 55, 56, 57, 58, 59, 60, 61, 62, 63, 64, 65, 66, 67, 68, 69, 70, 71, 72, 73, 74, 75, 76, 77, 78, 79, 80, 81, 82, 83, 84, 85, 86, 87, 88, 89, 90, 91, 92, 93, 118, 119, 120, 121, 122, 123, 124, 125, 126, 127, 128, 129, 130, 131, 132, 133, 134, 135, 136, 137, 138, 139] rfl rfl
set_option maxRecDepth 20000 in
theorem gX6_on_X6_backOf : GoodIn wsX6_on (wsV RX6 171 RX6 yX6_backOf wsX6_backOf) := goodIn_app (goodIn_r _ [16, 17, 18, 6] rfl rfl) ggX6_on_X6_backOf
set_option maxRecDepth 20000 in
theorem ggX6_on_X6_minus : GoodIn wsX6_on wsX6_minus := goodIn_r _ [74, 36, 75, 76, 77, 6, 78, 37, 38, 67, 68, 69, 70, 55, 56, 57, 58, 59, 60, 61, 62, 79, 80, 81, 82, 118, 119, 120, 121, 122, 123, 124, 125, 126, 127, 128, 129, 130, 131, 132, 133, 134, 135, 136, 137, 138, 139] rfl rfl
set_option maxRecDepth 20000 in
theorem gX6_on_X6_minus : GoodIn wsX6_on (wsV RX6 108 RX6 yX6_minus wsX6_minus) := goodIn_app (goodIn_r _ [71, 72, 73, 6] rfl rfl) ggX6_on_X6_minus
set_option maxRecDepth 20000 in
theorem ggX6_on_X6_toldPart : GoodIn wsX6_on wsX6_toldPart := goodIn_r _ [97, 67, 68, 69, 6, 70, 37, 38, 36, 98, 99, 100, 101, 32, 33, 34, 35, 39, 102, 103, 104, 105, 106, 107, 108, 109, 55, 56, 57, 58, 110, 111, 112, 113, 59, 60, 61, 62, 79, 80, 81, 82, 71, 72, 73, 74, 75, 76, 77, 78, 83, 84, 85, 86, 90, 91, 92, 93, 114, 115, 116, 117, 118, 119, 120, 121, 122, 123, 124, 125, 126, 127, 128, 129, 130, 131, 132, 133, 134, 135, 136, 137, 138, 139] rfl rfl
set_option maxRecDepth 20000 in
theorem gX6_on_X6_toldPart : GoodIn wsX6_on (wsV RX6 174 RX6 yX6_toldPart wsX6_toldPart) := goodIn_app (goodIn_r _ [94, 95, 96, 6] rfl rfl) ggX6_on_X6_toldPart
theorem dX6_on_0 : decode cX6_on 0 = .ok (.aload_n 0, 1) := by decide +kernel
theorem dX6_on_1 : decode cX6_on 1 = .ok (.iload_n 1, 1) := by decide +kernel
theorem dX6_on_2 : decode cX6_on 2 = .ok (.invokevirtual 146, 3) := by decide +kernel
theorem dX6_on_5 : decode cX6_on 5 = .ok (.ifCond .eq 15, 3) := by decide +kernel
theorem dX6_on_8 : decode cX6_on 8 = .ok (.aload_n 0, 1) := by decide +kernel
theorem dX6_on_9 : decode cX6_on 9 = .ok (.iload_n 3, 1) := by decide +kernel
theorem dX6_on_10 : decode cX6_on 10 = .ok (.invokestatic 168, 3) := by decide +kernel
theorem dX6_on_13 : decode cX6_on 13 = .ok (.iconst 2, 1) := by decide +kernel
theorem dX6_on_14 : decode cX6_on 14 = .ok (.invokevirtual 68, 3) := by decide +kernel
theorem dX6_on_17 : decode cX6_on 17 = .ok (.ifCond .ne 5, 3) := by decide +kernel
theorem dX6_on_20 : decode cX6_on 20 = .ok (.iconst 0, 1) := by decide +kernel
theorem dX6_on_21 : decode cX6_on 21 = .ok (.ireturn, 1) := by decide +kernel
theorem dX6_on_22 : decode cX6_on 22 = .ok (.aload_n 0, 1) := by decide +kernel
theorem dX6_on_23 : decode cX6_on 23 = .ok (.iload_n 1, 1) := by decide +kernel
theorem dX6_on_24 : decode cX6_on 24 = .ok (.aload_n 0, 1) := by decide +kernel
theorem dX6_on_25 : decode cX6_on 25 = .ok (.getfield 159, 3) := by decide +kernel
theorem dX6_on_28 : decode cX6_on 28 = .ok (.aload_n 0, 1) := by decide +kernel
theorem dX6_on_29 : decode cX6_on 29 = .ok (.getfield 34, 3) := by decide +kernel
theorem dX6_on_32 : decode cX6_on 32 = .ok (.invokevirtual 171, 3) := by decide +kernel
theorem dX6_on_35 : decode cX6_on 35 = .ok (.aload_n 0, 1) := by decide +kernel
theorem dX6_on_36 : decode cX6_on 36 = .ok (.bipush 14, 2) := by decide +kernel
theorem dX6_on_38 : decode cX6_on 38 = .ok (.bipush 15, 2) := by decide +kernel
theorem dX6_on_40 : decode cX6_on 40 = .ok (.bipush 14, 2) := by decide +kernel
theorem dX6_on_42 : decode cX6_on 42 = .ok (.invokevirtual 108, 3) := by decide +kernel
theorem dX6_on_45 : decode cX6_on 45 = .ok (.aload_n 0, 1) := by decide +kernel
theorem dX6_on_46 : decode cX6_on 46 = .ok (.bipush 14, 2) := by decide +kernel
theorem dX6_on_48 : decode cX6_on 48 = .ok (.bipush 15, 2) := by decide +kernel
theorem dX6_on_50 : decode cX6_on 50 = .ok (.iload_n 2, 1) := by decide +kernel
theorem dX6_on_51 : decode cX6_on 51 = .ok (.iload_n 3, 1) := by decide +kernel
theorem dX6_on_52 : decode cX6_on 52 = .ok (.invokevirtual 174, 3) := by decide +kernel
theorem dX6_on_55 : decode cX6_on 55 = .ok (.ireturn, 1) := by decide +kernel
set_option maxRecDepth 20000 in
theorem ggX6_entry_X6_isStack : GoodIn wsX6_entry wsX6_isStack := goodIn_r _ [7, 8, 9, 10, 11, 6, 12, 110, 111, 112, 113, 114, 115, 116, 117, 118, 119, 120, 121, 122, 123, 124, 125, 126, 127, 128, 129, 130, 131] rfl rfl
set_option maxRecDepth 20000 in
theorem gX6_entry_X6_isStack : GoodIn wsX6_entry (wsV RX6 146 RX6 yX6_isStack wsX6_isStack) := goodIn_app (goodIn_r _ [3, 4, 5, 6] rfl rfl) ggX6_entry_X6_isStack
set_option maxRecDepth 20000 in
theorem ggX6_entry_X6_isPart : GoodIn wsX6_entry wsX6_isPart := goodIn_r _ [15] rfl rfl
set_option maxRecDepth 20000 in
theorem gX6_entry_X6_isPart : GoodIn wsX6_entry (va_wsS RX6 168 yX6_isPart wsX6_isPart) := goodIn_app (goodIn_r _ [13, 14, 6] rfl rfl) ggX6_entry_X6_isPart
set_option maxRecDepth 20000 in
theorem ggX6_entry_X6_right : GoodIn wsX6_entry wsX6_right := goodIn_r _ [12, 8, 110, 111, 112, 113, 114, 115, 116, 117, 118, 119, 120, 121, 122, 123, 124, 125, 126, 127, 128, 129, 130, 131] rfl rfl
set_option maxRecDepth 20000 in
theorem gX6_entry_X6_right : GoodIn wsX6_entry (wsV RX6 68 RX6 yX6_right wsX6_right) := goodIn_app (goodIn_r _ [9, 10, 11, 6] rfl rfl) ggX6_entry_X6_right
set_option maxRecDepth 20000 in
theorem ggX6_entry_X6_table : GoodIn wsX6_entry wsX6_table := goodIn_r _ [19, 20, 21, 22, 23, 24, 25, 26, 6, 27, 28, 29, 30, 31, 32, 33, 34, 35, 36, 37, 38, 39, 40, 41, 42, 43, 44, 45, 46, 47, 48, 49, 50, 51, 52, 53, 54, 55, 56, 57, 58, 59, 60, 61, 62, 63, 64, 65, 66, 67, 68, 69, 70, 71, 72, 73, 74, 75, 76, 77, 78, 79, 80, 81, 82, 83, 84, 85, 110, 111, 112, 113, 114, 115, 116, 117, 118, 119, 120, 121, 122, 123, 124, 125, 126, 127, 128, 129, 130, 131] rfl rfl
set_option maxRecDepth 20000 in
theorem gX6_entry_X6_table : GoodIn wsX6_entry (wsV RX6 140 RX6 yX6_table wsX6_table) := goodIn_app (goodIn_r _ [16, 17, 18, 6] rfl rfl) ggX6_entry_X6_table
set_option maxRecDepth 20000 in
theorem ggX6_entry_X6_toldPart : GoodIn wsX6_entry wsX6_toldPart := goodIn_r _ [89, 59, 60, 61, 6, 62, 29, 30, 28, 90, 91, 92, 93, 24, 25, 26, 27, 31, 94, 95, 96, 97, 98, 99, 100, 101, 47, 48, 49, 50, 102, 103, 104, 105, 51, 52, 53, 54, 71, 72, 73, 74, 63, 64, 65, 66, 67, 68, 69, 70, 75, 76, 77, 78, 82, 83, 84, 85, 106, 107, 108, 109, 110, 111, 112, 113, 114, 115, 116, 117, 118, 119, 120, 121, 122, 123, 124, 125, 126, 127, 128, 129, 130, 131] rfl rfl
set_option maxRecDepth 20000 in
theorem gX6_entry_X6_toldPart : GoodIn wsX6_entry (wsV RX6 174 RX6 yX6_toldPart wsX6_toldPart) := goodIn_app (goodIn_r _ [86, 87, 88, 6] rfl rfl) ggX6_entry_X6_toldPart
theorem dX6_entry_0 : decode cX6_entry 0 = .ok (.aload_n 0, 1) := by decide +kernel
theorem dX6_entry_1 : decode cX6_entry 1 = .ok (.iload_n 1, 1) := by decide +kernel
theorem dX6_entry_2 : decode cX6_entry 2 = .ok (.invokevirtual 146, 3) := by decide +kernel
theorem dX6_entry_5 : decode cX6_entry 5 = .ok (.ifCond .eq 33, 3) := by decide +kernel
theorem dX6_entry_8 : decode cX6_entry 8 = .ok (.aload_n 0, 1) := by decide +kernel
theorem dX6_entry_9 : decode cX6_entry 9 = .ok (.iload_n 2, 1) := by decide +kernel
theorem dX6_entry_10 : decode cX6_entry 10 = .ok (.ifCond .lt 20, 3) := by decide +kernel
theorem dX6_entry_13 : decode cX6_entry 13 = .ok (.iload_n 2, 1) := by decide +kernel
theorem dX6_entry_14 : decode cX6_entry 14 = .ok (.iconst 3, 1) := by decide +kernel
theorem dX6_entry_15 : decode cX6_entry 15 = .ok (.if_icmp .gt 15, 3) := by decide +kernel
theorem dX6_entry_18 : decode cX6_entry 18 = .ok (.iload 4, 2) := by decide +kernel
theorem dX6_entry_20 : decode cX6_entry 20 = .ok (.invokestatic 168, 3) := by decide +kernel
theorem dX6_entry_23 : decode cX6_entry 23 = .ok (.ifCond .eq 7, 3) := by decide +kernel
theorem dX6_entry_26 : decode cX6_entry 26 = .ok (.iconst 1, 1) := by decide +kernel
theorem dX6_entry_27 : decode cX6_entry 27 = .ok (.goto 4, 3) := by decide +kernel
theorem dX6_entry_30 : decode cX6_entry 30 = .ok (.iconst 0, 1) := by decide +kernel
theorem dX6_entry_31 : decode cX6_entry 31 = .ok (.iconst 2, 1) := by decide +kernel
theorem dX6_entry_32 : decode cX6_entry 32 = .ok (.invokevirtual 68, 3) := by decide +kernel
theorem dX6_entry_35 : decode cX6_entry 35 = .ok (.ifCond .ne 5, 3) := by decide +kernel
theorem dX6_entry_38 : decode cX6_entry 38 = .ok (.iconst 0, 1) := by decide +kernel
theorem dX6_entry_39 : decode cX6_entry 39 = .ok (.ireturn, 1) := by decide +kernel
theorem dX6_entry_40 : decode cX6_entry 40 = .ok (.aload_n 0, 1) := by decide +kernel
theorem dX6_entry_41 : decode cX6_entry 41 = .ok (.iload_n 1, 1) := by decide +kernel
theorem dX6_entry_42 : decode cX6_entry 42 = .ok (.aload_n 0, 1) := by decide +kernel
theorem dX6_entry_43 : decode cX6_entry 43 = .ok (.getfield 159, 3) := by decide +kernel
theorem dX6_entry_46 : decode cX6_entry 46 = .ok (.aload_n 0, 1) := by decide +kernel
theorem dX6_entry_47 : decode cX6_entry 47 = .ok (.getfield 34, 3) := by decide +kernel
theorem dX6_entry_50 : decode cX6_entry 50 = .ok (.invokevirtual 140, 3) := by decide +kernel
theorem dX6_entry_53 : decode cX6_entry 53 = .ok (.aload_n 0, 1) := by decide +kernel
theorem dX6_entry_54 : decode cX6_entry 54 = .ok (.iload_n 2, 1) := by decide +kernel
theorem dX6_entry_55 : decode cX6_entry 55 = .ok (.iload_n 2, 1) := by decide +kernel
theorem dX6_entry_56 : decode cX6_entry 56 = .ok (.ifCond .eq 8, 3) := by decide +kernel
theorem dX6_entry_59 : decode cX6_entry 59 = .ok (.iload_n 2, 1) := by decide +kernel
theorem dX6_entry_60 : decode cX6_entry 60 = .ok (.iconst 3, 1) := by decide +kernel
theorem dX6_entry_61 : decode cX6_entry 61 = .ok (.if_icmp .ne 7, 3) := by decide +kernel
theorem dX6_entry_64 : decode cX6_entry 64 = .ok (.iconst 4, 1) := by decide +kernel
theorem dX6_entry_65 : decode cX6_entry 65 = .ok (.goto 4, 3) := by decide +kernel
theorem dX6_entry_68 : decode cX6_entry 68 = .ok (.iconst 5, 1) := by decide +kernel
theorem dX6_entry_69 : decode cX6_entry 69 = .ok (.iload_n 3, 1) := by decide +kernel
theorem dX6_entry_70 : decode cX6_entry 70 = .ok (.iload 4, 2) := by decide +kernel
theorem dX6_entry_72 : decode cX6_entry 72 = .ok (.invokevirtual 174, 3) := by decide +kernel
theorem dX6_entry_75 : decode cX6_entry 75 = .ok (.ireturn, 1) := by decide +kernel
set_option maxRecDepth 20000 in
theorem ggX6_sign_X6_isStack : GoodIn wsX6_sign wsX6_isStack := goodIn_r _ [8, 9, 10, 11, 12, 7, 13, 83, 84, 85, 86, 87, 88, 89, 90, 91, 92, 93, 94, 95, 96, 97, 98, 99, 100, 101, 102, 103, 104] rfl rfl
set_option maxRecDepth 20000 in
theorem gX6_sign_X6_isStack : GoodIn wsX6_sign (wsV RX6 146 RX6 yX6_isStack wsX6_isStack) := goodIn_app (goodIn_r _ [4, 5, 6, 7] rfl rfl) ggX6_sign_X6_isStack
set_option maxRecDepth 20000 in
theorem ggX6_sign_X6_right : GoodIn wsX6_sign wsX6_right := goodIn_r _ [13, 9, 83, 84, 85, 86, 87, 88, 89, 90, 91, 92, 93, 94, 95, 96, 97, 98, 99, 100, 101, 102, 103, 104] rfl rfl
set_option maxRecDepth 20000 in
theorem gX6_sign_X6_right : GoodIn wsX6_sign (wsV RX6 68 RX6 yX6_right wsX6_right) := goodIn_app (goodIn_r _ [10, 11, 12, 7] rfl rfl) ggX6_sign_X6_right
set_option maxRecDepth 20000 in
theorem ggX6_sign_X6_table : GoodIn wsX6_sign wsX6_table := goodIn_r _ [17, 18, 19, 20, 21, 22, 23, 24, 7, 25, 3, 26, 27, 28, 29, 30, 31, 32, 33, 34, 35, 36, 37, 38, 39, 40, 41, 42, 43, 44, 45, 46, 47, 48, 49, 50, 51, 52, 53, 54, 55, 56, 57, 58, 59, 60, 61, 62, 63, 64, 65, 66, 67, 68, 69, 70, 71, 72, 73, 74, 75, 76, 77, 78, 79, 80, 81, 82, 83, 84, 85, 86, 87, 88, 89, 90, 91, 92, 93, 94, 95, 96, 97, 98, 99, 100, 101, 102, 103, 104] rfl rfl
set_option maxRecDepth 20000 in
theorem gX6_sign_X6_table : GoodIn wsX6_sign (wsV RX6 140 RX6 yX6_table wsX6_table) := goodIn_app (goodIn_r _ [14, 15, 16, 7] rfl rfl) ggX6_sign_X6_table
theorem dX6_sign_0 : decode cX6_sign 0 = .ok (.aload_n 0, 1) := by decide +kernel
theorem dX6_sign_1 : decode cX6_sign 1 = .ok (.iload_n 1, 1) := by decide +kernel
theorem dX6_sign_2 : decode cX6_sign 2 = .ok (.invokevirtual 146, 3) := by decide +kernel
theorem dX6_sign_5 : decode cX6_sign 5 = .ok (.ifCond .eq 25, 3) := by decide +kernel
theorem dX6_sign_8 : decode cX6_sign 8 = .ok (.aload_n 0, 1) := by decide +kernel
theorem dX6_sign_9 : decode cX6_sign 9 = .ok (.iload_n 2, 1) := by decide +kernel
theorem dX6_sign_10 : decode cX6_sign 10 = .ok (.ifCond .lt 12, 3) := by decide +kernel
theorem dX6_sign_13 : decode cX6_sign 13 = .ok (.iload_n 2, 1) := by decide +kernel
theorem dX6_sign_14 : decode cX6_sign 14 = .ok (.iconst 3, 1) := by decide +kernel
theorem dX6_sign_15 : decode cX6_sign 15 = .ok (.if_icmp .gt 7, 3) := by decide +kernel
theorem dX6_sign_18 : decode cX6_sign 18 = .ok (.iconst 1, 1) := by decide +kernel
theorem dX6_sign_19 : decode cX6_sign 19 = .ok (.goto 4, 3) := by decide +kernel
theorem dX6_sign_22 : decode cX6_sign 22 = .ok (.iconst 0, 1) := by decide +kernel
theorem dX6_sign_23 : decode cX6_sign 23 = .ok (.iconst 2, 1) := by decide +kernel
theorem dX6_sign_24 : decode cX6_sign 24 = .ok (.invokevirtual 68, 3) := by decide +kernel
theorem dX6_sign_27 : decode cX6_sign 27 = .ok (.ifCond .ne 5, 3) := by decide +kernel
theorem dX6_sign_30 : decode cX6_sign 30 = .ok (.iconst 0, 1) := by decide +kernel
theorem dX6_sign_31 : decode cX6_sign 31 = .ok (.ireturn, 1) := by decide +kernel
theorem dX6_sign_32 : decode cX6_sign 32 = .ok (.aload_n 0, 1) := by decide +kernel
theorem dX6_sign_33 : decode cX6_sign 33 = .ok (.iload_n 1, 1) := by decide +kernel
theorem dX6_sign_34 : decode cX6_sign 34 = .ok (.aload_n 0, 1) := by decide +kernel
theorem dX6_sign_35 : decode cX6_sign 35 = .ok (.getfield 159, 3) := by decide +kernel
theorem dX6_sign_38 : decode cX6_sign 38 = .ok (.aload_n 0, 1) := by decide +kernel
theorem dX6_sign_39 : decode cX6_sign 39 = .ok (.getfield 34, 3) := by decide +kernel
theorem dX6_sign_42 : decode cX6_sign 42 = .ok (.invokevirtual 140, 3) := by decide +kernel
theorem dX6_sign_45 : decode cX6_sign 45 = .ok (.aload_n 0, 1) := by decide +kernel
theorem dX6_sign_46 : decode cX6_sign 46 = .ok (.getfield 62, 3) := by decide +kernel
theorem dX6_sign_49 : decode cX6_sign 49 = .ok (.iload_n 2, 1) := by decide +kernel
theorem dX6_sign_50 : decode cX6_sign 50 = .ok (.iaload, 1) := by decide +kernel
theorem dX6_sign_51 : decode cX6_sign 51 = .ok (.ireturn, 1) := by decide +kernel
set_option maxRecDepth 20000 in
theorem ggX6_stops_X6_isStack : GoodIn wsX6_stops wsX6_isStack := goodIn_r _ [8, 9, 10, 11, 12, 7, 13, 88, 89, 90, 91, 92, 93, 94, 95, 96, 97, 98, 99, 100, 101, 102, 103, 104, 105, 106, 107, 108, 109] rfl rfl
set_option maxRecDepth 20000 in
theorem gX6_stops_X6_isStack : GoodIn wsX6_stops (wsV RX6 146 RX6 yX6_isStack wsX6_isStack) := goodIn_app (goodIn_r _ [4, 5, 6, 7] rfl rfl) ggX6_stops_X6_isStack
set_option maxRecDepth 20000 in
theorem ggX6_stops_X6_table : GoodIn wsX6_stops wsX6_table := goodIn_r _ [17, 18, 19, 20, 21, 22, 23, 24, 7, 25, 26, 27, 28, 29, 30, 31, 32, 33, 34, 35, 36, 37, 38, 39, 40, 41, 42, 43, 44, 45, 46, 47, 48, 49, 50, 51, 52, 53, 54, 55, 56, 57, 58, 59, 60, 61, 62, 63, 64, 65, 66, 67, 68, 69, 70, 71, 72, 73, 74, 75, 76, 77, 78, 79, 80, 81, 82, 83, 88, 89, 90, 91, 92, 93, 94, 95, 96, 97, 98, 99, 100, 101, 102, 103, 104, 105, 106, 107, 108, 109] rfl rfl
set_option maxRecDepth 20000 in
theorem gX6_stops_X6_table : GoodIn wsX6_stops (wsV RX6 140 RX6 yX6_table wsX6_table) := goodIn_app (goodIn_r _ [14, 15, 16, 7] rfl rfl) ggX6_stops_X6_table
set_option maxRecDepth 20000 in
theorem ggX6_stops_X6_plus : GoodIn wsX6_stops wsX6_plus := goodIn_r _ [76, 26, 65, 66, 67, 7, 68, 27, 28, 57, 58, 59, 60, 45, 46, 47, 48, 49, 50, 51, 52, 69, 70, 71, 72, 88, 89, 90, 91, 92, 93, 94, 95, 96, 97, 98, 99, 100, 101, 102, 103, 104, 105, 106, 107, 108, 109] rfl rfl
set_option maxRecDepth 20000 in
theorem gX6_stops_X6_plus : GoodIn wsX6_stops (wsV RX6 111 RX6 yX6_plus wsX6_plus) := goodIn_app (goodIn_r _ [73, 74, 75, 7] rfl rfl) ggX6_stops_X6_plus
set_option maxRecDepth 20000 in
theorem ggX6_stops_X6_times : GoodIn wsX6_stops wsX6_times := goodIn_r _ [44, 27, 28, 29, 26, 45, 46, 47, 7, 48, 49, 50, 51, 52, 88, 89, 90, 91, 92, 93, 94, 95, 96, 97, 98, 99, 100, 101, 102, 103, 104, 105, 106, 107, 108, 109] rfl rfl
set_option maxRecDepth 20000 in
theorem gX6_stops_X6_times : GoodIn wsX6_stops (wsV RX6 96 RX6 yX6_times wsX6_times) := goodIn_app (goodIn_r _ [41, 42, 43, 7] rfl rfl) ggX6_stops_X6_times
set_option maxRecDepth 20000 in
theorem ggX6_stops_X6_by : GoodIn wsX6_stops wsX6_by := goodIn_r _ [56, 22, 23, 24, 7, 25, 26, 27, 28, 29, 41, 42, 43, 44, 45, 46, 47, 48, 49, 50, 51, 52, 57, 58, 59, 60, 88, 89, 90, 91, 92, 93, 94, 95, 96, 97, 98, 99, 100, 101, 102, 103, 104, 105, 106, 107, 108, 109] rfl rfl
set_option maxRecDepth 20000 in
theorem gX6_stops_X6_by : GoodIn wsX6_stops (wsV RX6 133 RX6 yX6_by wsX6_by) := goodIn_app (goodIn_r _ [53, 54, 55, 7] rfl rfl) ggX6_stops_X6_by
set_option maxRecDepth 20000 in
theorem ggX6_stops_X6_compare : GoodIn wsX6_stops wsX6_compare := goodIn_r _ [87, 26, 69, 70, 71, 7, 72, 27, 45, 46, 47, 48, 28, 88, 89, 90, 91, 92, 93, 94, 95, 96, 97, 98, 99, 100, 101, 102, 103, 104, 105, 106, 107, 108, 109] rfl rfl
set_option maxRecDepth 20000 in
theorem gX6_stops_X6_compare : GoodIn wsX6_stops (wsV RX6 143 RX6 yX6_compare wsX6_compare) := goodIn_app (goodIn_r _ [84, 85, 86, 7] rfl rfl) ggX6_stops_X6_compare
theorem dX6_stops_0 : decode cX6_stops 0 = .ok (.aload_n 0, 1) := by decide +kernel
theorem dX6_stops_1 : decode cX6_stops 1 = .ok (.iload_n 1, 1) := by decide +kernel
theorem dX6_stops_2 : decode cX6_stops 2 = .ok (.invokevirtual 146, 3) := by decide +kernel
theorem dX6_stops_5 : decode cX6_stops 5 = .ok (.ifCond .ne 5, 3) := by decide +kernel
theorem dX6_stops_8 : decode cX6_stops 8 = .ok (.iconst 0, 1) := by decide +kernel
theorem dX6_stops_9 : decode cX6_stops 9 = .ok (.ireturn, 1) := by decide +kernel
theorem dX6_stops_10 : decode cX6_stops 10 = .ok (.aload_n 0, 1) := by decide +kernel
theorem dX6_stops_11 : decode cX6_stops 11 = .ok (.iload_n 1, 1) := by decide +kernel
theorem dX6_stops_12 : decode cX6_stops 12 = .ok (.aload_n 0, 1) := by decide +kernel
theorem dX6_stops_13 : decode cX6_stops 13 = .ok (.getfield 159, 3) := by decide +kernel
theorem dX6_stops_16 : decode cX6_stops 16 = .ok (.aload_n 0, 1) := by decide +kernel
theorem dX6_stops_17 : decode cX6_stops 17 = .ok (.getfield 34, 3) := by decide +kernel
theorem dX6_stops_20 : decode cX6_stops 20 = .ok (.invokevirtual 140, 3) := by decide +kernel
theorem dX6_stops_23 : decode cX6_stops 23 = .ok (.aload_n 0, 1) := by decide +kernel
theorem dX6_stops_24 : decode cX6_stops 24 = .ok (.bipush 10, 2) := by decide +kernel
theorem dX6_stops_26 : decode cX6_stops 26 = .ok (.iconst 0, 1) := by decide +kernel
theorem dX6_stops_27 : decode cX6_stops 27 = .ok (.iconst 3, 1) := by decide +kernel
theorem dX6_stops_28 : decode cX6_stops 28 = .ok (.invokevirtual 111, 3) := by decide +kernel
theorem dX6_stops_31 : decode cX6_stops 31 = .ok (.aload_n 0, 1) := by decide +kernel
theorem dX6_stops_32 : decode cX6_stops 32 = .ok (.bipush 11, 2) := by decide +kernel
theorem dX6_stops_34 : decode cX6_stops 34 = .ok (.bipush 10, 2) := by decide +kernel
theorem dX6_stops_36 : decode cX6_stops 36 = .ok (.bipush 10, 2) := by decide +kernel
theorem dX6_stops_38 : decode cX6_stops 38 = .ok (.invokevirtual 96, 3) := by decide +kernel
theorem dX6_stops_41 : decode cX6_stops 41 = .ok (.aload_n 0, 1) := by decide +kernel
theorem dX6_stops_42 : decode cX6_stops 42 = .ok (.bipush 12, 2) := by decide +kernel
theorem dX6_stops_44 : decode cX6_stops 44 = .ok (.iconst 4, 1) := by decide +kernel
theorem dX6_stops_45 : decode cX6_stops 45 = .ok (.iconst 4, 1) := by decide +kernel
theorem dX6_stops_46 : decode cX6_stops 46 = .ok (.invokevirtual 96, 3) := by decide +kernel
theorem dX6_stops_49 : decode cX6_stops 49 = .ok (.aload_n 0, 1) := by decide +kernel
theorem dX6_stops_50 : decode cX6_stops 50 = .ok (.bipush 12, 2) := by decide +kernel
theorem dX6_stops_52 : decode cX6_stops 52 = .ok (.ldc2_w 178, 3) := by decide +kernel
theorem dX6_stops_55 : decode cX6_stops 55 = .ok (.invokevirtual 133, 3) := by decide +kernel
theorem dX6_stops_58 : decode cX6_stops 58 = .ok (.aload_n 0, 1) := by decide +kernel
theorem dX6_stops_59 : decode cX6_stops 59 = .ok (.bipush 11, 2) := by decide +kernel
theorem dX6_stops_61 : decode cX6_stops 61 = .ok (.bipush 12, 2) := by decide +kernel
theorem dX6_stops_63 : decode cX6_stops 63 = .ok (.invokevirtual 143, 3) := by decide +kernel
theorem dX6_stops_66 : decode cX6_stops 66 = .ok (.ifCond .le 7, 3) := by decide +kernel
theorem dX6_stops_69 : decode cX6_stops 69 = .ok (.iconst 1, 1) := by decide +kernel
theorem dX6_stops_70 : decode cX6_stops 70 = .ok (.goto 4, 3) := by decide +kernel
theorem dX6_stops_73 : decode cX6_stops 73 = .ok (.iconst 0, 1) := by decide +kernel
theorem dX6_stops_74 : decode cX6_stops 74 = .ok (.ireturn, 1) := by decide +kernel
set_option maxRecDepth 20000 in
theorem ggX6_less_X6_backOf : GoodIn wsX6_less wsX6_backOf := goodIn_r _ [8, 9, 10, 11, 12, 13, 14, 15, 7, 16, 17, 18, 19, 20, 21, 22, 23, 24, 25, 26, 27, 28, 29, 30, 31, 32, 33, 34, 35, 36, 37, 38, 39, 40, 41, 42, 43, 44, 45, 46, 47, 48, 49, 50, 51, 52, 53, 54, 55, 56, 57, 58, 59, 60, 61, 62, 63, 64, 65, 66, 67, 68, 69, 70, 71, 72, 73, 74, 75, 76, 77, 78, 79, 80, 81, 82, 91, 92, 93, 94, 95, 96, 97, 98, 99, 100, 101, 102, 103, 104, 105, 106, 107, 108, 109, 110, 111, 112] rfl rfl
set_option maxRecDepth 20000 in
theorem gX6_less_X6_backOf : GoodIn wsX6_less (wsV RX6 171 RX6 yX6_backOf wsX6_backOf) := goodIn_app (goodIn_r _ [4, 5, 6, 7] rfl rfl) ggX6_less_X6_backOf
set_option maxRecDepth 20000 in
theorem ggX6_less_X6_copy : GoodIn wsX6_less wsX6_copy := goodIn_r _ [59, 26, 27, 25, 91, 92, 93, 94, 95, 96, 97, 98, 99, 100, 101, 102, 103, 104, 105, 106, 107, 108, 109, 110, 111, 112] rfl rfl
set_option maxRecDepth 20000 in
theorem gX6_less_X6_copy : GoodIn wsX6_less (wsV RX6 81 RX6 yX6_copy wsX6_copy) := goodIn_app (goodIn_r _ [56, 57, 58, 7] rfl rfl) ggX6_less_X6_copy
set_option maxRecDepth 20000 in
theorem ggX6_less_X6_against : GoodIn wsX6_less wsX6_against := goodIn_r _ [86, 40, 41, 42, 7, 43, 26, 27, 28, 25, 44, 45, 46, 47, 48, 49, 50, 51, 87, 88, 89, 90, 68, 69, 70, 71, 91, 92, 93, 94, 95, 96, 97, 98, 99, 100, 101, 102, 103, 104, 105, 106, 107, 108, 109, 110, 111, 112] rfl rfl
set_option maxRecDepth 20000 in
theorem gX6_less_X6_against : GoodIn wsX6_less (wsV RX6 180 RX6 yX6_against wsX6_against) := goodIn_app (goodIn_r _ [83, 84, 85, 7] rfl rfl) ggX6_less_X6_against
theorem dX6_less_0 : decode cX6_less 0 = .ok (.aload_n 0, 1) := by decide +kernel
theorem dX6_less_1 : decode cX6_less 1 = .ok (.iconst 0, 1) := by decide +kernel
theorem dX6_less_2 : decode cX6_less 2 = .ok (.putfield 65, 3) := by decide +kernel
theorem dX6_less_5 : decode cX6_less 5 = .ok (.aload_n 0, 1) := by decide +kernel
theorem dX6_less_6 : decode cX6_less 6 = .ok (.iconst 0, 1) := by decide +kernel
theorem dX6_less_7 : decode cX6_less 7 = .ok (.aload_n 0, 1) := by decide +kernel
theorem dX6_less_8 : decode cX6_less 8 = .ok (.getfield 159, 3) := by decide +kernel
theorem dX6_less_11 : decode cX6_less 11 = .ok (.aload_n 0, 1) := by decide +kernel
theorem dX6_less_12 : decode cX6_less 12 = .ok (.getfield 34, 3) := by decide +kernel
theorem dX6_less_15 : decode cX6_less 15 = .ok (.invokevirtual 171, 3) := by decide +kernel
theorem dX6_less_18 : decode cX6_less 18 = .ok (.aload_n 0, 1) := by decide +kernel
theorem dX6_less_19 : decode cX6_less 19 = .ok (.bipush 24, 2) := by decide +kernel
theorem dX6_less_21 : decode cX6_less 21 = .ok (.bipush 14, 2) := by decide +kernel
theorem dX6_less_23 : decode cX6_less 23 = .ok (.invokevirtual 81, 3) := by decide +kernel
theorem dX6_less_26 : decode cX6_less 26 = .ok (.aload_n 0, 1) := by decide +kernel
theorem dX6_less_27 : decode cX6_less 27 = .ok (.bipush 25, 2) := by decide +kernel
theorem dX6_less_29 : decode cX6_less 29 = .ok (.bipush 15, 2) := by decide +kernel
theorem dX6_less_31 : decode cX6_less 31 = .ok (.invokevirtual 81, 3) := by decide +kernel
theorem dX6_less_34 : decode cX6_less 34 = .ok (.aload_n 0, 1) := by decide +kernel
theorem dX6_less_35 : decode cX6_less 35 = .ok (.iconst 1, 1) := by decide +kernel
theorem dX6_less_36 : decode cX6_less 36 = .ok (.aload_n 0, 1) := by decide +kernel
theorem dX6_less_37 : decode cX6_less 37 = .ok (.getfield 159, 3) := by decide +kernel
theorem dX6_less_40 : decode cX6_less 40 = .ok (.aload_n 0, 1) := by decide +kernel
theorem dX6_less_41 : decode cX6_less 41 = .ok (.getfield 34, 3) := by decide +kernel
theorem dX6_less_44 : decode cX6_less 44 = .ok (.invokevirtual 171, 3) := by decide +kernel
theorem dX6_less_47 : decode cX6_less 47 = .ok (.aload_n 0, 1) := by decide +kernel
theorem dX6_less_48 : decode cX6_less 48 = .ok (.bipush 24, 2) := by decide +kernel
theorem dX6_less_50 : decode cX6_less 50 = .ok (.bipush 25, 2) := by decide +kernel
theorem dX6_less_52 : decode cX6_less 52 = .ok (.invokevirtual 180, 3) := by decide +kernel
theorem dX6_less_55 : decode cX6_less 55 = .ok (.istore_n 1, 1) := by decide +kernel
theorem dX6_less_56 : decode cX6_less 56 = .ok (.iload_n 1, 1) := by decide +kernel
theorem dX6_less_57 : decode cX6_less 57 = .ok (.ifCond .ge 7, 3) := by decide +kernel
theorem dX6_less_60 : decode cX6_less 60 = .ok (.iconst 1, 1) := by decide +kernel
theorem dX6_less_61 : decode cX6_less 61 = .ok (.goto 12, 3) := by decide +kernel
theorem dX6_less_64 : decode cX6_less 64 = .ok (.iload_n 1, 1) := by decide +kernel
theorem dX6_less_65 : decode cX6_less 65 = .ok (.ifCond .le 7, 3) := by decide +kernel
theorem dX6_less_68 : decode cX6_less 68 = .ok (.iconst 0, 1) := by decide +kernel
theorem dX6_less_69 : decode cX6_less 69 = .ok (.goto 4, 3) := by decide +kernel
theorem dX6_less_72 : decode cX6_less 72 = .ok (.iconst (-1), 1) := by decide +kernel
theorem dX6_less_73 : decode cX6_less 73 = .ok (.ireturn, 1) := by decide +kernel
set_option maxRecDepth 20000 in
theorem ggX6_extreme_X6_isStack : GoodIn wsX6_extreme wsX6_isStack := goodIn_r _ [5, 6, 7, 8, 9, 4, 10, 97, 98, 99, 100, 101, 102, 103, 104, 105, 106, 107, 108, 109, 110, 111, 112, 113, 114, 115, 116, 117, 118] rfl rfl
set_option maxRecDepth 20000 in
theorem gX6_extreme_X6_isStack : GoodIn wsX6_extreme (wsV RX6 146 RX6 yX6_isStack wsX6_isStack) := goodIn_app (goodIn_r _ [1, 2, 3, 4] rfl rfl) ggX6_extreme_X6_isStack
set_option maxRecDepth 20000 in
theorem ggX6_extreme_X6_right : GoodIn wsX6_extreme wsX6_right := goodIn_r _ [10, 6, 97, 98, 99, 100, 101, 102, 103, 104, 105, 106, 107, 108, 109, 110, 111, 112, 113, 114, 115, 116, 117, 118] rfl rfl
set_option maxRecDepth 20000 in
theorem gX6_extreme_X6_right : GoodIn wsX6_extreme (wsV RX6 68 RX6 yX6_right wsX6_right) := goodIn_app (goodIn_r _ [7, 8, 9, 4] rfl rfl) ggX6_extreme_X6_right
set_option maxRecDepth 20000 in
theorem ggX6_extreme_X6_backOf : GoodIn wsX6_extreme wsX6_backOf := goodIn_r _ [14, 15, 16, 17, 18, 19, 20, 21, 4, 22, 23, 24, 25, 26, 27, 28, 29, 30, 31, 32, 33, 34, 35, 36, 37, 38, 39, 40, 41, 42, 43, 44, 45, 46, 47, 48, 49, 50, 51, 52, 53, 54, 55, 56, 57, 58, 59, 60, 61, 62, 63, 64, 65, 66, 67, 68, 69, 70, 71, 72, 73, 74, 75, 76, 77, 78, 79, 80, 81, 82, 83, 84, 85, 86, 87, 88, 97, 98, 99, 100, 101, 102, 103, 104, 105, 106, 107, 108, 109, 110, 111, 112, 113, 114, 115, 116, 117, 118] rfl rfl
set_option maxRecDepth 20000 in
theorem gX6_extreme_X6_backOf : GoodIn wsX6_extreme (wsV RX6 171 RX6 yX6_backOf wsX6_backOf) := goodIn_app (goodIn_r _ [11, 12, 13, 4] rfl rfl) ggX6_extreme_X6_backOf
set_option maxRecDepth 20000 in
theorem ggX6_extreme_X6_against : GoodIn wsX6_extreme wsX6_against := goodIn_r _ [92, 46, 47, 48, 4, 49, 32, 33, 34, 31, 50, 51, 52, 53, 54, 55, 56, 57, 93, 94, 95, 96, 74, 75, 76, 77, 97, 98, 99, 100, 101, 102, 103, 104, 105, 106, 107, 108, 109, 110, 111, 112, 113, 114, 115, 116, 117, 118] rfl rfl
set_option maxRecDepth 20000 in
theorem gX6_extreme_X6_against : GoodIn wsX6_extreme (wsV RX6 180 RX6 yX6_against wsX6_against) := goodIn_app (goodIn_r _ [89, 90, 91, 4] rfl rfl) ggX6_extreme_X6_against
set_option maxRecDepth 20000 in
theorem ggX6_extreme_X6_copy : GoodIn wsX6_extreme wsX6_copy := goodIn_r _ [65, 32, 33, 31, 97, 98, 99, 100, 101, 102, 103, 104, 105, 106, 107, 108, 109, 110, 111, 112, 113, 114, 115, 116, 117, 118] rfl rfl
set_option maxRecDepth 20000 in
theorem gX6_extreme_X6_copy : GoodIn wsX6_extreme (wsV RX6 81 RX6 yX6_copy wsX6_copy) := goodIn_app (goodIn_r _ [62, 63, 64, 4] rfl rfl) ggX6_extreme_X6_copy
theorem dX6_extreme_0 : decode cX6_extreme 0 = .ok (.aload_n 0, 1) := by decide +kernel
theorem dX6_extreme_1 : decode cX6_extreme 1 = .ok (.iload_n 1, 1) := by decide +kernel
theorem dX6_extreme_2 : decode cX6_extreme 2 = .ok (.invokevirtual 146, 3) := by decide +kernel
theorem dX6_extreme_5 : decode cX6_extreme 5 = .ok (.ifCond .eq 27, 3) := by decide +kernel
theorem dX6_extreme_8 : decode cX6_extreme 8 = .ok (.aload_n 0, 1) := by decide +kernel
theorem dX6_extreme_9 : decode cX6_extreme 9 = .ok (.iload_n 2, 1) := by decide +kernel
theorem dX6_extreme_10 : decode cX6_extreme 10 = .ok (.iconst 1, 1) := by decide +kernel
theorem dX6_extreme_11 : decode cX6_extreme 11 = .ok (.if_icmp .lt 13, 3) := by decide +kernel
theorem dX6_extreme_14 : decode cX6_extreme 14 = .ok (.iload_n 2, 1) := by decide +kernel
theorem dX6_extreme_15 : decode cX6_extreme 15 = .ok (.bipush 25, 2) := by decide +kernel
theorem dX6_extreme_17 : decode cX6_extreme 17 = .ok (.if_icmp .gt 7, 3) := by decide +kernel
theorem dX6_extreme_20 : decode cX6_extreme 20 = .ok (.iconst 1, 1) := by decide +kernel
theorem dX6_extreme_21 : decode cX6_extreme 21 = .ok (.goto 4, 3) := by decide +kernel
theorem dX6_extreme_24 : decode cX6_extreme 24 = .ok (.iconst 0, 1) := by decide +kernel
theorem dX6_extreme_25 : decode cX6_extreme 25 = .ok (.iconst 2, 1) := by decide +kernel
theorem dX6_extreme_26 : decode cX6_extreme 26 = .ok (.invokevirtual 68, 3) := by decide +kernel
theorem dX6_extreme_29 : decode cX6_extreme 29 = .ok (.ifCond .ne 5, 3) := by decide +kernel
theorem dX6_extreme_32 : decode cX6_extreme 32 = .ok (.iconst 0, 1) := by decide +kernel
theorem dX6_extreme_33 : decode cX6_extreme 33 = .ok (.ireturn, 1) := by decide +kernel
theorem dX6_extreme_34 : decode cX6_extreme 34 = .ok (.iload_n 2, 1) := by decide +kernel
theorem dX6_extreme_35 : decode cX6_extreme 35 = .ok (.ineg, 1) := by decide +kernel
theorem dX6_extreme_36 : decode cX6_extreme 36 = .ok (.istore 4, 2) := by decide +kernel
theorem dX6_extreme_38 : decode cX6_extreme 38 = .ok (.iload_n 2, 1) := by decide +kernel
theorem dX6_extreme_39 : decode cX6_extreme 39 = .ok (.ineg, 1) := by decide +kernel
theorem dX6_extreme_40 : decode cX6_extreme 40 = .ok (.istore 5, 2) := by decide +kernel
theorem dX6_extreme_42 : decode cX6_extreme 42 = .ok (.iload 5, 2) := by decide +kernel
theorem dX6_extreme_44 : decode cX6_extreme 44 = .ok (.iload_n 2, 1) := by decide +kernel
theorem dX6_extreme_45 : decode cX6_extreme 45 = .ok (.if_icmp .gt 85, 3) := by decide +kernel
theorem dX6_extreme_48 : decode cX6_extreme 48 = .ok (.aload_n 0, 1) := by decide +kernel
theorem dX6_extreme_49 : decode cX6_extreme 49 = .ok (.iload_n 1, 1) := by decide +kernel
theorem dX6_extreme_50 : decode cX6_extreme 50 = .ok (.iload 5, 2) := by decide +kernel
theorem dX6_extreme_52 : decode cX6_extreme 52 = .ok (.iload_n 2, 1) := by decide +kernel
theorem dX6_extreme_53 : decode cX6_extreme 53 = .ok (.invokevirtual 171, 3) := by decide +kernel
theorem dX6_extreme_56 : decode cX6_extreme 56 = .ok (.iload 5, 2) := by decide +kernel
theorem dX6_extreme_58 : decode cX6_extreme 58 = .ok (.iload_n 2, 1) := by decide +kernel
theorem dX6_extreme_59 : decode cX6_extreme 59 = .ok (.ineg, 1) := by decide +kernel
theorem dX6_extreme_60 : decode cX6_extreme 60 = .ok (.if_icmp .ne 7, 3) := by decide +kernel
theorem dX6_extreme_63 : decode cX6_extreme 63 = .ok (.iconst 0, 1) := by decide +kernel
theorem dX6_extreme_64 : decode cX6_extreme 64 = .ok (.goto 11, 3) := by decide +kernel
theorem dX6_extreme_67 : decode cX6_extreme 67 = .ok (.aload_n 0, 1) := by decide +kernel
theorem dX6_extreme_68 : decode cX6_extreme 68 = .ok (.bipush 16, 2) := by decide +kernel
theorem dX6_extreme_70 : decode cX6_extreme 70 = .ok (.bipush 17, 2) := by decide +kernel
theorem dX6_extreme_72 : decode cX6_extreme 72 = .ok (.invokevirtual 180, 3) := by decide +kernel
theorem dX6_extreme_75 : decode cX6_extreme 75 = .ok (.istore 6, 2) := by decide +kernel
theorem dX6_extreme_77 : decode cX6_extreme 77 = .ok (.iload 5, 2) := by decide +kernel
theorem dX6_extreme_79 : decode cX6_extreme 79 = .ok (.iload_n 2, 1) := by decide +kernel
theorem dX6_extreme_80 : decode cX6_extreme 80 = .ok (.ineg, 1) := by decide +kernel
theorem dX6_extreme_81 : decode cX6_extreme 81 = .ok (.if_icmp .le 23, 3) := by decide +kernel
theorem dX6_extreme_84 : decode cX6_extreme 84 = .ok (.iload_n 3, 1) := by decide +kernel
theorem dX6_extreme_85 : decode cX6_extreme 85 = .ok (.ifCond .eq 11, 3) := by decide +kernel
theorem dX6_extreme_88 : decode cX6_extreme 88 = .ok (.iload 6, 2) := by decide +kernel
theorem dX6_extreme_90 : decode cX6_extreme 90 = .ok (.ifCond .lt 14, 3) := by decide +kernel
theorem dX6_extreme_93 : decode cX6_extreme 93 = .ok (.goto 31, 3) := by decide +kernel
theorem dX6_extreme_96 : decode cX6_extreme 96 = .ok (.iload 6, 2) := by decide +kernel
theorem dX6_extreme_98 : decode cX6_extreme 98 = .ok (.ifCond .gt 6, 3) := by decide +kernel
theorem dX6_extreme_101 : decode cX6_extreme 101 = .ok (.goto 23, 3) := by decide +kernel
theorem dX6_extreme_104 : decode cX6_extreme 104 = .ok (.iload 5, 2) := by decide +kernel
theorem dX6_extreme_106 : decode cX6_extreme 106 = .ok (.istore 4, 2) := by decide +kernel
theorem dX6_extreme_108 : decode cX6_extreme 108 = .ok (.aload_n 0, 1) := by decide +kernel
theorem dX6_extreme_109 : decode cX6_extreme 109 = .ok (.bipush 16, 2) := by decide +kernel
theorem dX6_extreme_111 : decode cX6_extreme 111 = .ok (.bipush 14, 2) := by decide +kernel
theorem dX6_extreme_113 : decode cX6_extreme 113 = .ok (.invokevirtual 81, 3) := by decide +kernel
theorem dX6_extreme_116 : decode cX6_extreme 116 = .ok (.aload_n 0, 1) := by decide +kernel
theorem dX6_extreme_117 : decode cX6_extreme 117 = .ok (.bipush 17, 2) := by decide +kernel
theorem dX6_extreme_119 : decode cX6_extreme 119 = .ok (.bipush 15, 2) := by decide +kernel
theorem dX6_extreme_121 : decode cX6_extreme 121 = .ok (.invokevirtual 81, 3) := by decide +kernel
theorem dX6_extreme_124 : decode cX6_extreme 124 = .ok (.iinc 5 1, 3) := by decide +kernel
theorem dX6_extreme_127 : decode cX6_extreme 127 = .ok (.goto (-85), 3) := by decide +kernel
theorem dX6_extreme_130 : decode cX6_extreme 130 = .ok (.iload 4, 2) := by decide +kernel
theorem dX6_extreme_132 : decode cX6_extreme 132 = .ok (.ireturn, 1) := by decide +kernel
set_option maxRecDepth 20000 in
theorem ggX6_same_X6_backOf : GoodIn wsX6_same wsX6_backOf := goodIn_r _ [10, 2, 5, 4, 3, 11, 12, 13, 9, 14, 15, 16, 17, 18, 19, 20, 21, 22, 23, 24, 25, 26, 27, 28, 29, 30, 31, 32, 33, 34, 35, 36, 37, 38, 39, 40, 41, 42, 43, 44, 45, 46, 47, 48, 49, 50, 51, 52, 53, 54, 55, 56, 57, 58, 59, 60, 61, 62, 63, 64, 65, 66, 67, 68, 69, 70, 71, 72, 73, 74, 75, 76, 77, 78, 79, 80, 89, 90, 91, 92, 93, 94, 95, 96, 97, 98, 99, 100, 101, 102, 103, 104, 105, 106, 107, 108, 109, 110] rfl rfl
set_option maxRecDepth 20000 in
theorem gX6_same_X6_backOf : GoodIn wsX6_same (wsV RX6 171 RX6 yX6_backOf wsX6_backOf) := goodIn_app (goodIn_r _ [6, 7, 8, 9] rfl rfl) ggX6_same_X6_backOf
set_option maxRecDepth 20000 in
theorem ggX6_same_X6_copy : GoodIn wsX6_same wsX6_copy := goodIn_r _ [57, 24, 25, 23, 89, 90, 91, 92, 93, 94, 95, 96, 97, 98, 99, 100, 101, 102, 103, 104, 105, 106, 107, 108, 109, 110] rfl rfl
set_option maxRecDepth 20000 in
theorem gX6_same_X6_copy : GoodIn wsX6_same (wsV RX6 81 RX6 yX6_copy wsX6_copy) := goodIn_app (goodIn_r _ [54, 55, 56, 9] rfl rfl) ggX6_same_X6_copy
set_option maxRecDepth 20000 in
theorem ggX6_same_X6_against : GoodIn wsX6_same wsX6_against := goodIn_r _ [84, 38, 39, 40, 9, 41, 24, 25, 26, 23, 42, 43, 44, 45, 46, 47, 48, 49, 85, 86, 87, 88, 66, 67, 68, 69, 89, 90, 91, 92, 93, 94, 95, 96, 97, 98, 99, 100, 101, 102, 103, 104, 105, 106, 107, 108, 109, 110] rfl rfl
set_option maxRecDepth 20000 in
theorem gX6_same_X6_against : GoodIn wsX6_same (wsV RX6 180 RX6 yX6_against wsX6_against) := goodIn_app (goodIn_r _ [81, 82, 83, 9] rfl rfl) ggX6_same_X6_against
theorem dX6_same_0 : decode cX6_same 0 = .ok (.aload_n 0, 1) := by decide +kernel
theorem dX6_same_1 : decode cX6_same 1 = .ok (.iconst 0, 1) := by decide +kernel
theorem dX6_same_2 : decode cX6_same 2 = .ok (.putfield 65, 3) := by decide +kernel
theorem dX6_same_5 : decode cX6_same 5 = .ok (.aload_n 0, 1) := by decide +kernel
theorem dX6_same_6 : decode cX6_same 6 = .ok (.getfield 7, 3) := by decide +kernel
theorem dX6_same_9 : decode cX6_same 9 = .ok (.iconst 0, 1) := by decide +kernel
theorem dX6_same_10 : decode cX6_same 10 = .ok (.iaload, 1) := by decide +kernel
theorem dX6_same_11 : decode cX6_same 11 = .ok (.aload_n 0, 1) := by decide +kernel
theorem dX6_same_12 : decode cX6_same 12 = .ok (.getfield 7, 3) := by decide +kernel
theorem dX6_same_15 : decode cX6_same 15 = .ok (.iconst 1, 1) := by decide +kernel
theorem dX6_same_16 : decode cX6_same 16 = .ok (.iaload, 1) := by decide +kernel
theorem dX6_same_17 : decode cX6_same 17 = .ok (.if_icmp .ne 52, 3) := by decide +kernel
theorem dX6_same_20 : decode cX6_same 20 = .ok (.aload_n 0, 1) := by decide +kernel
theorem dX6_same_21 : decode cX6_same 21 = .ok (.getfield 13, 3) := by decide +kernel
theorem dX6_same_24 : decode cX6_same 24 = .ok (.iconst 0, 1) := by decide +kernel
theorem dX6_same_25 : decode cX6_same 25 = .ok (.iaload, 1) := by decide +kernel
theorem dX6_same_26 : decode cX6_same 26 = .ok (.aload_n 0, 1) := by decide +kernel
theorem dX6_same_27 : decode cX6_same 27 = .ok (.getfield 13, 3) := by decide +kernel
theorem dX6_same_30 : decode cX6_same 30 = .ok (.iconst 1, 1) := by decide +kernel
theorem dX6_same_31 : decode cX6_same 31 = .ok (.iaload, 1) := by decide +kernel
theorem dX6_same_32 : decode cX6_same 32 = .ok (.if_icmp .ne 37, 3) := by decide +kernel
theorem dX6_same_35 : decode cX6_same 35 = .ok (.aload_n 0, 1) := by decide +kernel
theorem dX6_same_36 : decode cX6_same 36 = .ok (.getfield 16, 3) := by decide +kernel
theorem dX6_same_39 : decode cX6_same 39 = .ok (.iconst 0, 1) := by decide +kernel
theorem dX6_same_40 : decode cX6_same 40 = .ok (.iaload, 1) := by decide +kernel
