set_option maxRecDepth 20000 in
theorem ggL_isChip_X5_count : GoodIn wsL_isChip wsX5_count := goodIn_r _ [6, 7, 8, 9, 10, 11, 12, 13, 14, 15, 16, 17, 18, 19, 20, 21, 22, 23, 24, 25, 26, 27, 28, 29, 30, 31, 32, 33, 34, 35, 36, 37, 38, 39, 40, 41, 42, 43, 44, 45, 46, 47, 48, 49, 50, 51, 52, 53, 54, 55, 56, 57, 58, 137, 138, 139, 140, 141, 142, 143, 144, 145, 146, 147, 148, 149, 150, 151, 152, 153, 154, 155, 156, 157, 158, 159, 160, 161, 162, 163, 164, 165, 166, 167, 168, 169, 170, 171, 172] (by decide +kernel) (by decide +kernel)
set_option maxRecDepth 20000 in
theorem gL_isChip_X5_count : GoodIn wsL_isChip (wsV RL 13 RX5 yX5_count wsX5_count) := goodIn_app (goodIn_of _ (by decide +kernel)) ggL_isChip_X5_count
set_option maxRecDepth 20000 in
theorem ggL_isChip_X5_netOf : GoodIn wsL_isChip wsX5_netOf := goodIn_r _ [62, 10, 63, 64, 65, 14, 66, 20, 25, 67, 68, 69, 70, 71, 46, 26, 72, 73, 74, 51, 52, 53, 54, 16, 31, 32, 33, 34, 35, 75, 76, 77, 78, 137, 138, 139, 140, 141, 142, 143, 149, 150, 151, 152, 153, 154, 155, 156, 157, 158, 159, 160, 161, 162, 163, 164, 165] (by decide +kernel) (by decide +kernel)
set_option maxRecDepth 20000 in
theorem gL_isChip_X5_netOf : GoodIn wsL_isChip (wsV RL 22 RX5 yX5_netOf wsX5_netOf) := goodIn_app (goodIn_of _ (by decide +kernel)) ggL_isChip_X5_netOf
set_option maxRecDepth 20000 in
theorem ggL_isChip_X5_cellOf : GoodIn wsL_isChip wsX5_cellOf := goodIn_r _ [82, 83, 10, 84, 85, 137, 138, 139, 140, 141, 142, 143, 149, 150, 151, 152, 153, 154, 155, 156] (by decide +kernel) (by decide +kernel)
set_option maxRecDepth 20000 in
theorem gL_isChip_X5_cellOf : GoodIn wsL_isChip (wsV RL 19 RX5 yX5_cellOf wsX5_cellOf) := goodIn_app (goodIn_of _ (by decide +kernel)) ggL_isChip_X5_cellOf
set_option maxRecDepth 20000 in
theorem ggL_isChip_X5_wireAt : GoodIn wsL_isChip wsX5_wireAt := goodIn_r _ [89, 10, 83, 90, 52, 53, 14, 54, 16, 91, 92, 93, 94, 35, 70, 137, 138, 139, 140, 141, 142, 143, 149, 150, 151, 152, 153, 154, 155, 156] (by decide +kernel) (by decide +kernel)
set_option maxRecDepth 20000 in
theorem gL_isChip_X5_wireAt : GoodIn wsL_isChip (wsV RL 49 RX5 yX5_wireAt wsX5_wireAt) := goodIn_app (goodIn_of _ (by decide +kernel)) ggL_isChip_X5_wireAt
set_option maxRecDepth 20000 in
theorem ggL_isChip_X5_claimOf : GoodIn wsL_isChip wsX5_claimOf := goodIn_r _ [98, 10, 99, 100, 101, 14, 102, 20, 40, 103, 104, 105, 106, 107, 41, 18, 108, 109, 110, 111, 112, 17, 113, 114, 115, 116, 19, 137, 138, 139, 140, 141, 142, 143, 149, 150, 151, 152, 153, 154, 155, 156, 166, 167, 168, 169, 170, 171, 172] (by decide +kernel) (by decide +kernel)
set_option maxRecDepth 20000 in
theorem gL_isChip_X5_claimOf : GoodIn wsL_isChip (wsV RL 26 RX5 yX5_claimOf wsX5_claimOf) := goodIn_app (goodIn_of _ (by decide +kernel)) ggL_isChip_X5_claimOf
set_option maxRecDepth 20000 in
theorem ggL_isChip_X5_docketAt : GoodIn wsL_isChip wsX5_docketAt := goodIn_r _ [120, 83, 10, 85, 121, 122, 123, 14, 124, 17, 40, 41, 125, 126, 127, 128, 113, 114, 115, 116, 19, 105, 106, 137, 138, 139, 140, 141, 142, 143, 149, 150, 151, 152, 153, 154, 155, 156, 166, 167, 168, 169, 170, 171, 172] (by decide +kernel) (by decide +kernel)
set_option maxRecDepth 20000 in
theorem gL_isChip_X5_docketAt : GoodIn wsL_isChip (wsV RL 84 RX5 yX5_docketAt wsX5_docketAt) := goodIn_app (goodIn_of _ (by decide +kernel)) ggL_isChip_X5_docketAt
set_option maxRecDepth 20000 in
theorem ggL_isChip_X5_wronged : GoodIn wsL_isChip wsX5_wronged := goodIn_r _ [132, 10, 133, 134, 135, 14, 136, 17, 40, 107, 103, 25, 26, 113, 114, 115, 116, 19, 105, 106, 51, 52, 53, 54, 16, 137, 138, 139, 140, 141, 142, 143, 149, 150, 151, 152, 153, 154, 155, 156, 166, 167, 168, 169, 170, 171, 172, 157, 158, 159, 160, 161, 162, 163, 164, 165] (by decide +kernel) (by decide +kernel)
set_option maxRecDepth 20000 in
theorem gL_isChip_X5_wronged : GoodIn wsL_isChip (wsV RL 98 RX5 yX5_wronged wsX5_wronged) := goodIn_app (goodIn_of _ (by decide +kernel)) ggL_isChip_X5_wronged
theorem dL_isChip_0 : decode cL_isChip 0 = .ok (.iconst 0, 1) := by decide +kernel
theorem dL_isChip_1 : decode cL_isChip 1 = .ok (.istore_n 1, 1) := by decide +kernel
theorem dL_isChip_2 : decode cL_isChip 2 = .ok (.iconst 0, 1) := by decide +kernel
theorem dL_isChip_3 : decode cL_isChip 3 = .ok (.istore_n 2, 1) := by decide +kernel
theorem dL_isChip_4 : decode cL_isChip 4 = .ok (.iconst 0, 1) := by decide +kernel
theorem dL_isChip_5 : decode cL_isChip 5 = .ok (.istore_n 3, 1) := by decide +kernel
theorem dL_isChip_6 : decode cL_isChip 6 = .ok (.iconst 0, 1) := by decide +kernel
theorem dL_isChip_7 : decode cL_isChip 7 = .ok (.istore 4, 2) := by decide +kernel
theorem dL_isChip_9 : decode cL_isChip 9 = .ok (.iconst 0, 1) := by decide +kernel
theorem dL_isChip_10 : decode cL_isChip 10 = .ok (.istore 5, 2) := by decide +kernel
theorem dL_isChip_12 : decode cL_isChip 12 = .ok (.iconst 1, 1) := by decide +kernel
theorem dL_isChip_13 : decode cL_isChip 13 = .ok (.istore 6, 2) := by decide +kernel
theorem dL_isChip_15 : decode cL_isChip 15 = .ok (.iconst 0, 1) := by decide +kernel
theorem dL_isChip_16 : decode cL_isChip 16 = .ok (.istore 7, 2) := by decide +kernel
theorem dL_isChip_18 : decode cL_isChip 18 = .ok (.iload 7, 2) := by decide +kernel
theorem dL_isChip_20 : decode cL_isChip 20 = .ok (.aload_n 0, 1) := by decide +kernel
theorem dL_isChip_21 : decode cL_isChip 21 = .ok (.iconst 0, 1) := by decide +kernel
theorem dL_isChip_22 : decode cL_isChip 22 = .ok (.invokevirtual 13, 3) := by decide +kernel
theorem dL_isChip_25 : decode cL_isChip 25 = .ok (.if_icmp .ge 293, 3) := by decide +kernel
theorem dL_isChip_28 : decode cL_isChip 28 = .ok (.iload 6, 2) := by decide +kernel
theorem dL_isChip_30 : decode cL_isChip 30 = .ok (.ifCond .eq 288, 3) := by decide +kernel
theorem dL_isChip_33 : decode cL_isChip 33 = .ok (.aload_n 0, 1) := by decide +kernel
theorem dL_isChip_34 : decode cL_isChip 34 = .ok (.iload 7, 2) := by decide +kernel
theorem dL_isChip_36 : decode cL_isChip 36 = .ok (.bipush 6, 2) := by decide +kernel
theorem dL_isChip_38 : decode cL_isChip 38 = .ok (.invokevirtual 22, 3) := by decide +kernel
theorem dL_isChip_41 : decode cL_isChip 41 = .ok (.istore 8, 2) := by decide +kernel
theorem dL_isChip_43 : decode cL_isChip 43 = .ok (.iconst 0, 1) := by decide +kernel
theorem dL_isChip_44 : decode cL_isChip 44 = .ok (.istore 9, 2) := by decide +kernel
theorem dL_isChip_46 : decode cL_isChip 46 = .ok (.iconst 0, 1) := by decide +kernel
theorem dL_isChip_47 : decode cL_isChip 47 = .ok (.istore 10, 2) := by decide +kernel
theorem dL_isChip_49 : decode cL_isChip 49 = .ok (.iconst 0, 1) := by decide +kernel
theorem dL_isChip_50 : decode cL_isChip 50 = .ok (.istore 11, 2) := by decide +kernel
theorem dL_isChip_52 : decode cL_isChip 52 = .ok (.iload 11, 2) := by decide +kernel
theorem dL_isChip_54 : decode cL_isChip 54 = .ok (.sipush 162, 3) := by decide +kernel
theorem dL_isChip_57 : decode cL_isChip 57 = .ok (.if_icmp .ge 72, 3) := by decide +kernel
theorem dL_isChip_60 : decode cL_isChip 60 = .ok (.iload 10, 2) := by decide +kernel
theorem dL_isChip_62 : decode cL_isChip 62 = .ok (.aload_n 0, 1) := by decide +kernel
theorem dL_isChip_63 : decode cL_isChip 63 = .ok (.iload 11, 2) := by decide +kernel
theorem dL_isChip_65 : decode cL_isChip 65 = .ok (.invokevirtual 19, 3) := by decide +kernel
theorem dL_isChip_68 : decode cL_isChip 68 = .ok (.iload 7, 2) := by decide +kernel
theorem dL_isChip_70 : decode cL_isChip 70 = .ok (.if_icmp .ne 7, 3) := by decide +kernel
theorem dL_isChip_73 : decode cL_isChip 73 = .ok (.iconst 1, 1) := by decide +kernel
theorem dL_isChip_74 : decode cL_isChip 74 = .ok (.goto 4, 3) := by decide +kernel
theorem dL_isChip_77 : decode cL_isChip 77 = .ok (.iconst 0, 1) := by decide +kernel
theorem dL_isChip_78 : decode cL_isChip 78 = .ok (.iadd, 1) := by decide +kernel
theorem dL_isChip_79 : decode cL_isChip 79 = .ok (.istore 10, 2) := by decide +kernel
theorem dL_isChip_81 : decode cL_isChip 81 = .ok (.iload 9, 2) := by decide +kernel
theorem dL_isChip_83 : decode cL_isChip 83 = .ok (.iload 11, 2) := by decide +kernel
theorem dL_isChip_85 : decode cL_isChip 85 = .ok (.bipush 81, 2) := by decide +kernel
theorem dL_isChip_87 : decode cL_isChip 87 = .ok (.if_icmp .ge 32, 3) := by decide +kernel
theorem dL_isChip_90 : decode cL_isChip 90 = .ok (.aload_n 0, 1) := by decide +kernel
theorem dL_isChip_91 : decode cL_isChip 91 = .ok (.iload 11, 2) := by decide +kernel
theorem dL_isChip_93 : decode cL_isChip 93 = .ok (.invokevirtual 19, 3) := by decide +kernel
theorem dL_isChip_96 : decode cL_isChip 96 = .ok (.iload 7, 2) := by decide +kernel
theorem dL_isChip_98 : decode cL_isChip 98 = .ok (.if_icmp .ne 21, 3) := by decide +kernel
theorem dL_isChip_101 : decode cL_isChip 101 = .ok (.aload_n 0, 1) := by decide +kernel
theorem dL_isChip_102 : decode cL_isChip 102 = .ok (.bipush 81, 2) := by decide +kernel
theorem dL_isChip_104 : decode cL_isChip 104 = .ok (.iload 11, 2) := by decide +kernel
theorem dL_isChip_106 : decode cL_isChip 106 = .ok (.iadd, 1) := by decide +kernel
theorem dL_isChip_107 : decode cL_isChip 107 = .ok (.invokevirtual 19, 3) := by decide +kernel
theorem dL_isChip_110 : decode cL_isChip 110 = .ok (.iload 7, 2) := by decide +kernel
theorem dL_isChip_112 : decode cL_isChip 112 = .ok (.if_icmp .ne 7, 3) := by decide +kernel
theorem dL_isChip_115 : decode cL_isChip 115 = .ok (.iconst 1, 1) := by decide +kernel
theorem dL_isChip_116 : decode cL_isChip 116 = .ok (.goto 4, 3) := by decide +kernel
theorem dL_isChip_119 : decode cL_isChip 119 = .ok (.iconst 0, 1) := by decide +kernel
theorem dL_isChip_120 : decode cL_isChip 120 = .ok (.iadd, 1) := by decide +kernel
theorem dL_isChip_121 : decode cL_isChip 121 = .ok (.istore 9, 2) := by decide +kernel
theorem dL_isChip_123 : decode cL_isChip 123 = .ok (.iinc 11 1, 3) := by decide +kernel
theorem dL_isChip_126 : decode cL_isChip 126 = .ok (.goto (-74), 3) := by decide +kernel
theorem dL_isChip_129 : decode cL_isChip 129 = .ok (.iload_n 1, 1) := by decide +kernel
theorem dL_isChip_130 : decode cL_isChip 130 = .ok (.iload 8, 2) := by decide +kernel
theorem dL_isChip_132 : decode cL_isChip 132 = .ok (.iadd, 1) := by decide +kernel
theorem dL_isChip_133 : decode cL_isChip 133 = .ok (.istore_n 1, 1) := by decide +kernel
theorem dL_isChip_134 : decode cL_isChip 134 = .ok (.iload_n 2, 1) := by decide +kernel
theorem dL_isChip_135 : decode cL_isChip 135 = .ok (.aload_n 0, 1) := by decide +kernel
theorem dL_isChip_136 : decode cL_isChip 136 = .ok (.iload 7, 2) := by decide +kernel
theorem dL_isChip_138 : decode cL_isChip 138 = .ok (.iconst 5, 1) := by decide +kernel
theorem dL_isChip_139 : decode cL_isChip 139 = .ok (.invokevirtual 22, 3) := by decide +kernel
theorem dL_isChip_142 : decode cL_isChip 142 = .ok (.iadd, 1) := by decide +kernel
theorem dL_isChip_143 : decode cL_isChip 143 = .ok (.istore_n 2, 1) := by decide +kernel
theorem dL_isChip_144 : decode cL_isChip 144 = .ok (.iload_n 3, 1) := by decide +kernel
theorem dL_isChip_145 : decode cL_isChip 145 = .ok (.aload_n 0, 1) := by decide +kernel
theorem dL_isChip_146 : decode cL_isChip 146 = .ok (.iload 7, 2) := by decide +kernel
theorem dL_isChip_148 : decode cL_isChip 148 = .ok (.iconst 4, 1) := by decide +kernel
theorem dL_isChip_149 : decode cL_isChip 149 = .ok (.invokevirtual 22, 3) := by decide +kernel
theorem dL_isChip_152 : decode cL_isChip 152 = .ok (.iadd, 1) := by decide +kernel
theorem dL_isChip_153 : decode cL_isChip 153 = .ok (.istore_n 3, 1) := by decide +kernel
theorem dL_isChip_154 : decode cL_isChip 154 = .ok (.iload 10, 2) := by decide +kernel
theorem dL_isChip_156 : decode cL_isChip 156 = .ok (.iload 8, 2) := by decide +kernel
theorem dL_isChip_158 : decode cL_isChip 158 = .ok (.if_icmp .ne 76, 3) := by decide +kernel
theorem dL_isChip_161 : decode cL_isChip 161 = .ok (.iload 9, 2) := by decide +kernel
theorem dL_isChip_163 : decode cL_isChip 163 = .ok (.aload_n 0, 1) := by decide +kernel
theorem dL_isChip_164 : decode cL_isChip 164 = .ok (.iload 7, 2) := by decide +kernel
theorem dL_isChip_166 : decode cL_isChip 166 = .ok (.bipush 7, 2) := by decide +kernel
theorem dL_isChip_168 : decode cL_isChip 168 = .ok (.invokevirtual 22, 3) := by decide +kernel
theorem dL_isChip_171 : decode cL_isChip 171 = .ok (.if_icmp .ne 63, 3) := by decide +kernel
theorem dL_isChip_174 : decode cL_isChip 174 = .ok (.aload_n 0, 1) := by decide +kernel
theorem dL_isChip_175 : decode cL_isChip 175 = .ok (.iload 7, 2) := by decide +kernel
theorem dL_isChip_177 : decode cL_isChip 177 = .ok (.iconst 5, 1) := by decide +kernel
theorem dL_isChip_178 : decode cL_isChip 178 = .ok (.invokevirtual 22, 3) := by decide +kernel
theorem dL_isChip_181 : decode cL_isChip 181 = .ok (.iconst 1, 1) := by decide +kernel
theorem dL_isChip_182 : decode cL_isChip 182 = .ok (.if_icmp .eq 8, 3) := by decide +kernel
theorem dL_isChip_185 : decode cL_isChip 185 = .ok (.iload 8, 2) := by decide +kernel
theorem dL_isChip_187 : decode cL_isChip 187 = .ok (.ifCond .ne 47, 3) := by decide +kernel
theorem dL_isChip_190 : decode cL_isChip 190 = .ok (.iload 8, 2) := by decide +kernel
theorem dL_isChip_192 : decode cL_isChip 192 = .ok (.ifCond .eq 38, 3) := by decide +kernel
theorem dL_isChip_195 : decode cL_isChip 195 = .ok (.aload_n 0, 1) := by decide +kernel
theorem dL_isChip_196 : decode cL_isChip 196 = .ok (.aload_n 0, 1) := by decide +kernel
theorem dL_isChip_197 : decode cL_isChip 197 = .ok (.iload 7, 2) := by decide +kernel
theorem dL_isChip_199 : decode cL_isChip 199 = .ok (.iconst 0, 1) := by decide +kernel
theorem dL_isChip_200 : decode cL_isChip 200 = .ok (.invokevirtual 49, 3) := by decide +kernel
theorem dL_isChip_203 : decode cL_isChip 203 = .ok (.invokevirtual 19, 3) := by decide +kernel
theorem dL_isChip_206 : decode cL_isChip 206 = .ok (.iload 7, 2) := by decide +kernel
theorem dL_isChip_208 : decode cL_isChip 208 = .ok (.if_icmp .ne 26, 3) := by decide +kernel
theorem dL_isChip_211 : decode cL_isChip 211 = .ok (.aload_n 0, 1) := by decide +kernel
theorem dL_isChip_212 : decode cL_isChip 212 = .ok (.aload_n 0, 1) := by decide +kernel
theorem dL_isChip_213 : decode cL_isChip 213 = .ok (.iload 7, 2) := by decide +kernel
theorem dL_isChip_215 : decode cL_isChip 215 = .ok (.iload 8, 2) := by decide +kernel
theorem dL_isChip_217 : decode cL_isChip 217 = .ok (.iconst 1, 1) := by decide +kernel
theorem dL_isChip_218 : decode cL_isChip 218 = .ok (.isub, 1) := by decide +kernel
theorem dL_isChip_219 : decode cL_isChip 219 = .ok (.invokevirtual 49, 3) := by decide +kernel
theorem dL_isChip_222 : decode cL_isChip 222 = .ok (.invokevirtual 19, 3) := by decide +kernel
theorem dL_isChip_225 : decode cL_isChip 225 = .ok (.iload 7, 2) := by decide +kernel
theorem dL_isChip_227 : decode cL_isChip 227 = .ok (.if_icmp .ne 7, 3) := by decide +kernel
theorem dL_isChip_230 : decode cL_isChip 230 = .ok (.iconst 1, 1) := by decide +kernel
theorem dL_isChip_231 : decode cL_isChip 231 = .ok (.goto 4, 3) := by decide +kernel
theorem dL_isChip_234 : decode cL_isChip 234 = .ok (.iconst 0, 1) := by decide +kernel
theorem dL_isChip_235 : decode cL_isChip 235 = .ok (.istore 6, 2) := by decide +kernel
theorem dL_isChip_237 : decode cL_isChip 237 = .ok (.iconst 0, 1) := by decide +kernel
theorem dL_isChip_238 : decode cL_isChip 238 = .ok (.istore 11, 2) := by decide +kernel
theorem dL_isChip_240 : decode cL_isChip 240 = .ok (.iload 11, 2) := by decide +kernel
theorem dL_isChip_242 : decode cL_isChip 242 = .ok (.iconst 3, 1) := by decide +kernel
theorem dL_isChip_243 : decode cL_isChip 243 = .ok (.if_icmp .ge 69, 3) := by decide +kernel
theorem dL_isChip_246 : decode cL_isChip 246 = .ok (.iload 6, 2) := by decide +kernel
theorem dL_isChip_248 : decode cL_isChip 248 = .ok (.ifCond .eq 64, 3) := by decide +kernel
theorem dL_isChip_251 : decode cL_isChip 251 = .ok (.aload_n 0, 1) := by decide +kernel
theorem dL_isChip_252 : decode cL_isChip 252 = .ok (.iload 7, 2) := by decide +kernel
theorem dL_isChip_254 : decode cL_isChip 254 = .ok (.iload 11, 2) := by decide +kernel
theorem dL_isChip_256 : decode cL_isChip 256 = .ok (.invokevirtual 22, 3) := by decide +kernel
theorem dL_isChip_259 : decode cL_isChip 259 = .ok (.istore 12, 2) := by decide +kernel
theorem dL_isChip_261 : decode cL_isChip 261 = .ok (.iload 12, 2) := by decide +kernel
theorem dL_isChip_263 : decode cL_isChip 263 = .ok (.ldc 83, 2) := by decide +kernel
theorem dL_isChip_265 : decode cL_isChip 265 = .ok (.if_icmp .eq 34, 3) := by decide +kernel
theorem dL_isChip_268 : decode cL_isChip 268 = .ok (.aload_n 0, 1) := by decide +kernel
theorem dL_isChip_269 : decode cL_isChip 269 = .ok (.iload 12, 2) := by decide +kernel
theorem dL_isChip_271 : decode cL_isChip 271 = .ok (.invokevirtual 19, 3) := by decide +kernel
theorem dL_isChip_274 : decode cL_isChip 274 = .ok (.bipush 10, 2) := by decide +kernel
theorem dL_isChip_276 : decode cL_isChip 276 = .ok (.iload 7, 2) := by decide +kernel
theorem dL_isChip_278 : decode cL_isChip 278 = .ok (.iadd, 1) := by decide +kernel
theorem dL_isChip_279 : decode cL_isChip 279 = .ok (.if_icmp .ne 24, 3) := by decide +kernel
theorem dL_isChip_282 : decode cL_isChip 282 = .ok (.aload_n 0, 1) := by decide +kernel
theorem dL_isChip_283 : decode cL_isChip 283 = .ok (.bipush 81, 2) := by decide +kernel
theorem dL_isChip_285 : decode cL_isChip 285 = .ok (.iload 12, 2) := by decide +kernel
theorem dL_isChip_287 : decode cL_isChip 287 = .ok (.iadd, 1) := by decide +kernel
theorem dL_isChip_288 : decode cL_isChip 288 = .ok (.invokevirtual 19, 3) := by decide +kernel
theorem dL_isChip_291 : decode cL_isChip 291 = .ok (.bipush 10, 2) := by decide +kernel
theorem dL_isChip_293 : decode cL_isChip 293 = .ok (.iload 7, 2) := by decide +kernel
theorem dL_isChip_295 : decode cL_isChip 295 = .ok (.iadd, 1) := by decide +kernel
theorem dL_isChip_296 : decode cL_isChip 296 = .ok (.if_icmp .ne 7, 3) := by decide +kernel
theorem dL_isChip_299 : decode cL_isChip 299 = .ok (.iconst 1, 1) := by decide +kernel
theorem dL_isChip_300 : decode cL_isChip 300 = .ok (.goto 4, 3) := by decide +kernel
theorem dL_isChip_303 : decode cL_isChip 303 = .ok (.iconst 0, 1) := by decide +kernel
theorem dL_isChip_304 : decode cL_isChip 304 = .ok (.istore 6, 2) := by decide +kernel
theorem dL_isChip_306 : decode cL_isChip 306 = .ok (.iinc 11 1, 3) := by decide +kernel
theorem dL_isChip_309 : decode cL_isChip 309 = .ok (.goto (-69), 3) := by decide +kernel
theorem dL_isChip_312 : decode cL_isChip 312 = .ok (.iinc 7 1, 3) := by decide +kernel
theorem dL_isChip_315 : decode cL_isChip 315 = .ok (.goto (-297), 3) := by decide +kernel
theorem dL_isChip_318 : decode cL_isChip 318 = .ok (.iconst 0, 1) := by decide +kernel
theorem dL_isChip_319 : decode cL_isChip 319 = .ok (.istore 7, 2) := by decide +kernel
theorem dL_isChip_321 : decode cL_isChip 321 = .ok (.iload 7, 2) := by decide +kernel
theorem dL_isChip_323 : decode cL_isChip 323 = .ok (.sipush 162, 3) := by decide +kernel
theorem dL_isChip_326 : decode cL_isChip 326 = .ok (.if_icmp .ge 111, 3) := by decide +kernel
theorem dL_isChip_329 : decode cL_isChip 329 = .ok (.iload 6, 2) := by decide +kernel
theorem dL_isChip_331 : decode cL_isChip 331 = .ok (.ifCond .eq 106, 3) := by decide +kernel
theorem dL_isChip_334 : decode cL_isChip 334 = .ok (.iload 4, 2) := by decide +kernel
theorem dL_isChip_336 : decode cL_isChip 336 = .ok (.aload_n 0, 1) := by decide +kernel
theorem dL_isChip_337 : decode cL_isChip 337 = .ok (.iload 7, 2) := by decide +kernel
theorem dL_isChip_339 : decode cL_isChip 339 = .ok (.invokevirtual 19, 3) := by decide +kernel
theorem dL_isChip_342 : decode cL_isChip 342 = .ok (.ldc 83, 2) := by decide +kernel
theorem dL_isChip_344 : decode cL_isChip 344 = .ok (.if_icmp .ne 7, 3) := by decide +kernel
theorem dL_isChip_347 : decode cL_isChip 347 = .ok (.iconst 1, 1) := by decide +kernel
theorem dL_isChip_348 : decode cL_isChip 348 = .ok (.goto 4, 3) := by decide +kernel
theorem dL_isChip_351 : decode cL_isChip 351 = .ok (.iconst 0, 1) := by decide +kernel
theorem dL_isChip_352 : decode cL_isChip 352 = .ok (.iadd, 1) := by decide +kernel
theorem dL_isChip_353 : decode cL_isChip 353 = .ok (.istore 4, 2) := by decide +kernel
theorem dL_isChip_355 : decode cL_isChip 355 = .ok (.iload 7, 2) := by decide +kernel
theorem dL_isChip_357 : decode cL_isChip 357 = .ok (.bipush 81, 2) := by decide +kernel
theorem dL_isChip_359 : decode cL_isChip 359 = .ok (.if_icmp .ge 15, 3) := by decide +kernel
theorem dL_isChip_362 : decode cL_isChip 362 = .ok (.aload_n 0, 1) := by decide +kernel
theorem dL_isChip_363 : decode cL_isChip 363 = .ok (.bipush 81, 2) := by decide +kernel
theorem dL_isChip_365 : decode cL_isChip 365 = .ok (.iload 7, 2) := by decide +kernel
theorem dL_isChip_367 : decode cL_isChip 367 = .ok (.iadd, 1) := by decide +kernel
theorem dL_isChip_368 : decode cL_isChip 368 = .ok (.invokevirtual 19, 3) := by decide +kernel
theorem dL_isChip_371 : decode cL_isChip 371 = .ok (.goto 5, 3) := by decide +kernel
theorem dL_isChip_374 : decode cL_isChip 374 = .ok (.ldc 83, 2) := by decide +kernel
theorem dL_isChip_376 : decode cL_isChip 376 = .ok (.istore 8, 2) := by decide +kernel
theorem dL_isChip_378 : decode cL_isChip 378 = .ok (.iload 5, 2) := by decide +kernel
theorem dL_isChip_380 : decode cL_isChip 380 = .ok (.aload_n 0, 1) := by decide +kernel
theorem dL_isChip_381 : decode cL_isChip 381 = .ok (.iload 7, 2) := by decide +kernel
theorem dL_isChip_383 : decode cL_isChip 383 = .ok (.invokevirtual 19, 3) := by decide +kernel
theorem dL_isChip_386 : decode cL_isChip 386 = .ok (.ifCond .lt 41, 3) := by decide +kernel
theorem dL_isChip_389 : decode cL_isChip 389 = .ok (.aload_n 0, 1) := by decide +kernel
theorem dL_isChip_390 : decode cL_isChip 390 = .ok (.iload 7, 2) := by decide +kernel
theorem dL_isChip_392 : decode cL_isChip 392 = .ok (.invokevirtual 19, 3) := by decide +kernel
theorem dL_isChip_395 : decode cL_isChip 395 = .ok (.bipush 6, 2) := by decide +kernel
theorem dL_isChip_397 : decode cL_isChip 397 = .ok (.if_icmp .ge 30, 3) := by decide +kernel
theorem dL_isChip_400 : decode cL_isChip 400 = .ok (.iload 8, 2) := by decide +kernel
theorem dL_isChip_402 : decode cL_isChip 402 = .ok (.ifCond .lt 25, 3) := by decide +kernel
theorem dL_isChip_405 : decode cL_isChip 405 = .ok (.iload 8, 2) := by decide +kernel
theorem dL_isChip_407 : decode cL_isChip 407 = .ok (.bipush 6, 2) := by decide +kernel
theorem dL_isChip_409 : decode cL_isChip 409 = .ok (.if_icmp .ge 18, 3) := by decide +kernel
theorem dL_isChip_412 : decode cL_isChip 412 = .ok (.iload 8, 2) := by decide +kernel
theorem dL_isChip_414 : decode cL_isChip 414 = .ok (.aload_n 0, 1) := by decide +kernel
theorem dL_isChip_415 : decode cL_isChip 415 = .ok (.iload 7, 2) := by decide +kernel
theorem dL_isChip_417 : decode cL_isChip 417 = .ok (.invokevirtual 19, 3) := by decide +kernel
theorem dL_isChip_420 : decode cL_isChip 420 = .ok (.if_icmp .eq 7, 3) := by decide +kernel
theorem dL_isChip_423 : decode cL_isChip 423 = .ok (.iconst 1, 1) := by decide +kernel
theorem dL_isChip_424 : decode cL_isChip 424 = .ok (.goto 4, 3) := by decide +kernel
theorem dL_isChip_427 : decode cL_isChip 427 = .ok (.iconst 0, 1) := by decide +kernel
theorem dL_isChip_428 : decode cL_isChip 428 = .ok (.iadd, 1) := by decide +kernel
theorem dL_isChip_429 : decode cL_isChip 429 = .ok (.istore 5, 2) := by decide +kernel
theorem dL_isChip_431 : decode cL_isChip 431 = .ok (.iinc 7 1, 3) := by decide +kernel
theorem dL_isChip_434 : decode cL_isChip 434 = .ok (.goto (-113), 3) := by decide +kernel
theorem dL_isChip_437 : decode cL_isChip 437 = .ok (.iconst 0, 1) := by decide +kernel
theorem dL_isChip_438 : decode cL_isChip 438 = .ok (.istore 7, 2) := by decide +kernel
theorem dL_isChip_440 : decode cL_isChip 440 = .ok (.iconst 0, 1) := by decide +kernel
theorem dL_isChip_441 : decode cL_isChip 441 = .ok (.istore 8, 2) := by decide +kernel
theorem dL_isChip_443 : decode cL_isChip 443 = .ok (.iconst 0, 1) := by decide +kernel
theorem dL_isChip_444 : decode cL_isChip 444 = .ok (.istore 9, 2) := by decide +kernel
theorem dL_isChip_446 : decode cL_isChip 446 = .ok (.iload 9, 2) := by decide +kernel
theorem dL_isChip_448 : decode cL_isChip 448 = .ok (.aload_n 0, 1) := by decide +kernel
theorem dL_isChip_449 : decode cL_isChip 449 = .ok (.iconst 4, 1) := by decide +kernel
theorem dL_isChip_450 : decode cL_isChip 450 = .ok (.invokevirtual 13, 3) := by decide +kernel
theorem dL_isChip_453 : decode cL_isChip 453 = .ok (.if_icmp .ge 195, 3) := by decide +kernel
theorem dL_isChip_456 : decode cL_isChip 456 = .ok (.iload 6, 2) := by decide +kernel
theorem dL_isChip_458 : decode cL_isChip 458 = .ok (.ifCond .eq 190, 3) := by decide +kernel
theorem dL_isChip_461 : decode cL_isChip 461 = .ok (.aload_n 0, 1) := by decide +kernel
theorem dL_isChip_462 : decode cL_isChip 462 = .ok (.bipush 22, 2) := by decide +kernel
theorem dL_isChip_464 : decode cL_isChip 464 = .ok (.invokevirtual 13, 3) := by decide +kernel
theorem dL_isChip_467 : decode cL_isChip 467 = .ok (.aload_n 0, 1) := by decide +kernel
theorem dL_isChip_468 : decode cL_isChip 468 = .ok (.iload 9, 2) := by decide +kernel
theorem dL_isChip_470 : decode cL_isChip 470 = .ok (.iconst 2, 1) := by decide +kernel
theorem dL_isChip_471 : decode cL_isChip 471 = .ok (.invokevirtual 26, 3) := by decide +kernel
theorem dL_isChip_474 : decode cL_isChip 474 = .ok (.imul, 1) := by decide +kernel
theorem dL_isChip_475 : decode cL_isChip 475 = .ok (.aload_n 0, 1) := by decide +kernel
theorem dL_isChip_476 : decode cL_isChip 476 = .ok (.bipush 20, 2) := by decide +kernel
theorem dL_isChip_478 : decode cL_isChip 478 = .ok (.invokevirtual 13, 3) := by decide +kernel
theorem dL_isChip_481 : decode cL_isChip 481 = .ok (.aload_n 0, 1) := by decide +kernel
theorem dL_isChip_482 : decode cL_isChip 482 = .ok (.iload 9, 2) := by decide +kernel
theorem dL_isChip_484 : decode cL_isChip 484 = .ok (.iconst 3, 1) := by decide +kernel
theorem dL_isChip_485 : decode cL_isChip 485 = .ok (.invokevirtual 26, 3) := by decide +kernel
theorem dL_isChip_488 : decode cL_isChip 488 = .ok (.imul, 1) := by decide +kernel
theorem dL_isChip_489 : decode cL_isChip 489 = .ok (.iadd, 1) := by decide +kernel
theorem dL_isChip_490 : decode cL_isChip 490 = .ok (.istore 10, 2) := by decide +kernel
theorem dL_isChip_492 : decode cL_isChip 492 = .ok (.iload 8, 2) := by decide +kernel
theorem dL_isChip_494 : decode cL_isChip 494 = .ok (.aload_n 0, 1) := by decide +kernel
theorem dL_isChip_495 : decode cL_isChip 495 = .ok (.iload 9, 2) := by decide +kernel
theorem dL_isChip_497 : decode cL_isChip 497 = .ok (.bipush 6, 2) := by decide +kernel
theorem dL_isChip_499 : decode cL_isChip 499 = .ok (.invokevirtual 26, 3) := by decide +kernel
theorem dL_isChip_502 : decode cL_isChip 502 = .ok (.iconst 1, 1) := by decide +kernel
theorem dL_isChip_503 : decode cL_isChip 503 = .ok (.if_icmp .ne 7, 3) := by decide +kernel
theorem dL_isChip_506 : decode cL_isChip 506 = .ok (.iconst 1, 1) := by decide +kernel
theorem dL_isChip_507 : decode cL_isChip 507 = .ok (.goto 4, 3) := by decide +kernel
theorem dL_isChip_510 : decode cL_isChip 510 = .ok (.iconst 0, 1) := by decide +kernel
theorem dL_isChip_511 : decode cL_isChip 511 = .ok (.iadd, 1) := by decide +kernel
theorem dL_isChip_512 : decode cL_isChip 512 = .ok (.istore 8, 2) := by decide +kernel
theorem dL_isChip_514 : decode cL_isChip 514 = .ok (.iload 7, 2) := by decide +kernel
theorem dL_isChip_516 : decode cL_isChip 516 = .ok (.aload_n 0, 1) := by decide +kernel
theorem dL_isChip_517 : decode cL_isChip 517 = .ok (.aload_n 0, 1) := by decide +kernel
theorem dL_isChip_518 : decode cL_isChip 518 = .ok (.iload 9, 2) := by decide +kernel
theorem dL_isChip_520 : decode cL_isChip 520 = .ok (.iconst 0, 1) := by decide +kernel
theorem dL_isChip_521 : decode cL_isChip 521 = .ok (.invokevirtual 26, 3) := by decide +kernel
theorem dL_isChip_524 : decode cL_isChip 524 = .ok (.iconst 5, 1) := by decide +kernel
theorem dL_isChip_525 : decode cL_isChip 525 = .ok (.invokevirtual 22, 3) := by decide +kernel
theorem dL_isChip_528 : decode cL_isChip 528 = .ok (.ifCond .ne 27, 3) := by decide +kernel
theorem dL_isChip_531 : decode cL_isChip 531 = .ok (.aload_n 0, 1) := by decide +kernel
theorem dL_isChip_532 : decode cL_isChip 532 = .ok (.iload 9, 2) := by decide +kernel
theorem dL_isChip_534 : decode cL_isChip 534 = .ok (.iconst 4, 1) := by decide +kernel
theorem dL_isChip_535 : decode cL_isChip 535 = .ok (.invokevirtual 26, 3) := by decide +kernel
theorem dL_isChip_538 : decode cL_isChip 538 = .ok (.iload 10, 2) := by decide +kernel
theorem dL_isChip_540 : decode cL_isChip 540 = .ok (.if_icmp .ge 15, 3) := by decide +kernel
theorem dL_isChip_543 : decode cL_isChip 543 = .ok (.iconst 1, 1) := by decide +kernel
theorem dL_isChip_544 : decode cL_isChip 544 = .ok (.aload_n 0, 1) := by decide +kernel
theorem dL_isChip_545 : decode cL_isChip 545 = .ok (.iload 9, 2) := by decide +kernel
theorem dL_isChip_547 : decode cL_isChip 547 = .ok (.iconst 0, 1) := by decide +kernel
theorem dL_isChip_548 : decode cL_isChip 548 = .ok (.invokevirtual 26, 3) := by decide +kernel
theorem dL_isChip_551 : decode cL_isChip 551 = .ok (.ishl, 1) := by decide +kernel
theorem dL_isChip_552 : decode cL_isChip 552 = .ok (.goto 4, 3) := by decide +kernel
theorem dL_isChip_555 : decode cL_isChip 555 = .ok (.iconst 0, 1) := by decide +kernel
theorem dL_isChip_556 : decode cL_isChip 556 = .ok (.ior, 1) := by decide +kernel
theorem dL_isChip_557 : decode cL_isChip 557 = .ok (.istore 7, 2) := by decide +kernel
theorem dL_isChip_559 : decode cL_isChip 559 = .ok (.aload_n 0, 1) := by decide +kernel
theorem dL_isChip_560 : decode cL_isChip 560 = .ok (.iload 9, 2) := by decide +kernel
theorem dL_isChip_562 : decode cL_isChip 562 = .ok (.iconst 5, 1) := by decide +kernel
theorem dL_isChip_563 : decode cL_isChip 563 = .ok (.invokevirtual 26, 3) := by decide +kernel
theorem dL_isChip_566 : decode cL_isChip 566 = .ok (.iload 10, 2) := by decide +kernel
theorem dL_isChip_568 : decode cL_isChip 568 = .ok (.if_icmp .ne 71, 3) := by decide +kernel
theorem dL_isChip_571 : decode cL_isChip 571 = .ok (.aload_n 0, 1) := by decide +kernel
theorem dL_isChip_572 : decode cL_isChip 572 = .ok (.iload 9, 2) := by decide +kernel
theorem dL_isChip_574 : decode cL_isChip 574 = .ok (.iconst 0, 1) := by decide +kernel
theorem dL_isChip_575 : decode cL_isChip 575 = .ok (.invokevirtual 26, 3) := by decide +kernel
theorem dL_isChip_578 : decode cL_isChip 578 = .ok (.aload_n 0, 1) := by decide +kernel
theorem dL_isChip_579 : decode cL_isChip 579 = .ok (.iload 9, 2) := by decide +kernel
theorem dL_isChip_581 : decode cL_isChip 581 = .ok (.iconst 1, 1) := by decide +kernel
theorem dL_isChip_582 : decode cL_isChip 582 = .ok (.invokevirtual 26, 3) := by decide +kernel
theorem dL_isChip_585 : decode cL_isChip 585 = .ok (.if_icmp .eq 54, 3) := by decide +kernel
theorem dL_isChip_588 : decode cL_isChip 588 = .ok (.aload_n 0, 1) := by decide +kernel
theorem dL_isChip_589 : decode cL_isChip 589 = .ok (.iload 9, 2) := by decide +kernel
theorem dL_isChip_591 : decode cL_isChip 591 = .ok (.iconst 2, 1) := by decide +kernel
theorem dL_isChip_592 : decode cL_isChip 592 = .ok (.invokevirtual 26, 3) := by decide +kernel
theorem dL_isChip_595 : decode cL_isChip 595 = .ok (.ifCond .le 44, 3) := by decide +kernel
theorem dL_isChip_598 : decode cL_isChip 598 = .ok (.aload_n 0, 1) := by decide +kernel
theorem dL_isChip_599 : decode cL_isChip 599 = .ok (.iload 9, 2) := by decide +kernel
theorem dL_isChip_601 : decode cL_isChip 601 = .ok (.bipush 7, 2) := by decide +kernel
theorem dL_isChip_603 : decode cL_isChip 603 = .ok (.invokevirtual 26, 3) := by decide +kernel
theorem dL_isChip_606 : decode cL_isChip 606 = .ok (.ifCond .lt 33, 3) := by decide +kernel
theorem dL_isChip_609 : decode cL_isChip 609 = .ok (.iload 9, 2) := by decide +kernel
theorem dL_isChip_611 : decode cL_isChip 611 = .ok (.ifCond .eq 24, 3) := by decide +kernel
theorem dL_isChip_614 : decode cL_isChip 614 = .ok (.aload_n 0, 1) := by decide +kernel
theorem dL_isChip_615 : decode cL_isChip 615 = .ok (.iload 9, 2) := by decide +kernel
theorem dL_isChip_617 : decode cL_isChip 617 = .ok (.bipush 7, 2) := by decide +kernel
theorem dL_isChip_619 : decode cL_isChip 619 = .ok (.invokevirtual 26, 3) := by decide +kernel
theorem dL_isChip_622 : decode cL_isChip 622 = .ok (.aload_n 0, 1) := by decide +kernel
theorem dL_isChip_623 : decode cL_isChip 623 = .ok (.iload 9, 2) := by decide +kernel
theorem dL_isChip_625 : decode cL_isChip 625 = .ok (.iconst 1, 1) := by decide +kernel
theorem dL_isChip_626 : decode cL_isChip 626 = .ok (.isub, 1) := by decide +kernel
theorem dL_isChip_627 : decode cL_isChip 627 = .ok (.bipush 7, 2) := by decide +kernel
theorem dL_isChip_629 : decode cL_isChip 629 = .ok (.invokevirtual 26, 3) := by decide +kernel
theorem dL_isChip_632 : decode cL_isChip 632 = .ok (.if_icmp .gt 7, 3) := by decide +kernel
theorem dL_isChip_635 : decode cL_isChip 635 = .ok (.iconst 1, 1) := by decide +kernel
theorem dL_isChip_636 : decode cL_isChip 636 = .ok (.goto 4, 3) := by decide +kernel
theorem dL_isChip_639 : decode cL_isChip 639 = .ok (.iconst 0, 1) := by decide +kernel
theorem dL_isChip_640 : decode cL_isChip 640 = .ok (.istore 6, 2) := by decide +kernel
theorem dL_isChip_642 : decode cL_isChip 642 = .ok (.iinc 9 1, 3) := by decide +kernel
theorem dL_isChip_645 : decode cL_isChip 645 = .ok (.goto (-199), 3) := by decide +kernel
theorem dL_isChip_648 : decode cL_isChip 648 = .ok (.iconst 0, 1) := by decide +kernel
theorem dL_isChip_649 : decode cL_isChip 649 = .ok (.istore 9, 2) := by decide +kernel
theorem dL_isChip_651 : decode cL_isChip 651 = .ok (.iload 9, 2) := by decide +kernel
theorem dL_isChip_653 : decode cL_isChip 653 = .ok (.iload 8, 2) := by decide +kernel
theorem dL_isChip_655 : decode cL_isChip 655 = .ok (.if_icmp .ge 121, 3) := by decide +kernel
theorem dL_isChip_658 : decode cL_isChip 658 = .ok (.iload 6, 2) := by decide +kernel
theorem dL_isChip_660 : decode cL_isChip 660 = .ok (.ifCond .eq 116, 3) := by decide +kernel
theorem dL_isChip_663 : decode cL_isChip 663 = .ok (.aload_n 0, 1) := by decide +kernel
theorem dL_isChip_664 : decode cL_isChip 664 = .ok (.iload 9, 2) := by decide +kernel
theorem dL_isChip_666 : decode cL_isChip 666 = .ok (.invokevirtual 84, 3) := by decide +kernel
theorem dL_isChip_669 : decode cL_isChip 669 = .ok (.istore 10, 2) := by decide +kernel
theorem dL_isChip_671 : decode cL_isChip 671 = .ok (.aload_n 0, 1) := by decide +kernel
theorem dL_isChip_672 : decode cL_isChip 672 = .ok (.iload 9, 2) := by decide +kernel
theorem dL_isChip_674 : decode cL_isChip 674 = .ok (.iconst 1, 1) := by decide +kernel
theorem dL_isChip_675 : decode cL_isChip 675 = .ok (.iadd, 1) := by decide +kernel
theorem dL_isChip_676 : decode cL_isChip 676 = .ok (.invokevirtual 84, 3) := by decide +kernel
theorem dL_isChip_679 : decode cL_isChip 679 = .ok (.istore 11, 2) := by decide +kernel
theorem dL_isChip_681 : decode cL_isChip 681 = .ok (.iload 10, 2) := by decide +kernel
theorem dL_isChip_683 : decode cL_isChip 683 = .ok (.ifCond .lt 84, 3) := by decide +kernel
theorem dL_isChip_686 : decode cL_isChip 686 = .ok (.aload_n 0, 1) := by decide +kernel
theorem dL_isChip_687 : decode cL_isChip 687 = .ok (.iload 10, 2) := by decide +kernel
theorem dL_isChip_689 : decode cL_isChip 689 = .ok (.bipush 6, 2) := by decide +kernel
theorem dL_isChip_691 : decode cL_isChip 691 = .ok (.invokevirtual 26, 3) := by decide +kernel
theorem dL_isChip_694 : decode cL_isChip 694 = .ok (.iconst 1, 1) := by decide +kernel
theorem dL_isChip_695 : decode cL_isChip 695 = .ok (.if_icmp .ne 72, 3) := by decide +kernel
theorem dL_isChip_698 : decode cL_isChip 698 = .ok (.iload 9, 2) := by decide +kernel
theorem dL_isChip_700 : decode cL_isChip 700 = .ok (.iload 8, 2) := by decide +kernel
theorem dL_isChip_702 : decode cL_isChip 702 = .ok (.iconst 1, 1) := by decide +kernel
theorem dL_isChip_703 : decode cL_isChip 703 = .ok (.isub, 1) := by decide +kernel
theorem dL_isChip_704 : decode cL_isChip 704 = .ok (.if_icmp .ne 13, 3) := by decide +kernel
theorem dL_isChip_707 : decode cL_isChip 707 = .ok (.iload 11, 2) := by decide +kernel
theorem dL_isChip_709 : decode cL_isChip 709 = .ok (.ldc 83, 2) := by decide +kernel
theorem dL_isChip_711 : decode cL_isChip 711 = .ok (.if_icmp .ne 56, 3) := by decide +kernel
theorem dL_isChip_714 : decode cL_isChip 714 = .ok (.goto 49, 3) := by decide +kernel
theorem dL_isChip_717 : decode cL_isChip 717 = .ok (.iload 11, 2) := by decide +kernel
theorem dL_isChip_719 : decode cL_isChip 719 = .ok (.ifCond .lt 48, 3) := by decide +kernel
theorem dL_isChip_722 : decode cL_isChip 722 = .ok (.aload_n 0, 1) := by decide +kernel
theorem dL_isChip_723 : decode cL_isChip 723 = .ok (.iload 10, 2) := by decide +kernel
theorem dL_isChip_725 : decode cL_isChip 725 = .ok (.iconst 5, 1) := by decide +kernel
theorem dL_isChip_726 : decode cL_isChip 726 = .ok (.invokevirtual 26, 3) := by decide +kernel
theorem dL_isChip_729 : decode cL_isChip 729 = .ok (.aload_n 0, 1) := by decide +kernel
theorem dL_isChip_730 : decode cL_isChip 730 = .ok (.iload 11, 2) := by decide +kernel
theorem dL_isChip_732 : decode cL_isChip 732 = .ok (.iconst 5, 1) := by decide +kernel
theorem dL_isChip_733 : decode cL_isChip 733 = .ok (.invokevirtual 26, 3) := by decide +kernel
theorem dL_isChip_736 : decode cL_isChip 736 = .ok (.if_icmp .gt 27, 3) := by decide +kernel
theorem dL_isChip_739 : decode cL_isChip 739 = .ok (.aload_n 0, 1) := by decide +kernel
theorem dL_isChip_740 : decode cL_isChip 740 = .ok (.iload 10, 2) := by decide +kernel
theorem dL_isChip_742 : decode cL_isChip 742 = .ok (.iconst 5, 1) := by decide +kernel
theorem dL_isChip_743 : decode cL_isChip 743 = .ok (.invokevirtual 26, 3) := by decide +kernel
theorem dL_isChip_746 : decode cL_isChip 746 = .ok (.aload_n 0, 1) := by decide +kernel
theorem dL_isChip_747 : decode cL_isChip 747 = .ok (.iload 11, 2) := by decide +kernel
theorem dL_isChip_749 : decode cL_isChip 749 = .ok (.iconst 5, 1) := by decide +kernel
theorem dL_isChip_750 : decode cL_isChip 750 = .ok (.invokevirtual 26, 3) := by decide +kernel
theorem dL_isChip_753 : decode cL_isChip 753 = .ok (.if_icmp .ne 14, 3) := by decide +kernel
theorem dL_isChip_756 : decode cL_isChip 756 = .ok (.iload 10, 2) := by decide +kernel
theorem dL_isChip_758 : decode cL_isChip 758 = .ok (.iload 11, 2) := by decide +kernel
theorem dL_isChip_760 : decode cL_isChip 760 = .ok (.if_icmp .ge 7, 3) := by decide +kernel
theorem dL_isChip_763 : decode cL_isChip 763 = .ok (.iconst 1, 1) := by decide +kernel
theorem dL_isChip_764 : decode cL_isChip 764 = .ok (.goto 4, 3) := by decide +kernel
theorem dL_isChip_767 : decode cL_isChip 767 = .ok (.iconst 0, 1) := by decide +kernel
theorem dL_isChip_768 : decode cL_isChip 768 = .ok (.istore 6, 2) := by decide +kernel
theorem dL_isChip_770 : decode cL_isChip 770 = .ok (.iinc 9 1, 3) := by decide +kernel
theorem dL_isChip_773 : decode cL_isChip 773 = .ok (.goto (-122), 3) := by decide +kernel
theorem dL_isChip_776 : decode cL_isChip 776 = .ok (.iload 6, 2) := by decide +kernel
theorem dL_isChip_778 : decode cL_isChip 778 = .ok (.ifCond .eq 76, 3) := by decide +kernel
theorem dL_isChip_781 : decode cL_isChip 781 = .ok (.iload_n 1, 1) := by decide +kernel
theorem dL_isChip_782 : decode cL_isChip 782 = .ok (.aload_n 0, 1) := by decide +kernel
theorem dL_isChip_783 : decode cL_isChip 783 = .ok (.bipush 8, 2) := by decide +kernel
theorem dL_isChip_785 : decode cL_isChip 785 = .ok (.invokevirtual 13, 3) := by decide +kernel
theorem dL_isChip_788 : decode cL_isChip 788 = .ok (.if_icmp .ne 66, 3) := by decide +kernel
theorem dL_isChip_791 : decode cL_isChip 791 = .ok (.iload_n 2, 1) := by decide +kernel
theorem dL_isChip_792 : decode cL_isChip 792 = .ok (.aload_n 0, 1) := by decide +kernel
theorem dL_isChip_793 : decode cL_isChip 793 = .ok (.iconst 1, 1) := by decide +kernel
theorem dL_isChip_794 : decode cL_isChip 794 = .ok (.invokevirtual 13, 3) := by decide +kernel
theorem dL_isChip_797 : decode cL_isChip 797 = .ok (.if_icmp .ne 57, 3) := by decide +kernel
theorem dL_isChip_800 : decode cL_isChip 800 = .ok (.iload_n 3, 1) := by decide +kernel
theorem dL_isChip_801 : decode cL_isChip 801 = .ok (.aload_n 0, 1) := by decide +kernel
theorem dL_isChip_802 : decode cL_isChip 802 = .ok (.bipush 7, 2) := by decide +kernel
theorem dL_isChip_804 : decode cL_isChip 804 = .ok (.invokevirtual 13, 3) := by decide +kernel
theorem dL_isChip_807 : decode cL_isChip 807 = .ok (.if_icmp .ne 47, 3) := by decide +kernel
theorem dL_isChip_810 : decode cL_isChip 810 = .ok (.iload 4, 2) := by decide +kernel
theorem dL_isChip_812 : decode cL_isChip 812 = .ok (.aload_n 0, 1) := by decide +kernel
theorem dL_isChip_813 : decode cL_isChip 813 = .ok (.iconst 3, 1) := by decide +kernel
theorem dL_isChip_814 : decode cL_isChip 814 = .ok (.invokevirtual 13, 3) := by decide +kernel
theorem dL_isChip_817 : decode cL_isChip 817 = .ok (.if_icmp .ne 37, 3) := by decide +kernel
theorem dL_isChip_820 : decode cL_isChip 820 = .ok (.iload 5, 2) := by decide +kernel
theorem dL_isChip_822 : decode cL_isChip 822 = .ok (.aload_n 0, 1) := by decide +kernel
theorem dL_isChip_823 : decode cL_isChip 823 = .ok (.bipush 9, 2) := by decide +kernel
theorem dL_isChip_825 : decode cL_isChip 825 = .ok (.invokevirtual 13, 3) := by decide +kernel
theorem dL_isChip_828 : decode cL_isChip 828 = .ok (.if_icmp .ne 26, 3) := by decide +kernel
theorem dL_isChip_831 : decode cL_isChip 831 = .ok (.iload 7, 2) := by decide +kernel
theorem dL_isChip_833 : decode cL_isChip 833 = .ok (.aload_n 0, 1) := by decide +kernel
theorem dL_isChip_834 : decode cL_isChip 834 = .ok (.invokevirtual 98, 3) := by decide +kernel
theorem dL_isChip_837 : decode cL_isChip 837 = .ok (.if_icmp .ne 17, 3) := by decide +kernel
theorem dL_isChip_840 : decode cL_isChip 840 = .ok (.iload 8, 2) := by decide +kernel
theorem dL_isChip_842 : decode cL_isChip 842 = .ok (.aload_n 0, 1) := by decide +kernel
theorem dL_isChip_843 : decode cL_isChip 843 = .ok (.iconst 5, 1) := by decide +kernel
theorem dL_isChip_844 : decode cL_isChip 844 = .ok (.invokevirtual 13, 3) := by decide +kernel
theorem dL_isChip_847 : decode cL_isChip 847 = .ok (.if_icmp .ne 7, 3) := by decide +kernel
theorem dL_isChip_850 : decode cL_isChip 850 = .ok (.iconst 1, 1) := by decide +kernel
theorem dL_isChip_851 : decode cL_isChip 851 = .ok (.goto 4, 3) := by decide +kernel
theorem dL_isChip_854 : decode cL_isChip 854 = .ok (.iconst 0, 1) := by decide +kernel
theorem dL_isChip_855 : decode cL_isChip 855 = .ok (.ireturn, 1) := by decide +kernel
abbrev rmL_isChip : Room := { frames := 4, cells := 0, slots := 0, locals := 91 }

set_option maxRecDepth 100000 in
set_option maxHeartbeats 16000000 in
theorem ic_1 {x : Ctx} {g : Geo} {l : Launch} {M : Nat → Nat → Int32} {P : Nat → Nat} {Xc : Nat → Int32} {N K B A s : Nat} (hx : x.1.2.1 = l) (h : Cxk x g cL_isChip 13 wsL_isChip RL rmL_isChip) (hW : WI M P N K B A s) (hX : M (P 0) = Xc) (kk : X x 318 [(0, .ref (g.1 144)), (1, .int (nI (sumN (fun k => wir Xc (nI k)) N))), (2, .int (nI (joinedN Xc N))), (3, .int (sumI (fun k => Xc (169 + 9 * k + 4)) N)), (4, .int (nI 0)), (5, .int (nI 0)), (6, .int (nI 1))] [] M P) : X x 18 [(0, .ref (g.1 144)), (1, .int (nI 0)), (2, .int (nI 0)), (3, .int (nI 0)), (4, .int (nI 0)), (5, .int (nI 0)), (6, .int (nI 1)), (7, .int (nI 0))] [] M P := by
  have hN6 := hW.N6
  have hK12 := hW.K12
  have hG0 : GI Xc N K B A := hX ▸ hW.hG
  have hI := hG0.1
  have hO : OwV eC Xc N := hI.1.2.1
  obtain ⟨-, hnw, ⟨ac, eac, hacA, hA30, hcl⟩, hmo, -, -⟩ := hG0
  have hap : appl Xc K ≤ K := appl_le
  have wir0 : ∀ k, k < N → jN Xc k ≠ 1 → wir Xc (nI k) = 0 := fun k hk hj => cnt_zero (fun a ha => decide_eq_false (hnw k hk ((jN_0 hj).trans nI_0.symm) a ha))
  have L18 : ∀ (fu : Nat) (n : Nat), (N - n) < fu → (n ≤ N) → X x 18 [(0, .ref (g.1 144)), (1, .int (nI (sumN (fun k => wir Xc (nI k)) n))), (2, .int (nI (joinedN Xc n))), (3, .int (sumI (fun k => Xc (169 + 9 * k + 4)) n)), (4, .int (nI 0)), (5, .int (nI 0)), (6, .int (nI 1)), (7, .int (nI n))] [] M P := by
    intro fu
    induction fu with
    | zero => intro n hmu18; exact absurd hmu18 (Nat.not_lt_zero _)
    | succ fu ih18 =>
      intro n hmu18 hn
      refine x_iload h 7 dL_isChip_18 rfl ?_
      refine x_aload_n h 0 dL_isChip_20 rfl rfl ?_
      refine x_iconst h (nI 0) dL_isChip_21 (by decide) ?_
      refine x_callV h (As := [.int (nI 0)]) 1 hx (c_X5_count hW.hP hW.hI hW.hs hW.hs4 hW.hln) gL_isChip_X5_count rfl ⟨rfl, rfl⟩ (by decide +kernel) rfl (by decide) (by decide) E_144 rfl rfl (Nat.le_of_ble_eq_true rfl) dL_isChip_22 (fun a22 M' P' hp => ?_)
      rw [hX] at hp
      obtain ⟨⟨rfl, rfl⟩, hQ⟩ := hp
      have hz := cnt_at (j := 0) (by omega) (by omega) (by omega) hQ
      clear hQ
      subst hz
      refine x_icmp_ge_n h 318 dL_isChip_25 (by decide) (by first | omega | exact jN_lt | exact sumw_lt hN6 (by omega) | exact cnt_lt31 (by decide) | exact cnt_lt31 (by omega)) (by first | omega | exact jN_lt | exact sumw_lt hN6 (by omega) | exact cnt_lt31 (by decide) | exact cnt_lt31 (by omega)) (fun c_25 => ?_) (fun c_25 => ?_)
      · -- 25 true
        obtain rfl : N = n := by omega
        exact x_lv (kk) [0, 1, 2, 3, 4, 5, 6] rfl
      · -- 25 false
        have hG := hI.1.1.net c_25
        have hw : wir Xc (nI n) ≤ 162 := cnt_le _ _
        have hv0 : via Xc (nI n) ≤ 81 := cnt_le _ _
        have hjn := joinedN_le (X := Xc) (n := n)
        refine x_iload h 6 dL_isChip_28 rfl ?_
        refine x_if_eq h 318 dL_isChip_30 (by decide) (fun c => absurd c (by decide)) (fun _ => ?_)
        refine x_aload_n h 0 dL_isChip_33 rfl rfl ?_
        refine x_iload h 7 dL_isChip_34 rfl ?_
        refine x_bipush h (nI 6) dL_isChip_36 (by decide) ?_
        refine x_callV h (As := [.int (nI n), .int (nI 6)]) 2 hx (c_X5_netOf hW.hP hW.hI) gL_isChip_X5_netOf rfl ⟨rfl, rfl⟩ (by decide +kernel) rfl (by decide) (by decide) E_144 rfl rfl (Nat.le_of_ble_eq_true rfl) dL_isChip_38 (fun a38 M' P' hp => ?_)
        rw [hX] at hp
        obtain ⟨⟨rfl, rfl⟩, hQ⟩ := hp
        have hz := (net_at (j := 6) hN6 (by omega) (by omega) hQ)
        clear hQ
        subst hz
        refine x_istore h [(8, .int (nI (wir Xc (nI n)))), (0, .ref (g.1 144)), (1, .int (nI (sumN (fun k => wir Xc (nI k)) n))), (2, .int (nI (joinedN Xc n))), (3, .int (sumI (fun k => Xc (169 + 9 * k + 4)) n)), (4, .int (nI 0)), (5, .int (nI 0)), (6, .int (nI 1)), (7, .int (nI n))] dL_isChip_41 (by decide) rfl ?_
        refine x_iconst h (nI 0) dL_isChip_43 (by decide) ?_
        refine x_istore h [(9, .int (nI 0)), (8, .int (nI (wir Xc (nI n)))), (0, .ref (g.1 144)), (1, .int (nI (sumN (fun k => wir Xc (nI k)) n))), (2, .int (nI (joinedN Xc n))), (3, .int (sumI (fun k => Xc (169 + 9 * k + 4)) n)), (4, .int (nI 0)), (5, .int (nI 0)), (6, .int (nI 1)), (7, .int (nI n))] dL_isChip_44 (by decide) rfl ?_
        refine x_iconst h (nI 0) dL_isChip_46 (by decide) ?_
        refine x_istore h [(10, .int (nI 0)), (9, .int (nI 0)), (8, .int (nI (wir Xc (nI n)))), (0, .ref (g.1 144)), (1, .int (nI (sumN (fun k => wir Xc (nI k)) n))), (2, .int (nI (joinedN Xc n))), (3, .int (sumI (fun k => Xc (169 + 9 * k + 4)) n)), (4, .int (nI 0)), (5, .int (nI 0)), (6, .int (nI 1)), (7, .int (nI n))] dL_isChip_47 (by decide) rfl ?_
        refine x_iconst h (nI 0) dL_isChip_49 (by decide) ?_
        refine x_istore h [(11, .int (nI 0)), (10, .int (nI 0)), (9, .int (nI 0)), (8, .int (nI (wir Xc (nI n)))), (0, .ref (g.1 144)), (1, .int (nI (sumN (fun k => wir Xc (nI k)) n))), (2, .int (nI (joinedN Xc n))), (3, .int (sumI (fun k => Xc (169 + 9 * k + 4)) n)), (4, .int (nI 0)), (5, .int (nI 0)), (6, .int (nI 1)), (7, .int (nI n))] dL_isChip_50 (by decide) rfl ?_
        have L52 : ∀ (fu : Nat) (a : Nat) (k : Nat) (v : Nat), (162 - a) < fu → (a ≤ 162) → (k = cnt (fun b => decide (cellV Xc b = nI n)) a) → (k ≤ a) → (v = cnt (viaP Xc n) a) → (v ≤ a) → X x 52 [(0, .ref (g.1 144)), (1, .int (nI (sumN (fun k => wir Xc (nI k)) n))), (2, .int (nI (joinedN Xc n))), (3, .int (sumI (fun k => Xc (169 + 9 * k + 4)) n)), (4, .int (nI 0)), (5, .int (nI 0)), (6, .int (nI 1)), (7, .int (nI n)), (8, .int (nI (wir Xc (nI n)))), (9, .int (nI v)), (10, .int (nI k)), (11, .int (nI a))] [] M P := by
          intro fu
          induction fu with
          | zero => intro a k v hmu52; exact absurd hmu52 (Nat.not_lt_zero _)
          | succ fu ih52 =>
            intro a k v hmu52 ha hk hk1 hv hv1
            refine x_iload h 11 dL_isChip_52 rfl ?_
            refine x_sipush h (nI 162) dL_isChip_54 (by decide) ?_
            refine x_icmp_ge_n h 129 dL_isChip_57 (by decide) (by first | omega | exact jN_lt | exact sumw_lt hN6 (by omega) | exact cnt_lt31 (by decide) | exact cnt_lt31 (by omega)) (by decide) (fun c_57 => ?_) (fun c_57 => ?_)
            · -- 57 true
              obtain rfl : 162 = a := by omega
              refine x_iload_n h 1 dL_isChip_129 rfl rfl ?_
              refine x_iload h 8 dL_isChip_130 rfl ?_
              refine x_iadd_n h dL_isChip_132 ?_
              refine x_istore_n h [(1, .int (nI ((sumN (fun k => wir Xc (nI k)) n) + (wir Xc (nI n))))), (0, .ref (g.1 144)), (2, .int (nI (joinedN Xc n))), (3, .int (sumI (fun k => Xc (169 + 9 * k + 4)) n)), (4, .int (nI 0)), (5, .int (nI 0)), (6, .int (nI 1)), (7, .int (nI n)), (8, .int (nI (wir Xc (nI n)))), (9, .int (nI v)), (10, .int (nI k)), (11, .int (nI 162))] dL_isChip_133 rfl (by decide) rfl ?_
              refine x_iload_n h 2 dL_isChip_134 rfl rfl ?_
              refine x_aload_n h 1 dL_isChip_135 rfl rfl ?_
              refine x_iload h 7 dL_isChip_136 rfl ?_
              refine x_iconst h (nI 5) dL_isChip_138 (by decide) ?_
              refine x_callV h (As := [.int (nI n), .int (nI 5)]) 2 hx (c_X5_netOf hW.hP hW.hI) gL_isChip_X5_netOf rfl ⟨rfl, rfl⟩ (by decide +kernel) rfl (by decide) (by decide) E_144 rfl rfl (Nat.le_of_ble_eq_true rfl) dL_isChip_139 (fun a139 M' P' hp => ?_)
              rw [hX] at hp
              obtain ⟨⟨rfl, rfl⟩, hQ⟩ := hp
              have hz := (net_at (j := 5) hN6 (by omega) (by omega) hQ).trans (fNet5 Xc n)
              clear hQ
              subst hz
              refine x_iadd_n h dL_isChip_142 ?_
              refine x_top (nI (joinedN Xc (n + 1))) (congrArg nI joined_s) ?_
              refine x_istore_n h [(2, .int (nI (joinedN Xc (n + 1)))), (1, .int (nI ((sumN (fun k => wir Xc (nI k)) n) + (wir Xc (nI n))))), (0, .ref (g.1 144)), (3, .int (sumI (fun k => Xc (169 + 9 * k + 4)) n)), (4, .int (nI 0)), (5, .int (nI 0)), (6, .int (nI 1)), (7, .int (nI n)), (8, .int (nI (wir Xc (nI n)))), (9, .int (nI v)), (10, .int (nI k)), (11, .int (nI 162))] dL_isChip_143 rfl (by decide) rfl ?_
              refine x_iload_n h 3 dL_isChip_144 rfl rfl ?_
              refine x_aload_n h 2 dL_isChip_145 rfl rfl ?_
              refine x_iload h 7 dL_isChip_146 rfl ?_
              refine x_iconst h (nI 4) dL_isChip_148 (by decide) ?_
              refine x_callV h (As := [.int (nI n), .int (nI 4)]) 2 hx (c_X5_netOf hW.hP hW.hI) gL_isChip_X5_netOf rfl ⟨rfl, rfl⟩ (by decide +kernel) rfl (by decide) (by decide) E_144 rfl rfl (Nat.le_of_ble_eq_true rfl) dL_isChip_149 (fun a149 M' P' hp => ?_)
              rw [hX] at hp
              obtain ⟨⟨rfl, rfl⟩, hQ⟩ := hp
              have hz := (net_at (j := 4) hN6 (by omega) (by omega) hQ)
              clear hQ
              subst hz
              refine x_iadd h dL_isChip_152 ?_
              refine x_istore_n h [(3, .int ((sumI (fun k => Xc (169 + 9 * k + 4)) n) + (Xc (169 + 9 * n + 4)))), (2, .int (nI (joinedN Xc (n + 1)))), (1, .int (nI ((sumN (fun k => wir Xc (nI k)) n) + (wir Xc (nI n))))), (0, .ref (g.1 144)), (4, .int (nI 0)), (5, .int (nI 0)), (6, .int (nI 1)), (7, .int (nI n)), (8, .int (nI (wir Xc (nI n)))), (9, .int (nI v)), (10, .int (nI k)), (11, .int (nI 162))] dL_isChip_153 rfl (by decide) rfl ?_
              refine x_iload h 10 dL_isChip_154 rfl ?_
              refine x_iload h 8 dL_isChip_156 rfl ?_
              refine x_icmp_ne_n h 234 dL_isChip_158 (by decide) (by first | omega | exact jN_lt | exact sumw_lt hN6 (by omega) | exact cnt_lt31 (by decide) | exact cnt_lt31 (by omega)) (by first | omega | exact jN_lt | exact sumw_lt hN6 (by omega) | exact cnt_lt31 (by decide) | exact cnt_lt31 (by omega)) (fun c_158 => by exfalso; exact c_158 (hk.trans (wir_all (by omega)))) (fun c_158 => ?_)
              refine x_iload h 9 dL_isChip_161 rfl ?_
              refine x_aload_n h 3 dL_isChip_163 rfl rfl ?_
              refine x_iload h 7 dL_isChip_164 rfl ?_
              refine x_bipush h (nI 7) dL_isChip_166 (by decide) ?_
              refine x_callV h (As := [.int (nI n), .int (nI 7)]) 2 hx (c_X5_netOf hW.hP hW.hI) gL_isChip_X5_netOf rfl ⟨rfl, rfl⟩ (by decide +kernel) rfl (by decide) (by decide) E_144 rfl rfl (Nat.le_of_ble_eq_true rfl) dL_isChip_168 (fun a168 M' P' hp => ?_)
              rw [hX] at hp
              obtain ⟨⟨rfl, rfl⟩, hQ⟩ := hp
              have hz := (net_at (j := 7) hN6 (by omega) (by omega) hQ)
              clear hQ
              subst hz
              refine x_icmp_ne_n h 234 dL_isChip_171 (by decide) (by first | omega | exact jN_lt | exact sumw_lt hN6 (by omega) | exact cnt_lt31 (by decide) | exact cnt_lt31 (by omega)) (by first | omega | exact jN_lt | exact sumw_lt hN6 (by omega) | exact cnt_lt31 (by decide) | exact cnt_lt31 (by omega)) (fun c_171 => by exfalso; exact c_171 (hv.trans (via_all (by omega)))) (fun c_171 => ?_)
              refine x_aload_n h 3 dL_isChip_174 rfl rfl ?_
              refine x_iload h 7 dL_isChip_175 rfl ?_
              refine x_iconst h (nI 5) dL_isChip_177 (by decide) ?_
              refine x_callV h (As := [.int (nI n), .int (nI 5)]) 2 hx (c_X5_netOf hW.hP hW.hI) gL_isChip_X5_netOf rfl ⟨rfl, rfl⟩ (by decide +kernel) rfl (by decide) (by decide) E_144 rfl rfl (Nat.le_of_ble_eq_true rfl) dL_isChip_178 (fun a178 M' P' hp => ?_)
              rw [hX] at hp
              obtain ⟨⟨rfl, rfl⟩, hQ⟩ := hp
              have hz := (net_at (j := 5) hN6 (by omega) (by omega) hQ).trans (fNet5 Xc n)
              clear hQ
              subst hz
              refine x_iconst h (nI 1) dL_isChip_181 (by decide) ?_
              refine x_icmp_eq_n h 190 dL_isChip_182 (by decide) (by first | omega | exact jN_lt | exact sumw_lt hN6 (by omega) | exact cnt_lt31 (by decide) | exact cnt_lt31 (by omega)) (by decide) (fun c_182 => ?_) (fun c_182 => ?_)
              · -- 182 true
                refine x_iload h 8 dL_isChip_190 rfl ?_
                refine x_if_eq_n h 230 dL_isChip_192 (by decide) (by first | omega | exact jN_lt | exact sumw_lt hN6 (by omega) | exact cnt_lt31 (by decide) | exact cnt_lt31 (by omega)) (fun c_192 => ?_) (fun c_192 => ?_)
                · -- 192 true
                  refine x_iconst h (nI 1) dL_isChip_230 (by decide) ?_
                  refine x_goto h 235 dL_isChip_231 (by decide) ?_
                  refine x_istore h [(6, .int (nI 1)), (3, .int ((sumI (fun k => Xc (169 + 9 * k + 4)) n) + (Xc (169 + 9 * n + 4)))), (2, .int (nI (joinedN Xc (n + 1)))), (1, .int (nI ((sumN (fun k => wir Xc (nI k)) n) + (wir Xc (nI n))))), (0, .ref (g.1 144)), (4, .int (nI 0)), (5, .int (nI 0)), (7, .int (nI n)), (8, .int (nI (wir Xc (nI n)))), (9, .int (nI v)), (10, .int (nI k)), (11, .int (nI 162))] dL_isChip_235 (by decide) rfl ?_
                  refine x_iconst h (nI 0) dL_isChip_237 (by decide) ?_
                  refine x_istore h [(11, .int (nI 0)), (6, .int (nI 1)), (3, .int ((sumI (fun k => Xc (169 + 9 * k + 4)) n) + (Xc (169 + 9 * n + 4)))), (2, .int (nI (joinedN Xc (n + 1)))), (1, .int (nI ((sumN (fun k => wir Xc (nI k)) n) + (wir Xc (nI n))))), (0, .ref (g.1 144)), (4, .int (nI 0)), (5, .int (nI 0)), (7, .int (nI n)), (8, .int (nI (wir Xc (nI n)))), (9, .int (nI v)), (10, .int (nI k))] dL_isChip_238 (by decide) rfl ?_
                  have L240 : ∀ (fu : Nat) (j : Nat), (3 - j) < fu → (j ≤ 3) → X x 240 [(0, .ref (g.1 144)), (1, .int (nI ((sumN (fun k => wir Xc (nI k)) n) + (wir Xc (nI n))))), (2, .int (nI (joinedN Xc (n + 1)))), (3, .int ((sumI (fun k => Xc (169 + 9 * k + 4)) n) + (Xc (169 + 9 * n + 4)))), (4, .int (nI 0)), (5, .int (nI 0)), (6, .int (nI 1)), (7, .int (nI n)), (11, .int (nI j))] [] M P := by
                    intro fu
                    induction fu with
                    | zero => intro j hmu240; exact absurd hmu240 (Nat.not_lt_zero _)
                    | succ fu ih240 =>
                      intro j hmu240 hj
                      refine x_iload h 8 dL_isChip_240 rfl ?_
                      refine x_iconst h (nI 3) dL_isChip_242 (by decide) ?_
                      refine x_icmp_ge_n h 312 dL_isChip_243 (by decide) (by first | omega | exact jN_lt | exact sumw_lt hN6 (by omega) | exact cnt_lt31 (by decide) | exact cnt_lt31 (by omega)) (by decide) (fun c_243 => ?_) (fun c_243 => ?_)
                      · -- 243 true
                        refine x_iinc_n h 7 (n := 1) [(7, .int (nI (n + 1))), (0, .ref (g.1 144)), (1, .int (nI ((sumN (fun k => wir Xc (nI k)) n) + (wir Xc (nI n))))), (2, .int (nI (joinedN Xc (n + 1)))), (3, .int ((sumI (fun k => Xc (169 + 9 * k + 4)) n) + (Xc (169 + 9 * n + 4)))), (4, .int (nI 0)), (5, .int (nI 0)), (6, .int (nI 1)), (11, .int (nI j))] dL_isChip_312 rfl (by decide) rfl ?_
                        refine x_goto h 18 dL_isChip_315 (by decide) ?_
                        exact x_lv (ih18 (n + 1) (by omega) (by omega)) [1, 2, 3, 4, 5, 6, 7, 0] rfl
                      · -- 243 false
                        refine x_iload h 6 dL_isChip_246 rfl ?_
                        refine x_if_eq h 312 dL_isChip_248 (by decide) (fun c => absurd c (by decide)) (fun _ => ?_)
                        refine x_aload_n h 0 dL_isChip_251 rfl rfl ?_
                        refine x_iload h 7 dL_isChip_252 rfl ?_
                        refine x_iload h 8 dL_isChip_254 rfl ?_
                        refine x_callV h (As := [.int (nI n), .int (nI j)]) 2 hx (c_X5_netOf hW.hP hW.hI) gL_isChip_X5_netOf rfl ⟨rfl, rfl⟩ (by decide +kernel) rfl (by decide) (by decide) E_144 rfl rfl (Nat.le_of_ble_eq_true rfl) dL_isChip_256 (fun a256 M' P' hp => ?_)
                        rw [hX] at hp
                        obtain ⟨⟨rfl, rfl⟩, hQ⟩ := hp
                        have hz := (net_at (k := n) (j := j) hN6 (by omega) (by omega) hQ)
                        clear hQ
                        subst hz
                        rcases pin_at (k := j) hG (by omega) (by omega) with ep | ⟨p, hp81, ep, ep1, ep2⟩
                        · skip
                          refine x_top (-1000004) ep ?_
                          refine x_istore h [(12, .int (-1000004)), (0, .ref (g.1 144)), (1, .int (nI ((sumN (fun k => wir Xc (nI k)) n) + (wir Xc (nI n))))), (2, .int (nI (joinedN Xc (n + 1)))), (3, .int ((sumI (fun k => Xc (169 + 9 * k + 4)) n) + (Xc (169 + 9 * n + 4)))), (4, .int (nI 0)), (5, .int (nI 0)), (6, .int (nI 1)), (7, .int (nI n)), (11, .int (nI j))] dL_isChip_259 (by decide) rfl ?_
                          refine x_iload h 0 dL_isChip_261 rfl ?_
                          refine x_ldc h ((-1000004)) (by decide +kernel) dL_isChip_263 ?_
                          refine x_icmp_eq h 299 dL_isChip_265 (by decide) (fun _ => ?_) (fun c => absurd (by decide) c)
                          refine x_iconst h (nI 1) dL_isChip_299 (by decide) ?_
                          refine x_goto h 304 dL_isChip_300 (by decide) ?_
                          refine x_istore h [(6, .int (nI 1)), (12, .int (-1000004)), (0, .ref (g.1 144)), (1, .int (nI ((sumN (fun k => wir Xc (nI k)) n) + (wir Xc (nI n))))), (2, .int (nI (joinedN Xc (n + 1)))), (3, .int ((sumI (fun k => Xc (169 + 9 * k + 4)) n) + (Xc (169 + 9 * n + 4)))), (4, .int (nI 0)), (5, .int (nI 0)), (7, .int (nI n)), (11, .int (nI j))] dL_isChip_304 (by decide) rfl ?_
                          refine x_iinc_n h 9 (n := 1) [(11, .int (nI (j + 1))), (6, .int (nI 1)), (12, .int (-1000004)), (0, .ref (g.1 144)), (1, .int (nI ((sumN (fun k => wir Xc (nI k)) n) + (wir Xc (nI n))))), (2, .int (nI (joinedN Xc (n + 1)))), (3, .int ((sumI (fun k => Xc (169 + 9 * k + 4)) n) + (Xc (169 + 9 * n + 4)))), (4, .int (nI 0)), (5, .int (nI 0)), (7, .int (nI n))] dL_isChip_306 rfl (by decide) rfl ?_
                          refine x_goto h 240 dL_isChip_309 (by decide) ?_
                          exact x_lv (ih240 (j + 1) (by omega) (by omega)) [3, 4, 5, 6, 7, 8, 1, 9, 0] rfl
                        · skip
                          refine x_top (nI p) ep ?_
                          refine x_istore h [(12, .int (nI p)), (0, .ref (g.1 144)), (1, .int (nI ((sumN (fun k => wir Xc (nI k)) n) + (wir Xc (nI n))))), (2, .int (nI (joinedN Xc (n + 1)))), (3, .int ((sumI (fun k => Xc (169 + 9 * k + 4)) n) + (Xc (169 + 9 * n + 4)))), (4, .int (nI 0)), (5, .int (nI 0)), (6, .int (nI 1)), (7, .int (nI n)), (11, .int (nI j))] dL_isChip_259 (by decide) rfl ?_
                          refine x_iload h 0 dL_isChip_261 rfl ?_
                          refine x_ldc h ((-1000004)) (by decide +kernel) dL_isChip_263 ?_
                          refine x_icmp_eq h 299 dL_isChip_265 (by decide) (fun c_265 => by exfalso; exact absurd (by rw [c_265]; decide) (nI_pos (n := p) (by omega))) (fun c_265 => ?_)
                          refine x_aload_n h 1 dL_isChip_268 rfl rfl ?_
                          refine x_iload h 0 dL_isChip_269 rfl ?_
                          refine x_callV h (As := [.int (nI p)]) 1 hx (c_X5_cellOf hW.hP hW.hI) gL_isChip_X5_cellOf rfl ⟨rfl, rfl⟩ (by decide +kernel) rfl (by decide) (by decide) E_144 rfl rfl (Nat.le_of_ble_eq_true rfl) dL_isChip_271 (fun a271 M' P' hp => ?_)
                          rw [hX] at hp
                          obtain ⟨⟨rfl, rfl⟩, hQ⟩ := hp
                          have hz := cell_at (by omega) hQ
                          clear hQ
                          subst hz
                          refine x_top (nI (10 + n)) ep1 ?_
                          refine x_bipush h (nI 10) dL_isChip_274 (by decide) ?_
                          refine x_iload h 8 dL_isChip_276 rfl ?_
                          refine x_iadd_n h dL_isChip_278 ?_
                          refine x_icmp_ne_n h 303 dL_isChip_279 (by decide) (by first | omega | exact jN_lt | exact sumw_lt hN6 (by omega) | exact cnt_lt31 (by decide) | exact cnt_lt31 (by omega)) (by first | omega | exact jN_lt | exact sumw_lt hN6 (by omega) | exact cnt_lt31 (by decide) | exact cnt_lt31 (by omega)) (fun c_279 => by exfalso; exact c_279 rfl) (fun c_279 => ?_)
                          refine x_aload_n h 1 dL_isChip_282 rfl rfl ?_
                          refine x_bipush h (nI 81) dL_isChip_283 (by decide) ?_
                          refine x_iload h 0 dL_isChip_285 rfl ?_
                          refine x_iadd_n h dL_isChip_287 ?_
                          refine x_callV h (As := [.int (nI (81 + p))]) 1 hx (c_X5_cellOf hW.hP hW.hI) gL_isChip_X5_cellOf rfl ⟨rfl, rfl⟩ (by decide +kernel) rfl (by decide) (by decide) E_144 rfl rfl (Nat.le_of_ble_eq_true rfl) dL_isChip_288 (fun a288 M' P' hp => ?_)
                          rw [hX] at hp
                          obtain ⟨⟨rfl, rfl⟩, hQ⟩ := hp
                          have hz := cell_at (by omega) hQ
                          clear hQ
                          subst hz
                          refine x_top (nI (10 + n)) ep2 ?_
                          refine x_bipush h (nI 10) dL_isChip_291 (by decide) ?_
                          refine x_iload h 8 dL_isChip_293 rfl ?_
                          refine x_iadd_n h dL_isChip_295 ?_
                          refine x_icmp_ne_n h 303 dL_isChip_296 (by decide) (by first | omega | exact jN_lt | exact sumw_lt hN6 (by omega) | exact cnt_lt31 (by decide) | exact cnt_lt31 (by omega)) (by first | omega | exact jN_lt | exact sumw_lt hN6 (by omega) | exact cnt_lt31 (by decide) | exact cnt_lt31 (by omega)) (fun c_296 => by exfalso; exact c_296 rfl) (fun c_296 => ?_)
                          refine x_iconst h (nI 1) dL_isChip_299 (by decide) ?_
                          refine x_goto h 304 dL_isChip_300 (by decide) ?_
                          refine x_istore h [(6, .int (nI 1)), (12, .int (nI p)), (0, .ref (g.1 144)), (1, .int (nI ((sumN (fun k => wir Xc (nI k)) n) + (wir Xc (nI n))))), (2, .int (nI (joinedN Xc (n + 1)))), (3, .int ((sumI (fun k => Xc (169 + 9 * k + 4)) n) + (Xc (169 + 9 * n + 4)))), (4, .int (nI 0)), (5, .int (nI 0)), (7, .int (nI n)), (11, .int (nI j))] dL_isChip_304 (by decide) rfl ?_
                          refine x_iinc_n h 9 (n := 1) [(11, .int (nI (j + 1))), (6, .int (nI 1)), (12, .int (nI p)), (0, .ref (g.1 144)), (1, .int (nI ((sumN (fun k => wir Xc (nI k)) n) + (wir Xc (nI n))))), (2, .int (nI (joinedN Xc (n + 1)))), (3, .int ((sumI (fun k => Xc (169 + 9 * k + 4)) n) + (Xc (169 + 9 * n + 4)))), (4, .int (nI 0)), (5, .int (nI 0)), (7, .int (nI n))] dL_isChip_306 rfl (by decide) rfl ?_
                          refine x_goto h 240 dL_isChip_309 (by decide) ?_
                          exact x_lv (ih240 (j + 1) (by omega) (by omega)) [3, 4, 5, 6, 7, 8, 1, 9, 0] rfl
                  exact x_lv (L240 _ 0 (Nat.lt_succ_self _) (by omega)) [5, 4, 3, 2, 6, 7, 1, 8, 0] rfl
                · -- 192 false
                  refine x_aload_n h 3 dL_isChip_195 rfl rfl ?_
                  refine x_aload_n h 3 dL_isChip_196 rfl rfl ?_
                  refine x_iload h 7 dL_isChip_197 rfl ?_
                  refine x_iconst h (nI 0) dL_isChip_199 (by decide) ?_
                  refine x_callV h (As := [.int (nI n), .int (nI 0)]) 2 hx (c_X5_wireAt hW.hP hW.hI) gL_isChip_X5_wireAt rfl ⟨rfl, rfl⟩ (by decide +kernel) rfl (by decide) (by decide) E_144 rfl rfl (Nat.le_of_ble_eq_true rfl) dL_isChip_200 (fun a200 M' P' hp => ?_)
                  rw [hX] at hp
                  obtain ⟨⟨rfl, rfl⟩, hQ⟩ := hp
                  have hz := wire_at (k := n) (j := 0) hN6 (by omega) (by omega) hQ
                  clear hQ
                  subst hz
                  obtain ⟨b, hb, eb, eb2⟩ := wire_some (X := Xc) (k := n) (j := 0) (by omega) (by omega)
                  refine x_top (nI b) eb ?_
                  refine x_callV h (As := [.int (nI b)]) 1 hx (c_X5_cellOf hW.hP hW.hI) gL_isChip_X5_cellOf rfl ⟨rfl, rfl⟩ (by decide +kernel) rfl (by decide) (by decide) E_144 rfl rfl (Nat.le_of_ble_eq_true rfl) dL_isChip_203 (fun a203 M' P' hp => ?_)
                  rw [hX] at hp
                  obtain ⟨⟨rfl, rfl⟩, hQ⟩ := hp
                  have hz := cell_at (by omega) hQ
                  clear hQ
                  subst hz
                  refine x_top (nI n) eb2 ?_
                  refine x_iload h 7 dL_isChip_206 rfl ?_
                  refine x_icmp_ne_n h 234 dL_isChip_208 (by decide) (by first | omega | exact jN_lt | exact sumw_lt hN6 (by omega) | exact cnt_lt31 (by decide) | exact cnt_lt31 (by omega)) (by first | omega | exact jN_lt | exact sumw_lt hN6 (by omega) | exact cnt_lt31 (by decide) | exact cnt_lt31 (by omega)) (fun c_208 => by exfalso; exact c_208 rfl) (fun c_208 => ?_)
                  refine x_aload_n h 3 dL_isChip_211 rfl rfl ?_
                  refine x_aload_n h 3 dL_isChip_212 rfl rfl ?_
                  refine x_iload h 7 dL_isChip_213 rfl ?_
                  refine x_iload h 8 dL_isChip_215 rfl ?_
                  refine x_iconst h (nI 1) dL_isChip_217 (by decide) ?_
                  refine x_isub_n h dL_isChip_218 (by omega) ?_
                  refine x_callV h (As := [.int (nI n), .int (nI ((wir Xc (nI n)) - 1))]) 2 hx (c_X5_wireAt hW.hP hW.hI) gL_isChip_X5_wireAt rfl ⟨rfl, rfl⟩ (by decide +kernel) rfl (by decide) (by decide) E_144 rfl rfl (Nat.le_of_ble_eq_true rfl) dL_isChip_219 (fun a219 M' P' hp => ?_)
                  rw [hX] at hp
                  obtain ⟨⟨rfl, rfl⟩, hQ⟩ := hp
                  have hz := wire_at (k := n) (j := (wir Xc (nI n)) - 1) hN6 (by omega) (by omega) hQ
                  clear hQ
                  subst hz
                  obtain ⟨b, hb, eb, eb2⟩ := wire_some (X := Xc) (k := n) (j := (wir Xc (nI n)) - 1) (by omega) (by omega)
                  refine x_top (nI b) eb ?_
                  refine x_callV h (As := [.int (nI b)]) 1 hx (c_X5_cellOf hW.hP hW.hI) gL_isChip_X5_cellOf rfl ⟨rfl, rfl⟩ (by decide +kernel) rfl (by decide) (by decide) E_144 rfl rfl (Nat.le_of_ble_eq_true rfl) dL_isChip_222 (fun a222 M' P' hp => ?_)
                  rw [hX] at hp
                  obtain ⟨⟨rfl, rfl⟩, hQ⟩ := hp
                  have hz := cell_at (by omega) hQ
                  clear hQ
                  subst hz
                  refine x_top (nI n) eb2 ?_
                  refine x_iload h 7 dL_isChip_225 rfl ?_
                  refine x_icmp_ne_n h 234 dL_isChip_227 (by decide) (by first | omega | exact jN_lt | exact sumw_lt hN6 (by omega) | exact cnt_lt31 (by decide) | exact cnt_lt31 (by omega)) (by first | omega | exact jN_lt | exact sumw_lt hN6 (by omega) | exact cnt_lt31 (by decide) | exact cnt_lt31 (by omega)) (fun c_227 => by exfalso; exact c_227 rfl) (fun c_227 => ?_)
                  refine x_iconst h (nI 1) dL_isChip_230 (by decide) ?_
                  refine x_goto h 235 dL_isChip_231 (by decide) ?_
                  refine x_istore h [(6, .int (nI 1)), (3, .int ((sumI (fun k => Xc (169 + 9 * k + 4)) n) + (Xc (169 + 9 * n + 4)))), (2, .int (nI (joinedN Xc (n + 1)))), (1, .int (nI ((sumN (fun k => wir Xc (nI k)) n) + (wir Xc (nI n))))), (0, .ref (g.1 144)), (4, .int (nI 0)), (5, .int (nI 0)), (7, .int (nI n)), (8, .int (nI (wir Xc (nI n)))), (9, .int (nI v)), (10, .int (nI k)), (11, .int (nI 162))] dL_isChip_235 (by decide) rfl ?_
                  refine x_iconst h (nI 0) dL_isChip_237 (by decide) ?_
                  refine x_istore h [(11, .int (nI 0)), (6, .int (nI 1)), (3, .int ((sumI (fun k => Xc (169 + 9 * k + 4)) n) + (Xc (169 + 9 * n + 4)))), (2, .int (nI (joinedN Xc (n + 1)))), (1, .int (nI ((sumN (fun k => wir Xc (nI k)) n) + (wir Xc (nI n))))), (0, .ref (g.1 144)), (4, .int (nI 0)), (5, .int (nI 0)), (7, .int (nI n)), (8, .int (nI (wir Xc (nI n)))), (9, .int (nI v)), (10, .int (nI k))] dL_isChip_238 (by decide) rfl ?_
                  have L240 : ∀ (fu : Nat) (j : Nat), (3 - j) < fu → (j ≤ 3) → X x 240 [(0, .ref (g.1 144)), (1, .int (nI ((sumN (fun k => wir Xc (nI k)) n) + (wir Xc (nI n))))), (2, .int (nI (joinedN Xc (n + 1)))), (3, .int ((sumI (fun k => Xc (169 + 9 * k + 4)) n) + (Xc (169 + 9 * n + 4)))), (4, .int (nI 0)), (5, .int (nI 0)), (6, .int (nI 1)), (7, .int (nI n)), (11, .int (nI j))] [] M P := by
                    intro fu
                    induction fu with
                    | zero => intro j hmu240; exact absurd hmu240 (Nat.not_lt_zero _)
                    | succ fu ih240 =>
                      intro j hmu240 hj
                      refine x_iload h 8 dL_isChip_240 rfl ?_
                      refine x_iconst h (nI 3) dL_isChip_242 (by decide) ?_
                      refine x_icmp_ge_n h 312 dL_isChip_243 (by decide) (by first | omega | exact jN_lt | exact sumw_lt hN6 (by omega) | exact cnt_lt31 (by decide) | exact cnt_lt31 (by omega)) (by decide) (fun c_243 => ?_) (fun c_243 => ?_)
                      · -- 243 true
                        refine x_iinc_n h 7 (n := 1) [(7, .int (nI (n + 1))), (0, .ref (g.1 144)), (1, .int (nI ((sumN (fun k => wir Xc (nI k)) n) + (wir Xc (nI n))))), (2, .int (nI (joinedN Xc (n + 1)))), (3, .int ((sumI (fun k => Xc (169 + 9 * k + 4)) n) + (Xc (169 + 9 * n + 4)))), (4, .int (nI 0)), (5, .int (nI 0)), (6, .int (nI 1)), (11, .int (nI j))] dL_isChip_312 rfl (by decide) rfl ?_
                        refine x_goto h 18 dL_isChip_315 (by decide) ?_
                        exact x_lv (ih18 (n + 1) (by omega) (by omega)) [1, 2, 3, 4, 5, 6, 7, 0] rfl
                      · -- 243 false
                        refine x_iload h 6 dL_isChip_246 rfl ?_
                        refine x_if_eq h 312 dL_isChip_248 (by decide) (fun c => absurd c (by decide)) (fun _ => ?_)
                        refine x_aload_n h 0 dL_isChip_251 rfl rfl ?_
                        refine x_iload h 7 dL_isChip_252 rfl ?_
                        refine x_iload h 8 dL_isChip_254 rfl ?_
                        refine x_callV h (As := [.int (nI n), .int (nI j)]) 2 hx (c_X5_netOf hW.hP hW.hI) gL_isChip_X5_netOf rfl ⟨rfl, rfl⟩ (by decide +kernel) rfl (by decide) (by decide) E_144 rfl rfl (Nat.le_of_ble_eq_true rfl) dL_isChip_256 (fun a256_1 M' P' hp => ?_)
                        rw [hX] at hp
                        obtain ⟨⟨rfl, rfl⟩, hQ⟩ := hp
                        have hz := (net_at (k := n) (j := j) hN6 (by omega) (by omega) hQ)
                        clear hQ
                        subst hz
                        rcases pin_at (k := j) hG (by omega) (by omega) with ep | ⟨p, hp81, ep, ep1, ep2⟩
                        · skip
                          refine x_top (-1000004) ep ?_
                          refine x_istore h [(12, .int (-1000004)), (0, .ref (g.1 144)), (1, .int (nI ((sumN (fun k => wir Xc (nI k)) n) + (wir Xc (nI n))))), (2, .int (nI (joinedN Xc (n + 1)))), (3, .int ((sumI (fun k => Xc (169 + 9 * k + 4)) n) + (Xc (169 + 9 * n + 4)))), (4, .int (nI 0)), (5, .int (nI 0)), (6, .int (nI 1)), (7, .int (nI n)), (11, .int (nI j))] dL_isChip_259 (by decide) rfl ?_
                          refine x_iload h 0 dL_isChip_261 rfl ?_
                          refine x_ldc h ((-1000004)) (by decide +kernel) dL_isChip_263 ?_
                          refine x_icmp_eq h 299 dL_isChip_265 (by decide) (fun _ => ?_) (fun c => absurd (by decide) c)
                          refine x_iconst h (nI 1) dL_isChip_299 (by decide) ?_
                          refine x_goto h 304 dL_isChip_300 (by decide) ?_
                          refine x_istore h [(6, .int (nI 1)), (12, .int (-1000004)), (0, .ref (g.1 144)), (1, .int (nI ((sumN (fun k => wir Xc (nI k)) n) + (wir Xc (nI n))))), (2, .int (nI (joinedN Xc (n + 1)))), (3, .int ((sumI (fun k => Xc (169 + 9 * k + 4)) n) + (Xc (169 + 9 * n + 4)))), (4, .int (nI 0)), (5, .int (nI 0)), (7, .int (nI n)), (11, .int (nI j))] dL_isChip_304 (by decide) rfl ?_
                          refine x_iinc_n h 9 (n := 1) [(11, .int (nI (j + 1))), (6, .int (nI 1)), (12, .int (-1000004)), (0, .ref (g.1 144)), (1, .int (nI ((sumN (fun k => wir Xc (nI k)) n) + (wir Xc (nI n))))), (2, .int (nI (joinedN Xc (n + 1)))), (3, .int ((sumI (fun k => Xc (169 + 9 * k + 4)) n) + (Xc (169 + 9 * n + 4)))), (4, .int (nI 0)), (5, .int (nI 0)), (7, .int (nI n))] dL_isChip_306 rfl (by decide) rfl ?_
                          refine x_goto h 240 dL_isChip_309 (by decide) ?_
                          exact x_lv (ih240 (j + 1) (by omega) (by omega)) [3, 4, 5, 6, 7, 8, 1, 9, 0] rfl
                        · skip
                          refine x_top (nI p) ep ?_
                          refine x_istore h [(12, .int (nI p)), (0, .ref (g.1 144)), (1, .int (nI ((sumN (fun k => wir Xc (nI k)) n) + (wir Xc (nI n))))), (2, .int (nI (joinedN Xc (n + 1)))), (3, .int ((sumI (fun k => Xc (169 + 9 * k + 4)) n) + (Xc (169 + 9 * n + 4)))), (4, .int (nI 0)), (5, .int (nI 0)), (6, .int (nI 1)), (7, .int (nI n)), (11, .int (nI j))] dL_isChip_259 (by decide) rfl ?_
                          refine x_iload h 0 dL_isChip_261 rfl ?_
                          refine x_ldc h ((-1000004)) (by decide +kernel) dL_isChip_263 ?_
                          refine x_icmp_eq h 299 dL_isChip_265 (by decide) (fun c_265 => by exfalso; exact absurd (by rw [c_265]; decide) (nI_pos (n := p) (by omega))) (fun c_265 => ?_)
                          refine x_aload_n h 1 dL_isChip_268 rfl rfl ?_
                          refine x_iload h 0 dL_isChip_269 rfl ?_
                          refine x_callV h (As := [.int (nI p)]) 1 hx (c_X5_cellOf hW.hP hW.hI) gL_isChip_X5_cellOf rfl ⟨rfl, rfl⟩ (by decide +kernel) rfl (by decide) (by decide) E_144 rfl rfl (Nat.le_of_ble_eq_true rfl) dL_isChip_271 (fun a271_1 M' P' hp => ?_)
                          rw [hX] at hp
                          obtain ⟨⟨rfl, rfl⟩, hQ⟩ := hp
                          have hz := cell_at (by omega) hQ
                          clear hQ
                          subst hz
                          refine x_top (nI (10 + n)) ep1 ?_
                          refine x_bipush h (nI 10) dL_isChip_274 (by decide) ?_
                          refine x_iload h 8 dL_isChip_276 rfl ?_
                          refine x_iadd_n h dL_isChip_278 ?_
                          refine x_icmp_ne_n h 303 dL_isChip_279 (by decide) (by first | omega | exact jN_lt | exact sumw_lt hN6 (by omega) | exact cnt_lt31 (by decide) | exact cnt_lt31 (by omega)) (by first | omega | exact jN_lt | exact sumw_lt hN6 (by omega) | exact cnt_lt31 (by decide) | exact cnt_lt31 (by omega)) (fun c_279 => by exfalso; exact c_279 rfl) (fun c_279 => ?_)
                          refine x_aload_n h 1 dL_isChip_282 rfl rfl ?_
                          refine x_bipush h (nI 81) dL_isChip_283 (by decide) ?_
                          refine x_iload h 0 dL_isChip_285 rfl ?_
                          refine x_iadd_n h dL_isChip_287 ?_
                          refine x_callV h (As := [.int (nI (81 + p))]) 1 hx (c_X5_cellOf hW.hP hW.hI) gL_isChip_X5_cellOf rfl ⟨rfl, rfl⟩ (by decide +kernel) rfl (by decide) (by decide) E_144 rfl rfl (Nat.le_of_ble_eq_true rfl) dL_isChip_288 (fun a288_1 M' P' hp => ?_)
                          rw [hX] at hp
                          obtain ⟨⟨rfl, rfl⟩, hQ⟩ := hp
                          have hz := cell_at (by omega) hQ
                          clear hQ
                          subst hz
                          refine x_top (nI (10 + n)) ep2 ?_
                          refine x_bipush h (nI 10) dL_isChip_291 (by decide) ?_
                          refine x_iload h 8 dL_isChip_293 rfl ?_
                          refine x_iadd_n h dL_isChip_295 ?_
                          refine x_icmp_ne_n h 303 dL_isChip_296 (by decide) (by first | omega | exact jN_lt | exact sumw_lt hN6 (by omega) | exact cnt_lt31 (by decide) | exact cnt_lt31 (by omega)) (by first | omega | exact jN_lt | exact sumw_lt hN6 (by omega) | exact cnt_lt31 (by decide) | exact cnt_lt31 (by omega)) (fun c_296 => by exfalso; exact c_296 rfl) (fun c_296 => ?_)
                          refine x_iconst h (nI 1) dL_isChip_299 (by decide) ?_
                          refine x_goto h 304 dL_isChip_300 (by decide) ?_
                          refine x_istore h [(6, .int (nI 1)), (12, .int (nI p)), (0, .ref (g.1 144)), (1, .int (nI ((sumN (fun k => wir Xc (nI k)) n) + (wir Xc (nI n))))), (2, .int (nI (joinedN Xc (n + 1)))), (3, .int ((sumI (fun k => Xc (169 + 9 * k + 4)) n) + (Xc (169 + 9 * n + 4)))), (4, .int (nI 0)), (5, .int (nI 0)), (7, .int (nI n)), (11, .int (nI j))] dL_isChip_304 (by decide) rfl ?_
                          refine x_iinc_n h 9 (n := 1) [(11, .int (nI (j + 1))), (6, .int (nI 1)), (12, .int (nI p)), (0, .ref (g.1 144)), (1, .int (nI ((sumN (fun k => wir Xc (nI k)) n) + (wir Xc (nI n))))), (2, .int (nI (joinedN Xc (n + 1)))), (3, .int ((sumI (fun k => Xc (169 + 9 * k + 4)) n) + (Xc (169 + 9 * n + 4)))), (4, .int (nI 0)), (5, .int (nI 0)), (7, .int (nI n))] dL_isChip_306 rfl (by decide) rfl ?_
                          refine x_goto h 240 dL_isChip_309 (by decide) ?_
                          exact x_lv (ih240 (j + 1) (by omega) (by omega)) [3, 4, 5, 6, 7, 8, 1, 9, 0] rfl
                  exact x_lv (L240 _ 0 (Nat.lt_succ_self _) (by omega)) [5, 4, 3, 2, 6, 7, 1, 8, 0] rfl
              · -- 182 false
                refine x_iload h 8 dL_isChip_185 rfl ?_
                refine x_if_ne_n h 234 dL_isChip_187 (by decide) (by first | omega | exact jN_lt | exact sumw_lt hN6 (by omega) | exact cnt_lt31 (by decide) | exact cnt_lt31 (by omega)) (fun c_187 => by exfalso; exact c_187 (wir0 _ c_25 c_182)) (fun c_187 => ?_)
                refine x_iload h 8 dL_isChip_190 rfl ?_
                refine x_if_eq_n h 230 dL_isChip_192 (by decide) (by first | omega | exact jN_lt | exact sumw_lt hN6 (by omega) | exact cnt_lt31 (by decide) | exact cnt_lt31 (by omega)) (fun c_192 => ?_) (fun c_192 => ?_)
                · -- 192 true
                  refine x_iconst h (nI 1) dL_isChip_230 (by decide) ?_
                  refine x_goto h 235 dL_isChip_231 (by decide) ?_
                  refine x_istore h [(6, .int (nI 1)), (3, .int ((sumI (fun k => Xc (169 + 9 * k + 4)) n) + (Xc (169 + 9 * n + 4)))), (2, .int (nI (joinedN Xc (n + 1)))), (1, .int (nI ((sumN (fun k => wir Xc (nI k)) n) + (wir Xc (nI n))))), (0, .ref (g.1 144)), (4, .int (nI 0)), (5, .int (nI 0)), (7, .int (nI n)), (8, .int (nI (wir Xc (nI n)))), (9, .int (nI v)), (10, .int (nI k)), (11, .int (nI 162))] dL_isChip_235 (by decide) rfl ?_
                  refine x_iconst h (nI 0) dL_isChip_237 (by decide) ?_
                  refine x_istore h [(11, .int (nI 0)), (6, .int (nI 1)), (3, .int ((sumI (fun k => Xc (169 + 9 * k + 4)) n) + (Xc (169 + 9 * n + 4)))), (2, .int (nI (joinedN Xc (n + 1)))), (1, .int (nI ((sumN (fun k => wir Xc (nI k)) n) + (wir Xc (nI n))))), (0, .ref (g.1 144)), (4, .int (nI 0)), (5, .int (nI 0)), (7, .int (nI n)), (8, .int (nI (wir Xc (nI n)))), (9, .int (nI v)), (10, .int (nI k))] dL_isChip_238 (by decide) rfl ?_
                  have L240 : ∀ (fu : Nat) (j : Nat), (3 - j) < fu → (j ≤ 3) → X x 240 [(0, .ref (g.1 144)), (1, .int (nI ((sumN (fun k => wir Xc (nI k)) n) + (wir Xc (nI n))))), (2, .int (nI (joinedN Xc (n + 1)))), (3, .int ((sumI (fun k => Xc (169 + 9 * k + 4)) n) + (Xc (169 + 9 * n + 4)))), (4, .int (nI 0)), (5, .int (nI 0)), (6, .int (nI 1)), (7, .int (nI n)), (11, .int (nI j))] [] M P := by
                    intro fu
                    induction fu with
                    | zero => intro j hmu240; exact absurd hmu240 (Nat.not_lt_zero _)
                    | succ fu ih240 =>
                      intro j hmu240 hj
                      refine x_iload h 8 dL_isChip_240 rfl ?_
                      refine x_iconst h (nI 3) dL_isChip_242 (by decide) ?_
                      refine x_icmp_ge_n h 312 dL_isChip_243 (by decide) (by first | omega | exact jN_lt | exact sumw_lt hN6 (by omega) | exact cnt_lt31 (by decide) | exact cnt_lt31 (by omega)) (by decide) (fun c_243 => ?_) (fun c_243 => ?_)
                      · -- 243 true
                        refine x_iinc_n h 7 (n := 1) [(7, .int (nI (n + 1))), (0, .ref (g.1 144)), (1, .int (nI ((sumN (fun k => wir Xc (nI k)) n) + (wir Xc (nI n))))), (2, .int (nI (joinedN Xc (n + 1)))), (3, .int ((sumI (fun k => Xc (169 + 9 * k + 4)) n) + (Xc (169 + 9 * n + 4)))), (4, .int (nI 0)), (5, .int (nI 0)), (6, .int (nI 1)), (11, .int (nI j))] dL_isChip_312 rfl (by decide) rfl ?_
                        refine x_goto h 18 dL_isChip_315 (by decide) ?_
                        exact x_lv (ih18 (n + 1) (by omega) (by omega)) [1, 2, 3, 4, 5, 6, 7, 0] rfl
                      · -- 243 false
                        refine x_iload h 6 dL_isChip_246 rfl ?_
                        refine x_if_eq h 312 dL_isChip_248 (by decide) (fun c => absurd c (by decide)) (fun _ => ?_)
                        refine x_aload_n h 0 dL_isChip_251 rfl rfl ?_
                        refine x_iload h 7 dL_isChip_252 rfl ?_
                        refine x_iload h 8 dL_isChip_254 rfl ?_
                        refine x_callV h (As := [.int (nI n), .int (nI j)]) 2 hx (c_X5_netOf hW.hP hW.hI) gL_isChip_X5_netOf rfl ⟨rfl, rfl⟩ (by decide +kernel) rfl (by decide) (by decide) E_144 rfl rfl (Nat.le_of_ble_eq_true rfl) dL_isChip_256 (fun a256_2 M' P' hp => ?_)
                        rw [hX] at hp
                        obtain ⟨⟨rfl, rfl⟩, hQ⟩ := hp
                        have hz := (net_at (k := n) (j := j) hN6 (by omega) (by omega) hQ)
                        clear hQ
                        subst hz
                        rcases pin_at (k := j) hG (by omega) (by omega) with ep | ⟨p, hp81, ep, ep1, ep2⟩
                        · skip
                          refine x_top (-1000004) ep ?_
                          refine x_istore h [(12, .int (-1000004)), (0, .ref (g.1 144)), (1, .int (nI ((sumN (fun k => wir Xc (nI k)) n) + (wir Xc (nI n))))), (2, .int (nI (joinedN Xc (n + 1)))), (3, .int ((sumI (fun k => Xc (169 + 9 * k + 4)) n) + (Xc (169 + 9 * n + 4)))), (4, .int (nI 0)), (5, .int (nI 0)), (6, .int (nI 1)), (7, .int (nI n)), (11, .int (nI j))] dL_isChip_259 (by decide) rfl ?_
                          refine x_iload h 0 dL_isChip_261 rfl ?_
                          refine x_ldc h ((-1000004)) (by decide +kernel) dL_isChip_263 ?_
                          refine x_icmp_eq h 299 dL_isChip_265 (by decide) (fun _ => ?_) (fun c => absurd (by decide) c)
                          refine x_iconst h (nI 1) dL_isChip_299 (by decide) ?_
                          refine x_goto h 304 dL_isChip_300 (by decide) ?_
                          refine x_istore h [(6, .int (nI 1)), (12, .int (-1000004)), (0, .ref (g.1 144)), (1, .int (nI ((sumN (fun k => wir Xc (nI k)) n) + (wir Xc (nI n))))), (2, .int (nI (joinedN Xc (n + 1)))), (3, .int ((sumI (fun k => Xc (169 + 9 * k + 4)) n) + (Xc (169 + 9 * n + 4)))), (4, .int (nI 0)), (5, .int (nI 0)), (7, .int (nI n)), (11, .int (nI j))] dL_isChip_304 (by decide) rfl ?_
                          refine x_iinc_n h 9 (n := 1) [(11, .int (nI (j + 1))), (6, .int (nI 1)), (12, .int (-1000004)), (0, .ref (g.1 144)), (1, .int (nI ((sumN (fun k => wir Xc (nI k)) n) + (wir Xc (nI n))))), (2, .int (nI (joinedN Xc (n + 1)))), (3, .int ((sumI (fun k => Xc (169 + 9 * k + 4)) n) + (Xc (169 + 9 * n + 4)))), (4, .int (nI 0)), (5, .int (nI 0)), (7, .int (nI n))] dL_isChip_306 rfl (by decide) rfl ?_
                          refine x_goto h 240 dL_isChip_309 (by decide) ?_
                          exact x_lv (ih240 (j + 1) (by omega) (by omega)) [3, 4, 5, 6, 7, 8, 1, 9, 0] rfl
                        · skip
                          refine x_top (nI p) ep ?_
                          refine x_istore h [(12, .int (nI p)), (0, .ref (g.1 144)), (1, .int (nI ((sumN (fun k => wir Xc (nI k)) n) + (wir Xc (nI n))))), (2, .int (nI (joinedN Xc (n + 1)))), (3, .int ((sumI (fun k => Xc (169 + 9 * k + 4)) n) + (Xc (169 + 9 * n + 4)))), (4, .int (nI 0)), (5, .int (nI 0)), (6, .int (nI 1)), (7, .int (nI n)), (11, .int (nI j))] dL_isChip_259 (by decide) rfl ?_
                          refine x_iload h 0 dL_isChip_261 rfl ?_
                          refine x_ldc h ((-1000004)) (by decide +kernel) dL_isChip_263 ?_
                          refine x_icmp_eq h 299 dL_isChip_265 (by decide) (fun c_265 => by exfalso; exact absurd (by rw [c_265]; decide) (nI_pos (n := p) (by omega))) (fun c_265 => ?_)
                          refine x_aload_n h 1 dL_isChip_268 rfl rfl ?_
                          refine x_iload h 0 dL_isChip_269 rfl ?_
                          refine x_callV h (As := [.int (nI p)]) 1 hx (c_X5_cellOf hW.hP hW.hI) gL_isChip_X5_cellOf rfl ⟨rfl, rfl⟩ (by decide +kernel) rfl (by decide) (by decide) E_144 rfl rfl (Nat.le_of_ble_eq_true rfl) dL_isChip_271 (fun a271_2 M' P' hp => ?_)
                          rw [hX] at hp
                          obtain ⟨⟨rfl, rfl⟩, hQ⟩ := hp
                          have hz := cell_at (by omega) hQ
                          clear hQ
                          subst hz
                          refine x_top (nI (10 + n)) ep1 ?_
                          refine x_bipush h (nI 10) dL_isChip_274 (by decide) ?_
                          refine x_iload h 8 dL_isChip_276 rfl ?_
                          refine x_iadd_n h dL_isChip_278 ?_
                          refine x_icmp_ne_n h 303 dL_isChip_279 (by decide) (by first | omega | exact jN_lt | exact sumw_lt hN6 (by omega) | exact cnt_lt31 (by decide) | exact cnt_lt31 (by omega)) (by first | omega | exact jN_lt | exact sumw_lt hN6 (by omega) | exact cnt_lt31 (by decide) | exact cnt_lt31 (by omega)) (fun c_279 => by exfalso; exact c_279 rfl) (fun c_279 => ?_)
                          refine x_aload_n h 1 dL_isChip_282 rfl rfl ?_
                          refine x_bipush h (nI 81) dL_isChip_283 (by decide) ?_
                          refine x_iload h 0 dL_isChip_285 rfl ?_
                          refine x_iadd_n h dL_isChip_287 ?_
                          refine x_callV h (As := [.int (nI (81 + p))]) 1 hx (c_X5_cellOf hW.hP hW.hI) gL_isChip_X5_cellOf rfl ⟨rfl, rfl⟩ (by decide +kernel) rfl (by decide) (by decide) E_144 rfl rfl (Nat.le_of_ble_eq_true rfl) dL_isChip_288 (fun a288_2 M' P' hp => ?_)
                          rw [hX] at hp
                          obtain ⟨⟨rfl, rfl⟩, hQ⟩ := hp
                          have hz := cell_at (by omega) hQ
                          clear hQ
                          subst hz
                          refine x_top (nI (10 + n)) ep2 ?_
                          refine x_bipush h (nI 10) dL_isChip_291 (by decide) ?_
                          refine x_iload h 8 dL_isChip_293 rfl ?_
                          refine x_iadd_n h dL_isChip_295 ?_
                          refine x_icmp_ne_n h 303 dL_isChip_296 (by decide) (by first | omega | exact jN_lt | exact sumw_lt hN6 (by omega) | exact cnt_lt31 (by decide) | exact cnt_lt31 (by omega)) (by first | omega | exact jN_lt | exact sumw_lt hN6 (by omega) | exact cnt_lt31 (by decide) | exact cnt_lt31 (by omega)) (fun c_296 => by exfalso; exact c_296 rfl) (fun c_296 => ?_)
                          refine x_iconst h (nI 1) dL_isChip_299 (by decide) ?_
                          refine x_goto h 304 dL_isChip_300 (by decide) ?_
                          refine x_istore h [(6, .int (nI 1)), (12, .int (nI p)), (0, .ref (g.1 144)), (1, .int (nI ((sumN (fun k => wir Xc (nI k)) n) + (wir Xc (nI n))))), (2, .int (nI (joinedN Xc (n + 1)))), (3, .int ((sumI (fun k => Xc (169 + 9 * k + 4)) n) + (Xc (169 + 9 * n + 4)))), (4, .int (nI 0)), (5, .int (nI 0)), (7, .int (nI n)), (11, .int (nI j))] dL_isChip_304 (by decide) rfl ?_
                          refine x_iinc_n h 9 (n := 1) [(11, .int (nI (j + 1))), (6, .int (nI 1)), (12, .int (nI p)), (0, .ref (g.1 144)), (1, .int (nI ((sumN (fun k => wir Xc (nI k)) n) + (wir Xc (nI n))))), (2, .int (nI (joinedN Xc (n + 1)))), (3, .int ((sumI (fun k => Xc (169 + 9 * k + 4)) n) + (Xc (169 + 9 * n + 4)))), (4, .int (nI 0)), (5, .int (nI 0)), (7, .int (nI n))] dL_isChip_306 rfl (by decide) rfl ?_
                          refine x_goto h 240 dL_isChip_309 (by decide) ?_
                          exact x_lv (ih240 (j + 1) (by omega) (by omega)) [3, 4, 5, 6, 7, 8, 1, 9, 0] rfl
                  exact x_lv (L240 _ 0 (Nat.lt_succ_self _) (by omega)) [5, 4, 3, 2, 6, 7, 1, 8, 0] rfl
                · -- 192 false
                  refine x_aload_n h 3 dL_isChip_195 rfl rfl ?_
                  refine x_aload_n h 3 dL_isChip_196 rfl rfl ?_
                  refine x_iload h 7 dL_isChip_197 rfl ?_
                  refine x_iconst h (nI 0) dL_isChip_199 (by decide) ?_
                  refine x_callV h (As := [.int (nI n), .int (nI 0)]) 2 hx (c_X5_wireAt hW.hP hW.hI) gL_isChip_X5_wireAt rfl ⟨rfl, rfl⟩ (by decide +kernel) rfl (by decide) (by decide) E_144 rfl rfl (Nat.le_of_ble_eq_true rfl) dL_isChip_200 (fun a200_1 M' P' hp => ?_)
                  rw [hX] at hp
                  obtain ⟨⟨rfl, rfl⟩, hQ⟩ := hp
                  have hz := wire_at (k := n) (j := 0) hN6 (by omega) (by omega) hQ
                  clear hQ
                  subst hz
                  obtain ⟨b, hb, eb, eb2⟩ := wire_some (X := Xc) (k := n) (j := 0) (by omega) (by omega)
                  refine x_top (nI b) eb ?_
                  refine x_callV h (As := [.int (nI b)]) 1 hx (c_X5_cellOf hW.hP hW.hI) gL_isChip_X5_cellOf rfl ⟨rfl, rfl⟩ (by decide +kernel) rfl (by decide) (by decide) E_144 rfl rfl (Nat.le_of_ble_eq_true rfl) dL_isChip_203 (fun a203_1 M' P' hp => ?_)
                  rw [hX] at hp
                  obtain ⟨⟨rfl, rfl⟩, hQ⟩ := hp
                  have hz := cell_at (by omega) hQ
                  clear hQ
                  subst hz
                  refine x_top (nI n) eb2 ?_
                  refine x_iload h 7 dL_isChip_206 rfl ?_
                  refine x_icmp_ne_n h 234 dL_isChip_208 (by decide) (by first | omega | exact jN_lt | exact sumw_lt hN6 (by omega) | exact cnt_lt31 (by decide) | exact cnt_lt31 (by omega)) (by first | omega | exact jN_lt | exact sumw_lt hN6 (by omega) | exact cnt_lt31 (by decide) | exact cnt_lt31 (by omega)) (fun c_208 => by exfalso; exact c_208 rfl) (fun c_208 => ?_)
                  refine x_aload_n h 3 dL_isChip_211 rfl rfl ?_
                  refine x_aload_n h 3 dL_isChip_212 rfl rfl ?_
                  refine x_iload h 7 dL_isChip_213 rfl ?_
                  refine x_iload h 8 dL_isChip_215 rfl ?_
                  refine x_iconst h (nI 1) dL_isChip_217 (by decide) ?_
                  refine x_isub_n h dL_isChip_218 (by omega) ?_
                  refine x_callV h (As := [.int (nI n), .int (nI ((wir Xc (nI n)) - 1))]) 2 hx (c_X5_wireAt hW.hP hW.hI) gL_isChip_X5_wireAt rfl ⟨rfl, rfl⟩ (by decide +kernel) rfl (by decide) (by decide) E_144 rfl rfl (Nat.le_of_ble_eq_true rfl) dL_isChip_219 (fun a219_1 M' P' hp => ?_)
                  rw [hX] at hp
                  obtain ⟨⟨rfl, rfl⟩, hQ⟩ := hp
                  have hz := wire_at (k := n) (j := (wir Xc (nI n)) - 1) hN6 (by omega) (by omega) hQ
                  clear hQ
                  subst hz
                  obtain ⟨b, hb, eb, eb2⟩ := wire_some (X := Xc) (k := n) (j := (wir Xc (nI n)) - 1) (by omega) (by omega)
                  refine x_top (nI b) eb ?_
                  refine x_callV h (As := [.int (nI b)]) 1 hx (c_X5_cellOf hW.hP hW.hI) gL_isChip_X5_cellOf rfl ⟨rfl, rfl⟩ (by decide +kernel) rfl (by decide) (by decide) E_144 rfl rfl (Nat.le_of_ble_eq_true rfl) dL_isChip_222 (fun a222_1 M' P' hp => ?_)
                  rw [hX] at hp
                  obtain ⟨⟨rfl, rfl⟩, hQ⟩ := hp
                  have hz := cell_at (by omega) hQ
                  clear hQ
                  subst hz
                  refine x_top (nI n) eb2 ?_
                  refine x_iload h 7 dL_isChip_225 rfl ?_
                  refine x_icmp_ne_n h 234 dL_isChip_227 (by decide) (by first | omega | exact jN_lt | exact sumw_lt hN6 (by omega) | exact cnt_lt31 (by decide) | exact cnt_lt31 (by omega)) (by first | omega | exact jN_lt | exact sumw_lt hN6 (by omega) | exact cnt_lt31 (by decide) | exact cnt_lt31 (by omega)) (fun c_227 => by exfalso; exact c_227 rfl) (fun c_227 => ?_)
                  refine x_iconst h (nI 1) dL_isChip_230 (by decide) ?_
                  refine x_goto h 235 dL_isChip_231 (by decide) ?_
                  refine x_istore h [(6, .int (nI 1)), (3, .int ((sumI (fun k => Xc (169 + 9 * k + 4)) n) + (Xc (169 + 9 * n + 4)))), (2, .int (nI (joinedN Xc (n + 1)))), (1, .int (nI ((sumN (fun k => wir Xc (nI k)) n) + (wir Xc (nI n))))), (0, .ref (g.1 144)), (4, .int (nI 0)), (5, .int (nI 0)), (7, .int (nI n)), (8, .int (nI (wir Xc (nI n)))), (9, .int (nI v)), (10, .int (nI k)), (11, .int (nI 162))] dL_isChip_235 (by decide) rfl ?_
                  refine x_iconst h (nI 0) dL_isChip_237 (by decide) ?_
                  refine x_istore h [(11, .int (nI 0)), (6, .int (nI 1)), (3, .int ((sumI (fun k => Xc (169 + 9 * k + 4)) n) + (Xc (169 + 9 * n + 4)))), (2, .int (nI (joinedN Xc (n + 1)))), (1, .int (nI ((sumN (fun k => wir Xc (nI k)) n) + (wir Xc (nI n))))), (0, .ref (g.1 144)), (4, .int (nI 0)), (5, .int (nI 0)), (7, .int (nI n)), (8, .int (nI (wir Xc (nI n)))), (9, .int (nI v)), (10, .int (nI k))] dL_isChip_238 (by decide) rfl ?_
                  have L240 : ∀ (fu : Nat) (j : Nat), (3 - j) < fu → (j ≤ 3) → X x 240 [(0, .ref (g.1 144)), (1, .int (nI ((sumN (fun k => wir Xc (nI k)) n) + (wir Xc (nI n))))), (2, .int (nI (joinedN Xc (n + 1)))), (3, .int ((sumI (fun k => Xc (169 + 9 * k + 4)) n) + (Xc (169 + 9 * n + 4)))), (4, .int (nI 0)), (5, .int (nI 0)), (6, .int (nI 1)), (7, .int (nI n)), (11, .int (nI j))] [] M P := by
                    intro fu
                    induction fu with
                    | zero => intro j hmu240; exact absurd hmu240 (Nat.not_lt_zero _)
                    | succ fu ih240 =>
                      intro j hmu240 hj
                      refine x_iload h 8 dL_isChip_240 rfl ?_
                      refine x_iconst h (nI 3) dL_isChip_242 (by decide) ?_
                      refine x_icmp_ge_n h 312 dL_isChip_243 (by decide) (by first | omega | exact jN_lt | exact sumw_lt hN6 (by omega) | exact cnt_lt31 (by decide) | exact cnt_lt31 (by omega)) (by decide) (fun c_243 => ?_) (fun c_243 => ?_)
                      · -- 243 true
                        refine x_iinc_n h 7 (n := 1) [(7, .int (nI (n + 1))), (0, .ref (g.1 144)), (1, .int (nI ((sumN (fun k => wir Xc (nI k)) n) + (wir Xc (nI n))))), (2, .int (nI (joinedN Xc (n + 1)))), (3, .int ((sumI (fun k => Xc (169 + 9 * k + 4)) n) + (Xc (169 + 9 * n + 4)))), (4, .int (nI 0)), (5, .int (nI 0)), (6, .int (nI 1)), (11, .int (nI j))] dL_isChip_312 rfl (by decide) rfl ?_
                        refine x_goto h 18 dL_isChip_315 (by decide) ?_
                        exact x_lv (ih18 (n + 1) (by omega) (by omega)) [1, 2, 3, 4, 5, 6, 7, 0] rfl
                      · -- 243 false
                        refine x_iload h 6 dL_isChip_246 rfl ?_
                        refine x_if_eq h 312 dL_isChip_248 (by decide) (fun c => absurd c (by decide)) (fun _ => ?_)
                        refine x_aload_n h 0 dL_isChip_251 rfl rfl ?_
                        refine x_iload h 7 dL_isChip_252 rfl ?_
                        refine x_iload h 8 dL_isChip_254 rfl ?_
                        refine x_callV h (As := [.int (nI n), .int (nI j)]) 2 hx (c_X5_netOf hW.hP hW.hI) gL_isChip_X5_netOf rfl ⟨rfl, rfl⟩ (by decide +kernel) rfl (by decide) (by decide) E_144 rfl rfl (Nat.le_of_ble_eq_true rfl) dL_isChip_256 (fun a256_3 M' P' hp => ?_)
                        rw [hX] at hp
                        obtain ⟨⟨rfl, rfl⟩, hQ⟩ := hp
                        have hz := (net_at (k := n) (j := j) hN6 (by omega) (by omega) hQ)
                        clear hQ
                        subst hz
                        rcases pin_at (k := j) hG (by omega) (by omega) with ep | ⟨p, hp81, ep, ep1, ep2⟩
                        · skip
                          refine x_top (-1000004) ep ?_
                          refine x_istore h [(12, .int (-1000004)), (0, .ref (g.1 144)), (1, .int (nI ((sumN (fun k => wir Xc (nI k)) n) + (wir Xc (nI n))))), (2, .int (nI (joinedN Xc (n + 1)))), (3, .int ((sumI (fun k => Xc (169 + 9 * k + 4)) n) + (Xc (169 + 9 * n + 4)))), (4, .int (nI 0)), (5, .int (nI 0)), (6, .int (nI 1)), (7, .int (nI n)), (11, .int (nI j))] dL_isChip_259 (by decide) rfl ?_
                          refine x_iload h 0 dL_isChip_261 rfl ?_
                          refine x_ldc h ((-1000004)) (by decide +kernel) dL_isChip_263 ?_
                          refine x_icmp_eq h 299 dL_isChip_265 (by decide) (fun _ => ?_) (fun c => absurd (by decide) c)
                          refine x_iconst h (nI 1) dL_isChip_299 (by decide) ?_
                          refine x_goto h 304 dL_isChip_300 (by decide) ?_
                          refine x_istore h [(6, .int (nI 1)), (12, .int (-1000004)), (0, .ref (g.1 144)), (1, .int (nI ((sumN (fun k => wir Xc (nI k)) n) + (wir Xc (nI n))))), (2, .int (nI (joinedN Xc (n + 1)))), (3, .int ((sumI (fun k => Xc (169 + 9 * k + 4)) n) + (Xc (169 + 9 * n + 4)))), (4, .int (nI 0)), (5, .int (nI 0)), (7, .int (nI n)), (11, .int (nI j))] dL_isChip_304 (by decide) rfl ?_
                          refine x_iinc_n h 9 (n := 1) [(11, .int (nI (j + 1))), (6, .int (nI 1)), (12, .int (-1000004)), (0, .ref (g.1 144)), (1, .int (nI ((sumN (fun k => wir Xc (nI k)) n) + (wir Xc (nI n))))), (2, .int (nI (joinedN Xc (n + 1)))), (3, .int ((sumI (fun k => Xc (169 + 9 * k + 4)) n) + (Xc (169 + 9 * n + 4)))), (4, .int (nI 0)), (5, .int (nI 0)), (7, .int (nI n))] dL_isChip_306 rfl (by decide) rfl ?_
                          refine x_goto h 240 dL_isChip_309 (by decide) ?_
                          exact x_lv (ih240 (j + 1) (by omega) (by omega)) [3, 4, 5, 6, 7, 8, 1, 9, 0] rfl
                        · skip
                          refine x_top (nI p) ep ?_
                          refine x_istore h [(12, .int (nI p)), (0, .ref (g.1 144)), (1, .int (nI ((sumN (fun k => wir Xc (nI k)) n) + (wir Xc (nI n))))), (2, .int (nI (joinedN Xc (n + 1)))), (3, .int ((sumI (fun k => Xc (169 + 9 * k + 4)) n) + (Xc (169 + 9 * n + 4)))), (4, .int (nI 0)), (5, .int (nI 0)), (6, .int (nI 1)), (7, .int (nI n)), (11, .int (nI j))] dL_isChip_259 (by decide) rfl ?_
                          refine x_iload h 0 dL_isChip_261 rfl ?_
                          refine x_ldc h ((-1000004)) (by decide +kernel) dL_isChip_263 ?_
                          refine x_icmp_eq h 299 dL_isChip_265 (by decide) (fun c_265 => by exfalso; exact absurd (by rw [c_265]; decide) (nI_pos (n := p) (by omega))) (fun c_265 => ?_)
                          refine x_aload_n h 1 dL_isChip_268 rfl rfl ?_
                          refine x_iload h 0 dL_isChip_269 rfl ?_
                          refine x_callV h (As := [.int (nI p)]) 1 hx (c_X5_cellOf hW.hP hW.hI) gL_isChip_X5_cellOf rfl ⟨rfl, rfl⟩ (by decide +kernel) rfl (by decide) (by decide) E_144 rfl rfl (Nat.le_of_ble_eq_true rfl) dL_isChip_271 (fun a271_3 M' P' hp => ?_)
                          rw [hX] at hp
                          obtain ⟨⟨rfl, rfl⟩, hQ⟩ := hp
                          have hz := cell_at (by omega) hQ
                          clear hQ
                          subst hz
                          refine x_top (nI (10 + n)) ep1 ?_
                          refine x_bipush h (nI 10) dL_isChip_274 (by decide) ?_
                          refine x_iload h 8 dL_isChip_276 rfl ?_
                          refine x_iadd_n h dL_isChip_278 ?_
                          refine x_icmp_ne_n h 303 dL_isChip_279 (by decide) (by first | omega | exact jN_lt | exact sumw_lt hN6 (by omega) | exact cnt_lt31 (by decide) | exact cnt_lt31 (by omega)) (by first | omega | exact jN_lt | exact sumw_lt hN6 (by omega) | exact cnt_lt31 (by decide) | exact cnt_lt31 (by omega)) (fun c_279 => by exfalso; exact c_279 rfl) (fun c_279 => ?_)
                          refine x_aload_n h 1 dL_isChip_282 rfl rfl ?_
                          refine x_bipush h (nI 81) dL_isChip_283 (by decide) ?_
                          refine x_iload h 0 dL_isChip_285 rfl ?_
                          refine x_iadd_n h dL_isChip_287 ?_
                          refine x_callV h (As := [.int (nI (81 + p))]) 1 hx (c_X5_cellOf hW.hP hW.hI) gL_isChip_X5_cellOf rfl ⟨rfl, rfl⟩ (by decide +kernel) rfl (by decide) (by decide) E_144 rfl rfl (Nat.le_of_ble_eq_true rfl) dL_isChip_288 (fun a288_3 M' P' hp => ?_)
                          rw [hX] at hp
                          obtain ⟨⟨rfl, rfl⟩, hQ⟩ := hp
                          have hz := cell_at (by omega) hQ
                          clear hQ
                          subst hz
                          refine x_top (nI (10 + n)) ep2 ?_
                          refine x_bipush h (nI 10) dL_isChip_291 (by decide) ?_
                          refine x_iload h 8 dL_isChip_293 rfl ?_
                          refine x_iadd_n h dL_isChip_295 ?_
                          refine x_icmp_ne_n h 303 dL_isChip_296 (by decide) (by first | omega | exact jN_lt | exact sumw_lt hN6 (by omega) | exact cnt_lt31 (by decide) | exact cnt_lt31 (by omega)) (by first | omega | exact jN_lt | exact sumw_lt hN6 (by omega) | exact cnt_lt31 (by decide) | exact cnt_lt31 (by omega)) (fun c_296 => by exfalso; exact c_296 rfl) (fun c_296 => ?_)
                          refine x_iconst h (nI 1) dL_isChip_299 (by decide) ?_
                          refine x_goto h 304 dL_isChip_300 (by decide) ?_
                          refine x_istore h [(6, .int (nI 1)), (12, .int (nI p)), (0, .ref (g.1 144)), (1, .int (nI ((sumN (fun k => wir Xc (nI k)) n) + (wir Xc (nI n))))), (2, .int (nI (joinedN Xc (n + 1)))), (3, .int ((sumI (fun k => Xc (169 + 9 * k + 4)) n) + (Xc (169 + 9 * n + 4)))), (4, .int (nI 0)), (5, .int (nI 0)), (7, .int (nI n)), (11, .int (nI j))] dL_isChip_304 (by decide) rfl ?_
                          refine x_iinc_n h 9 (n := 1) [(11, .int (nI (j + 1))), (6, .int (nI 1)), (12, .int (nI p)), (0, .ref (g.1 144)), (1, .int (nI ((sumN (fun k => wir Xc (nI k)) n) + (wir Xc (nI n))))), (2, .int (nI (joinedN Xc (n + 1)))), (3, .int ((sumI (fun k => Xc (169 + 9 * k + 4)) n) + (Xc (169 + 9 * n + 4)))), (4, .int (nI 0)), (5, .int (nI 0)), (7, .int (nI n))] dL_isChip_306 rfl (by decide) rfl ?_
                          refine x_goto h 240 dL_isChip_309 (by decide) ?_
                          exact x_lv (ih240 (j + 1) (by omega) (by omega)) [3, 4, 5, 6, 7, 8, 1, 9, 0] rfl
                  exact x_lv (L240 _ 0 (Nat.lt_succ_self _) (by omega)) [5, 4, 3, 2, 6, 7, 1, 8, 0] rfl
            · -- 57 false
              refine x_iload h 10 dL_isChip_60 rfl ?_
              refine x_aload_n h 0 dL_isChip_62 rfl rfl ?_
              refine x_iload h 11 dL_isChip_63 rfl ?_
              refine x_callV h (As := [.int (nI a)]) 1 hx (c_X5_cellOf hW.hP hW.hI) gL_isChip_X5_cellOf rfl ⟨rfl, rfl⟩ (by decide +kernel) rfl (by decide) (by decide) E_144 rfl rfl (Nat.le_of_ble_eq_true rfl) dL_isChip_65 (fun a65 M' P' hp => ?_)
              rw [hX] at hp
              obtain ⟨⟨rfl, rfl⟩, hQ⟩ := hp
              have hz := cell_at (by omega) hQ
              clear hQ
              subst hz
              refine x_iload h 7 dL_isChip_68 rfl ?_
              refine x_icmp_ne h 77 dL_isChip_70 (by decide) (fun c_70 => ?_) (fun c_70 => ?_)
              · -- 70 true
                refine x_iconst h (nI 0) dL_isChip_77 (by decide) ?_
                refine x_iadd_n h dL_isChip_78 ?_
                refine x_istore h [(10, .int (nI (k + 0))), (0, .ref (g.1 144)), (1, .int (nI (sumN (fun k => wir Xc (nI k)) n))), (2, .int (nI (joinedN Xc n))), (3, .int (sumI (fun k => Xc (169 + 9 * k + 4)) n)), (4, .int (nI 0)), (5, .int (nI 0)), (6, .int (nI 1)), (7, .int (nI n)), (8, .int (nI (wir Xc (nI n)))), (9, .int (nI v)), (11, .int (nI a))] dL_isChip_79 (by decide) rfl ?_
                refine x_iload h 10 dL_isChip_81 rfl ?_
                refine x_iload h 11 dL_isChip_83 rfl ?_
                refine x_bipush h (nI 81) dL_isChip_85 (by decide) ?_
                refine x_icmp_ge_n h 119 dL_isChip_87 (by decide) (by first | omega | exact jN_lt | exact sumw_lt hN6 (by omega) | exact cnt_lt31 (by decide) | exact cnt_lt31 (by omega)) (by decide) (fun c_87 => ?_) (fun c_87 => ?_)
                · -- 87 true
                  refine x_iconst h (nI 0) dL_isChip_119 (by decide) ?_
                  refine x_iadd_n h dL_isChip_120 ?_
                  refine x_istore h [(9, .int (nI (v + 0))), (10, .int (nI (k + 0))), (0, .ref (g.1 144)), (1, .int (nI (sumN (fun k => wir Xc (nI k)) n))), (2, .int (nI (joinedN Xc n))), (3, .int (sumI (fun k => Xc (169 + 9 * k + 4)) n)), (4, .int (nI 0)), (5, .int (nI 0)), (6, .int (nI 1)), (7, .int (nI n)), (8, .int (nI (wir Xc (nI n)))), (11, .int (nI a))] dL_isChip_121 (by decide) rfl ?_
                  refine x_iinc_n h 11 (n := 1) [(11, .int (nI (a + 1))), (9, .int (nI (v + 0))), (10, .int (nI (k + 0))), (0, .ref (g.1 144)), (1, .int (nI (sumN (fun k => wir Xc (nI k)) n))), (2, .int (nI (joinedN Xc n))), (3, .int (sumI (fun k => Xc (169 + 9 * k + 4)) n)), (4, .int (nI 0)), (5, .int (nI 0)), (6, .int (nI 1)), (7, .int (nI n)), (8, .int (nI (wir Xc (nI n))))] dL_isChip_123 rfl (by decide) rfl ?_
                  refine x_goto h 52 dL_isChip_126 (by decide) ?_
                  exact x_lv (ih52 (a + 1) (k + 0) (v + 0) (by omega) (by omega) (by first | exact kc_y (decide_eq_true c_70) hk | exact kc_n (decide_eq_false c_70) hk) (by omega) (by first | exact via_y c_87 c_98 c_112 hv | exact via_n (fun q => c_98 q.2.1) hv | exact via_n (fun q => c_112 q.2.2) hv | exact via_n (fun q => absurd q.1 (by omega)) hv) (by omega)) [3, 4, 5, 6, 7, 8, 9, 10, 11, 1, 2, 0] rfl
                · -- 87 false
                  refine x_aload_n h 1 dL_isChip_90 rfl rfl ?_
                  refine x_iload h 11 dL_isChip_91 rfl ?_
                  refine x_callV h (As := [.int (nI a)]) 1 hx (c_X5_cellOf hW.hP hW.hI) gL_isChip_X5_cellOf rfl ⟨rfl, rfl⟩ (by decide +kernel) rfl (by decide) (by decide) E_144 rfl rfl (Nat.le_of_ble_eq_true rfl) dL_isChip_93 (fun a93 M' P' hp => ?_)
                  rw [hX] at hp
                  obtain ⟨⟨rfl, rfl⟩, hQ⟩ := hp
                  have hz := cell_at (by omega) hQ
                  clear hQ
                  subst hz
                  refine x_iload h 8 dL_isChip_96 rfl ?_
                  refine x_icmp_ne h 119 dL_isChip_98 (by decide) (fun c_98 => ?_) (fun c_98 => ?_)
                  · -- 98 true
                    refine x_iconst h (nI 0) dL_isChip_119 (by decide) ?_
                    refine x_iadd_n h dL_isChip_120 ?_
                    refine x_istore h [(9, .int (nI (v + 0))), (10, .int (nI (k + 0))), (0, .ref (g.1 144)), (1, .int (nI (sumN (fun k => wir Xc (nI k)) n))), (2, .int (nI (joinedN Xc n))), (3, .int (sumI (fun k => Xc (169 + 9 * k + 4)) n)), (4, .int (nI 0)), (5, .int (nI 0)), (6, .int (nI 1)), (7, .int (nI n)), (8, .int (nI (wir Xc (nI n)))), (11, .int (nI a))] dL_isChip_121 (by decide) rfl ?_
                    refine x_iinc_n h 11 (n := 1) [(11, .int (nI (a + 1))), (9, .int (nI (v + 0))), (10, .int (nI (k + 0))), (0, .ref (g.1 144)), (1, .int (nI (sumN (fun k => wir Xc (nI k)) n))), (2, .int (nI (joinedN Xc n))), (3, .int (sumI (fun k => Xc (169 + 9 * k + 4)) n)), (4, .int (nI 0)), (5, .int (nI 0)), (6, .int (nI 1)), (7, .int (nI n)), (8, .int (nI (wir Xc (nI n))))] dL_isChip_123 rfl (by decide) rfl ?_
                    refine x_goto h 52 dL_isChip_126 (by decide) ?_
                    exact x_lv (ih52 (a + 1) (k + 0) (v + 0) (by omega) (by omega) (by first | exact kc_y (decide_eq_true c_70) hk | exact kc_n (decide_eq_false c_70) hk) (by omega) (by first | exact via_y c_87 c_98 c_112 hv | exact via_n (fun q => c_98 q.2.1) hv | exact via_n (fun q => c_112 q.2.2) hv | exact via_n (fun q => absurd q.1 (by omega)) hv) (by omega)) [3, 4, 5, 6, 7, 8, 9, 10, 11, 1, 2, 0] rfl
                  · -- 98 false
                    refine x_aload_n h 1 dL_isChip_101 rfl rfl ?_
                    refine x_bipush h (nI 81) dL_isChip_102 (by decide) ?_
                    refine x_iload h 11 dL_isChip_104 rfl ?_
                    refine x_iadd_n h dL_isChip_106 ?_
                    refine x_callV h (As := [.int (nI (81 + a))]) 1 hx (c_X5_cellOf hW.hP hW.hI) gL_isChip_X5_cellOf rfl ⟨rfl, rfl⟩ (by decide +kernel) rfl (by decide) (by decide) E_144 rfl rfl (Nat.le_of_ble_eq_true rfl) dL_isChip_107 (fun a107 M' P' hp => ?_)
                    rw [hX] at hp
                    obtain ⟨⟨rfl, rfl⟩, hQ⟩ := hp
                    have hz := cell_at (by omega) hQ
                    clear hQ
                    subst hz
                    refine x_iload h 8 dL_isChip_110 rfl ?_
                    refine x_icmp_ne h 119 dL_isChip_112 (by decide) (fun c_112 => ?_) (fun c_112 => ?_)
                    · -- 112 true
                      refine x_iconst h (nI 0) dL_isChip_119 (by decide) ?_
                      refine x_iadd_n h dL_isChip_120 ?_
                      refine x_istore h [(9, .int (nI (v + 0))), (10, .int (nI (k + 0))), (0, .ref (g.1 144)), (1, .int (nI (sumN (fun k => wir Xc (nI k)) n))), (2, .int (nI (joinedN Xc n))), (3, .int (sumI (fun k => Xc (169 + 9 * k + 4)) n)), (4, .int (nI 0)), (5, .int (nI 0)), (6, .int (nI 1)), (7, .int (nI n)), (8, .int (nI (wir Xc (nI n)))), (11, .int (nI a))] dL_isChip_121 (by decide) rfl ?_
                      refine x_iinc_n h 11 (n := 1) [(11, .int (nI (a + 1))), (9, .int (nI (v + 0))), (10, .int (nI (k + 0))), (0, .ref (g.1 144)), (1, .int (nI (sumN (fun k => wir Xc (nI k)) n))), (2, .int (nI (joinedN Xc n))), (3, .int (sumI (fun k => Xc (169 + 9 * k + 4)) n)), (4, .int (nI 0)), (5, .int (nI 0)), (6, .int (nI 1)), (7, .int (nI n)), (8, .int (nI (wir Xc (nI n))))] dL_isChip_123 rfl (by decide) rfl ?_
                      refine x_goto h 52 dL_isChip_126 (by decide) ?_
                      exact x_lv (ih52 (a + 1) (k + 0) (v + 0) (by omega) (by omega) (by first | exact kc_y (decide_eq_true c_70) hk | exact kc_n (decide_eq_false c_70) hk) (by omega) (by first | exact via_y c_87 c_98 c_112 hv | exact via_n (fun q => c_98 q.2.1) hv | exact via_n (fun q => c_112 q.2.2) hv | exact via_n (fun q => absurd q.1 (by omega)) hv) (by omega)) [3, 4, 5, 6, 7, 8, 9, 10, 11, 1, 2, 0] rfl
                    · -- 112 false
                      refine x_iconst h (nI 1) dL_isChip_115 (by decide) ?_
                      refine x_goto h 120 dL_isChip_116 (by decide) ?_
                      refine x_iadd_n h dL_isChip_120 ?_
                      refine x_istore h [(9, .int (nI (v + 1))), (10, .int (nI (k + 0))), (0, .ref (g.1 144)), (1, .int (nI (sumN (fun k => wir Xc (nI k)) n))), (2, .int (nI (joinedN Xc n))), (3, .int (sumI (fun k => Xc (169 + 9 * k + 4)) n)), (4, .int (nI 0)), (5, .int (nI 0)), (6, .int (nI 1)), (7, .int (nI n)), (8, .int (nI (wir Xc (nI n)))), (11, .int (nI a))] dL_isChip_121 (by decide) rfl ?_
                      refine x_iinc_n h 11 (n := 1) [(11, .int (nI (a + 1))), (9, .int (nI (v + 1))), (10, .int (nI (k + 0))), (0, .ref (g.1 144)), (1, .int (nI (sumN (fun k => wir Xc (nI k)) n))), (2, .int (nI (joinedN Xc n))), (3, .int (sumI (fun k => Xc (169 + 9 * k + 4)) n)), (4, .int (nI 0)), (5, .int (nI 0)), (6, .int (nI 1)), (7, .int (nI n)), (8, .int (nI (wir Xc (nI n))))] dL_isChip_123 rfl (by decide) rfl ?_
                      refine x_goto h 52 dL_isChip_126 (by decide) ?_
                      exact x_lv (ih52 (a + 1) (k + 0) (v + 1) (by omega) (by omega) (by first | exact kc_y (decide_eq_true c_70) hk | exact kc_n (decide_eq_false c_70) hk) (by omega) (by first | exact via_y c_87 c_98 c_112 hv | exact via_n (fun q => c_98 q.2.1) hv | exact via_n (fun q => c_112 q.2.2) hv | exact via_n (fun q => absurd q.1 (by omega)) hv) (by omega)) [3, 4, 5, 6, 7, 8, 9, 10, 11, 1, 2, 0] rfl
              · -- 70 false
                refine x_iconst h (nI 1) dL_isChip_73 (by decide) ?_
                refine x_goto h 78 dL_isChip_74 (by decide) ?_
                refine x_iadd_n h dL_isChip_78 ?_
                refine x_istore h [(10, .int (nI (k + 1))), (0, .ref (g.1 144)), (1, .int (nI (sumN (fun k => wir Xc (nI k)) n))), (2, .int (nI (joinedN Xc n))), (3, .int (sumI (fun k => Xc (169 + 9 * k + 4)) n)), (4, .int (nI 0)), (5, .int (nI 0)), (6, .int (nI 1)), (7, .int (nI n)), (8, .int (nI (wir Xc (nI n)))), (9, .int (nI v)), (11, .int (nI a))] dL_isChip_79 (by decide) rfl ?_
                refine x_iload h 10 dL_isChip_81 rfl ?_
                refine x_iload h 11 dL_isChip_83 rfl ?_
                refine x_bipush h (nI 81) dL_isChip_85 (by decide) ?_
                refine x_icmp_ge_n h 119 dL_isChip_87 (by decide) (by first | omega | exact jN_lt | exact sumw_lt hN6 (by omega) | exact cnt_lt31 (by decide) | exact cnt_lt31 (by omega)) (by decide) (fun c_87 => ?_) (fun c_87 => ?_)
                · -- 87 true
                  refine x_iconst h (nI 0) dL_isChip_119 (by decide) ?_
                  refine x_iadd_n h dL_isChip_120 ?_
                  refine x_istore h [(9, .int (nI (v + 0))), (10, .int (nI (k + 1))), (0, .ref (g.1 144)), (1, .int (nI (sumN (fun k => wir Xc (nI k)) n))), (2, .int (nI (joinedN Xc n))), (3, .int (sumI (fun k => Xc (169 + 9 * k + 4)) n)), (4, .int (nI 0)), (5, .int (nI 0)), (6, .int (nI 1)), (7, .int (nI n)), (8, .int (nI (wir Xc (nI n)))), (11, .int (nI a))] dL_isChip_121 (by decide) rfl ?_
                  refine x_iinc_n h 11 (n := 1) [(11, .int (nI (a + 1))), (9, .int (nI (v + 0))), (10, .int (nI (k + 1))), (0, .ref (g.1 144)), (1, .int (nI (sumN (fun k => wir Xc (nI k)) n))), (2, .int (nI (joinedN Xc n))), (3, .int (sumI (fun k => Xc (169 + 9 * k + 4)) n)), (4, .int (nI 0)), (5, .int (nI 0)), (6, .int (nI 1)), (7, .int (nI n)), (8, .int (nI (wir Xc (nI n))))] dL_isChip_123 rfl (by decide) rfl ?_
                  refine x_goto h 52 dL_isChip_126 (by decide) ?_
                  exact x_lv (ih52 (a + 1) (k + 1) (v + 0) (by omega) (by omega) (by first | exact kc_y (decide_eq_true c_70) hk | exact kc_n (decide_eq_false c_70) hk) (by omega) (by first | exact via_y c_87 c_98 c_112 hv | exact via_n (fun q => c_98 q.2.1) hv | exact via_n (fun q => c_112 q.2.2) hv | exact via_n (fun q => absurd q.1 (by omega)) hv) (by omega)) [3, 4, 5, 6, 7, 8, 9, 10, 11, 1, 2, 0] rfl
                · -- 87 false
                  refine x_aload_n h 1 dL_isChip_90 rfl rfl ?_
                  refine x_iload h 11 dL_isChip_91 rfl ?_
                  refine x_callV h (As := [.int (nI a)]) 1 hx (c_X5_cellOf hW.hP hW.hI) gL_isChip_X5_cellOf rfl ⟨rfl, rfl⟩ (by decide +kernel) rfl (by decide) (by decide) E_144 rfl rfl (Nat.le_of_ble_eq_true rfl) dL_isChip_93 (fun a93_1 M' P' hp => ?_)
                  rw [hX] at hp
                  obtain ⟨⟨rfl, rfl⟩, hQ⟩ := hp
                  have hz := cell_at (by omega) hQ
                  clear hQ
                  subst hz
                  refine x_iload h 8 dL_isChip_96 rfl ?_
                  refine x_icmp_ne h 119 dL_isChip_98 (by decide) (fun c_98 => ?_) (fun c_98 => ?_)
                  · -- 98 true
                    refine x_iconst h (nI 0) dL_isChip_119 (by decide) ?_
                    refine x_iadd_n h dL_isChip_120 ?_
                    refine x_istore h [(9, .int (nI (v + 0))), (10, .int (nI (k + 1))), (0, .ref (g.1 144)), (1, .int (nI (sumN (fun k => wir Xc (nI k)) n))), (2, .int (nI (joinedN Xc n))), (3, .int (sumI (fun k => Xc (169 + 9 * k + 4)) n)), (4, .int (nI 0)), (5, .int (nI 0)), (6, .int (nI 1)), (7, .int (nI n)), (8, .int (nI (wir Xc (nI n)))), (11, .int (nI a))] dL_isChip_121 (by decide) rfl ?_
                    refine x_iinc_n h 11 (n := 1) [(11, .int (nI (a + 1))), (9, .int (nI (v + 0))), (10, .int (nI (k + 1))), (0, .ref (g.1 144)), (1, .int (nI (sumN (fun k => wir Xc (nI k)) n))), (2, .int (nI (joinedN Xc n))), (3, .int (sumI (fun k => Xc (169 + 9 * k + 4)) n)), (4, .int (nI 0)), (5, .int (nI 0)), (6, .int (nI 1)), (7, .int (nI n)), (8, .int (nI (wir Xc (nI n))))] dL_isChip_123 rfl (by decide) rfl ?_
                    refine x_goto h 52 dL_isChip_126 (by decide) ?_
                    exact x_lv (ih52 (a + 1) (k + 1) (v + 0) (by omega) (by omega) (by first | exact kc_y (decide_eq_true c_70) hk | exact kc_n (decide_eq_false c_70) hk) (by omega) (by first | exact via_y c_87 c_98 c_112 hv | exact via_n (fun q => c_98 q.2.1) hv | exact via_n (fun q => c_112 q.2.2) hv | exact via_n (fun q => absurd q.1 (by omega)) hv) (by omega)) [3, 4, 5, 6, 7, 8, 9, 10, 11, 1, 2, 0] rfl
                  · -- 98 false
                    refine x_aload_n h 1 dL_isChip_101 rfl rfl ?_
                    refine x_bipush h (nI 81) dL_isChip_102 (by decide) ?_
                    refine x_iload h 11 dL_isChip_104 rfl ?_
                    refine x_iadd_n h dL_isChip_106 ?_
                    refine x_callV h (As := [.int (nI (81 + a))]) 1 hx (c_X5_cellOf hW.hP hW.hI) gL_isChip_X5_cellOf rfl ⟨rfl, rfl⟩ (by decide +kernel) rfl (by decide) (by decide) E_144 rfl rfl (Nat.le_of_ble_eq_true rfl) dL_isChip_107 (fun a107_1 M' P' hp => ?_)
                    rw [hX] at hp
                    obtain ⟨⟨rfl, rfl⟩, hQ⟩ := hp
                    have hz := cell_at (by omega) hQ
                    clear hQ
                    subst hz
                    refine x_iload h 8 dL_isChip_110 rfl ?_
                    refine x_icmp_ne h 119 dL_isChip_112 (by decide) (fun c_112 => ?_) (fun c_112 => ?_)
                    · -- 112 true
                      refine x_iconst h (nI 0) dL_isChip_119 (by decide) ?_
                      refine x_iadd_n h dL_isChip_120 ?_
                      refine x_istore h [(9, .int (nI (v + 0))), (10, .int (nI (k + 1))), (0, .ref (g.1 144)), (1, .int (nI (sumN (fun k => wir Xc (nI k)) n))), (2, .int (nI (joinedN Xc n))), (3, .int (sumI (fun k => Xc (169 + 9 * k + 4)) n)), (4, .int (nI 0)), (5, .int (nI 0)), (6, .int (nI 1)), (7, .int (nI n)), (8, .int (nI (wir Xc (nI n)))), (11, .int (nI a))] dL_isChip_121 (by decide) rfl ?_
                      refine x_iinc_n h 11 (n := 1) [(11, .int (nI (a + 1))), (9, .int (nI (v + 0))), (10, .int (nI (k + 1))), (0, .ref (g.1 144)), (1, .int (nI (sumN (fun k => wir Xc (nI k)) n))), (2, .int (nI (joinedN Xc n))), (3, .int (sumI (fun k => Xc (169 + 9 * k + 4)) n)), (4, .int (nI 0)), (5, .int (nI 0)), (6, .int (nI 1)), (7, .int (nI n)), (8, .int (nI (wir Xc (nI n))))] dL_isChip_123 rfl (by decide) rfl ?_
                      refine x_goto h 52 dL_isChip_126 (by decide) ?_
                      exact x_lv (ih52 (a + 1) (k + 1) (v + 0) (by omega) (by omega) (by first | exact kc_y (decide_eq_true c_70) hk | exact kc_n (decide_eq_false c_70) hk) (by omega) (by first | exact via_y c_87 c_98 c_112 hv | exact via_n (fun q => c_98 q.2.1) hv | exact via_n (fun q => c_112 q.2.2) hv | exact via_n (fun q => absurd q.1 (by omega)) hv) (by omega)) [3, 4, 5, 6, 7, 8, 9, 10, 11, 1, 2, 0] rfl
                    · -- 112 false
                      refine x_iconst h (nI 1) dL_isChip_115 (by decide) ?_
                      refine x_goto h 120 dL_isChip_116 (by decide) ?_
                      refine x_iadd_n h dL_isChip_120 ?_
                      refine x_istore h [(9, .int (nI (v + 1))), (10, .int (nI (k + 1))), (0, .ref (g.1 144)), (1, .int (nI (sumN (fun k => wir Xc (nI k)) n))), (2, .int (nI (joinedN Xc n))), (3, .int (sumI (fun k => Xc (169 + 9 * k + 4)) n)), (4, .int (nI 0)), (5, .int (nI 0)), (6, .int (nI 1)), (7, .int (nI n)), (8, .int (nI (wir Xc (nI n)))), (11, .int (nI a))] dL_isChip_121 (by decide) rfl ?_
                      refine x_iinc_n h 11 (n := 1) [(11, .int (nI (a + 1))), (9, .int (nI (v + 1))), (10, .int (nI (k + 1))), (0, .ref (g.1 144)), (1, .int (nI (sumN (fun k => wir Xc (nI k)) n))), (2, .int (nI (joinedN Xc n))), (3, .int (sumI (fun k => Xc (169 + 9 * k + 4)) n)), (4, .int (nI 0)), (5, .int (nI 0)), (6, .int (nI 1)), (7, .int (nI n)), (8, .int (nI (wir Xc (nI n))))] dL_isChip_123 rfl (by decide) rfl ?_
                      refine x_goto h 52 dL_isChip_126 (by decide) ?_
                      exact x_lv (ih52 (a + 1) (k + 1) (v + 1) (by omega) (by omega) (by first | exact kc_y (decide_eq_true c_70) hk | exact kc_n (decide_eq_false c_70) hk) (by omega) (by first | exact via_y c_87 c_98 c_112 hv | exact via_n (fun q => c_98 q.2.1) hv | exact via_n (fun q => c_112 q.2.2) hv | exact via_n (fun q => absurd q.1 (by omega)) hv) (by omega)) [3, 4, 5, 6, 7, 8, 9, 10, 11, 1, 2, 0] rfl
        exact x_lv (L52 _ 0 0 0 (Nat.lt_succ_self _) (by omega) (by rfl) (by omega) (by rfl) (by omega)) [4, 5, 6, 7, 8, 9, 10, 11, 3, 2, 1, 0] rfl
  exact x_lv (L18 _ 0 (Nat.lt_succ_self _) (by omega)) [0, 1, 2, 3, 4, 5, 6, 7] rfl

set_option maxRecDepth 100000 in
set_option maxHeartbeats 16000000 in
theorem ic_2 {x : Ctx} {g : Geo} {l : Launch} {M : Nat → Nat → Int32} {P : Nat → Nat} {Xc : Nat → Int32} {N K B A s : Nat} (hx : x.1.2.1 = l) (h : Cxk x g cL_isChip 13 wsL_isChip RL rmL_isChip) (hW : WI M P N K B A s) (hX : M (P 0) = Xc) (kk : ∀ f y, f = wir Xc eC.1 → y = cross eC Xc N → X x 437 [(0, .ref (g.1 144)), (1, .int (nI (sumN (fun k => wir Xc (nI k)) N))), (2, .int (nI (joinedN Xc N))), (3, .int (sumI (fun k => Xc (169 + 9 * k + 4)) N)), (4, .int (nI f)), (5, .int (nI y)), (6, .int (nI 1))] [] M P) : X x 318 [(0, .ref (g.1 144)), (1, .int (nI (sumN (fun k => wir Xc (nI k)) N))), (2, .int (nI (joinedN Xc N))), (3, .int (sumI (fun k => Xc (169 + 9 * k + 4)) N)), (4, .int (nI 0)), (5, .int (nI 0)), (6, .int (nI 1))] [] M P := by
  have hN6 := hW.N6
  have hK12 := hW.K12
  have hG0 : GI Xc N K B A := hX ▸ hW.hG
  have hI := hG0.1
  have hO : OwV eC Xc N := hI.1.2.1
  obtain ⟨-, hnw, ⟨ac, eac, hacA, hA30, hcl⟩, hmo, -, -⟩ := hG0
  have hap : appl Xc K ≤ K := appl_le
  have wir0 : ∀ k, k < N → jN Xc k ≠ 1 → wir Xc (nI k) = 0 := fun k hk hj => cnt_zero (fun a ha => decide_eq_false (hnw k hk ((jN_0 hj).trans nI_0.symm) a ha))
  refine x_iconst h (nI 0) dL_isChip_318 (by decide) ?_
  refine x_istore h [(7, .int (nI 0)), (0, .ref (g.1 144)), (1, .int (nI (sumN (fun k => wir Xc (nI k)) N))), (2, .int (nI (joinedN Xc N))), (3, .int (sumI (fun k => Xc (169 + 9 * k + 4)) N)), (4, .int (nI 0)), (5, .int (nI 0)), (6, .int (nI 1))] dL_isChip_319 (by decide) rfl ?_
  have L321 : ∀ (fu : Nat) (a : Nat) (f : Nat) (y : Nat), (162 - a) < fu → (a ≤ 162) → (f = cnt (fun b => decide (cellV Xc b = -1000004)) a) → (f ≤ a) → (y = cnt (crsP Xc N) a) → (y ≤ a) → X x 321 [(0, .ref (g.1 144)), (1, .int (nI (sumN (fun k => wir Xc (nI k)) N))), (2, .int (nI (joinedN Xc N))), (3, .int (sumI (fun k => Xc (169 + 9 * k + 4)) N)), (4, .int (nI f)), (5, .int (nI y)), (6, .int (nI 1)), (7, .int (nI a))] [] M P := by
    intro fu
    induction fu with
    | zero => intro a f y hmu321; exact absurd hmu321 (Nat.not_lt_zero _)
    | succ fu ih321 =>
      intro a f y hmu321 ha hf hf1 hy hy1
      refine x_iload h 7 dL_isChip_321 rfl ?_
      refine x_sipush h (nI 162) dL_isChip_323 (by decide) ?_
      refine x_icmp_ge_n h 437 dL_isChip_326 (by decide) (by first | omega | exact jN_lt | exact sumw_lt hN6 (by omega) | exact cnt_lt31 (by decide) | exact cnt_lt31 (by omega)) (by decide) (fun c_326 => ?_) (fun c_326 => ?_)
      · -- 326 true
        obtain rfl : 162 = a := by omega
        exact x_lv (kk f y (hf.trans (free_all hO hN6)) (hy.trans crs_all)) [0, 1, 2, 3, 4, 5, 6] rfl
      · -- 326 false
        refine x_iload h 6 dL_isChip_329 rfl ?_
        refine x_if_eq h 437 dL_isChip_331 (by decide) (fun c => absurd c (by decide)) (fun _ => ?_)
        refine x_iload h 4 dL_isChip_334 rfl ?_
        refine x_aload_n h 0 dL_isChip_336 rfl rfl ?_
        refine x_iload h 7 dL_isChip_337 rfl ?_
        refine x_callV h (As := [.int (nI a)]) 1 hx (c_X5_cellOf hW.hP hW.hI) gL_isChip_X5_cellOf rfl ⟨rfl, rfl⟩ (by decide +kernel) rfl (by decide) (by decide) E_144 rfl rfl (Nat.le_of_ble_eq_true rfl) dL_isChip_339 (fun a339 M' P' hp => ?_)
        rw [hX] at hp
        obtain ⟨⟨rfl, rfl⟩, hQ⟩ := hp
        have hz := cell_at (by omega) hQ
        clear hQ
        subst hz
        refine x_ldc h ((-1000004)) (by decide +kernel) dL_isChip_342 ?_
        refine x_icmp_ne h 351 dL_isChip_344 (by decide) (fun c_344 => ?_) (fun c_344 => ?_)
        · -- 344 true
          refine x_iconst h (nI 0) dL_isChip_351 (by decide) ?_
          refine x_iadd_n h dL_isChip_352 ?_
          refine x_istore h [(4, .int (nI (f + 0))), (0, .ref (g.1 144)), (1, .int (nI (sumN (fun k => wir Xc (nI k)) N))), (2, .int (nI (joinedN Xc N))), (3, .int (sumI (fun k => Xc (169 + 9 * k + 4)) N)), (5, .int (nI y)), (6, .int (nI 1)), (7, .int (nI a))] dL_isChip_353 (by decide) rfl ?_
          refine x_iload h 7 dL_isChip_355 rfl ?_
          refine x_bipush h (nI 81) dL_isChip_357 (by decide) ?_
          refine x_icmp_ge_n h 374 dL_isChip_359 (by decide) (by first | omega | exact jN_lt | exact sumw_lt hN6 (by omega) | exact cnt_lt31 (by decide) | exact cnt_lt31 (by omega)) (by decide) (fun c_359 => ?_) (fun c_359 => ?_)
          · -- 359 true
            refine x_ldc h ((-1000004)) (by decide +kernel) dL_isChip_374 ?_
            refine x_istore h [(8, .int (-1000004)), (4, .int (nI (f + 0))), (0, .ref (g.1 144)), (1, .int (nI (sumN (fun k => wir Xc (nI k)) N))), (2, .int (nI (joinedN Xc N))), (3, .int (sumI (fun k => Xc (169 + 9 * k + 4)) N)), (5, .int (nI y)), (6, .int (nI 1)), (7, .int (nI a))] dL_isChip_376 (by decide) rfl ?_
            refine x_iload h 6 dL_isChip_378 rfl ?_
            refine x_aload_n h 2 dL_isChip_380 rfl rfl ?_
            refine x_iload h 8 dL_isChip_381 rfl ?_
            refine x_callV h (As := [.int (nI a)]) 1 hx (c_X5_cellOf hW.hP hW.hI) gL_isChip_X5_cellOf rfl ⟨rfl, rfl⟩ (by decide +kernel) rfl (by decide) (by decide) E_144 rfl rfl (Nat.le_of_ble_eq_true rfl) dL_isChip_383 (fun a383 M' P' hp => ?_)
            rw [hX] at hp
            obtain ⟨⟨rfl, rfl⟩, hQ⟩ := hp
            have hz := cell_at (by omega) hQ
            clear hQ
            subst hz
            refine x_if_lt h 427 dL_isChip_386 (by decide) (fun c_386 => ?_) (fun c_386 => ?_)
            · -- 386 true
              refine x_iconst h (nI 0) dL_isChip_427 (by decide) ?_
              refine x_iadd_n h dL_isChip_428 ?_
              refine x_istore h [(5, .int (nI (y + 0))), (8, .int (-1000004)), (4, .int (nI (f + 0))), (0, .ref (g.1 144)), (1, .int (nI (sumN (fun k => wir Xc (nI k)) N))), (2, .int (nI (joinedN Xc N))), (3, .int (sumI (fun k => Xc (169 + 9 * k + 4)) N)), (6, .int (nI 1)), (7, .int (nI a))] dL_isChip_429 (by decide) rfl ?_
              refine x_iinc_n h 8 (n := 1) [(7, .int (nI (a + 1))), (5, .int (nI (y + 0))), (8, .int (-1000004)), (4, .int (nI (f + 0))), (0, .ref (g.1 144)), (1, .int (nI (sumN (fun k => wir Xc (nI k)) N))), (2, .int (nI (joinedN Xc N))), (3, .int (sumI (fun k => Xc (169 + 9 * k + 4)) N)), (6, .int (nI 1))] dL_isChip_431 rfl (by decide) rfl ?_
              refine x_goto h 321 dL_isChip_434 (by decide) ?_
              exact x_lv (ih321 (a + 1) (f + 0) (y + 0) (by omega) (by omega) (by first | exact kc_y (decide_eq_true c_344) hf | exact kc_n (decide_eq_false c_344) hf) (by omega) (by first | exact crs_y hO hN6 (by omega) ⟨c_359, c_386, c_397, c_402, c_409, c_420⟩ hy | exact crs_n hO hN6 (by omega) (fun q => q.2.1 c_386) hy | exact crs_n hO hN6 (by omega) (fun q => q.2.2.1 c_397) hy | exact crs_n hO hN6 (by omega) (fun q => q.2.2.2.1 c_402) hy | exact crs_n hO hN6 (by omega) (fun q => q.2.2.2.2.1 c_409) hy | exact crs_n hO hN6 (by omega) (fun q => q.2.2.2.2.2 c_420) hy | exact crs_n hO hN6 (by omega) (fun q => absurd q.1 (by omega)) hy) (by omega)) [4, 5, 6, 7, 3, 1, 8, 0] rfl
            · -- 386 false
              refine x_aload_n h 2 dL_isChip_389 rfl rfl ?_
              refine x_iload h 8 dL_isChip_390 rfl ?_
              refine x_callV h (As := [.int (nI a)]) 1 hx (c_X5_cellOf hW.hP hW.hI) gL_isChip_X5_cellOf rfl ⟨rfl, rfl⟩ (by decide +kernel) rfl (by decide) (by decide) E_144 rfl rfl (Nat.le_of_ble_eq_true rfl) dL_isChip_392 (fun a392 M' P' hp => ?_)
              rw [hX] at hp
              obtain ⟨⟨rfl, rfl⟩, hQ⟩ := hp
              have hz := cell_at (by omega) hQ
              clear hQ
              subst hz
              refine x_bipush h (nI 6) dL_isChip_395 (by decide) ?_
              refine x_icmp_ge h 427 dL_isChip_397 (by decide) (fun c_397 => ?_) (fun c_397 => ?_)
              · -- 397 true
                refine x_iconst h (nI 0) dL_isChip_427 (by decide) ?_
                refine x_iadd_n h dL_isChip_428 ?_
                refine x_istore h [(5, .int (nI (y + 0))), (8, .int (-1000004)), (4, .int (nI (f + 0))), (0, .ref (g.1 144)), (1, .int (nI (sumN (fun k => wir Xc (nI k)) N))), (2, .int (nI (joinedN Xc N))), (3, .int (sumI (fun k => Xc (169 + 9 * k + 4)) N)), (6, .int (nI 1)), (7, .int (nI a))] dL_isChip_429 (by decide) rfl ?_
                refine x_iinc_n h 8 (n := 1) [(7, .int (nI (a + 1))), (5, .int (nI (y + 0))), (8, .int (-1000004)), (4, .int (nI (f + 0))), (0, .ref (g.1 144)), (1, .int (nI (sumN (fun k => wir Xc (nI k)) N))), (2, .int (nI (joinedN Xc N))), (3, .int (sumI (fun k => Xc (169 + 9 * k + 4)) N)), (6, .int (nI 1))] dL_isChip_431 rfl (by decide) rfl ?_
                refine x_goto h 321 dL_isChip_434 (by decide) ?_
                exact x_lv (ih321 (a + 1) (f + 0) (y + 0) (by omega) (by omega) (by first | exact kc_y (decide_eq_true c_344) hf | exact kc_n (decide_eq_false c_344) hf) (by omega) (by first | exact crs_y hO hN6 (by omega) ⟨c_359, c_386, c_397, c_402, c_409, c_420⟩ hy | exact crs_n hO hN6 (by omega) (fun q => q.2.1 c_386) hy | exact crs_n hO hN6 (by omega) (fun q => q.2.2.1 c_397) hy | exact crs_n hO hN6 (by omega) (fun q => q.2.2.2.1 c_402) hy | exact crs_n hO hN6 (by omega) (fun q => q.2.2.2.2.1 c_409) hy | exact crs_n hO hN6 (by omega) (fun q => q.2.2.2.2.2 c_420) hy | exact crs_n hO hN6 (by omega) (fun q => absurd q.1 (by omega)) hy) (by omega)) [4, 5, 6, 7, 3, 1, 8, 0] rfl
              · -- 397 false
                refine x_iload h 0 dL_isChip_400 rfl ?_
                refine x_if_lt h 427 dL_isChip_402 (by decide) (fun _ => ?_) (fun c => absurd (by decide) c)
                refine x_iconst h (nI 0) dL_isChip_427 (by decide) ?_
                refine x_iadd_n h dL_isChip_428 ?_
                refine x_istore h [(5, .int (nI (y + 0))), (8, .int (-1000004)), (4, .int (nI (f + 0))), (0, .ref (g.1 144)), (1, .int (nI (sumN (fun k => wir Xc (nI k)) N))), (2, .int (nI (joinedN Xc N))), (3, .int (sumI (fun k => Xc (169 + 9 * k + 4)) N)), (6, .int (nI 1)), (7, .int (nI a))] dL_isChip_429 (by decide) rfl ?_
                refine x_iinc_n h 8 (n := 1) [(7, .int (nI (a + 1))), (5, .int (nI (y + 0))), (8, .int (-1000004)), (4, .int (nI (f + 0))), (0, .ref (g.1 144)), (1, .int (nI (sumN (fun k => wir Xc (nI k)) N))), (2, .int (nI (joinedN Xc N))), (3, .int (sumI (fun k => Xc (169 + 9 * k + 4)) N)), (6, .int (nI 1))] dL_isChip_431 rfl (by decide) rfl ?_
                refine x_goto h 321 dL_isChip_434 (by decide) ?_
                exact x_lv (ih321 (a + 1) (f + 0) (y + 0) (by omega) (by omega) (by first | exact kc_y (decide_eq_true c_344) hf | exact kc_n (decide_eq_false c_344) hf) (by omega) (by first | exact crs_y hO hN6 (by omega) ⟨c_359, c_386, c_397, c_402, c_409, c_420⟩ hy | exact crs_n hO hN6 (by omega) (fun q => q.2.1 c_386) hy | exact crs_n hO hN6 (by omega) (fun q => q.2.2.1 c_397) hy | exact crs_n hO hN6 (by omega) (fun q => q.2.2.2.1 c_402) hy | exact crs_n hO hN6 (by omega) (fun q => q.2.2.2.2.1 c_409) hy | exact crs_n hO hN6 (by omega) (fun q => q.2.2.2.2.2 c_420) hy | exact crs_n hO hN6 (by omega) (fun q => absurd q.1 (by omega)) hy) (by omega)) [4, 5, 6, 7, 3, 1, 8, 0] rfl
          · -- 359 false
            refine x_aload_n h 1 dL_isChip_362 rfl rfl ?_
            refine x_bipush h (nI 81) dL_isChip_363 (by decide) ?_
            refine x_iload h 7 dL_isChip_365 rfl ?_
            refine x_iadd_n h dL_isChip_367 ?_
            refine x_callV h (As := [.int (nI (81 + a))]) 1 hx (c_X5_cellOf hW.hP hW.hI) gL_isChip_X5_cellOf rfl ⟨rfl, rfl⟩ (by decide +kernel) rfl (by decide) (by decide) E_144 rfl rfl (Nat.le_of_ble_eq_true rfl) dL_isChip_368 (fun a368 M' P' hp => ?_)
            rw [hX] at hp
            obtain ⟨⟨rfl, rfl⟩, hQ⟩ := hp
            have hz := cell_at (by omega) hQ
            clear hQ
            subst hz
            refine x_goto h 376 dL_isChip_371 (by decide) ?_
            refine x_istore h [(8, .int (cellV Xc (81 + a))), (4, .int (nI (f + 0))), (0, .ref (g.1 144)), (1, .int (nI (sumN (fun k => wir Xc (nI k)) N))), (2, .int (nI (joinedN Xc N))), (3, .int (sumI (fun k => Xc (169 + 9 * k + 4)) N)), (5, .int (nI y)), (6, .int (nI 1)), (7, .int (nI a))] dL_isChip_376 (by decide) rfl ?_
            refine x_iload h 6 dL_isChip_378 rfl ?_
            refine x_aload_n h 2 dL_isChip_380 rfl rfl ?_
            refine x_iload h 8 dL_isChip_381 rfl ?_
            refine x_callV h (As := [.int (nI a)]) 1 hx (c_X5_cellOf hW.hP hW.hI) gL_isChip_X5_cellOf rfl ⟨rfl, rfl⟩ (by decide +kernel) rfl (by decide) (by decide) E_144 rfl rfl (Nat.le_of_ble_eq_true rfl) dL_isChip_383 (fun a383_1 M' P' hp => ?_)
            rw [hX] at hp
            obtain ⟨⟨rfl, rfl⟩, hQ⟩ := hp
            have hz := cell_at (by omega) hQ
            clear hQ
            subst hz
            refine x_if_lt h 427 dL_isChip_386 (by decide) (fun c_386 => ?_) (fun c_386 => ?_)
            · -- 386 true
              refine x_iconst h (nI 0) dL_isChip_427 (by decide) ?_
              refine x_iadd_n h dL_isChip_428 ?_
              refine x_istore h [(5, .int (nI (y + 0))), (8, .int (cellV Xc (81 + a))), (4, .int (nI (f + 0))), (0, .ref (g.1 144)), (1, .int (nI (sumN (fun k => wir Xc (nI k)) N))), (2, .int (nI (joinedN Xc N))), (3, .int (sumI (fun k => Xc (169 + 9 * k + 4)) N)), (6, .int (nI 1)), (7, .int (nI a))] dL_isChip_429 (by decide) rfl ?_
              refine x_iinc_n h 8 (n := 1) [(7, .int (nI (a + 1))), (5, .int (nI (y + 0))), (8, .int (cellV Xc (81 + a))), (4, .int (nI (f + 0))), (0, .ref (g.1 144)), (1, .int (nI (sumN (fun k => wir Xc (nI k)) N))), (2, .int (nI (joinedN Xc N))), (3, .int (sumI (fun k => Xc (169 + 9 * k + 4)) N)), (6, .int (nI 1))] dL_isChip_431 rfl (by decide) rfl ?_
              refine x_goto h 321 dL_isChip_434 (by decide) ?_
              exact x_lv (ih321 (a + 1) (f + 0) (y + 0) (by omega) (by omega) (by first | exact kc_y (decide_eq_true c_344) hf | exact kc_n (decide_eq_false c_344) hf) (by omega) (by first | exact crs_y hO hN6 (by omega) ⟨c_359, c_386, c_397, c_402, c_409, c_420⟩ hy | exact crs_n hO hN6 (by omega) (fun q => q.2.1 c_386) hy | exact crs_n hO hN6 (by omega) (fun q => q.2.2.1 c_397) hy | exact crs_n hO hN6 (by omega) (fun q => q.2.2.2.1 c_402) hy | exact crs_n hO hN6 (by omega) (fun q => q.2.2.2.2.1 c_409) hy | exact crs_n hO hN6 (by omega) (fun q => q.2.2.2.2.2 c_420) hy | exact crs_n hO hN6 (by omega) (fun q => absurd q.1 (by omega)) hy) (by omega)) [4, 5, 6, 7, 3, 1, 8, 0] rfl
            · -- 386 false
              refine x_aload_n h 2 dL_isChip_389 rfl rfl ?_
              refine x_iload h 8 dL_isChip_390 rfl ?_
              refine x_callV h (As := [.int (nI a)]) 1 hx (c_X5_cellOf hW.hP hW.hI) gL_isChip_X5_cellOf rfl ⟨rfl, rfl⟩ (by decide +kernel) rfl (by decide) (by decide) E_144 rfl rfl (Nat.le_of_ble_eq_true rfl) dL_isChip_392 (fun a392_1 M' P' hp => ?_)
              rw [hX] at hp
              obtain ⟨⟨rfl, rfl⟩, hQ⟩ := hp
              have hz := cell_at (by omega) hQ
              clear hQ
              subst hz
              refine x_bipush h (nI 6) dL_isChip_395 (by decide) ?_
              refine x_icmp_ge h 427 dL_isChip_397 (by decide) (fun c_397 => ?_) (fun c_397 => ?_)
              · -- 397 true
                refine x_iconst h (nI 0) dL_isChip_427 (by decide) ?_
                refine x_iadd_n h dL_isChip_428 ?_
                refine x_istore h [(5, .int (nI (y + 0))), (8, .int (cellV Xc (81 + a))), (4, .int (nI (f + 0))), (0, .ref (g.1 144)), (1, .int (nI (sumN (fun k => wir Xc (nI k)) N))), (2, .int (nI (joinedN Xc N))), (3, .int (sumI (fun k => Xc (169 + 9 * k + 4)) N)), (6, .int (nI 1)), (7, .int (nI a))] dL_isChip_429 (by decide) rfl ?_
                refine x_iinc_n h 8 (n := 1) [(7, .int (nI (a + 1))), (5, .int (nI (y + 0))), (8, .int (cellV Xc (81 + a))), (4, .int (nI (f + 0))), (0, .ref (g.1 144)), (1, .int (nI (sumN (fun k => wir Xc (nI k)) N))), (2, .int (nI (joinedN Xc N))), (3, .int (sumI (fun k => Xc (169 + 9 * k + 4)) N)), (6, .int (nI 1))] dL_isChip_431 rfl (by decide) rfl ?_
                refine x_goto h 321 dL_isChip_434 (by decide) ?_
                exact x_lv (ih321 (a + 1) (f + 0) (y + 0) (by omega) (by omega) (by first | exact kc_y (decide_eq_true c_344) hf | exact kc_n (decide_eq_false c_344) hf) (by omega) (by first | exact crs_y hO hN6 (by omega) ⟨c_359, c_386, c_397, c_402, c_409, c_420⟩ hy | exact crs_n hO hN6 (by omega) (fun q => q.2.1 c_386) hy | exact crs_n hO hN6 (by omega) (fun q => q.2.2.1 c_397) hy | exact crs_n hO hN6 (by omega) (fun q => q.2.2.2.1 c_402) hy | exact crs_n hO hN6 (by omega) (fun q => q.2.2.2.2.1 c_409) hy | exact crs_n hO hN6 (by omega) (fun q => q.2.2.2.2.2 c_420) hy | exact crs_n hO hN6 (by omega) (fun q => absurd q.1 (by omega)) hy) (by omega)) [4, 5, 6, 7, 3, 1, 8, 0] rfl
              · -- 397 false
                refine x_iload h 0 dL_isChip_400 rfl ?_
                refine x_if_lt h 427 dL_isChip_402 (by decide) (fun c_402 => ?_) (fun c_402 => ?_)
                · -- 402 true
                  refine x_iconst h (nI 0) dL_isChip_427 (by decide) ?_
                  refine x_iadd_n h dL_isChip_428 ?_
                  refine x_istore h [(5, .int (nI (y + 0))), (8, .int (cellV Xc (81 + a))), (4, .int (nI (f + 0))), (0, .ref (g.1 144)), (1, .int (nI (sumN (fun k => wir Xc (nI k)) N))), (2, .int (nI (joinedN Xc N))), (3, .int (sumI (fun k => Xc (169 + 9 * k + 4)) N)), (6, .int (nI 1)), (7, .int (nI a))] dL_isChip_429 (by decide) rfl ?_
                  refine x_iinc_n h 8 (n := 1) [(7, .int (nI (a + 1))), (5, .int (nI (y + 0))), (8, .int (cellV Xc (81 + a))), (4, .int (nI (f + 0))), (0, .ref (g.1 144)), (1, .int (nI (sumN (fun k => wir Xc (nI k)) N))), (2, .int (nI (joinedN Xc N))), (3, .int (sumI (fun k => Xc (169 + 9 * k + 4)) N)), (6, .int (nI 1))] dL_isChip_431 rfl (by decide) rfl ?_
                  refine x_goto h 321 dL_isChip_434 (by decide) ?_
                  exact x_lv (ih321 (a + 1) (f + 0) (y + 0) (by omega) (by omega) (by first | exact kc_y (decide_eq_true c_344) hf | exact kc_n (decide_eq_false c_344) hf) (by omega) (by first | exact crs_y hO hN6 (by omega) ⟨c_359, c_386, c_397, c_402, c_409, c_420⟩ hy | exact crs_n hO hN6 (by omega) (fun q => q.2.1 c_386) hy | exact crs_n hO hN6 (by omega) (fun q => q.2.2.1 c_397) hy | exact crs_n hO hN6 (by omega) (fun q => q.2.2.2.1 c_402) hy | exact crs_n hO hN6 (by omega) (fun q => q.2.2.2.2.1 c_409) hy | exact crs_n hO hN6 (by omega) (fun q => q.2.2.2.2.2 c_420) hy | exact crs_n hO hN6 (by omega) (fun q => absurd q.1 (by omega)) hy) (by omega)) [4, 5, 6, 7, 3, 1, 8, 0] rfl
                · -- 402 false
                  refine x_iload h 0 dL_isChip_405 rfl ?_
                  refine x_bipush h (nI 6) dL_isChip_407 (by decide) ?_
                  refine x_icmp_ge h 427 dL_isChip_409 (by decide) (fun c_409 => ?_) (fun c_409 => ?_)
                  · -- 409 true
                    refine x_iconst h (nI 0) dL_isChip_427 (by decide) ?_
                    refine x_iadd_n h dL_isChip_428 ?_
                    refine x_istore h [(5, .int (nI (y + 0))), (8, .int (cellV Xc (81 + a))), (4, .int (nI (f + 0))), (0, .ref (g.1 144)), (1, .int (nI (sumN (fun k => wir Xc (nI k)) N))), (2, .int (nI (joinedN Xc N))), (3, .int (sumI (fun k => Xc (169 + 9 * k + 4)) N)), (6, .int (nI 1)), (7, .int (nI a))] dL_isChip_429 (by decide) rfl ?_
                    refine x_iinc_n h 8 (n := 1) [(7, .int (nI (a + 1))), (5, .int (nI (y + 0))), (8, .int (cellV Xc (81 + a))), (4, .int (nI (f + 0))), (0, .ref (g.1 144)), (1, .int (nI (sumN (fun k => wir Xc (nI k)) N))), (2, .int (nI (joinedN Xc N))), (3, .int (sumI (fun k => Xc (169 + 9 * k + 4)) N)), (6, .int (nI 1))] dL_isChip_431 rfl (by decide) rfl ?_
                    refine x_goto h 321 dL_isChip_434 (by decide) ?_
                    exact x_lv (ih321 (a + 1) (f + 0) (y + 0) (by omega) (by omega) (by first | exact kc_y (decide_eq_true c_344) hf | exact kc_n (decide_eq_false c_344) hf) (by omega) (by first | exact crs_y hO hN6 (by omega) ⟨c_359, c_386, c_397, c_402, c_409, c_420⟩ hy | exact crs_n hO hN6 (by omega) (fun q => q.2.1 c_386) hy | exact crs_n hO hN6 (by omega) (fun q => q.2.2.1 c_397) hy | exact crs_n hO hN6 (by omega) (fun q => q.2.2.2.1 c_402) hy | exact crs_n hO hN6 (by omega) (fun q => q.2.2.2.2.1 c_409) hy | exact crs_n hO hN6 (by omega) (fun q => q.2.2.2.2.2 c_420) hy | exact crs_n hO hN6 (by omega) (fun q => absurd q.1 (by omega)) hy) (by omega)) [4, 5, 6, 7, 3, 1, 8, 0] rfl
                  · -- 409 false
                    refine x_iload h 0 dL_isChip_412 rfl ?_
                    refine x_aload_n h 2 dL_isChip_414 rfl rfl ?_
                    refine x_iload h 8 dL_isChip_415 rfl ?_
                    refine x_callV h (As := [.int (nI a)]) 1 hx (c_X5_cellOf hW.hP hW.hI) gL_isChip_X5_cellOf rfl ⟨rfl, rfl⟩ (by decide +kernel) rfl (by decide) (by decide) E_144 rfl rfl (Nat.le_of_ble_eq_true rfl) dL_isChip_417 (fun a417 M' P' hp => ?_)
                    rw [hX] at hp
                    obtain ⟨⟨rfl, rfl⟩, hQ⟩ := hp
                    have hz := cell_at (by omega) hQ
                    clear hQ
                    subst hz
                    refine x_icmp_eq h 427 dL_isChip_420 (by decide) (fun c_420 => ?_) (fun c_420 => ?_)
                    · -- 420 true
                      refine x_iconst h (nI 0) dL_isChip_427 (by decide) ?_
                      refine x_iadd_n h dL_isChip_428 ?_
                      refine x_istore h [(5, .int (nI (y + 0))), (8, .int (cellV Xc (81 + a))), (4, .int (nI (f + 0))), (0, .ref (g.1 144)), (1, .int (nI (sumN (fun k => wir Xc (nI k)) N))), (2, .int (nI (joinedN Xc N))), (3, .int (sumI (fun k => Xc (169 + 9 * k + 4)) N)), (6, .int (nI 1)), (7, .int (nI a))] dL_isChip_429 (by decide) rfl ?_
                      refine x_iinc_n h 8 (n := 1) [(7, .int (nI (a + 1))), (5, .int (nI (y + 0))), (8, .int (cellV Xc (81 + a))), (4, .int (nI (f + 0))), (0, .ref (g.1 144)), (1, .int (nI (sumN (fun k => wir Xc (nI k)) N))), (2, .int (nI (joinedN Xc N))), (3, .int (sumI (fun k => Xc (169 + 9 * k + 4)) N)), (6, .int (nI 1))] dL_isChip_431 rfl (by decide) rfl ?_
                      refine x_goto h 321 dL_isChip_434 (by decide) ?_
                      exact x_lv (ih321 (a + 1) (f + 0) (y + 0) (by omega) (by omega) (by first | exact kc_y (decide_eq_true c_344) hf | exact kc_n (decide_eq_false c_344) hf) (by omega) (by first | exact crs_y hO hN6 (by omega) ⟨c_359, c_386, c_397, c_402, c_409, c_420⟩ hy | exact crs_n hO hN6 (by omega) (fun q => q.2.1 c_386) hy | exact crs_n hO hN6 (by omega) (fun q => q.2.2.1 c_397) hy | exact crs_n hO hN6 (by omega) (fun q => q.2.2.2.1 c_402) hy | exact crs_n hO hN6 (by omega) (fun q => q.2.2.2.2.1 c_409) hy | exact crs_n hO hN6 (by omega) (fun q => q.2.2.2.2.2 c_420) hy | exact crs_n hO hN6 (by omega) (fun q => absurd q.1 (by omega)) hy) (by omega)) [4, 5, 6, 7, 3, 1, 8, 0] rfl
                    · -- 420 false
                      refine x_iconst h (nI 1) dL_isChip_423 (by decide) ?_
                      refine x_goto h 428 dL_isChip_424 (by decide) ?_
                      refine x_iadd_n h dL_isChip_428 ?_
                      refine x_istore h [(5, .int (nI (y + 1))), (8, .int (cellV Xc (81 + a))), (4, .int (nI (f + 0))), (0, .ref (g.1 144)), (1, .int (nI (sumN (fun k => wir Xc (nI k)) N))), (2, .int (nI (joinedN Xc N))), (3, .int (sumI (fun k => Xc (169 + 9 * k + 4)) N)), (6, .int (nI 1)), (7, .int (nI a))] dL_isChip_429 (by decide) rfl ?_
                      refine x_iinc_n h 8 (n := 1) [(7, .int (nI (a + 1))), (5, .int (nI (y + 1))), (8, .int (cellV Xc (81 + a))), (4, .int (nI (f + 0))), (0, .ref (g.1 144)), (1, .int (nI (sumN (fun k => wir Xc (nI k)) N))), (2, .int (nI (joinedN Xc N))), (3, .int (sumI (fun k => Xc (169 + 9 * k + 4)) N)), (6, .int (nI 1))] dL_isChip_431 rfl (by decide) rfl ?_
                      refine x_goto h 321 dL_isChip_434 (by decide) ?_
                      exact x_lv (ih321 (a + 1) (f + 0) (y + 1) (by omega) (by omega) (by first | exact kc_y (decide_eq_true c_344) hf | exact kc_n (decide_eq_false c_344) hf) (by omega) (by first | exact crs_y hO hN6 (by omega) ⟨c_359, c_386, c_397, c_402, c_409, c_420⟩ hy | exact crs_n hO hN6 (by omega) (fun q => q.2.1 c_386) hy | exact crs_n hO hN6 (by omega) (fun q => q.2.2.1 c_397) hy | exact crs_n hO hN6 (by omega) (fun q => q.2.2.2.1 c_402) hy | exact crs_n hO hN6 (by omega) (fun q => q.2.2.2.2.1 c_409) hy | exact crs_n hO hN6 (by omega) (fun q => q.2.2.2.2.2 c_420) hy | exact crs_n hO hN6 (by omega) (fun q => absurd q.1 (by omega)) hy) (by omega)) [4, 5, 6, 7, 3, 1, 8, 0] rfl
        · -- 344 false
          refine x_iconst h (nI 1) dL_isChip_347 (by decide) ?_
          refine x_goto h 352 dL_isChip_348 (by decide) ?_
          refine x_iadd_n h dL_isChip_352 ?_
          refine x_istore h [(4, .int (nI (f + 1))), (0, .ref (g.1 144)), (1, .int (nI (sumN (fun k => wir Xc (nI k)) N))), (2, .int (nI (joinedN Xc N))), (3, .int (sumI (fun k => Xc (169 + 9 * k + 4)) N)), (5, .int (nI y)), (6, .int (nI 1)), (7, .int (nI a))] dL_isChip_353 (by decide) rfl ?_
          refine x_iload h 7 dL_isChip_355 rfl ?_
          refine x_bipush h (nI 81) dL_isChip_357 (by decide) ?_
          refine x_icmp_ge_n h 374 dL_isChip_359 (by decide) (by first | omega | exact jN_lt | exact sumw_lt hN6 (by omega) | exact cnt_lt31 (by decide) | exact cnt_lt31 (by omega)) (by decide) (fun c_359 => ?_) (fun c_359 => ?_)
          · -- 359 true
            refine x_ldc h ((-1000004)) (by decide +kernel) dL_isChip_374 ?_
            refine x_istore h [(8, .int (-1000004)), (4, .int (nI (f + 1))), (0, .ref (g.1 144)), (1, .int (nI (sumN (fun k => wir Xc (nI k)) N))), (2, .int (nI (joinedN Xc N))), (3, .int (sumI (fun k => Xc (169 + 9 * k + 4)) N)), (5, .int (nI y)), (6, .int (nI 1)), (7, .int (nI a))] dL_isChip_376 (by decide) rfl ?_
            refine x_iload h 6 dL_isChip_378 rfl ?_
            refine x_aload_n h 2 dL_isChip_380 rfl rfl ?_
            refine x_iload h 8 dL_isChip_381 rfl ?_
            refine x_callV h (As := [.int (nI a)]) 1 hx (c_X5_cellOf hW.hP hW.hI) gL_isChip_X5_cellOf rfl ⟨rfl, rfl⟩ (by decide +kernel) rfl (by decide) (by decide) E_144 rfl rfl (Nat.le_of_ble_eq_true rfl) dL_isChip_383 (fun a383_2 M' P' hp => ?_)
            rw [hX] at hp
            obtain ⟨⟨rfl, rfl⟩, hQ⟩ := hp
            have hz := cell_at (by omega) hQ
            clear hQ
            subst hz
            refine x_if_lt h 427 dL_isChip_386 (by decide) (fun c_386 => ?_) (fun c_386 => ?_)
            · -- 386 true
              refine x_iconst h (nI 0) dL_isChip_427 (by decide) ?_
              refine x_iadd_n h dL_isChip_428 ?_
              refine x_istore h [(5, .int (nI (y + 0))), (8, .int (-1000004)), (4, .int (nI (f + 1))), (0, .ref (g.1 144)), (1, .int (nI (sumN (fun k => wir Xc (nI k)) N))), (2, .int (nI (joinedN Xc N))), (3, .int (sumI (fun k => Xc (169 + 9 * k + 4)) N)), (6, .int (nI 1)), (7, .int (nI a))] dL_isChip_429 (by decide) rfl ?_
              refine x_iinc_n h 8 (n := 1) [(7, .int (nI (a + 1))), (5, .int (nI (y + 0))), (8, .int (-1000004)), (4, .int (nI (f + 1))), (0, .ref (g.1 144)), (1, .int (nI (sumN (fun k => wir Xc (nI k)) N))), (2, .int (nI (joinedN Xc N))), (3, .int (sumI (fun k => Xc (169 + 9 * k + 4)) N)), (6, .int (nI 1))] dL_isChip_431 rfl (by decide) rfl ?_
              refine x_goto h 321 dL_isChip_434 (by decide) ?_
              exact x_lv (ih321 (a + 1) (f + 1) (y + 0) (by omega) (by omega) (by first | exact kc_y (decide_eq_true c_344) hf | exact kc_n (decide_eq_false c_344) hf) (by omega) (by first | exact crs_y hO hN6 (by omega) ⟨c_359, c_386, c_397, c_402, c_409, c_420⟩ hy | exact crs_n hO hN6 (by omega) (fun q => q.2.1 c_386) hy | exact crs_n hO hN6 (by omega) (fun q => q.2.2.1 c_397) hy | exact crs_n hO hN6 (by omega) (fun q => q.2.2.2.1 c_402) hy | exact crs_n hO hN6 (by omega) (fun q => q.2.2.2.2.1 c_409) hy | exact crs_n hO hN6 (by omega) (fun q => q.2.2.2.2.2 c_420) hy | exact crs_n hO hN6 (by omega) (fun q => absurd q.1 (by omega)) hy) (by omega)) [4, 5, 6, 7, 3, 1, 8, 0] rfl
            · -- 386 false
              refine x_aload_n h 2 dL_isChip_389 rfl rfl ?_
              refine x_iload h 8 dL_isChip_390 rfl ?_
              refine x_callV h (As := [.int (nI a)]) 1 hx (c_X5_cellOf hW.hP hW.hI) gL_isChip_X5_cellOf rfl ⟨rfl, rfl⟩ (by decide +kernel) rfl (by decide) (by decide) E_144 rfl rfl (Nat.le_of_ble_eq_true rfl) dL_isChip_392 (fun a392_2 M' P' hp => ?_)
              rw [hX] at hp
              obtain ⟨⟨rfl, rfl⟩, hQ⟩ := hp
              have hz := cell_at (by omega) hQ
              clear hQ
              subst hz
              refine x_bipush h (nI 6) dL_isChip_395 (by decide) ?_
              refine x_icmp_ge h 427 dL_isChip_397 (by decide) (fun c_397 => ?_) (fun c_397 => ?_)
              · -- 397 true
                refine x_iconst h (nI 0) dL_isChip_427 (by decide) ?_
                refine x_iadd_n h dL_isChip_428 ?_
                refine x_istore h [(5, .int (nI (y + 0))), (8, .int (-1000004)), (4, .int (nI (f + 1))), (0, .ref (g.1 144)), (1, .int (nI (sumN (fun k => wir Xc (nI k)) N))), (2, .int (nI (joinedN Xc N))), (3, .int (sumI (fun k => Xc (169 + 9 * k + 4)) N)), (6, .int (nI 1)), (7, .int (nI a))] dL_isChip_429 (by decide) rfl ?_
                refine x_iinc_n h 8 (n := 1) [(7, .int (nI (a + 1))), (5, .int (nI (y + 0))), (8, .int (-1000004)), (4, .int (nI (f + 1))), (0, .ref (g.1 144)), (1, .int (nI (sumN (fun k => wir Xc (nI k)) N))), (2, .int (nI (joinedN Xc N))), (3, .int (sumI (fun k => Xc (169 + 9 * k + 4)) N)), (6, .int (nI 1))] dL_isChip_431 rfl (by decide) rfl ?_
                refine x_goto h 321 dL_isChip_434 (by decide) ?_
                exact x_lv (ih321 (a + 1) (f + 1) (y + 0) (by omega) (by omega) (by first | exact kc_y (decide_eq_true c_344) hf | exact kc_n (decide_eq_false c_344) hf) (by omega) (by first | exact crs_y hO hN6 (by omega) ⟨c_359, c_386, c_397, c_402, c_409, c_420⟩ hy | exact crs_n hO hN6 (by omega) (fun q => q.2.1 c_386) hy | exact crs_n hO hN6 (by omega) (fun q => q.2.2.1 c_397) hy | exact crs_n hO hN6 (by omega) (fun q => q.2.2.2.1 c_402) hy | exact crs_n hO hN6 (by omega) (fun q => q.2.2.2.2.1 c_409) hy | exact crs_n hO hN6 (by omega) (fun q => q.2.2.2.2.2 c_420) hy | exact crs_n hO hN6 (by omega) (fun q => absurd q.1 (by omega)) hy) (by omega)) [4, 5, 6, 7, 3, 1, 8, 0] rfl
              · -- 397 false
                refine x_iload h 0 dL_isChip_400 rfl ?_
                refine x_if_lt h 427 dL_isChip_402 (by decide) (fun _ => ?_) (fun c => absurd (by decide) c)
                refine x_iconst h (nI 0) dL_isChip_427 (by decide) ?_
                refine x_iadd_n h dL_isChip_428 ?_
                refine x_istore h [(5, .int (nI (y + 0))), (8, .int (-1000004)), (4, .int (nI (f + 1))), (0, .ref (g.1 144)), (1, .int (nI (sumN (fun k => wir Xc (nI k)) N))), (2, .int (nI (joinedN Xc N))), (3, .int (sumI (fun k => Xc (169 + 9 * k + 4)) N)), (6, .int (nI 1)), (7, .int (nI a))] dL_isChip_429 (by decide) rfl ?_
                refine x_iinc_n h 8 (n := 1) [(7, .int (nI (a + 1))), (5, .int (nI (y + 0))), (8, .int (-1000004)), (4, .int (nI (f + 1))), (0, .ref (g.1 144)), (1, .int (nI (sumN (fun k => wir Xc (nI k)) N))), (2, .int (nI (joinedN Xc N))), (3, .int (sumI (fun k => Xc (169 + 9 * k + 4)) N)), (6, .int (nI 1))] dL_isChip_431 rfl (by decide) rfl ?_
                refine x_goto h 321 dL_isChip_434 (by decide) ?_
                exact x_lv (ih321 (a + 1) (f + 1) (y + 0) (by omega) (by omega) (by first | exact kc_y (decide_eq_true c_344) hf | exact kc_n (decide_eq_false c_344) hf) (by omega) (by first | exact crs_y hO hN6 (by omega) ⟨c_359, c_386, c_397, c_402, c_409, c_420⟩ hy | exact crs_n hO hN6 (by omega) (fun q => q.2.1 c_386) hy | exact crs_n hO hN6 (by omega) (fun q => q.2.2.1 c_397) hy | exact crs_n hO hN6 (by omega) (fun q => q.2.2.2.1 c_402) hy | exact crs_n hO hN6 (by omega) (fun q => q.2.2.2.2.1 c_409) hy | exact crs_n hO hN6 (by omega) (fun q => q.2.2.2.2.2 c_420) hy | exact crs_n hO hN6 (by omega) (fun q => absurd q.1 (by omega)) hy) (by omega)) [4, 5, 6, 7, 3, 1, 8, 0] rfl
          · -- 359 false
            refine x_aload_n h 1 dL_isChip_362 rfl rfl ?_
            refine x_bipush h (nI 81) dL_isChip_363 (by decide) ?_
            refine x_iload h 7 dL_isChip_365 rfl ?_
            refine x_iadd_n h dL_isChip_367 ?_
            refine x_callV h (As := [.int (nI (81 + a))]) 1 hx (c_X5_cellOf hW.hP hW.hI) gL_isChip_X5_cellOf rfl ⟨rfl, rfl⟩ (by decide +kernel) rfl (by decide) (by decide) E_144 rfl rfl (Nat.le_of_ble_eq_true rfl) dL_isChip_368 (fun a368_1 M' P' hp => ?_)
            rw [hX] at hp
            obtain ⟨⟨rfl, rfl⟩, hQ⟩ := hp
            have hz := cell_at (by omega) hQ
            clear hQ
            subst hz
            refine x_goto h 376 dL_isChip_371 (by decide) ?_
            refine x_istore h [(8, .int (cellV Xc (81 + a))), (4, .int (nI (f + 1))), (0, .ref (g.1 144)), (1, .int (nI (sumN (fun k => wir Xc (nI k)) N))), (2, .int (nI (joinedN Xc N))), (3, .int (sumI (fun k => Xc (169 + 9 * k + 4)) N)), (5, .int (nI y)), (6, .int (nI 1)), (7, .int (nI a))] dL_isChip_376 (by decide) rfl ?_
            refine x_iload h 6 dL_isChip_378 rfl ?_
            refine x_aload_n h 2 dL_isChip_380 rfl rfl ?_
            refine x_iload h 8 dL_isChip_381 rfl ?_
            refine x_callV h (As := [.int (nI a)]) 1 hx (c_X5_cellOf hW.hP hW.hI) gL_isChip_X5_cellOf rfl ⟨rfl, rfl⟩ (by decide +kernel) rfl (by decide) (by decide) E_144 rfl rfl (Nat.le_of_ble_eq_true rfl) dL_isChip_383 (fun a383_3 M' P' hp => ?_)
            rw [hX] at hp
            obtain ⟨⟨rfl, rfl⟩, hQ⟩ := hp
            have hz := cell_at (by omega) hQ
            clear hQ
            subst hz
            refine x_if_lt h 427 dL_isChip_386 (by decide) (fun c_386 => ?_) (fun c_386 => ?_)
            · -- 386 true
              refine x_iconst h (nI 0) dL_isChip_427 (by decide) ?_
              refine x_iadd_n h dL_isChip_428 ?_
              refine x_istore h [(5, .int (nI (y + 0))), (8, .int (cellV Xc (81 + a))), (4, .int (nI (f + 1))), (0, .ref (g.1 144)), (1, .int (nI (sumN (fun k => wir Xc (nI k)) N))), (2, .int (nI (joinedN Xc N))), (3, .int (sumI (fun k => Xc (169 + 9 * k + 4)) N)), (6, .int (nI 1)), (7, .int (nI a))] dL_isChip_429 (by decide) rfl ?_
              refine x_iinc_n h 8 (n := 1) [(7, .int (nI (a + 1))), (5, .int (nI (y + 0))), (8, .int (cellV Xc (81 + a))), (4, .int (nI (f + 1))), (0, .ref (g.1 144)), (1, .int (nI (sumN (fun k => wir Xc (nI k)) N))), (2, .int (nI (joinedN Xc N))), (3, .int (sumI (fun k => Xc (169 + 9 * k + 4)) N)), (6, .int (nI 1))] dL_isChip_431 rfl (by decide) rfl ?_
              refine x_goto h 321 dL_isChip_434 (by decide) ?_
              exact x_lv (ih321 (a + 1) (f + 1) (y + 0) (by omega) (by omega) (by first | exact kc_y (decide_eq_true c_344) hf | exact kc_n (decide_eq_false c_344) hf) (by omega) (by first | exact crs_y hO hN6 (by omega) ⟨c_359, c_386, c_397, c_402, c_409, c_420⟩ hy | exact crs_n hO hN6 (by omega) (fun q => q.2.1 c_386) hy | exact crs_n hO hN6 (by omega) (fun q => q.2.2.1 c_397) hy | exact crs_n hO hN6 (by omega) (fun q => q.2.2.2.1 c_402) hy | exact crs_n hO hN6 (by omega) (fun q => q.2.2.2.2.1 c_409) hy | exact crs_n hO hN6 (by omega) (fun q => q.2.2.2.2.2 c_420) hy | exact crs_n hO hN6 (by omega) (fun q => absurd q.1 (by omega)) hy) (by omega)) [4, 5, 6, 7, 3, 1, 8, 0] rfl
            · -- 386 false
              refine x_aload_n h 2 dL_isChip_389 rfl rfl ?_
              refine x_iload h 8 dL_isChip_390 rfl ?_
              refine x_callV h (As := [.int (nI a)]) 1 hx (c_X5_cellOf hW.hP hW.hI) gL_isChip_X5_cellOf rfl ⟨rfl, rfl⟩ (by decide +kernel) rfl (by decide) (by decide) E_144 rfl rfl (Nat.le_of_ble_eq_true rfl) dL_isChip_392 (fun a392_3 M' P' hp => ?_)
              rw [hX] at hp
              obtain ⟨⟨rfl, rfl⟩, hQ⟩ := hp
              have hz := cell_at (by omega) hQ
              clear hQ
              subst hz
              refine x_bipush h (nI 6) dL_isChip_395 (by decide) ?_
              refine x_icmp_ge h 427 dL_isChip_397 (by decide) (fun c_397 => ?_) (fun c_397 => ?_)
              · -- 397 true
                refine x_iconst h (nI 0) dL_isChip_427 (by decide) ?_
                refine x_iadd_n h dL_isChip_428 ?_
                refine x_istore h [(5, .int (nI (y + 0))), (8, .int (cellV Xc (81 + a))), (4, .int (nI (f + 1))), (0, .ref (g.1 144)), (1, .int (nI (sumN (fun k => wir Xc (nI k)) N))), (2, .int (nI (joinedN Xc N))), (3, .int (sumI (fun k => Xc (169 + 9 * k + 4)) N)), (6, .int (nI 1)), (7, .int (nI a))] dL_isChip_429 (by decide) rfl ?_
                refine x_iinc_n h 8 (n := 1) [(7, .int (nI (a + 1))), (5, .int (nI (y + 0))), (8, .int (cellV Xc (81 + a))), (4, .int (nI (f + 1))), (0, .ref (g.1 144)), (1, .int (nI (sumN (fun k => wir Xc (nI k)) N))), (2, .int (nI (joinedN Xc N))), (3, .int (sumI (fun k => Xc (169 + 9 * k + 4)) N)), (6, .int (nI 1))] dL_isChip_431 rfl (by decide) rfl ?_
                refine x_goto h 321 dL_isChip_434 (by decide) ?_
                exact x_lv (ih321 (a + 1) (f + 1) (y + 0) (by omega) (by omega) (by first | exact kc_y (decide_eq_true c_344) hf | exact kc_n (decide_eq_false c_344) hf) (by omega) (by first | exact crs_y hO hN6 (by omega) ⟨c_359, c_386, c_397, c_402, c_409, c_420⟩ hy | exact crs_n hO hN6 (by omega) (fun q => q.2.1 c_386) hy | exact crs_n hO hN6 (by omega) (fun q => q.2.2.1 c_397) hy | exact crs_n hO hN6 (by omega) (fun q => q.2.2.2.1 c_402) hy | exact crs_n hO hN6 (by omega) (fun q => q.2.2.2.2.1 c_409) hy | exact crs_n hO hN6 (by omega) (fun q => q.2.2.2.2.2 c_420) hy | exact crs_n hO hN6 (by omega) (fun q => absurd q.1 (by omega)) hy) (by omega)) [4, 5, 6, 7, 3, 1, 8, 0] rfl
              · -- 397 false
                refine x_iload h 0 dL_isChip_400 rfl ?_
                refine x_if_lt h 427 dL_isChip_402 (by decide) (fun c_402 => ?_) (fun c_402 => ?_)
                · -- 402 true
                  refine x_iconst h (nI 0) dL_isChip_427 (by decide) ?_
                  refine x_iadd_n h dL_isChip_428 ?_
                  refine x_istore h [(5, .int (nI (y + 0))), (8, .int (cellV Xc (81 + a))), (4, .int (nI (f + 1))), (0, .ref (g.1 144)), (1, .int (nI (sumN (fun k => wir Xc (nI k)) N))), (2, .int (nI (joinedN Xc N))), (3, .int (sumI (fun k => Xc (169 + 9 * k + 4)) N)), (6, .int (nI 1)), (7, .int (nI a))] dL_isChip_429 (by decide) rfl ?_
                  refine x_iinc_n h 8 (n := 1) [(7, .int (nI (a + 1))), (5, .int (nI (y + 0))), (8, .int (cellV Xc (81 + a))), (4, .int (nI (f + 1))), (0, .ref (g.1 144)), (1, .int (nI (sumN (fun k => wir Xc (nI k)) N))), (2, .int (nI (joinedN Xc N))), (3, .int (sumI (fun k => Xc (169 + 9 * k + 4)) N)), (6, .int (nI 1))] dL_isChip_431 rfl (by decide) rfl ?_
                  refine x_goto h 321 dL_isChip_434 (by decide) ?_
                  exact x_lv (ih321 (a + 1) (f + 1) (y + 0) (by omega) (by omega) (by first | exact kc_y (decide_eq_true c_344) hf | exact kc_n (decide_eq_false c_344) hf) (by omega) (by first | exact crs_y hO hN6 (by omega) ⟨c_359, c_386, c_397, c_402, c_409, c_420⟩ hy | exact crs_n hO hN6 (by omega) (fun q => q.2.1 c_386) hy | exact crs_n hO hN6 (by omega) (fun q => q.2.2.1 c_397) hy | exact crs_n hO hN6 (by omega) (fun q => q.2.2.2.1 c_402) hy | exact crs_n hO hN6 (by omega) (fun q => q.2.2.2.2.1 c_409) hy | exact crs_n hO hN6 (by omega) (fun q => q.2.2.2.2.2 c_420) hy | exact crs_n hO hN6 (by omega) (fun q => absurd q.1 (by omega)) hy) (by omega)) [4, 5, 6, 7, 3, 1, 8, 0] rfl
                · -- 402 false
                  refine x_iload h 0 dL_isChip_405 rfl ?_
                  refine x_bipush h (nI 6) dL_isChip_407 (by decide) ?_
                  refine x_icmp_ge h 427 dL_isChip_409 (by decide) (fun c_409 => ?_) (fun c_409 => ?_)
                  · -- 409 true
                    refine x_iconst h (nI 0) dL_isChip_427 (by decide) ?_
                    refine x_iadd_n h dL_isChip_428 ?_
                    refine x_istore h [(5, .int (nI (y + 0))), (8, .int (cellV Xc (81 + a))), (4, .int (nI (f + 1))), (0, .ref (g.1 144)), (1, .int (nI (sumN (fun k => wir Xc (nI k)) N))), (2, .int (nI (joinedN Xc N))), (3, .int (sumI (fun k => Xc (169 + 9 * k + 4)) N)), (6, .int (nI 1)), (7, .int (nI a))] dL_isChip_429 (by decide) rfl ?_
                    refine x_iinc_n h 8 (n := 1) [(7, .int (nI (a + 1))), (5, .int (nI (y + 0))), (8, .int (cellV Xc (81 + a))), (4, .int (nI (f + 1))), (0, .ref (g.1 144)), (1, .int (nI (sumN (fun k => wir Xc (nI k)) N))), (2, .int (nI (joinedN Xc N))), (3, .int (sumI (fun k => Xc (169 + 9 * k + 4)) N)), (6, .int (nI 1))] dL_isChip_431 rfl (by decide) rfl ?_
                    refine x_goto h 321 dL_isChip_434 (by decide) ?_
                    exact x_lv (ih321 (a + 1) (f + 1) (y + 0) (by omega) (by omega) (by first | exact kc_y (decide_eq_true c_344) hf | exact kc_n (decide_eq_false c_344) hf) (by omega) (by first | exact crs_y hO hN6 (by omega) ⟨c_359, c_386, c_397, c_402, c_409, c_420⟩ hy | exact crs_n hO hN6 (by omega) (fun q => q.2.1 c_386) hy | exact crs_n hO hN6 (by omega) (fun q => q.2.2.1 c_397) hy | exact crs_n hO hN6 (by omega) (fun q => q.2.2.2.1 c_402) hy | exact crs_n hO hN6 (by omega) (fun q => q.2.2.2.2.1 c_409) hy | exact crs_n hO hN6 (by omega) (fun q => q.2.2.2.2.2 c_420) hy | exact crs_n hO hN6 (by omega) (fun q => absurd q.1 (by omega)) hy) (by omega)) [4, 5, 6, 7, 3, 1, 8, 0] rfl
                  · -- 409 false
                    refine x_iload h 0 dL_isChip_412 rfl ?_
                    refine x_aload_n h 2 dL_isChip_414 rfl rfl ?_
                    refine x_iload h 8 dL_isChip_415 rfl ?_
                    refine x_callV h (As := [.int (nI a)]) 1 hx (c_X5_cellOf hW.hP hW.hI) gL_isChip_X5_cellOf rfl ⟨rfl, rfl⟩ (by decide +kernel) rfl (by decide) (by decide) E_144 rfl rfl (Nat.le_of_ble_eq_true rfl) dL_isChip_417 (fun a417_1 M' P' hp => ?_)
                    rw [hX] at hp
                    obtain ⟨⟨rfl, rfl⟩, hQ⟩ := hp
                    have hz := cell_at (by omega) hQ
                    clear hQ
                    subst hz
                    refine x_icmp_eq h 427 dL_isChip_420 (by decide) (fun c_420 => ?_) (fun c_420 => ?_)
                    · -- 420 true
                      refine x_iconst h (nI 0) dL_isChip_427 (by decide) ?_
                      refine x_iadd_n h dL_isChip_428 ?_
                      refine x_istore h [(5, .int (nI (y + 0))), (8, .int (cellV Xc (81 + a))), (4, .int (nI (f + 1))), (0, .ref (g.1 144)), (1, .int (nI (sumN (fun k => wir Xc (nI k)) N))), (2, .int (nI (joinedN Xc N))), (3, .int (sumI (fun k => Xc (169 + 9 * k + 4)) N)), (6, .int (nI 1)), (7, .int (nI a))] dL_isChip_429 (by decide) rfl ?_
                      refine x_iinc_n h 8 (n := 1) [(7, .int (nI (a + 1))), (5, .int (nI (y + 0))), (8, .int (cellV Xc (81 + a))), (4, .int (nI (f + 1))), (0, .ref (g.1 144)), (1, .int (nI (sumN (fun k => wir Xc (nI k)) N))), (2, .int (nI (joinedN Xc N))), (3, .int (sumI (fun k => Xc (169 + 9 * k + 4)) N)), (6, .int (nI 1))] dL_isChip_431 rfl (by decide) rfl ?_
                      refine x_goto h 321 dL_isChip_434 (by decide) ?_
                      exact x_lv (ih321 (a + 1) (f + 1) (y + 0) (by omega) (by omega) (by first | exact kc_y (decide_eq_true c_344) hf | exact kc_n (decide_eq_false c_344) hf) (by omega) (by first | exact crs_y hO hN6 (by omega) ⟨c_359, c_386, c_397, c_402, c_409, c_420⟩ hy | exact crs_n hO hN6 (by omega) (fun q => q.2.1 c_386) hy | exact crs_n hO hN6 (by omega) (fun q => q.2.2.1 c_397) hy | exact crs_n hO hN6 (by omega) (fun q => q.2.2.2.1 c_402) hy | exact crs_n hO hN6 (by omega) (fun q => q.2.2.2.2.1 c_409) hy | exact crs_n hO hN6 (by omega) (fun q => q.2.2.2.2.2 c_420) hy | exact crs_n hO hN6 (by omega) (fun q => absurd q.1 (by omega)) hy) (by omega)) [4, 5, 6, 7, 3, 1, 8, 0] rfl
                    · -- 420 false
                      refine x_iconst h (nI 1) dL_isChip_423 (by decide) ?_
                      refine x_goto h 428 dL_isChip_424 (by decide) ?_
                      refine x_iadd_n h dL_isChip_428 ?_
                      refine x_istore h [(5, .int (nI (y + 1))), (8, .int (cellV Xc (81 + a))), (4, .int (nI (f + 1))), (0, .ref (g.1 144)), (1, .int (nI (sumN (fun k => wir Xc (nI k)) N))), (2, .int (nI (joinedN Xc N))), (3, .int (sumI (fun k => Xc (169 + 9 * k + 4)) N)), (6, .int (nI 1)), (7, .int (nI a))] dL_isChip_429 (by decide) rfl ?_
                      refine x_iinc_n h 8 (n := 1) [(7, .int (nI (a + 1))), (5, .int (nI (y + 1))), (8, .int (cellV Xc (81 + a))), (4, .int (nI (f + 1))), (0, .ref (g.1 144)), (1, .int (nI (sumN (fun k => wir Xc (nI k)) N))), (2, .int (nI (joinedN Xc N))), (3, .int (sumI (fun k => Xc (169 + 9 * k + 4)) N)), (6, .int (nI 1))] dL_isChip_431 rfl (by decide) rfl ?_
                      refine x_goto h 321 dL_isChip_434 (by decide) ?_
                      exact x_lv (ih321 (a + 1) (f + 1) (y + 1) (by omega) (by omega) (by first | exact kc_y (decide_eq_true c_344) hf | exact kc_n (decide_eq_false c_344) hf) (by omega) (by first | exact crs_y hO hN6 (by omega) ⟨c_359, c_386, c_397, c_402, c_409, c_420⟩ hy | exact crs_n hO hN6 (by omega) (fun q => q.2.1 c_386) hy | exact crs_n hO hN6 (by omega) (fun q => q.2.2.1 c_397) hy | exact crs_n hO hN6 (by omega) (fun q => q.2.2.2.1 c_402) hy | exact crs_n hO hN6 (by omega) (fun q => q.2.2.2.2.1 c_409) hy | exact crs_n hO hN6 (by omega) (fun q => q.2.2.2.2.2 c_420) hy | exact crs_n hO hN6 (by omega) (fun q => absurd q.1 (by omega)) hy) (by omega)) [4, 5, 6, 7, 3, 1, 8, 0] rfl
  exact x_lv (L321 _ 0 0 0 (Nat.lt_succ_self _) (by omega) (by rfl) (by omega) (by rfl) (by omega)) [1, 2, 3, 4, 5, 6, 7, 0] rfl

set_option maxRecDepth 100000 in
set_option maxHeartbeats 16000000 in
theorem ic_3 {x : Ctx} {g : Geo} {l : Launch} {M : Nat → Nat → Int32} {P : Nat → Nat} {Xc : Nat → Int32} {N K B A s : Nat} (hx : x.1.2.1 = l) (h : Cxk x g cL_isChip 13 wsL_isChip RL rmL_isChip) (hW : WI M P N K B A s) (hX : M (P 0) = Xc) {f y : Nat} (hfe : f = wir Xc eC.1) (hye : y = cross eC Xc N) (kk : X x 648 [(0, .ref (g.1 144)), (1, .int (nI (sumN (fun k => wir Xc (nI k)) N))), (2, .int (nI (joinedN Xc N))), (3, .int (sumI (fun k => Xc (169 + 9 * k + 4)) N)), (4, .int (nI f)), (5, .int (nI y)), (6, .int (nI 1)), (7, .int (wrg Xc K)), (8, .int (nI (appl Xc K)))] [] M P) : X x 437 [(0, .ref (g.1 144)), (1, .int (nI (sumN (fun k => wir Xc (nI k)) N))), (2, .int (nI (joinedN Xc N))), (3, .int (sumI (fun k => Xc (169 + 9 * k + 4)) N)), (4, .int (nI f)), (5, .int (nI y)), (6, .int (nI 1))] [] M P := by
  have hN6 := hW.N6
  have hK12 := hW.K12
  have hG0 : GI Xc N K B A := hX ▸ hW.hG
  have hI := hG0.1
  have hO : OwV eC Xc N := hI.1.2.1
  obtain ⟨-, hnw, ⟨ac, eac, hacA, hA30, hcl⟩, hmo, -, -⟩ := hG0
  have hap : appl Xc K ≤ K := appl_le
  have wir0 : ∀ k, k < N → jN Xc k ≠ 1 → wir Xc (nI k) = 0 := fun k hk hj => cnt_zero (fun a ha => decide_eq_false (hnw k hk ((jN_0 hj).trans nI_0.symm) a ha))
  have hf31 : f < 2 ^ 31 := by rw [hfe]; exact cnt_lt31 (by decide)
  have hy31 : y < 2 ^ 31 := by rw [hye]; exact cnt_lt31 (by decide)
  refine x_iconst h (nI 0) dL_isChip_437 (by decide) ?_
  refine x_istore h [(7, .int (nI 0)), (0, .ref (g.1 144)), (1, .int (nI (sumN (fun k => wir Xc (nI k)) N))), (2, .int (nI (joinedN Xc N))), (3, .int (sumI (fun k => Xc (169 + 9 * k + 4)) N)), (4, .int (nI f)), (5, .int (nI y)), (6, .int (nI 1))] dL_isChip_438 (by decide) rfl ?_
  refine x_iconst h (nI 0) dL_isChip_440 (by decide) ?_
  refine x_istore h [(8, .int (nI 0)), (7, .int (nI 0)), (0, .ref (g.1 144)), (1, .int (nI (sumN (fun k => wir Xc (nI k)) N))), (2, .int (nI (joinedN Xc N))), (3, .int (sumI (fun k => Xc (169 + 9 * k + 4)) N)), (4, .int (nI f)), (5, .int (nI y)), (6, .int (nI 1))] dL_isChip_441 (by decide) rfl ?_
  refine x_iconst h (nI 0) dL_isChip_443 (by decide) ?_
  refine x_istore h [(9, .int (nI 0)), (8, .int (nI 0)), (7, .int (nI 0)), (0, .ref (g.1 144)), (1, .int (nI (sumN (fun k => wir Xc (nI k)) N))), (2, .int (nI (joinedN Xc N))), (3, .int (sumI (fun k => Xc (169 + 9 * k + 4)) N)), (4, .int (nI f)), (5, .int (nI y)), (6, .int (nI 1))] dL_isChip_444 (by decide) rfl ?_
  have L446 : ∀ (fu : Nat) (i : Nat), (K - i) < fu → (i ≤ K) → X x 446 [(0, .ref (g.1 144)), (1, .int (nI (sumN (fun k => wir Xc (nI k)) N))), (2, .int (nI (joinedN Xc N))), (3, .int (sumI (fun k => Xc (169 + 9 * k + 4)) N)), (4, .int (nI f)), (5, .int (nI y)), (6, .int (nI 1)), (7, .int (wrg Xc i)), (8, .int (nI (appl Xc i))), (9, .int (nI i))] [] M P := by
    intro fu
    induction fu with
    | zero => intro i hmu446; exact absurd hmu446 (Nat.not_lt_zero _)
    | succ fu ih446 =>
      intro i hmu446 hi
      refine x_iload h 9 dL_isChip_446 rfl ?_
      refine x_aload_n h 0 dL_isChip_448 rfl rfl ?_
      refine x_iconst h (nI 4) dL_isChip_449 (by decide) ?_
      refine x_callV h (As := [.int (nI 4)]) 1 hx (c_X5_count hW.hP hW.hI hW.hs hW.hs4 hW.hln) gL_isChip_X5_count rfl ⟨rfl, rfl⟩ (by decide +kernel) rfl (by decide) (by decide) E_144 rfl rfl (Nat.le_of_ble_eq_true rfl) dL_isChip_450 (fun a450 M' P' hp => ?_)
      rw [hX] at hp
      obtain ⟨⟨rfl, rfl⟩, hQ⟩ := hp
      have hz := cnt_at (j := 4) (by omega) (by omega) (by omega) hQ
      clear hQ
      subst hz
      refine x_icmp_ge_n h 648 dL_isChip_453 (by decide) (by first | omega | exact jN_lt | exact sumw_lt hN6 (by omega) | exact cnt_lt31 (by decide) | exact cnt_lt31 (by omega)) (by first | omega | exact jN_lt | exact sumw_lt hN6 (by omega) | exact cnt_lt31 (by decide) | exact cnt_lt31 (by omega)) (fun c_453 => ?_) (fun c_453 => ?_)
      · -- 453 true
        obtain rfl : K = i := by omega
        exact x_lv (kk) [0, 1, 2, 3, 4, 5, 6, 7, 8] rfl
      · -- 453 false
        refine x_iload h 6 dL_isChip_456 rfl ?_
        refine x_if_eq h 648 dL_isChip_458 (by decide) (fun c => absurd c (by decide)) (fun _ => ?_)
        obtain ⟨ho, d, cc, q, e0, e1, hh, hd, hne, e2, hc0, hc2, e6, hq⟩ := hcl i c_453
        refine x_aload_n h 0 dL_isChip_461 rfl rfl ?_
        refine x_bipush h (nI 22) dL_isChip_462 (by decide) ?_
        refine x_callV h (As := [.int (nI 22)]) 1 hx (c_X5_count hW.hP hW.hI hW.hs hW.hs4 hW.hln) gL_isChip_X5_count rfl ⟨rfl, rfl⟩ (by decide +kernel) rfl (by decide) (by decide) E_144 rfl rfl (Nat.le_of_ble_eq_true rfl) dL_isChip_464 (fun a464 M' P' hp => ?_)
        rw [hX] at hp
        obtain ⟨⟨rfl, rfl⟩, hQ⟩ := hp
        have hz := cnt_at (j := 22) (by omega) (by omega) (by omega) hQ
        clear hQ
        subst hz
        refine x_aload_n h 0 dL_isChip_467 rfl rfl ?_
        refine x_iload h 9 dL_isChip_468 rfl ?_
        refine x_iconst h (nI 2) dL_isChip_470 (by decide) ?_
        refine x_callV h (As := [.int (nI i), .int (nI 2)]) 2 hx (c_X5_claimOf hW.hP hW.hI) gL_isChip_X5_claimOf rfl ⟨rfl, rfl⟩ (by decide +kernel) rfl (by decide) (by decide) E_144 rfl rfl (Nat.le_of_ble_eq_true rfl) dL_isChip_471 (fun a471 M' P' hp => ?_)
        rw [hX] at hp
        obtain ⟨⟨rfl, rfl⟩, hQ⟩ := hp
        have hz := (clm_at (i := i) (j := 2) hK12 (by omega) (by omega) hQ)
        clear hQ
        subst hz
        refine x_imul h dL_isChip_474 ?_
        refine x_aload_n h 0 dL_isChip_475 rfl rfl ?_
        refine x_bipush h (nI 20) dL_isChip_476 (by decide) ?_
        refine x_callV h (As := [.int (nI 20)]) 1 hx (c_X5_count hW.hP hW.hI hW.hs hW.hs4 hW.hln) gL_isChip_X5_count rfl ⟨rfl, rfl⟩ (by decide +kernel) rfl (by decide) (by decide) E_144 rfl rfl (Nat.le_of_ble_eq_true rfl) dL_isChip_478 (fun a478 M' P' hp => ?_)
        rw [hX] at hp
        obtain ⟨⟨rfl, rfl⟩, hQ⟩ := hp
        have hz := cnt_at (j := 20) (by omega) (by omega) (by omega) hQ
        clear hQ
        subst hz
        refine x_aload_n h 0 dL_isChip_481 rfl rfl ?_
        refine x_iload h 9 dL_isChip_482 rfl ?_
        refine x_iconst h (nI 3) dL_isChip_484 (by decide) ?_
        refine x_callV h (As := [.int (nI i), .int (nI 3)]) 2 hx (c_X5_claimOf hW.hP hW.hI) gL_isChip_X5_claimOf rfl ⟨rfl, rfl⟩ (by decide +kernel) rfl (by decide) (by decide) E_144 rfl rfl (Nat.le_of_ble_eq_true rfl) dL_isChip_485 (fun a485 M' P' hp => ?_)
        rw [hX] at hp
        obtain ⟨⟨rfl, rfl⟩, hQ⟩ := hp
        have hz := (clm_at (i := i) (j := 3) hK12 (by omega) (by omega) hQ)
        clear hQ
        subst hz
        refine x_imul h dL_isChip_488 ?_
        refine x_iadd h dL_isChip_489 ?_
        refine x_top (lossX Xc i) (rfl) ?_
        refine x_istore h [(10, .int (lossX Xc i)), (0, .ref (g.1 144)), (1, .int (nI (sumN (fun k => wir Xc (nI k)) N))), (2, .int (nI (joinedN Xc N))), (3, .int (sumI (fun k => Xc (169 + 9 * k + 4)) N)), (4, .int (nI f)), (5, .int (nI y)), (6, .int (nI 1)), (7, .int (wrg Xc i)), (8, .int (nI (appl Xc i))), (9, .int (nI i))] dL_isChip_490 (by decide) rfl ?_
        refine x_iload h 9 dL_isChip_492 rfl ?_
        refine x_aload_n h 1 dL_isChip_494 rfl rfl ?_
        refine x_iload h 10 dL_isChip_495 rfl ?_
        refine x_bipush h (nI 6) dL_isChip_497 (by decide) ?_
        refine x_callV h (As := [.int (nI i), .int (nI 6)]) 2 hx (c_X5_claimOf hW.hP hW.hI) gL_isChip_X5_claimOf rfl ⟨rfl, rfl⟩ (by decide +kernel) rfl (by decide) (by decide) E_144 rfl rfl (Nat.le_of_ble_eq_true rfl) dL_isChip_499 (fun a499 M' P' hp => ?_)
        rw [hX] at hp
        obtain ⟨⟨rfl, rfl⟩, hQ⟩ := hp
        have hz := (clm_at (i := i) (j := 6) hK12 (by omega) (by omega) hQ)
        clear hQ
        subst hz
        refine x_iconst h (nI 1) dL_isChip_502 (by decide) ?_
        refine x_icmp_ne h 510 dL_isChip_503 (by decide) (fun c_503 => ?_) (fun c_503 => ?_)
        · -- 503 true
          refine x_iconst h (nI 0) dL_isChip_510 (by decide) ?_
          refine x_iadd_n h dL_isChip_511 ?_
          refine x_top (nI (appl Xc (i + 1))) (by rw [appl_s, if_neg (show ¬ Xc (223 + 13 * i + 5) = nI 1 from c_503)]) ?_
          refine x_istore h [(8, .int (nI (appl Xc (i + 1)))), (10, .int (lossX Xc i)), (0, .ref (g.1 144)), (1, .int (nI (sumN (fun k => wir Xc (nI k)) N))), (2, .int (nI (joinedN Xc N))), (3, .int (sumI (fun k => Xc (169 + 9 * k + 4)) N)), (4, .int (nI f)), (5, .int (nI y)), (6, .int (nI 1)), (7, .int (wrg Xc i)), (9, .int (nI i))] dL_isChip_512 (by decide) rfl ?_
          refine x_iload h 9 dL_isChip_514 rfl ?_
          refine x_aload_n h 2 dL_isChip_516 rfl rfl ?_
          refine x_aload_n h 2 dL_isChip_517 rfl rfl ?_
          refine x_iload h 10 dL_isChip_518 rfl ?_
          refine x_iconst h (nI 0) dL_isChip_520 (by decide) ?_
          refine x_callV h (As := [.int (nI i), .int (nI 0)]) 2 hx (c_X5_claimOf hW.hP hW.hI) gL_isChip_X5_claimOf rfl ⟨rfl, rfl⟩ (by decide +kernel) rfl (by decide) (by decide) E_144 rfl rfl (Nat.le_of_ble_eq_true rfl) dL_isChip_521 (fun a521 M' P' hp => ?_)
          rw [hX] at hp
          obtain ⟨⟨rfl, rfl⟩, hQ⟩ := hp
          have hz := (clm_at (i := i) (j := 0) hK12 (by omega) (by omega) hQ).trans e0
          clear hQ
          subst hz
          refine x_iconst h (nI 5) dL_isChip_524 (by decide) ?_
          refine x_callV h (As := [.int (nI ho), .int (nI 5)]) 2 hx (c_X5_netOf hW.hP hW.hI) gL_isChip_X5_netOf rfl ⟨rfl, rfl⟩ (by decide +kernel) rfl (by decide) (by decide) E_144 rfl rfl (Nat.le_of_ble_eq_true rfl) dL_isChip_525 (fun a525 M' P' hp => ?_)
          rw [hX] at hp
          obtain ⟨⟨rfl, rfl⟩, hQ⟩ := hp
          have hz := (net_at (k := ho) (j := 5) hN6 (by omega) (by omega) hQ).trans (fNet5 Xc ho)
          clear hQ
          subst hz
          refine x_if_ne_n h 555 dL_isChip_528 (by decide) (by first | omega | exact jN_lt | exact sumw_lt hN6 (by omega) | exact cnt_lt31 (by decide) | exact cnt_lt31 (by omega)) (fun c_528 => ?_) (fun c_528 => ?_)
          · -- 528 true
            refine x_iconst h (nI 0) dL_isChip_555 (by decide) ?_
            refine x_ior h dL_isChip_556 ?_
            refine x_top (wrg Xc (i + 1)) (wrg_n e0 (by omega) (by first | exact Or.inl c_528 | exact Or.inr c_540)) ?_
            refine x_istore h [(7, .int (wrg Xc (i + 1))), (8, .int (nI (appl Xc (i + 1)))), (10, .int (lossX Xc i)), (0, .ref (g.1 144)), (1, .int (nI (sumN (fun k => wir Xc (nI k)) N))), (2, .int (nI (joinedN Xc N))), (3, .int (sumI (fun k => Xc (169 + 9 * k + 4)) N)), (4, .int (nI f)), (5, .int (nI y)), (6, .int (nI 1)), (9, .int (nI i))] dL_isChip_557 (by decide) rfl ?_
            refine x_aload_n h 3 dL_isChip_559 rfl rfl ?_
            refine x_iload h 10 dL_isChip_560 rfl ?_
            refine x_iconst h (nI 5) dL_isChip_562 (by decide) ?_
            refine x_callV h (As := [.int (nI i), .int (nI 5)]) 2 hx (c_X5_claimOf hW.hP hW.hI) gL_isChip_X5_claimOf rfl ⟨rfl, rfl⟩ (by decide +kernel) rfl (by decide) (by decide) E_144 rfl rfl (Nat.le_of_ble_eq_true rfl) dL_isChip_563 (fun a563 M' P' hp => ?_)
            rw [hX] at hp
            obtain ⟨⟨rfl, rfl⟩, hQ⟩ := hp
            have hz := (clm_at (i := i) (j := 5) hK12 (by omega) (by omega) hQ)
            clear hQ
            subst hz
            refine x_iload h 2 dL_isChip_566 rfl ?_
            refine x_icmp_ne h 639 dL_isChip_568 (by decide) (fun c_568 => by exfalso; exact absurd rfl c_568) (fun c_568 => ?_)
            refine x_aload_n h 3 dL_isChip_571 rfl rfl ?_
            refine x_iload h 10 dL_isChip_572 rfl ?_
            refine x_iconst h (nI 0) dL_isChip_574 (by decide) ?_
            refine x_callV h (As := [.int (nI i), .int (nI 0)]) 2 hx (c_X5_claimOf hW.hP hW.hI) gL_isChip_X5_claimOf rfl ⟨rfl, rfl⟩ (by decide +kernel) rfl (by decide) (by decide) E_144 rfl rfl (Nat.le_of_ble_eq_true rfl) dL_isChip_575 (fun a575 M' P' hp => ?_)
            rw [hX] at hp
            obtain ⟨⟨rfl, rfl⟩, hQ⟩ := hp
            have hz := (clm_at (i := i) (j := 0) hK12 (by omega) (by omega) hQ).trans e0
            clear hQ
            subst hz
            refine x_aload_n h 3 dL_isChip_578 rfl rfl ?_
            refine x_iload h 10 dL_isChip_579 rfl ?_
            refine x_iconst h (nI 1) dL_isChip_581 (by decide) ?_
            refine x_callV h (As := [.int (nI i), .int (nI 1)]) 2 hx (c_X5_claimOf hW.hP hW.hI) gL_isChip_X5_claimOf rfl ⟨rfl, rfl⟩ (by decide +kernel) rfl (by decide) (by decide) E_144 rfl rfl (Nat.le_of_ble_eq_true rfl) dL_isChip_582 (fun a582 M' P' hp => ?_)
            rw [hX] at hp
            obtain ⟨⟨rfl, rfl⟩, hQ⟩ := hp
            have hz := (clm_at (i := i) (j := 1) hK12 (by omega) (by omega) hQ).trans e1
            clear hQ
            subst hz
            refine x_icmp_eq_n h 639 dL_isChip_585 (by decide) (by first | omega | exact jN_lt | exact sumw_lt hN6 (by omega) | exact cnt_lt31 (by decide) | exact cnt_lt31 (by omega)) (by first | omega | exact jN_lt | exact sumw_lt hN6 (by omega) | exact cnt_lt31 (by decide) | exact cnt_lt31 (by omega)) (fun c_585 => by exfalso; exact hne c_585) (fun c_585 => ?_)
            refine x_aload_n h 3 dL_isChip_588 rfl rfl ?_
            refine x_iload h 10 dL_isChip_589 rfl ?_
            refine x_iconst h (nI 2) dL_isChip_591 (by decide) ?_
            refine x_callV h (As := [.int (nI i), .int (nI 2)]) 2 hx (c_X5_claimOf hW.hP hW.hI) gL_isChip_X5_claimOf rfl ⟨rfl, rfl⟩ (by decide +kernel) rfl (by decide) (by decide) E_144 rfl rfl (Nat.le_of_ble_eq_true rfl) dL_isChip_592 (fun a592 M' P' hp => ?_)
            rw [hX] at hp
            obtain ⟨⟨rfl, rfl⟩, hQ⟩ := hp
            have hz := (clm_at (i := i) (j := 2) hK12 (by omega) (by omega) hQ).trans e2
            clear hQ
            subst hz
            refine x_if_le_n h 639 dL_isChip_595 (by decide) (by first | omega | exact jN_lt | exact sumw_lt hN6 (by omega) | exact cnt_lt31 (by decide) | exact cnt_lt31 (by omega)) (fun c_595 => by exfalso; omega) (fun c_595 => ?_)
            refine x_aload_n h 3 dL_isChip_598 rfl rfl ?_
            refine x_iload h 10 dL_isChip_599 rfl ?_
            refine x_bipush h (nI 7) dL_isChip_601 (by decide) ?_
            refine x_callV h (As := [.int (nI i), .int (nI 7)]) 2 hx (c_X5_claimOf hW.hP hW.hI) gL_isChip_X5_claimOf rfl ⟨rfl, rfl⟩ (by decide +kernel) rfl (by decide) (by decide) E_144 rfl rfl (Nat.le_of_ble_eq_true rfl) dL_isChip_603 (fun a603 M' P' hp => ?_)
            rw [hX] at hp
            obtain ⟨⟨rfl, rfl⟩, hQ⟩ := hp
            have hz := (clm_at (i := i) (j := 7) hK12 (by omega) (by omega) hQ).trans (show Xc 4 - Xc (223 + 13 * i + 6) = nI (ac - q) by rw [eac, e6, pk_sub hq])
            clear hQ
            subst hz
            refine x_if_lt_n h 639 dL_isChip_606 (by decide) (by first | omega | exact jN_lt | exact sumw_lt hN6 (by omega) | exact cnt_lt31 (by decide) | exact cnt_lt31 (by omega)) ?_
            refine x_iload h 10 dL_isChip_609 rfl ?_
            refine x_if_eq_n h 635 dL_isChip_611 (by decide) (by first | omega | exact jN_lt | exact sumw_lt hN6 (by omega) | exact cnt_lt31 (by decide) | exact cnt_lt31 (by omega)) (fun c_611 => ?_) (fun c_611 => ?_)
            · -- 611 true
              refine x_iconst h (nI 1) dL_isChip_635 (by decide) ?_
              refine x_goto h 640 dL_isChip_636 (by decide) ?_
              refine x_istore h [(6, .int (nI 1)), (7, .int (wrg Xc (i + 1))), (8, .int (nI (appl Xc (i + 1)))), (10, .int (lossX Xc i)), (0, .ref (g.1 144)), (1, .int (nI (sumN (fun k => wir Xc (nI k)) N))), (2, .int (nI (joinedN Xc N))), (3, .int (sumI (fun k => Xc (169 + 9 * k + 4)) N)), (4, .int (nI f)), (5, .int (nI y)), (9, .int (nI i))] dL_isChip_640 (by decide) rfl ?_
              refine x_iinc_n h 10 (n := 1) [(9, .int (nI (i + 1))), (6, .int (nI 1)), (7, .int (wrg Xc (i + 1))), (8, .int (nI (appl Xc (i + 1)))), (10, .int (lossX Xc i)), (0, .ref (g.1 144)), (1, .int (nI (sumN (fun k => wir Xc (nI k)) N))), (2, .int (nI (joinedN Xc N))), (3, .int (sumI (fun k => Xc (169 + 9 * k + 4)) N)), (4, .int (nI f)), (5, .int (nI y))] dL_isChip_642 rfl (by decide) rfl ?_
              refine x_goto h 446 dL_isChip_645 (by decide) ?_
              exact x_lv (ih446 (i + 1) (by omega) (by omega)) [5, 6, 7, 8, 9, 10, 1, 2, 3, 0] rfl
            · -- 611 false
              obtain ⟨h2, d2, cc2, q2, f0, f1, fh, fd, fne, f2, fc0, fc2, f6, hq2⟩ := hcl (i - 1) (by omega)
              have hmm := hmo (i - 1) (by omega)
              rw [show i - 1 + 1 = i by omega, f6, e6, nI_leI (by omega) (by omega)] at hmm
              refine x_aload_n h 3 dL_isChip_614 rfl rfl ?_
              refine x_iload h 10 dL_isChip_615 rfl ?_
              refine x_bipush h (nI 7) dL_isChip_617 (by decide) ?_
              refine x_callV h (As := [.int (nI i), .int (nI 7)]) 2 hx (c_X5_claimOf hW.hP hW.hI) gL_isChip_X5_claimOf rfl ⟨rfl, rfl⟩ (by decide +kernel) rfl (by decide) (by decide) E_144 rfl rfl (Nat.le_of_ble_eq_true rfl) dL_isChip_619 (fun a619 M' P' hp => ?_)
              rw [hX] at hp
              obtain ⟨⟨rfl, rfl⟩, hQ⟩ := hp
              have hz := (clm_at (i := i) (j := 7) hK12 (by omega) (by omega) hQ).trans (show Xc 4 - Xc (223 + 13 * i + 6) = nI (ac - q) by rw [eac, e6, pk_sub hq])
              clear hQ
              subst hz
              refine x_aload_n h 3 dL_isChip_622 rfl rfl ?_
              refine x_iload h 10 dL_isChip_623 rfl ?_
              refine x_iconst h (nI 1) dL_isChip_625 (by decide) ?_
              refine x_isub_n h dL_isChip_626 (by omega) ?_
              refine x_bipush h (nI 7) dL_isChip_627 (by decide) ?_
              refine x_callV h (As := [.int (nI (i - 1)), .int (nI 7)]) 2 hx (c_X5_claimOf hW.hP hW.hI) gL_isChip_X5_claimOf rfl ⟨rfl, rfl⟩ (by decide +kernel) rfl (by decide) (by decide) E_144 rfl rfl (Nat.le_of_ble_eq_true rfl) dL_isChip_629 (fun a629 M' P' hp => ?_)
              rw [hX] at hp
              obtain ⟨⟨rfl, rfl⟩, hQ⟩ := hp
              have hz := (clm_at (i := i - 1) (j := 7) hK12 (by omega) (by omega) hQ).trans (show Xc 4 - Xc (223 + 13 * (i - 1) + 6) = nI (ac - q2) by rw [eac, f6, pk_sub hq2])
              clear hQ
              subst hz
              refine x_icmp_gt_n h 639 dL_isChip_632 (by decide) (by first | omega | exact jN_lt | exact sumw_lt hN6 (by omega) | exact cnt_lt31 (by decide) | exact cnt_lt31 (by omega)) (by first | omega | exact jN_lt | exact sumw_lt hN6 (by omega) | exact cnt_lt31 (by decide) | exact cnt_lt31 (by omega)) (fun c_632 => by exfalso; omega) (fun c_632 => ?_)
              refine x_iconst h (nI 1) dL_isChip_635 (by decide) ?_
              refine x_goto h 640 dL_isChip_636 (by decide) ?_
              refine x_istore h [(6, .int (nI 1)), (7, .int (wrg Xc (i + 1))), (8, .int (nI (appl Xc (i + 1)))), (10, .int (lossX Xc i)), (0, .ref (g.1 144)), (1, .int (nI (sumN (fun k => wir Xc (nI k)) N))), (2, .int (nI (joinedN Xc N))), (3, .int (sumI (fun k => Xc (169 + 9 * k + 4)) N)), (4, .int (nI f)), (5, .int (nI y)), (9, .int (nI i))] dL_isChip_640 (by decide) rfl ?_
              refine x_iinc_n h 10 (n := 1) [(9, .int (nI (i + 1))), (6, .int (nI 1)), (7, .int (wrg Xc (i + 1))), (8, .int (nI (appl Xc (i + 1)))), (10, .int (lossX Xc i)), (0, .ref (g.1 144)), (1, .int (nI (sumN (fun k => wir Xc (nI k)) N))), (2, .int (nI (joinedN Xc N))), (3, .int (sumI (fun k => Xc (169 + 9 * k + 4)) N)), (4, .int (nI f)), (5, .int (nI y))] dL_isChip_642 rfl (by decide) rfl ?_
              refine x_goto h 446 dL_isChip_645 (by decide) ?_
              exact x_lv (ih446 (i + 1) (by omega) (by omega)) [5, 6, 7, 8, 9, 10, 1, 2, 3, 0] rfl
          · -- 528 false
            refine x_aload_n h 2 dL_isChip_531 rfl rfl ?_
            refine x_iload h 10 dL_isChip_532 rfl ?_
            refine x_iconst h (nI 4) dL_isChip_534 (by decide) ?_
            refine x_callV h (As := [.int (nI i), .int (nI 4)]) 2 hx (c_X5_claimOf hW.hP hW.hI) gL_isChip_X5_claimOf rfl ⟨rfl, rfl⟩ (by decide +kernel) rfl (by decide) (by decide) E_144 rfl rfl (Nat.le_of_ble_eq_true rfl) dL_isChip_535 (fun a535 M' P' hp => ?_)
            rw [hX] at hp
            obtain ⟨⟨rfl, rfl⟩, hQ⟩ := hp
            have hz := (clm_at (i := i) (j := 4) hK12 (by omega) (by omega) hQ)
            clear hQ
            subst hz
            refine x_iload h 1 dL_isChip_538 rfl ?_
            refine x_icmp_ge h 555 dL_isChip_540 (by decide) (fun c_540 => ?_) (fun c_540 => ?_)
            · -- 540 true
              refine x_iconst h (nI 0) dL_isChip_555 (by decide) ?_
              refine x_ior h dL_isChip_556 ?_
              refine x_top (wrg Xc (i + 1)) (wrg_n e0 (by omega) (by first | exact Or.inl c_528 | exact Or.inr c_540)) ?_
              refine x_istore h [(7, .int (wrg Xc (i + 1))), (8, .int (nI (appl Xc (i + 1)))), (10, .int (lossX Xc i)), (0, .ref (g.1 144)), (1, .int (nI (sumN (fun k => wir Xc (nI k)) N))), (2, .int (nI (joinedN Xc N))), (3, .int (sumI (fun k => Xc (169 + 9 * k + 4)) N)), (4, .int (nI f)), (5, .int (nI y)), (6, .int (nI 1)), (9, .int (nI i))] dL_isChip_557 (by decide) rfl ?_
              refine x_aload_n h 3 dL_isChip_559 rfl rfl ?_
              refine x_iload h 10 dL_isChip_560 rfl ?_
              refine x_iconst h (nI 5) dL_isChip_562 (by decide) ?_
              refine x_callV h (As := [.int (nI i), .int (nI 5)]) 2 hx (c_X5_claimOf hW.hP hW.hI) gL_isChip_X5_claimOf rfl ⟨rfl, rfl⟩ (by decide +kernel) rfl (by decide) (by decide) E_144 rfl rfl (Nat.le_of_ble_eq_true rfl) dL_isChip_563 (fun a563_1 M' P' hp => ?_)
              rw [hX] at hp
              obtain ⟨⟨rfl, rfl⟩, hQ⟩ := hp
              have hz := (clm_at (i := i) (j := 5) hK12 (by omega) (by omega) hQ)
              clear hQ
              subst hz
              refine x_iload h 2 dL_isChip_566 rfl ?_
              refine x_icmp_ne h 639 dL_isChip_568 (by decide) (fun c_568 => by exfalso; exact absurd rfl c_568) (fun c_568 => ?_)
              refine x_aload_n h 3 dL_isChip_571 rfl rfl ?_
              refine x_iload h 10 dL_isChip_572 rfl ?_
              refine x_iconst h (nI 0) dL_isChip_574 (by decide) ?_
              refine x_callV h (As := [.int (nI i), .int (nI 0)]) 2 hx (c_X5_claimOf hW.hP hW.hI) gL_isChip_X5_claimOf rfl ⟨rfl, rfl⟩ (by decide +kernel) rfl (by decide) (by decide) E_144 rfl rfl (Nat.le_of_ble_eq_true rfl) dL_isChip_575 (fun a575_1 M' P' hp => ?_)
              rw [hX] at hp
              obtain ⟨⟨rfl, rfl⟩, hQ⟩ := hp
              have hz := (clm_at (i := i) (j := 0) hK12 (by omega) (by omega) hQ).trans e0
              clear hQ
              subst hz
              refine x_aload_n h 3 dL_isChip_578 rfl rfl ?_
              refine x_iload h 10 dL_isChip_579 rfl ?_
              refine x_iconst h (nI 1) dL_isChip_581 (by decide) ?_
              refine x_callV h (As := [.int (nI i), .int (nI 1)]) 2 hx (c_X5_claimOf hW.hP hW.hI) gL_isChip_X5_claimOf rfl ⟨rfl, rfl⟩ (by decide +kernel) rfl (by decide) (by decide) E_144 rfl rfl (Nat.le_of_ble_eq_true rfl) dL_isChip_582 (fun a582_1 M' P' hp => ?_)
              rw [hX] at hp
              obtain ⟨⟨rfl, rfl⟩, hQ⟩ := hp
              have hz := (clm_at (i := i) (j := 1) hK12 (by omega) (by omega) hQ).trans e1
              clear hQ
              subst hz
              refine x_icmp_eq_n h 639 dL_isChip_585 (by decide) (by first | omega | exact jN_lt | exact sumw_lt hN6 (by omega) | exact cnt_lt31 (by decide) | exact cnt_lt31 (by omega)) (by first | omega | exact jN_lt | exact sumw_lt hN6 (by omega) | exact cnt_lt31 (by decide) | exact cnt_lt31 (by omega)) (fun c_585 => by exfalso; exact hne c_585) (fun c_585 => ?_)
              refine x_aload_n h 3 dL_isChip_588 rfl rfl ?_
              refine x_iload h 10 dL_isChip_589 rfl ?_
              refine x_iconst h (nI 2) dL_isChip_591 (by decide) ?_
              refine x_callV h (As := [.int (nI i), .int (nI 2)]) 2 hx (c_X5_claimOf hW.hP hW.hI) gL_isChip_X5_claimOf rfl ⟨rfl, rfl⟩ (by decide +kernel) rfl (by decide) (by decide) E_144 rfl rfl (Nat.le_of_ble_eq_true rfl) dL_isChip_592 (fun a592_1 M' P' hp => ?_)
              rw [hX] at hp
              obtain ⟨⟨rfl, rfl⟩, hQ⟩ := hp
              have hz := (clm_at (i := i) (j := 2) hK12 (by omega) (by omega) hQ).trans e2
              clear hQ
              subst hz
              refine x_if_le_n h 639 dL_isChip_595 (by decide) (by first | omega | exact jN_lt | exact sumw_lt hN6 (by omega) | exact cnt_lt31 (by decide) | exact cnt_lt31 (by omega)) (fun c_595 => by exfalso; omega) (fun c_595 => ?_)
              refine x_aload_n h 3 dL_isChip_598 rfl rfl ?_
              refine x_iload h 10 dL_isChip_599 rfl ?_
              refine x_bipush h (nI 7) dL_isChip_601 (by decide) ?_
              refine x_callV h (As := [.int (nI i), .int (nI 7)]) 2 hx (c_X5_claimOf hW.hP hW.hI) gL_isChip_X5_claimOf rfl ⟨rfl, rfl⟩ (by decide +kernel) rfl (by decide) (by decide) E_144 rfl rfl (Nat.le_of_ble_eq_true rfl) dL_isChip_603 (fun a603_1 M' P' hp => ?_)
              rw [hX] at hp
              obtain ⟨⟨rfl, rfl⟩, hQ⟩ := hp
              have hz := (clm_at (i := i) (j := 7) hK12 (by omega) (by omega) hQ).trans (show Xc 4 - Xc (223 + 13 * i + 6) = nI (ac - q) by rw [eac, e6, pk_sub hq])
              clear hQ
              subst hz
              refine x_if_lt_n h 639 dL_isChip_606 (by decide) (by first | omega | exact jN_lt | exact sumw_lt hN6 (by omega) | exact cnt_lt31 (by decide) | exact cnt_lt31 (by omega)) ?_
              refine x_iload h 10 dL_isChip_609 rfl ?_
              refine x_if_eq_n h 635 dL_isChip_611 (by decide) (by first | omega | exact jN_lt | exact sumw_lt hN6 (by omega) | exact cnt_lt31 (by decide) | exact cnt_lt31 (by omega)) (fun c_611 => ?_) (fun c_611 => ?_)
              · -- 611 true
                refine x_iconst h (nI 1) dL_isChip_635 (by decide) ?_
                refine x_goto h 640 dL_isChip_636 (by decide) ?_
                refine x_istore h [(6, .int (nI 1)), (7, .int (wrg Xc (i + 1))), (8, .int (nI (appl Xc (i + 1)))), (10, .int (lossX Xc i)), (0, .ref (g.1 144)), (1, .int (nI (sumN (fun k => wir Xc (nI k)) N))), (2, .int (nI (joinedN Xc N))), (3, .int (sumI (fun k => Xc (169 + 9 * k + 4)) N)), (4, .int (nI f)), (5, .int (nI y)), (9, .int (nI i))] dL_isChip_640 (by decide) rfl ?_
                refine x_iinc_n h 10 (n := 1) [(9, .int (nI (i + 1))), (6, .int (nI 1)), (7, .int (wrg Xc (i + 1))), (8, .int (nI (appl Xc (i + 1)))), (10, .int (lossX Xc i)), (0, .ref (g.1 144)), (1, .int (nI (sumN (fun k => wir Xc (nI k)) N))), (2, .int (nI (joinedN Xc N))), (3, .int (sumI (fun k => Xc (169 + 9 * k + 4)) N)), (4, .int (nI f)), (5, .int (nI y))] dL_isChip_642 rfl (by decide) rfl ?_
                refine x_goto h 446 dL_isChip_645 (by decide) ?_
                exact x_lv (ih446 (i + 1) (by omega) (by omega)) [5, 6, 7, 8, 9, 10, 1, 2, 3, 0] rfl
              · -- 611 false
                obtain ⟨h2, d2, cc2, q2, f0, f1, fh, fd, fne, f2, fc0, fc2, f6, hq2⟩ := hcl (i - 1) (by omega)
                have hmm := hmo (i - 1) (by omega)
                rw [show i - 1 + 1 = i by omega, f6, e6, nI_leI (by omega) (by omega)] at hmm
                refine x_aload_n h 3 dL_isChip_614 rfl rfl ?_
                refine x_iload h 10 dL_isChip_615 rfl ?_
                refine x_bipush h (nI 7) dL_isChip_617 (by decide) ?_
                refine x_callV h (As := [.int (nI i), .int (nI 7)]) 2 hx (c_X5_claimOf hW.hP hW.hI) gL_isChip_X5_claimOf rfl ⟨rfl, rfl⟩ (by decide +kernel) rfl (by decide) (by decide) E_144 rfl rfl (Nat.le_of_ble_eq_true rfl) dL_isChip_619 (fun a619_1 M' P' hp => ?_)
                rw [hX] at hp
                obtain ⟨⟨rfl, rfl⟩, hQ⟩ := hp
                have hz := (clm_at (i := i) (j := 7) hK12 (by omega) (by omega) hQ).trans (show Xc 4 - Xc (223 + 13 * i + 6) = nI (ac - q) by rw [eac, e6, pk_sub hq])
                clear hQ
                subst hz
                refine x_aload_n h 3 dL_isChip_622 rfl rfl ?_
                refine x_iload h 10 dL_isChip_623 rfl ?_
                refine x_iconst h (nI 1) dL_isChip_625 (by decide) ?_
                refine x_isub_n h dL_isChip_626 (by omega) ?_
                refine x_bipush h (nI 7) dL_isChip_627 (by decide) ?_
                refine x_callV h (As := [.int (nI (i - 1)), .int (nI 7)]) 2 hx (c_X5_claimOf hW.hP hW.hI) gL_isChip_X5_claimOf rfl ⟨rfl, rfl⟩ (by decide +kernel) rfl (by decide) (by decide) E_144 rfl rfl (Nat.le_of_ble_eq_true rfl) dL_isChip_629 (fun a629_1 M' P' hp => ?_)
                rw [hX] at hp
                obtain ⟨⟨rfl, rfl⟩, hQ⟩ := hp
                have hz := (clm_at (i := i - 1) (j := 7) hK12 (by omega) (by omega) hQ).trans (show Xc 4 - Xc (223 + 13 * (i - 1) + 6) = nI (ac - q2) by rw [eac, f6, pk_sub hq2])
                clear hQ
                subst hz
                refine x_icmp_gt_n h 639 dL_isChip_632 (by decide) (by first | omega | exact jN_lt | exact sumw_lt hN6 (by omega) | exact cnt_lt31 (by decide) | exact cnt_lt31 (by omega)) (by first | omega | exact jN_lt | exact sumw_lt hN6 (by omega) | exact cnt_lt31 (by decide) | exact cnt_lt31 (by omega)) (fun c_632 => by exfalso; omega) (fun c_632 => ?_)
                refine x_iconst h (nI 1) dL_isChip_635 (by decide) ?_
                refine x_goto h 640 dL_isChip_636 (by decide) ?_
                refine x_istore h [(6, .int (nI 1)), (7, .int (wrg Xc (i + 1))), (8, .int (nI (appl Xc (i + 1)))), (10, .int (lossX Xc i)), (0, .ref (g.1 144)), (1, .int (nI (sumN (fun k => wir Xc (nI k)) N))), (2, .int (nI (joinedN Xc N))), (3, .int (sumI (fun k => Xc (169 + 9 * k + 4)) N)), (4, .int (nI f)), (5, .int (nI y)), (9, .int (nI i))] dL_isChip_640 (by decide) rfl ?_
                refine x_iinc_n h 10 (n := 1) [(9, .int (nI (i + 1))), (6, .int (nI 1)), (7, .int (wrg Xc (i + 1))), (8, .int (nI (appl Xc (i + 1)))), (10, .int (lossX Xc i)), (0, .ref (g.1 144)), (1, .int (nI (sumN (fun k => wir Xc (nI k)) N))), (2, .int (nI (joinedN Xc N))), (3, .int (sumI (fun k => Xc (169 + 9 * k + 4)) N)), (4, .int (nI f)), (5, .int (nI y))] dL_isChip_642 rfl (by decide) rfl ?_
                refine x_goto h 446 dL_isChip_645 (by decide) ?_
                exact x_lv (ih446 (i + 1) (by omega) (by omega)) [5, 6, 7, 8, 9, 10, 1, 2, 3, 0] rfl
            · -- 540 false
              refine x_iconst h (nI 1) dL_isChip_543 (by decide) ?_
              refine x_aload_n h 2 dL_isChip_544 rfl rfl ?_
              refine x_iload h 10 dL_isChip_545 rfl ?_
              refine x_iconst h (nI 0) dL_isChip_547 (by decide) ?_
              refine x_callV h (As := [.int (nI i), .int (nI 0)]) 2 hx (c_X5_claimOf hW.hP hW.hI) gL_isChip_X5_claimOf rfl ⟨rfl, rfl⟩ (by decide +kernel) rfl (by decide) (by decide) E_144 rfl rfl (Nat.le_of_ble_eq_true rfl) dL_isChip_548 (fun a548 M' P' hp => ?_)
              rw [hX] at hp
              obtain ⟨⟨rfl, rfl⟩, hQ⟩ := hp
              have hz := (clm_at (i := i) (j := 0) hK12 (by omega) (by omega) hQ).trans e0
              clear hQ
              subst hz
              refine x_ishl h dL_isChip_551 ?_
              refine x_goto h 556 dL_isChip_552 (by decide) ?_
              refine x_ior h dL_isChip_556 ?_
              refine x_top (wrg Xc (i + 1)) (wrg_y e0 (by omega) c_528 c_540) ?_
              refine x_istore h [(7, .int (wrg Xc (i + 1))), (8, .int (nI (appl Xc (i + 1)))), (10, .int (lossX Xc i)), (0, .ref (g.1 144)), (1, .int (nI (sumN (fun k => wir Xc (nI k)) N))), (2, .int (nI (joinedN Xc N))), (3, .int (sumI (fun k => Xc (169 + 9 * k + 4)) N)), (4, .int (nI f)), (5, .int (nI y)), (6, .int (nI 1)), (9, .int (nI i))] dL_isChip_557 (by decide) rfl ?_
              refine x_aload_n h 3 dL_isChip_559 rfl rfl ?_
              refine x_iload h 10 dL_isChip_560 rfl ?_
              refine x_iconst h (nI 5) dL_isChip_562 (by decide) ?_
              refine x_callV h (As := [.int (nI i), .int (nI 5)]) 2 hx (c_X5_claimOf hW.hP hW.hI) gL_isChip_X5_claimOf rfl ⟨rfl, rfl⟩ (by decide +kernel) rfl (by decide) (by decide) E_144 rfl rfl (Nat.le_of_ble_eq_true rfl) dL_isChip_563 (fun a563_2 M' P' hp => ?_)
              rw [hX] at hp
              obtain ⟨⟨rfl, rfl⟩, hQ⟩ := hp
              have hz := (clm_at (i := i) (j := 5) hK12 (by omega) (by omega) hQ)
              clear hQ
              subst hz
              refine x_iload h 2 dL_isChip_566 rfl ?_
              refine x_icmp_ne h 639 dL_isChip_568 (by decide) (fun c_568 => by exfalso; exact absurd rfl c_568) (fun c_568 => ?_)
              refine x_aload_n h 3 dL_isChip_571 rfl rfl ?_
              refine x_iload h 10 dL_isChip_572 rfl ?_
              refine x_iconst h (nI 0) dL_isChip_574 (by decide) ?_
              refine x_callV h (As := [.int (nI i), .int (nI 0)]) 2 hx (c_X5_claimOf hW.hP hW.hI) gL_isChip_X5_claimOf rfl ⟨rfl, rfl⟩ (by decide +kernel) rfl (by decide) (by decide) E_144 rfl rfl (Nat.le_of_ble_eq_true rfl) dL_isChip_575 (fun a575_2 M' P' hp => ?_)
              rw [hX] at hp
              obtain ⟨⟨rfl, rfl⟩, hQ⟩ := hp
              have hz := (clm_at (i := i) (j := 0) hK12 (by omega) (by omega) hQ).trans e0
              clear hQ
              subst hz
              refine x_aload_n h 3 dL_isChip_578 rfl rfl ?_
              refine x_iload h 10 dL_isChip_579 rfl ?_
              refine x_iconst h (nI 1) dL_isChip_581 (by decide) ?_
              refine x_callV h (As := [.int (nI i), .int (nI 1)]) 2 hx (c_X5_claimOf hW.hP hW.hI) gL_isChip_X5_claimOf rfl ⟨rfl, rfl⟩ (by decide +kernel) rfl (by decide) (by decide) E_144 rfl rfl (Nat.le_of_ble_eq_true rfl) dL_isChip_582 (fun a582_2 M' P' hp => ?_)
              rw [hX] at hp
              obtain ⟨⟨rfl, rfl⟩, hQ⟩ := hp
              have hz := (clm_at (i := i) (j := 1) hK12 (by omega) (by omega) hQ).trans e1
              clear hQ
              subst hz
              refine x_icmp_eq_n h 639 dL_isChip_585 (by decide) (by first | omega | exact jN_lt | exact sumw_lt hN6 (by omega) | exact cnt_lt31 (by decide) | exact cnt_lt31 (by omega)) (by first | omega | exact jN_lt | exact sumw_lt hN6 (by omega) | exact cnt_lt31 (by decide) | exact cnt_lt31 (by omega)) (fun c_585 => by exfalso; exact hne c_585) (fun c_585 => ?_)
              refine x_aload_n h 3 dL_isChip_588 rfl rfl ?_
              refine x_iload h 10 dL_isChip_589 rfl ?_
              refine x_iconst h (nI 2) dL_isChip_591 (by decide) ?_
              refine x_callV h (As := [.int (nI i), .int (nI 2)]) 2 hx (c_X5_claimOf hW.hP hW.hI) gL_isChip_X5_claimOf rfl ⟨rfl, rfl⟩ (by decide +kernel) rfl (by decide) (by decide) E_144 rfl rfl (Nat.le_of_ble_eq_true rfl) dL_isChip_592 (fun a592_2 M' P' hp => ?_)
              rw [hX] at hp
              obtain ⟨⟨rfl, rfl⟩, hQ⟩ := hp
              have hz := (clm_at (i := i) (j := 2) hK12 (by omega) (by omega) hQ).trans e2
              clear hQ
              subst hz
              refine x_if_le_n h 639 dL_isChip_595 (by decide) (by first | omega | exact jN_lt | exact sumw_lt hN6 (by omega) | exact cnt_lt31 (by decide) | exact cnt_lt31 (by omega)) (fun c_595 => by exfalso; omega) (fun c_595 => ?_)
              refine x_aload_n h 3 dL_isChip_598 rfl rfl ?_
              refine x_iload h 10 dL_isChip_599 rfl ?_
              refine x_bipush h (nI 7) dL_isChip_601 (by decide) ?_
              refine x_callV h (As := [.int (nI i), .int (nI 7)]) 2 hx (c_X5_claimOf hW.hP hW.hI) gL_isChip_X5_claimOf rfl ⟨rfl, rfl⟩ (by decide +kernel) rfl (by decide) (by decide) E_144 rfl rfl (Nat.le_of_ble_eq_true rfl) dL_isChip_603 (fun a603_2 M' P' hp => ?_)
              rw [hX] at hp
              obtain ⟨⟨rfl, rfl⟩, hQ⟩ := hp
              have hz := (clm_at (i := i) (j := 7) hK12 (by omega) (by omega) hQ).trans (show Xc 4 - Xc (223 + 13 * i + 6) = nI (ac - q) by rw [eac, e6, pk_sub hq])
              clear hQ
              subst hz
              refine x_if_lt_n h 639 dL_isChip_606 (by decide) (by first | omega | exact jN_lt | exact sumw_lt hN6 (by omega) | exact cnt_lt31 (by decide) | exact cnt_lt31 (by omega)) ?_
              refine x_iload h 10 dL_isChip_609 rfl ?_
              refine x_if_eq_n h 635 dL_isChip_611 (by decide) (by first | omega | exact jN_lt | exact sumw_lt hN6 (by omega) | exact cnt_lt31 (by decide) | exact cnt_lt31 (by omega)) (fun c_611 => ?_) (fun c_611 => ?_)
              · -- 611 true
                refine x_iconst h (nI 1) dL_isChip_635 (by decide) ?_
                refine x_goto h 640 dL_isChip_636 (by decide) ?_
                refine x_istore h [(6, .int (nI 1)), (7, .int (wrg Xc (i + 1))), (8, .int (nI (appl Xc (i + 1)))), (10, .int (lossX Xc i)), (0, .ref (g.1 144)), (1, .int (nI (sumN (fun k => wir Xc (nI k)) N))), (2, .int (nI (joinedN Xc N))), (3, .int (sumI (fun k => Xc (169 + 9 * k + 4)) N)), (4, .int (nI f)), (5, .int (nI y)), (9, .int (nI i))] dL_isChip_640 (by decide) rfl ?_
                refine x_iinc_n h 10 (n := 1) [(9, .int (nI (i + 1))), (6, .int (nI 1)), (7, .int (wrg Xc (i + 1))), (8, .int (nI (appl Xc (i + 1)))), (10, .int (lossX Xc i)), (0, .ref (g.1 144)), (1, .int (nI (sumN (fun k => wir Xc (nI k)) N))), (2, .int (nI (joinedN Xc N))), (3, .int (sumI (fun k => Xc (169 + 9 * k + 4)) N)), (4, .int (nI f)), (5, .int (nI y))] dL_isChip_642 rfl (by decide) rfl ?_
                refine x_goto h 446 dL_isChip_645 (by decide) ?_
                exact x_lv (ih446 (i + 1) (by omega) (by omega)) [5, 6, 7, 8, 9, 10, 1, 2, 3, 0] rfl
              · -- 611 false
                obtain ⟨h2, d2, cc2, q2, f0, f1, fh, fd, fne, f2, fc0, fc2, f6, hq2⟩ := hcl (i - 1) (by omega)
                have hmm := hmo (i - 1) (by omega)
                rw [show i - 1 + 1 = i by omega, f6, e6, nI_leI (by omega) (by omega)] at hmm
                refine x_aload_n h 3 dL_isChip_614 rfl rfl ?_
                refine x_iload h 10 dL_isChip_615 rfl ?_
                refine x_bipush h (nI 7) dL_isChip_617 (by decide) ?_
                refine x_callV h (As := [.int (nI i), .int (nI 7)]) 2 hx (c_X5_claimOf hW.hP hW.hI) gL_isChip_X5_claimOf rfl ⟨rfl, rfl⟩ (by decide +kernel) rfl (by decide) (by decide) E_144 rfl rfl (Nat.le_of_ble_eq_true rfl) dL_isChip_619 (fun a619_2 M' P' hp => ?_)
                rw [hX] at hp
                obtain ⟨⟨rfl, rfl⟩, hQ⟩ := hp
                have hz := (clm_at (i := i) (j := 7) hK12 (by omega) (by omega) hQ).trans (show Xc 4 - Xc (223 + 13 * i + 6) = nI (ac - q) by rw [eac, e6, pk_sub hq])
                clear hQ
                subst hz
                refine x_aload_n h 3 dL_isChip_622 rfl rfl ?_
                refine x_iload h 10 dL_isChip_623 rfl ?_
                refine x_iconst h (nI 1) dL_isChip_625 (by decide) ?_
                refine x_isub_n h dL_isChip_626 (by omega) ?_
                refine x_bipush h (nI 7) dL_isChip_627 (by decide) ?_
                refine x_callV h (As := [.int (nI (i - 1)), .int (nI 7)]) 2 hx (c_X5_claimOf hW.hP hW.hI) gL_isChip_X5_claimOf rfl ⟨rfl, rfl⟩ (by decide +kernel) rfl (by decide) (by decide) E_144 rfl rfl (Nat.le_of_ble_eq_true rfl) dL_isChip_629 (fun a629_2 M' P' hp => ?_)
                rw [hX] at hp
                obtain ⟨⟨rfl, rfl⟩, hQ⟩ := hp
                have hz := (clm_at (i := i - 1) (j := 7) hK12 (by omega) (by omega) hQ).trans (show Xc 4 - Xc (223 + 13 * (i - 1) + 6) = nI (ac - q2) by rw [eac, f6, pk_sub hq2])
                clear hQ
                subst hz
                refine x_icmp_gt_n h 639 dL_isChip_632 (by decide) (by first | omega | exact jN_lt | exact sumw_lt hN6 (by omega) | exact cnt_lt31 (by decide) | exact cnt_lt31 (by omega)) (by first | omega | exact jN_lt | exact sumw_lt hN6 (by omega) | exact cnt_lt31 (by decide) | exact cnt_lt31 (by omega)) (fun c_632 => by exfalso; omega) (fun c_632 => ?_)
                refine x_iconst h (nI 1) dL_isChip_635 (by decide) ?_
                refine x_goto h 640 dL_isChip_636 (by decide) ?_
                refine x_istore h [(6, .int (nI 1)), (7, .int (wrg Xc (i + 1))), (8, .int (nI (appl Xc (i + 1)))), (10, .int (lossX Xc i)), (0, .ref (g.1 144)), (1, .int (nI (sumN (fun k => wir Xc (nI k)) N))), (2, .int (nI (joinedN Xc N))), (3, .int (sumI (fun k => Xc (169 + 9 * k + 4)) N)), (4, .int (nI f)), (5, .int (nI y)), (9, .int (nI i))] dL_isChip_640 (by decide) rfl ?_
                refine x_iinc_n h 10 (n := 1) [(9, .int (nI (i + 1))), (6, .int (nI 1)), (7, .int (wrg Xc (i + 1))), (8, .int (nI (appl Xc (i + 1)))), (10, .int (lossX Xc i)), (0, .ref (g.1 144)), (1, .int (nI (sumN (fun k => wir Xc (nI k)) N))), (2, .int (nI (joinedN Xc N))), (3, .int (sumI (fun k => Xc (169 + 9 * k + 4)) N)), (4, .int (nI f)), (5, .int (nI y))] dL_isChip_642 rfl (by decide) rfl ?_
                refine x_goto h 446 dL_isChip_645 (by decide) ?_
                exact x_lv (ih446 (i + 1) (by omega) (by omega)) [5, 6, 7, 8, 9, 10, 1, 2, 3, 0] rfl
        · -- 503 false
          refine x_iconst h (nI 1) dL_isChip_506 (by decide) ?_
          refine x_goto h 511 dL_isChip_507 (by decide) ?_
          refine x_iadd_n h dL_isChip_511 ?_
          refine x_top (nI (appl Xc (i + 1))) (by rw [appl_s, if_pos (show Xc (223 + 13 * i + 5) = nI 1 from c_503)]) ?_
          refine x_istore h [(8, .int (nI (appl Xc (i + 1)))), (10, .int (lossX Xc i)), (0, .ref (g.1 144)), (1, .int (nI (sumN (fun k => wir Xc (nI k)) N))), (2, .int (nI (joinedN Xc N))), (3, .int (sumI (fun k => Xc (169 + 9 * k + 4)) N)), (4, .int (nI f)), (5, .int (nI y)), (6, .int (nI 1)), (7, .int (wrg Xc i)), (9, .int (nI i))] dL_isChip_512 (by decide) rfl ?_
          refine x_iload h 9 dL_isChip_514 rfl ?_
          refine x_aload_n h 2 dL_isChip_516 rfl rfl ?_
          refine x_aload_n h 2 dL_isChip_517 rfl rfl ?_
          refine x_iload h 10 dL_isChip_518 rfl ?_
          refine x_iconst h (nI 0) dL_isChip_520 (by decide) ?_
          refine x_callV h (As := [.int (nI i), .int (nI 0)]) 2 hx (c_X5_claimOf hW.hP hW.hI) gL_isChip_X5_claimOf rfl ⟨rfl, rfl⟩ (by decide +kernel) rfl (by decide) (by decide) E_144 rfl rfl (Nat.le_of_ble_eq_true rfl) dL_isChip_521 (fun a521_1 M' P' hp => ?_)
          rw [hX] at hp
          obtain ⟨⟨rfl, rfl⟩, hQ⟩ := hp
          have hz := (clm_at (i := i) (j := 0) hK12 (by omega) (by omega) hQ).trans e0
          clear hQ
          subst hz
          refine x_iconst h (nI 5) dL_isChip_524 (by decide) ?_
          refine x_callV h (As := [.int (nI ho), .int (nI 5)]) 2 hx (c_X5_netOf hW.hP hW.hI) gL_isChip_X5_netOf rfl ⟨rfl, rfl⟩ (by decide +kernel) rfl (by decide) (by decide) E_144 rfl rfl (Nat.le_of_ble_eq_true rfl) dL_isChip_525 (fun a525_1 M' P' hp => ?_)
          rw [hX] at hp
          obtain ⟨⟨rfl, rfl⟩, hQ⟩ := hp
          have hz := (net_at (k := ho) (j := 5) hN6 (by omega) (by omega) hQ).trans (fNet5 Xc ho)
          clear hQ
          subst hz
          refine x_if_ne_n h 555 dL_isChip_528 (by decide) (by first | omega | exact jN_lt | exact sumw_lt hN6 (by omega) | exact cnt_lt31 (by decide) | exact cnt_lt31 (by omega)) (fun c_528 => ?_) (fun c_528 => ?_)
          · -- 528 true
            refine x_iconst h (nI 0) dL_isChip_555 (by decide) ?_
            refine x_ior h dL_isChip_556 ?_
            refine x_top (wrg Xc (i + 1)) (wrg_n e0 (by omega) (by first | exact Or.inl c_528 | exact Or.inr c_540)) ?_
            refine x_istore h [(7, .int (wrg Xc (i + 1))), (8, .int (nI (appl Xc (i + 1)))), (10, .int (lossX Xc i)), (0, .ref (g.1 144)), (1, .int (nI (sumN (fun k => wir Xc (nI k)) N))), (2, .int (nI (joinedN Xc N))), (3, .int (sumI (fun k => Xc (169 + 9 * k + 4)) N)), (4, .int (nI f)), (5, .int (nI y)), (6, .int (nI 1)), (9, .int (nI i))] dL_isChip_557 (by decide) rfl ?_
            refine x_aload_n h 3 dL_isChip_559 rfl rfl ?_
            refine x_iload h 10 dL_isChip_560 rfl ?_
            refine x_iconst h (nI 5) dL_isChip_562 (by decide) ?_
            refine x_callV h (As := [.int (nI i), .int (nI 5)]) 2 hx (c_X5_claimOf hW.hP hW.hI) gL_isChip_X5_claimOf rfl ⟨rfl, rfl⟩ (by decide +kernel) rfl (by decide) (by decide) E_144 rfl rfl (Nat.le_of_ble_eq_true rfl) dL_isChip_563 (fun a563_3 M' P' hp => ?_)
            rw [hX] at hp
            obtain ⟨⟨rfl, rfl⟩, hQ⟩ := hp
            have hz := (clm_at (i := i) (j := 5) hK12 (by omega) (by omega) hQ)
            clear hQ
            subst hz
            refine x_iload h 2 dL_isChip_566 rfl ?_
            refine x_icmp_ne h 639 dL_isChip_568 (by decide) (fun c_568 => by exfalso; exact absurd rfl c_568) (fun c_568 => ?_)
            refine x_aload_n h 3 dL_isChip_571 rfl rfl ?_
            refine x_iload h 10 dL_isChip_572 rfl ?_
            refine x_iconst h (nI 0) dL_isChip_574 (by decide) ?_
            refine x_callV h (As := [.int (nI i), .int (nI 0)]) 2 hx (c_X5_claimOf hW.hP hW.hI) gL_isChip_X5_claimOf rfl ⟨rfl, rfl⟩ (by decide +kernel) rfl (by decide) (by decide) E_144 rfl rfl (Nat.le_of_ble_eq_true rfl) dL_isChip_575 (fun a575_3 M' P' hp => ?_)
            rw [hX] at hp
            obtain ⟨⟨rfl, rfl⟩, hQ⟩ := hp
            have hz := (clm_at (i := i) (j := 0) hK12 (by omega) (by omega) hQ).trans e0
            clear hQ
            subst hz
            refine x_aload_n h 3 dL_isChip_578 rfl rfl ?_
            refine x_iload h 10 dL_isChip_579 rfl ?_
            refine x_iconst h (nI 1) dL_isChip_581 (by decide) ?_
            refine x_callV h (As := [.int (nI i), .int (nI 1)]) 2 hx (c_X5_claimOf hW.hP hW.hI) gL_isChip_X5_claimOf rfl ⟨rfl, rfl⟩ (by decide +kernel) rfl (by decide) (by decide) E_144 rfl rfl (Nat.le_of_ble_eq_true rfl) dL_isChip_582 (fun a582_3 M' P' hp => ?_)
            rw [hX] at hp
            obtain ⟨⟨rfl, rfl⟩, hQ⟩ := hp
            have hz := (clm_at (i := i) (j := 1) hK12 (by omega) (by omega) hQ).trans e1
            clear hQ
            subst hz
            refine x_icmp_eq_n h 639 dL_isChip_585 (by decide) (by first | omega | exact jN_lt | exact sumw_lt hN6 (by omega) | exact cnt_lt31 (by decide) | exact cnt_lt31 (by omega)) (by first | omega | exact jN_lt | exact sumw_lt hN6 (by omega) | exact cnt_lt31 (by decide) | exact cnt_lt31 (by omega)) (fun c_585 => by exfalso; exact hne c_585) (fun c_585 => ?_)
            refine x_aload_n h 3 dL_isChip_588 rfl rfl ?_
            refine x_iload h 10 dL_isChip_589 rfl ?_
            refine x_iconst h (nI 2) dL_isChip_591 (by decide) ?_
            refine x_callV h (As := [.int (nI i), .int (nI 2)]) 2 hx (c_X5_claimOf hW.hP hW.hI) gL_isChip_X5_claimOf rfl ⟨rfl, rfl⟩ (by decide +kernel) rfl (by decide) (by decide) E_144 rfl rfl (Nat.le_of_ble_eq_true rfl) dL_isChip_592 (fun a592_3 M' P' hp => ?_)
            rw [hX] at hp
            obtain ⟨⟨rfl, rfl⟩, hQ⟩ := hp
            have hz := (clm_at (i := i) (j := 2) hK12 (by omega) (by omega) hQ).trans e2
            clear hQ
            subst hz
            refine x_if_le_n h 639 dL_isChip_595 (by decide) (by first | omega | exact jN_lt | exact sumw_lt hN6 (by omega) | exact cnt_lt31 (by decide) | exact cnt_lt31 (by omega)) (fun c_595 => by exfalso; omega) (fun c_595 => ?_)
            refine x_aload_n h 3 dL_isChip_598 rfl rfl ?_
            refine x_iload h 10 dL_isChip_599 rfl ?_
            refine x_bipush h (nI 7) dL_isChip_601 (by decide) ?_
            refine x_callV h (As := [.int (nI i), .int (nI 7)]) 2 hx (c_X5_claimOf hW.hP hW.hI) gL_isChip_X5_claimOf rfl ⟨rfl, rfl⟩ (by decide +kernel) rfl (by decide) (by decide) E_144 rfl rfl (Nat.le_of_ble_eq_true rfl) dL_isChip_603 (fun a603_3 M' P' hp => ?_)
            rw [hX] at hp
            obtain ⟨⟨rfl, rfl⟩, hQ⟩ := hp
            have hz := (clm_at (i := i) (j := 7) hK12 (by omega) (by omega) hQ).trans (show Xc 4 - Xc (223 + 13 * i + 6) = nI (ac - q) by rw [eac, e6, pk_sub hq])
            clear hQ
            subst hz
            refine x_if_lt_n h 639 dL_isChip_606 (by decide) (by first | omega | exact jN_lt | exact sumw_lt hN6 (by omega) | exact cnt_lt31 (by decide) | exact cnt_lt31 (by omega)) ?_
            refine x_iload h 10 dL_isChip_609 rfl ?_
            refine x_if_eq_n h 635 dL_isChip_611 (by decide) (by first | omega | exact jN_lt | exact sumw_lt hN6 (by omega) | exact cnt_lt31 (by decide) | exact cnt_lt31 (by omega)) (fun c_611 => ?_) (fun c_611 => ?_)
            · -- 611 true
              refine x_iconst h (nI 1) dL_isChip_635 (by decide) ?_
              refine x_goto h 640 dL_isChip_636 (by decide) ?_
              refine x_istore h [(6, .int (nI 1)), (7, .int (wrg Xc (i + 1))), (8, .int (nI (appl Xc (i + 1)))), (10, .int (lossX Xc i)), (0, .ref (g.1 144)), (1, .int (nI (sumN (fun k => wir Xc (nI k)) N))), (2, .int (nI (joinedN Xc N))), (3, .int (sumI (fun k => Xc (169 + 9 * k + 4)) N)), (4, .int (nI f)), (5, .int (nI y)), (9, .int (nI i))] dL_isChip_640 (by decide) rfl ?_
              refine x_iinc_n h 10 (n := 1) [(9, .int (nI (i + 1))), (6, .int (nI 1)), (7, .int (wrg Xc (i + 1))), (8, .int (nI (appl Xc (i + 1)))), (10, .int (lossX Xc i)), (0, .ref (g.1 144)), (1, .int (nI (sumN (fun k => wir Xc (nI k)) N))), (2, .int (nI (joinedN Xc N))), (3, .int (sumI (fun k => Xc (169 + 9 * k + 4)) N)), (4, .int (nI f)), (5, .int (nI y))] dL_isChip_642 rfl (by decide) rfl ?_
              refine x_goto h 446 dL_isChip_645 (by decide) ?_
              exact x_lv (ih446 (i + 1) (by omega) (by omega)) [5, 6, 7, 8, 9, 10, 1, 2, 3, 0] rfl
            · -- 611 false
              obtain ⟨h2, d2, cc2, q2, f0, f1, fh, fd, fne, f2, fc0, fc2, f6, hq2⟩ := hcl (i - 1) (by omega)
              have hmm := hmo (i - 1) (by omega)
              rw [show i - 1 + 1 = i by omega, f6, e6, nI_leI (by omega) (by omega)] at hmm
              refine x_aload_n h 3 dL_isChip_614 rfl rfl ?_
              refine x_iload h 10 dL_isChip_615 rfl ?_
              refine x_bipush h (nI 7) dL_isChip_617 (by decide) ?_
              refine x_callV h (As := [.int (nI i), .int (nI 7)]) 2 hx (c_X5_claimOf hW.hP hW.hI) gL_isChip_X5_claimOf rfl ⟨rfl, rfl⟩ (by decide +kernel) rfl (by decide) (by decide) E_144 rfl rfl (Nat.le_of_ble_eq_true rfl) dL_isChip_619 (fun a619_3 M' P' hp => ?_)
              rw [hX] at hp
              obtain ⟨⟨rfl, rfl⟩, hQ⟩ := hp
              have hz := (clm_at (i := i) (j := 7) hK12 (by omega) (by omega) hQ).trans (show Xc 4 - Xc (223 + 13 * i + 6) = nI (ac - q) by rw [eac, e6, pk_sub hq])
              clear hQ
              subst hz
              refine x_aload_n h 3 dL_isChip_622 rfl rfl ?_
              refine x_iload h 10 dL_isChip_623 rfl ?_
              refine x_iconst h (nI 1) dL_isChip_625 (by decide) ?_
              refine x_isub_n h dL_isChip_626 (by omega) ?_
              refine x_bipush h (nI 7) dL_isChip_627 (by decide) ?_
              refine x_callV h (As := [.int (nI (i - 1)), .int (nI 7)]) 2 hx (c_X5_claimOf hW.hP hW.hI) gL_isChip_X5_claimOf rfl ⟨rfl, rfl⟩ (by decide +kernel) rfl (by decide) (by decide) E_144 rfl rfl (Nat.le_of_ble_eq_true rfl) dL_isChip_629 (fun a629_3 M' P' hp => ?_)
              rw [hX] at hp
              obtain ⟨⟨rfl, rfl⟩, hQ⟩ := hp
              have hz := (clm_at (i := i - 1) (j := 7) hK12 (by omega) (by omega) hQ).trans (show Xc 4 - Xc (223 + 13 * (i - 1) + 6) = nI (ac - q2) by rw [eac, f6, pk_sub hq2])
              clear hQ
              subst hz
              refine x_icmp_gt_n h 639 dL_isChip_632 (by decide) (by first | omega | exact jN_lt | exact sumw_lt hN6 (by omega) | exact cnt_lt31 (by decide) | exact cnt_lt31 (by omega)) (by first | omega | exact jN_lt | exact sumw_lt hN6 (by omega) | exact cnt_lt31 (by decide) | exact cnt_lt31 (by omega)) (fun c_632 => by exfalso; omega) (fun c_632 => ?_)
              refine x_iconst h (nI 1) dL_isChip_635 (by decide) ?_
              refine x_goto h 640 dL_isChip_636 (by decide) ?_
              refine x_istore h [(6, .int (nI 1)), (7, .int (wrg Xc (i + 1))), (8, .int (nI (appl Xc (i + 1)))), (10, .int (lossX Xc i)), (0, .ref (g.1 144)), (1, .int (nI (sumN (fun k => wir Xc (nI k)) N))), (2, .int (nI (joinedN Xc N))), (3, .int (sumI (fun k => Xc (169 + 9 * k + 4)) N)), (4, .int (nI f)), (5, .int (nI y)), (9, .int (nI i))] dL_isChip_640 (by decide) rfl ?_
              refine x_iinc_n h 10 (n := 1) [(9, .int (nI (i + 1))), (6, .int (nI 1)), (7, .int (wrg Xc (i + 1))), (8, .int (nI (appl Xc (i + 1)))), (10, .int (lossX Xc i)), (0, .ref (g.1 144)), (1, .int (nI (sumN (fun k => wir Xc (nI k)) N))), (2, .int (nI (joinedN Xc N))), (3, .int (sumI (fun k => Xc (169 + 9 * k + 4)) N)), (4, .int (nI f)), (5, .int (nI y))] dL_isChip_642 rfl (by decide) rfl ?_
              refine x_goto h 446 dL_isChip_645 (by decide) ?_
              exact x_lv (ih446 (i + 1) (by omega) (by omega)) [5, 6, 7, 8, 9, 10, 1, 2, 3, 0] rfl
          · -- 528 false
            refine x_aload_n h 2 dL_isChip_531 rfl rfl ?_
            refine x_iload h 10 dL_isChip_532 rfl ?_
            refine x_iconst h (nI 4) dL_isChip_534 (by decide) ?_
            refine x_callV h (As := [.int (nI i), .int (nI 4)]) 2 hx (c_X5_claimOf hW.hP hW.hI) gL_isChip_X5_claimOf rfl ⟨rfl, rfl⟩ (by decide +kernel) rfl (by decide) (by decide) E_144 rfl rfl (Nat.le_of_ble_eq_true rfl) dL_isChip_535 (fun a535_1 M' P' hp => ?_)
            rw [hX] at hp
            obtain ⟨⟨rfl, rfl⟩, hQ⟩ := hp
            have hz := (clm_at (i := i) (j := 4) hK12 (by omega) (by omega) hQ)
            clear hQ
            subst hz
            refine x_iload h 1 dL_isChip_538 rfl ?_
            refine x_icmp_ge h 555 dL_isChip_540 (by decide) (fun c_540 => ?_) (fun c_540 => ?_)
            · -- 540 true
              refine x_iconst h (nI 0) dL_isChip_555 (by decide) ?_
              refine x_ior h dL_isChip_556 ?_
              refine x_top (wrg Xc (i + 1)) (wrg_n e0 (by omega) (by first | exact Or.inl c_528 | exact Or.inr c_540)) ?_
              refine x_istore h [(7, .int (wrg Xc (i + 1))), (8, .int (nI (appl Xc (i + 1)))), (10, .int (lossX Xc i)), (0, .ref (g.1 144)), (1, .int (nI (sumN (fun k => wir Xc (nI k)) N))), (2, .int (nI (joinedN Xc N))), (3, .int (sumI (fun k => Xc (169 + 9 * k + 4)) N)), (4, .int (nI f)), (5, .int (nI y)), (6, .int (nI 1)), (9, .int (nI i))] dL_isChip_557 (by decide) rfl ?_
              refine x_aload_n h 3 dL_isChip_559 rfl rfl ?_
              refine x_iload h 10 dL_isChip_560 rfl ?_
              refine x_iconst h (nI 5) dL_isChip_562 (by decide) ?_
              refine x_callV h (As := [.int (nI i), .int (nI 5)]) 2 hx (c_X5_claimOf hW.hP hW.hI) gL_isChip_X5_claimOf rfl ⟨rfl, rfl⟩ (by decide +kernel) rfl (by decide) (by decide) E_144 rfl rfl (Nat.le_of_ble_eq_true rfl) dL_isChip_563 (fun a563_4 M' P' hp => ?_)
              rw [hX] at hp
              obtain ⟨⟨rfl, rfl⟩, hQ⟩ := hp
              have hz := (clm_at (i := i) (j := 5) hK12 (by omega) (by omega) hQ)
              clear hQ
              subst hz
              refine x_iload h 2 dL_isChip_566 rfl ?_
              refine x_icmp_ne h 639 dL_isChip_568 (by decide) (fun c_568 => by exfalso; exact absurd rfl c_568) (fun c_568 => ?_)
              refine x_aload_n h 3 dL_isChip_571 rfl rfl ?_
              refine x_iload h 10 dL_isChip_572 rfl ?_
              refine x_iconst h (nI 0) dL_isChip_574 (by decide) ?_
              refine x_callV h (As := [.int (nI i), .int (nI 0)]) 2 hx (c_X5_claimOf hW.hP hW.hI) gL_isChip_X5_claimOf rfl ⟨rfl, rfl⟩ (by decide +kernel) rfl (by decide) (by decide) E_144 rfl rfl (Nat.le_of_ble_eq_true rfl) dL_isChip_575 (fun a575_4 M' P' hp => ?_)
              rw [hX] at hp
              obtain ⟨⟨rfl, rfl⟩, hQ⟩ := hp
              have hz := (clm_at (i := i) (j := 0) hK12 (by omega) (by omega) hQ).trans e0
              clear hQ
              subst hz
              refine x_aload_n h 3 dL_isChip_578 rfl rfl ?_
              refine x_iload h 10 dL_isChip_579 rfl ?_
              refine x_iconst h (nI 1) dL_isChip_581 (by decide) ?_
              refine x_callV h (As := [.int (nI i), .int (nI 1)]) 2 hx (c_X5_claimOf hW.hP hW.hI) gL_isChip_X5_claimOf rfl ⟨rfl, rfl⟩ (by decide +kernel) rfl (by decide) (by decide) E_144 rfl rfl (Nat.le_of_ble_eq_true rfl) dL_isChip_582 (fun a582_4 M' P' hp => ?_)
              rw [hX] at hp
              obtain ⟨⟨rfl, rfl⟩, hQ⟩ := hp
              have hz := (clm_at (i := i) (j := 1) hK12 (by omega) (by omega) hQ).trans e1
              clear hQ
              subst hz
              refine x_icmp_eq_n h 639 dL_isChip_585 (by decide) (by first | omega | exact jN_lt | exact sumw_lt hN6 (by omega) | exact cnt_lt31 (by decide) | exact cnt_lt31 (by omega)) (by first | omega | exact jN_lt | exact sumw_lt hN6 (by omega) | exact cnt_lt31 (by decide) | exact cnt_lt31 (by omega)) (fun c_585 => by exfalso; exact hne c_585) (fun c_585 => ?_)
              refine x_aload_n h 3 dL_isChip_588 rfl rfl ?_
              refine x_iload h 10 dL_isChip_589 rfl ?_
              refine x_iconst h (nI 2) dL_isChip_591 (by decide) ?_
              refine x_callV h (As := [.int (nI i), .int (nI 2)]) 2 hx (c_X5_claimOf hW.hP hW.hI) gL_isChip_X5_claimOf rfl ⟨rfl, rfl⟩ (by decide +kernel) rfl (by decide) (by decide) E_144 rfl rfl (Nat.le_of_ble_eq_true rfl) dL_isChip_592 (fun a592_4 M' P' hp => ?_)
              rw [hX] at hp
              obtain ⟨⟨rfl, rfl⟩, hQ⟩ := hp
              have hz := (clm_at (i := i) (j := 2) hK12 (by omega) (by omega) hQ).trans e2
              clear hQ
              subst hz
              refine x_if_le_n h 639 dL_isChip_595 (by decide) (by first | omega | exact jN_lt | exact sumw_lt hN6 (by omega) | exact cnt_lt31 (by decide) | exact cnt_lt31 (by omega)) (fun c_595 => by exfalso; omega) (fun c_595 => ?_)
              refine x_aload_n h 3 dL_isChip_598 rfl rfl ?_
              refine x_iload h 10 dL_isChip_599 rfl ?_
              refine x_bipush h (nI 7) dL_isChip_601 (by decide) ?_
              refine x_callV h (As := [.int (nI i), .int (nI 7)]) 2 hx (c_X5_claimOf hW.hP hW.hI) gL_isChip_X5_claimOf rfl ⟨rfl, rfl⟩ (by decide +kernel) rfl (by decide) (by decide) E_144 rfl rfl (Nat.le_of_ble_eq_true rfl) dL_isChip_603 (fun a603_4 M' P' hp => ?_)
              rw [hX] at hp
              obtain ⟨⟨rfl, rfl⟩, hQ⟩ := hp
              have hz := (clm_at (i := i) (j := 7) hK12 (by omega) (by omega) hQ).trans (show Xc 4 - Xc (223 + 13 * i + 6) = nI (ac - q) by rw [eac, e6, pk_sub hq])
              clear hQ
              subst hz
              refine x_if_lt_n h 639 dL_isChip_606 (by decide) (by first | omega | exact jN_lt | exact sumw_lt hN6 (by omega) | exact cnt_lt31 (by decide) | exact cnt_lt31 (by omega)) ?_
              refine x_iload h 10 dL_isChip_609 rfl ?_
              refine x_if_eq_n h 635 dL_isChip_611 (by decide) (by first | omega | exact jN_lt | exact sumw_lt hN6 (by omega) | exact cnt_lt31 (by decide) | exact cnt_lt31 (by omega)) (fun c_611 => ?_) (fun c_611 => ?_)
              · -- 611 true
                refine x_iconst h (nI 1) dL_isChip_635 (by decide) ?_
                refine x_goto h 640 dL_isChip_636 (by decide) ?_
                refine x_istore h [(6, .int (nI 1)), (7, .int (wrg Xc (i + 1))), (8, .int (nI (appl Xc (i + 1)))), (10, .int (lossX Xc i)), (0, .ref (g.1 144)), (1, .int (nI (sumN (fun k => wir Xc (nI k)) N))), (2, .int (nI (joinedN Xc N))), (3, .int (sumI (fun k => Xc (169 + 9 * k + 4)) N)), (4, .int (nI f)), (5, .int (nI y)), (9, .int (nI i))] dL_isChip_640 (by decide) rfl ?_
                refine x_iinc_n h 10 (n := 1) [(9, .int (nI (i + 1))), (6, .int (nI 1)), (7, .int (wrg Xc (i + 1))), (8, .int (nI (appl Xc (i + 1)))), (10, .int (lossX Xc i)), (0, .ref (g.1 144)), (1, .int (nI (sumN (fun k => wir Xc (nI k)) N))), (2, .int (nI (joinedN Xc N))), (3, .int (sumI (fun k => Xc (169 + 9 * k + 4)) N)), (4, .int (nI f)), (5, .int (nI y))] dL_isChip_642 rfl (by decide) rfl ?_
                refine x_goto h 446 dL_isChip_645 (by decide) ?_
                exact x_lv (ih446 (i + 1) (by omega) (by omega)) [5, 6, 7, 8, 9, 10, 1, 2, 3, 0] rfl
              · -- 611 false
                obtain ⟨h2, d2, cc2, q2, f0, f1, fh, fd, fne, f2, fc0, fc2, f6, hq2⟩ := hcl (i - 1) (by omega)
                have hmm := hmo (i - 1) (by omega)
                rw [show i - 1 + 1 = i by omega, f6, e6, nI_leI (by omega) (by omega)] at hmm
                refine x_aload_n h 3 dL_isChip_614 rfl rfl ?_
                refine x_iload h 10 dL_isChip_615 rfl ?_
                refine x_bipush h (nI 7) dL_isChip_617 (by decide) ?_
                refine x_callV h (As := [.int (nI i), .int (nI 7)]) 2 hx (c_X5_claimOf hW.hP hW.hI) gL_isChip_X5_claimOf rfl ⟨rfl, rfl⟩ (by decide +kernel) rfl (by decide) (by decide) E_144 rfl rfl (Nat.le_of_ble_eq_true rfl) dL_isChip_619 (fun a619_4 M' P' hp => ?_)
                rw [hX] at hp
                obtain ⟨⟨rfl, rfl⟩, hQ⟩ := hp
                have hz := (clm_at (i := i) (j := 7) hK12 (by omega) (by omega) hQ).trans (show Xc 4 - Xc (223 + 13 * i + 6) = nI (ac - q) by rw [eac, e6, pk_sub hq])
                clear hQ
                subst hz
                refine x_aload_n h 3 dL_isChip_622 rfl rfl ?_
                refine x_iload h 10 dL_isChip_623 rfl ?_
                refine x_iconst h (nI 1) dL_isChip_625 (by decide) ?_
                refine x_isub_n h dL_isChip_626 (by omega) ?_
                refine x_bipush h (nI 7) dL_isChip_627 (by decide) ?_
                refine x_callV h (As := [.int (nI (i - 1)), .int (nI 7)]) 2 hx (c_X5_claimOf hW.hP hW.hI) gL_isChip_X5_claimOf rfl ⟨rfl, rfl⟩ (by decide +kernel) rfl (by decide) (by decide) E_144 rfl rfl (Nat.le_of_ble_eq_true rfl) dL_isChip_629 (fun a629_4 M' P' hp => ?_)
                rw [hX] at hp
                obtain ⟨⟨rfl, rfl⟩, hQ⟩ := hp
                have hz := (clm_at (i := i - 1) (j := 7) hK12 (by omega) (by omega) hQ).trans (show Xc 4 - Xc (223 + 13 * (i - 1) + 6) = nI (ac - q2) by rw [eac, f6, pk_sub hq2])
                clear hQ
                subst hz
                refine x_icmp_gt_n h 639 dL_isChip_632 (by decide) (by first | omega | exact jN_lt | exact sumw_lt hN6 (by omega) | exact cnt_lt31 (by decide) | exact cnt_lt31 (by omega)) (by first | omega | exact jN_lt | exact sumw_lt hN6 (by omega) | exact cnt_lt31 (by decide) | exact cnt_lt31 (by omega)) (fun c_632 => by exfalso; omega) (fun c_632 => ?_)
                refine x_iconst h (nI 1) dL_isChip_635 (by decide) ?_
                refine x_goto h 640 dL_isChip_636 (by decide) ?_
                refine x_istore h [(6, .int (nI 1)), (7, .int (wrg Xc (i + 1))), (8, .int (nI (appl Xc (i + 1)))), (10, .int (lossX Xc i)), (0, .ref (g.1 144)), (1, .int (nI (sumN (fun k => wir Xc (nI k)) N))), (2, .int (nI (joinedN Xc N))), (3, .int (sumI (fun k => Xc (169 + 9 * k + 4)) N)), (4, .int (nI f)), (5, .int (nI y)), (9, .int (nI i))] dL_isChip_640 (by decide) rfl ?_
                refine x_iinc_n h 10 (n := 1) [(9, .int (nI (i + 1))), (6, .int (nI 1)), (7, .int (wrg Xc (i + 1))), (8, .int (nI (appl Xc (i + 1)))), (10, .int (lossX Xc i)), (0, .ref (g.1 144)), (1, .int (nI (sumN (fun k => wir Xc (nI k)) N))), (2, .int (nI (joinedN Xc N))), (3, .int (sumI (fun k => Xc (169 + 9 * k + 4)) N)), (4, .int (nI f)), (5, .int (nI y))] dL_isChip_642 rfl (by decide) rfl ?_
                refine x_goto h 446 dL_isChip_645 (by decide) ?_
                exact x_lv (ih446 (i + 1) (by omega) (by omega)) [5, 6, 7, 8, 9, 10, 1, 2, 3, 0] rfl
            · -- 540 false
              refine x_iconst h (nI 1) dL_isChip_543 (by decide) ?_
              refine x_aload_n h 2 dL_isChip_544 rfl rfl ?_
              refine x_iload h 10 dL_isChip_545 rfl ?_
              refine x_iconst h (nI 0) dL_isChip_547 (by decide) ?_
              refine x_callV h (As := [.int (nI i), .int (nI 0)]) 2 hx (c_X5_claimOf hW.hP hW.hI) gL_isChip_X5_claimOf rfl ⟨rfl, rfl⟩ (by decide +kernel) rfl (by decide) (by decide) E_144 rfl rfl (Nat.le_of_ble_eq_true rfl) dL_isChip_548 (fun a548_1 M' P' hp => ?_)
              rw [hX] at hp
              obtain ⟨⟨rfl, rfl⟩, hQ⟩ := hp
              have hz := (clm_at (i := i) (j := 0) hK12 (by omega) (by omega) hQ).trans e0
              clear hQ
              subst hz
              refine x_ishl h dL_isChip_551 ?_
              refine x_goto h 556 dL_isChip_552 (by decide) ?_
              refine x_ior h dL_isChip_556 ?_
              refine x_top (wrg Xc (i + 1)) (wrg_y e0 (by omega) c_528 c_540) ?_
              refine x_istore h [(7, .int (wrg Xc (i + 1))), (8, .int (nI (appl Xc (i + 1)))), (10, .int (lossX Xc i)), (0, .ref (g.1 144)), (1, .int (nI (sumN (fun k => wir Xc (nI k)) N))), (2, .int (nI (joinedN Xc N))), (3, .int (sumI (fun k => Xc (169 + 9 * k + 4)) N)), (4, .int (nI f)), (5, .int (nI y)), (6, .int (nI 1)), (9, .int (nI i))] dL_isChip_557 (by decide) rfl ?_
              refine x_aload_n h 3 dL_isChip_559 rfl rfl ?_
              refine x_iload h 10 dL_isChip_560 rfl ?_
              refine x_iconst h (nI 5) dL_isChip_562 (by decide) ?_
              refine x_callV h (As := [.int (nI i), .int (nI 5)]) 2 hx (c_X5_claimOf hW.hP hW.hI) gL_isChip_X5_claimOf rfl ⟨rfl, rfl⟩ (by decide +kernel) rfl (by decide) (by decide) E_144 rfl rfl (Nat.le_of_ble_eq_true rfl) dL_isChip_563 (fun a563_5 M' P' hp => ?_)
              rw [hX] at hp
              obtain ⟨⟨rfl, rfl⟩, hQ⟩ := hp
              have hz := (clm_at (i := i) (j := 5) hK12 (by omega) (by omega) hQ)
              clear hQ
              subst hz
              refine x_iload h 2 dL_isChip_566 rfl ?_
              refine x_icmp_ne h 639 dL_isChip_568 (by decide) (fun c_568 => by exfalso; exact absurd rfl c_568) (fun c_568 => ?_)
              refine x_aload_n h 3 dL_isChip_571 rfl rfl ?_
              refine x_iload h 10 dL_isChip_572 rfl ?_
              refine x_iconst h (nI 0) dL_isChip_574 (by decide) ?_
              refine x_callV h (As := [.int (nI i), .int (nI 0)]) 2 hx (c_X5_claimOf hW.hP hW.hI) gL_isChip_X5_claimOf rfl ⟨rfl, rfl⟩ (by decide +kernel) rfl (by decide) (by decide) E_144 rfl rfl (Nat.le_of_ble_eq_true rfl) dL_isChip_575 (fun a575_5 M' P' hp => ?_)
              rw [hX] at hp
              obtain ⟨⟨rfl, rfl⟩, hQ⟩ := hp
              have hz := (clm_at (i := i) (j := 0) hK12 (by omega) (by omega) hQ).trans e0
              clear hQ
              subst hz
              refine x_aload_n h 3 dL_isChip_578 rfl rfl ?_
              refine x_iload h 10 dL_isChip_579 rfl ?_
              refine x_iconst h (nI 1) dL_isChip_581 (by decide) ?_
              refine x_callV h (As := [.int (nI i), .int (nI 1)]) 2 hx (c_X5_claimOf hW.hP hW.hI) gL_isChip_X5_claimOf rfl ⟨rfl, rfl⟩ (by decide +kernel) rfl (by decide) (by decide) E_144 rfl rfl (Nat.le_of_ble_eq_true rfl) dL_isChip_582 (fun a582_5 M' P' hp => ?_)
              rw [hX] at hp
              obtain ⟨⟨rfl, rfl⟩, hQ⟩ := hp
              have hz := (clm_at (i := i) (j := 1) hK12 (by omega) (by omega) hQ).trans e1
              clear hQ
              subst hz
              refine x_icmp_eq_n h 639 dL_isChip_585 (by decide) (by first | omega | exact jN_lt | exact sumw_lt hN6 (by omega) | exact cnt_lt31 (by decide) | exact cnt_lt31 (by omega)) (by first | omega | exact jN_lt | exact sumw_lt hN6 (by omega) | exact cnt_lt31 (by decide) | exact cnt_lt31 (by omega)) (fun c_585 => by exfalso; exact hne c_585) (fun c_585 => ?_)
              refine x_aload_n h 3 dL_isChip_588 rfl rfl ?_
              refine x_iload h 10 dL_isChip_589 rfl ?_
              refine x_iconst h (nI 2) dL_isChip_591 (by decide) ?_
              refine x_callV h (As := [.int (nI i), .int (nI 2)]) 2 hx (c_X5_claimOf hW.hP hW.hI) gL_isChip_X5_claimOf rfl ⟨rfl, rfl⟩ (by decide +kernel) rfl (by decide) (by decide) E_144 rfl rfl (Nat.le_of_ble_eq_true rfl) dL_isChip_592 (fun a592_5 M' P' hp => ?_)
              rw [hX] at hp
              obtain ⟨⟨rfl, rfl⟩, hQ⟩ := hp
              have hz := (clm_at (i := i) (j := 2) hK12 (by omega) (by omega) hQ).trans e2
              clear hQ
              subst hz
              refine x_if_le_n h 639 dL_isChip_595 (by decide) (by first | omega | exact jN_lt | exact sumw_lt hN6 (by omega) | exact cnt_lt31 (by decide) | exact cnt_lt31 (by omega)) (fun c_595 => by exfalso; omega) (fun c_595 => ?_)
              refine x_aload_n h 3 dL_isChip_598 rfl rfl ?_
              refine x_iload h 10 dL_isChip_599 rfl ?_
              refine x_bipush h (nI 7) dL_isChip_601 (by decide) ?_
              refine x_callV h (As := [.int (nI i), .int (nI 7)]) 2 hx (c_X5_claimOf hW.hP hW.hI) gL_isChip_X5_claimOf rfl ⟨rfl, rfl⟩ (by decide +kernel) rfl (by decide) (by decide) E_144 rfl rfl (Nat.le_of_ble_eq_true rfl) dL_isChip_603 (fun a603_5 M' P' hp => ?_)
              rw [hX] at hp
              obtain ⟨⟨rfl, rfl⟩, hQ⟩ := hp
              have hz := (clm_at (i := i) (j := 7) hK12 (by omega) (by omega) hQ).trans (show Xc 4 - Xc (223 + 13 * i + 6) = nI (ac - q) by rw [eac, e6, pk_sub hq])
              clear hQ
              subst hz
              refine x_if_lt_n h 639 dL_isChip_606 (by decide) (by first | omega | exact jN_lt | exact sumw_lt hN6 (by omega) | exact cnt_lt31 (by decide) | exact cnt_lt31 (by omega)) ?_
              refine x_iload h 10 dL_isChip_609 rfl ?_
              refine x_if_eq_n h 635 dL_isChip_611 (by decide) (by first | omega | exact jN_lt | exact sumw_lt hN6 (by omega) | exact cnt_lt31 (by decide) | exact cnt_lt31 (by omega)) (fun c_611 => ?_) (fun c_611 => ?_)
              · -- 611 true
                refine x_iconst h (nI 1) dL_isChip_635 (by decide) ?_
                refine x_goto h 640 dL_isChip_636 (by decide) ?_
                refine x_istore h [(6, .int (nI 1)), (7, .int (wrg Xc (i + 1))), (8, .int (nI (appl Xc (i + 1)))), (10, .int (lossX Xc i)), (0, .ref (g.1 144)), (1, .int (nI (sumN (fun k => wir Xc (nI k)) N))), (2, .int (nI (joinedN Xc N))), (3, .int (sumI (fun k => Xc (169 + 9 * k + 4)) N)), (4, .int (nI f)), (5, .int (nI y)), (9, .int (nI i))] dL_isChip_640 (by decide) rfl ?_
                refine x_iinc_n h 10 (n := 1) [(9, .int (nI (i + 1))), (6, .int (nI 1)), (7, .int (wrg Xc (i + 1))), (8, .int (nI (appl Xc (i + 1)))), (10, .int (lossX Xc i)), (0, .ref (g.1 144)), (1, .int (nI (sumN (fun k => wir Xc (nI k)) N))), (2, .int (nI (joinedN Xc N))), (3, .int (sumI (fun k => Xc (169 + 9 * k + 4)) N)), (4, .int (nI f)), (5, .int (nI y))] dL_isChip_642 rfl (by decide) rfl ?_
                refine x_goto h 446 dL_isChip_645 (by decide) ?_
                exact x_lv (ih446 (i + 1) (by omega) (by omega)) [5, 6, 7, 8, 9, 10, 1, 2, 3, 0] rfl
              · -- 611 false
                obtain ⟨h2, d2, cc2, q2, f0, f1, fh, fd, fne, f2, fc0, fc2, f6, hq2⟩ := hcl (i - 1) (by omega)
                have hmm := hmo (i - 1) (by omega)
                rw [show i - 1 + 1 = i by omega, f6, e6, nI_leI (by omega) (by omega)] at hmm
                refine x_aload_n h 3 dL_isChip_614 rfl rfl ?_
                refine x_iload h 10 dL_isChip_615 rfl ?_
                refine x_bipush h (nI 7) dL_isChip_617 (by decide) ?_
                refine x_callV h (As := [.int (nI i), .int (nI 7)]) 2 hx (c_X5_claimOf hW.hP hW.hI) gL_isChip_X5_claimOf rfl ⟨rfl, rfl⟩ (by decide +kernel) rfl (by decide) (by decide) E_144 rfl rfl (Nat.le_of_ble_eq_true rfl) dL_isChip_619 (fun a619_5 M' P' hp => ?_)
                rw [hX] at hp
                obtain ⟨⟨rfl, rfl⟩, hQ⟩ := hp
                have hz := (clm_at (i := i) (j := 7) hK12 (by omega) (by omega) hQ).trans (show Xc 4 - Xc (223 + 13 * i + 6) = nI (ac - q) by rw [eac, e6, pk_sub hq])
                clear hQ
                subst hz
                refine x_aload_n h 3 dL_isChip_622 rfl rfl ?_
                refine x_iload h 10 dL_isChip_623 rfl ?_
                refine x_iconst h (nI 1) dL_isChip_625 (by decide) ?_
                refine x_isub_n h dL_isChip_626 (by omega) ?_
                refine x_bipush h (nI 7) dL_isChip_627 (by decide) ?_
                refine x_callV h (As := [.int (nI (i - 1)), .int (nI 7)]) 2 hx (c_X5_claimOf hW.hP hW.hI) gL_isChip_X5_claimOf rfl ⟨rfl, rfl⟩ (by decide +kernel) rfl (by decide) (by decide) E_144 rfl rfl (Nat.le_of_ble_eq_true rfl) dL_isChip_629 (fun a629_5 M' P' hp => ?_)
                rw [hX] at hp
                obtain ⟨⟨rfl, rfl⟩, hQ⟩ := hp
                have hz := (clm_at (i := i - 1) (j := 7) hK12 (by omega) (by omega) hQ).trans (show Xc 4 - Xc (223 + 13 * (i - 1) + 6) = nI (ac - q2) by rw [eac, f6, pk_sub hq2])
                clear hQ
                subst hz
                refine x_icmp_gt_n h 639 dL_isChip_632 (by decide) (by first | omega | exact jN_lt | exact sumw_lt hN6 (by omega) | exact cnt_lt31 (by decide) | exact cnt_lt31 (by omega)) (by first | omega | exact jN_lt | exact sumw_lt hN6 (by omega) | exact cnt_lt31 (by decide) | exact cnt_lt31 (by omega)) (fun c_632 => by exfalso; omega) (fun c_632 => ?_)
                refine x_iconst h (nI 1) dL_isChip_635 (by decide) ?_
                refine x_goto h 640 dL_isChip_636 (by decide) ?_
                refine x_istore h [(6, .int (nI 1)), (7, .int (wrg Xc (i + 1))), (8, .int (nI (appl Xc (i + 1)))), (10, .int (lossX Xc i)), (0, .ref (g.1 144)), (1, .int (nI (sumN (fun k => wir Xc (nI k)) N))), (2, .int (nI (joinedN Xc N))), (3, .int (sumI (fun k => Xc (169 + 9 * k + 4)) N)), (4, .int (nI f)), (5, .int (nI y)), (9, .int (nI i))] dL_isChip_640 (by decide) rfl ?_
                refine x_iinc_n h 10 (n := 1) [(9, .int (nI (i + 1))), (6, .int (nI 1)), (7, .int (wrg Xc (i + 1))), (8, .int (nI (appl Xc (i + 1)))), (10, .int (lossX Xc i)), (0, .ref (g.1 144)), (1, .int (nI (sumN (fun k => wir Xc (nI k)) N))), (2, .int (nI (joinedN Xc N))), (3, .int (sumI (fun k => Xc (169 + 9 * k + 4)) N)), (4, .int (nI f)), (5, .int (nI y))] dL_isChip_642 rfl (by decide) rfl ?_
                refine x_goto h 446 dL_isChip_645 (by decide) ?_
                exact x_lv (ih446 (i + 1) (by omega) (by omega)) [5, 6, 7, 8, 9, 10, 1, 2, 3, 0] rfl
  exact x_lv (L446 _ 0 (Nat.lt_succ_self _) (by omega)) [3, 4, 5, 6, 7, 8, 9, 2, 1, 0] rfl

set_option maxRecDepth 100000 in
set_option maxHeartbeats 16000000 in
theorem ic_4 {x : Ctx} {g : Geo} {l : Launch} {M : Nat → Nat → Int32} {P : Nat → Nat} {Xc : Nat → Int32} {N K B A s : Nat} (hx : x.1.2.1 = l) (h : Cxk x g cL_isChip 13 wsL_isChip RL rmL_isChip) (hW : WI M P N K B A s) (hX : M (P 0) = Xc) {f y : Nat} (hfe : f = wir Xc eC.1) (hye : y = cross eC Xc N) (kk : X x 776 [(0, .ref (g.1 144)), (1, .int (nI (sumN (fun k => wir Xc (nI k)) N))), (2, .int (nI (joinedN Xc N))), (3, .int (sumI (fun k => Xc (169 + 9 * k + 4)) N)), (4, .int (nI f)), (5, .int (nI y)), (6, .int (nI 1)), (7, .int (wrg Xc K)), (8, .int (nI (appl Xc K)))] [] M P) : X x 648 [(0, .ref (g.1 144)), (1, .int (nI (sumN (fun k => wir Xc (nI k)) N))), (2, .int (nI (joinedN Xc N))), (3, .int (sumI (fun k => Xc (169 + 9 * k + 4)) N)), (4, .int (nI f)), (5, .int (nI y)), (6, .int (nI 1)), (7, .int (wrg Xc K)), (8, .int (nI (appl Xc K)))] [] M P := by
  have hN6 := hW.N6
  have hK12 := hW.K12
  have hG0 : GI Xc N K B A := hX ▸ hW.hG
  have hI := hG0.1
  have hO : OwV eC Xc N := hI.1.2.1
  obtain ⟨-, hnw, ⟨ac, eac, hacA, hA30, hcl⟩, hmo, -, -⟩ := hG0
  have hap : appl Xc K ≤ K := appl_le
  have wir0 : ∀ k, k < N → jN Xc k ≠ 1 → wir Xc (nI k) = 0 := fun k hk hj => cnt_zero (fun a ha => decide_eq_false (hnw k hk ((jN_0 hj).trans nI_0.symm) a ha))
  have hf31 : f < 2 ^ 31 := by rw [hfe]; exact cnt_lt31 (by decide)
  have hy31 : y < 2 ^ 31 := by rw [hye]; exact cnt_lt31 (by decide)
  refine x_iconst h (nI 0) dL_isChip_648 (by decide) ?_
  refine x_istore h [(9, .int (nI 0)), (0, .ref (g.1 144)), (1, .int (nI (sumN (fun k => wir Xc (nI k)) N))), (2, .int (nI (joinedN Xc N))), (3, .int (sumI (fun k => Xc (169 + 9 * k + 4)) N)), (4, .int (nI f)), (5, .int (nI y)), (6, .int (nI 1)), (7, .int (wrg Xc K)), (8, .int (nI (appl Xc K)))] dL_isChip_649 (by decide) rfl ?_
  have L651 : ∀ (fu : Nat) (k : Nat), (appl Xc K - k) < fu → (k ≤ appl Xc K) → X x 651 [(0, .ref (g.1 144)), (1, .int (nI (sumN (fun k => wir Xc (nI k)) N))), (2, .int (nI (joinedN Xc N))), (3, .int (sumI (fun k => Xc (169 + 9 * k + 4)) N)), (4, .int (nI f)), (5, .int (nI y)), (6, .int (nI 1)), (7, .int (wrg Xc K)), (8, .int (nI (appl Xc K))), (9, .int (nI k))] [] M P := by
    intro fu
    induction fu with
    | zero => intro k hmu651; exact absurd hmu651 (Nat.not_lt_zero _)
    | succ fu ih651 =>
      intro k hmu651 hkk
      refine x_iload h 9 dL_isChip_651 rfl ?_
      refine x_iload h 8 dL_isChip_653 rfl ?_
      refine x_icmp_ge_n h 776 dL_isChip_655 (by decide) (by first | omega | exact jN_lt | exact sumw_lt hN6 (by omega) | exact cnt_lt31 (by decide) | exact cnt_lt31 (by omega)) (by first | omega | exact jN_lt | exact sumw_lt hN6 (by omega) | exact cnt_lt31 (by decide) | exact cnt_lt31 (by omega)) (fun c_655 => ?_) (fun c_655 => ?_)
      · -- 655 true
        obtain rfl : (appl Xc K) = k := by omega
        exact x_lv (kk) [0, 1, 2, 3, 4, 5, 6, 7, 8] rfl
      · -- 655 false
        refine x_iload h 6 dL_isChip_658 rfl ?_
        refine x_if_eq h 776 dL_isChip_660 (by decide) (fun c => absurd c (by decide)) (fun _ => ?_)
        refine x_aload_n h 0 dL_isChip_663 rfl rfl ?_
        refine x_iload h 9 dL_isChip_664 rfl ?_
        refine x_callV h (As := [.int (nI k)]) 1 hx (c_X5_docketAt hW.hP hW.hI) gL_isChip_X5_docketAt rfl ⟨rfl, rfl⟩ (by decide +kernel) rfl (by decide) (by decide) E_144 rfl rfl (Nat.le_of_ble_eq_true rfl) dL_isChip_666 (fun a666 M' P' hp => ?_)
        rw [hX] at hp
        obtain ⟨⟨rfl, rfl⟩, hQ⟩ := hp
        obtain ⟨i, hi, ei, si, ai⟩ := dk_some (X := Xc) hK12 (k := k) (by omega)
        have hz := (dk_at (by omega) hQ).trans (by rw [ei])
        clear hQ
        subst hz
        refine x_istore h [(10, .int (nI i)), (0, .ref (g.1 144)), (1, .int (nI (sumN (fun k => wir Xc (nI k)) N))), (2, .int (nI (joinedN Xc N))), (3, .int (sumI (fun k => Xc (169 + 9 * k + 4)) N)), (4, .int (nI f)), (5, .int (nI y)), (6, .int (nI 1)), (7, .int (wrg Xc K)), (8, .int (nI (appl Xc K))), (9, .int (nI k))] dL_isChip_669 (by decide) rfl ?_
        refine x_aload_n h 1 dL_isChip_671 rfl rfl ?_
        refine x_iload h 10 dL_isChip_672 rfl ?_
        refine x_iconst h (nI 1) dL_isChip_674 (by decide) ?_
        refine x_iadd_n h dL_isChip_675 ?_
        refine x_callV h (As := [.int (nI (k + 1))]) 1 hx (c_X5_docketAt hW.hP hW.hI) gL_isChip_X5_docketAt rfl ⟨rfl, rfl⟩ (by decide +kernel) rfl (by decide) (by decide) E_144 rfl rfl (Nat.le_of_ble_eq_true rfl) dL_isChip_676 (fun a676 M' P' hp => ?_)
        rw [hX] at hp
        obtain ⟨⟨rfl, rfl⟩, hQ⟩ := hp
        have hQ := dk_at (by omega) hQ
        by_cases hA : k + 1 = appl Xc K
        · rw [hA, hd1_end hK12] at hQ
          obtain rfl := hQ
          refine x_istore h [(11, .int (-1000004)), (10, .int (nI i)), (0, .ref (g.1 144)), (1, .int (nI (sumN (fun k => wir Xc (nI k)) N))), (2, .int (nI (joinedN Xc N))), (3, .int (sumI (fun k => Xc (169 + 9 * k + 4)) N)), (4, .int (nI f)), (5, .int (nI y)), (6, .int (nI 1)), (7, .int (wrg Xc K)), (8, .int (nI (appl Xc K))), (9, .int (nI k))] dL_isChip_679 (by decide) rfl ?_
          refine x_iload h 1 dL_isChip_681 rfl ?_
          refine x_if_lt_n h 767 dL_isChip_683 (by decide) (by first | omega | exact jN_lt | exact sumw_lt hN6 (by omega) | exact cnt_lt31 (by decide) | exact cnt_lt31 (by omega)) ?_
          refine x_aload_n h 2 dL_isChip_686 rfl rfl ?_
          refine x_iload h 1 dL_isChip_687 rfl ?_
          refine x_bipush h (nI 6) dL_isChip_689 (by decide) ?_
          refine x_callV h (As := [.int (nI i), .int (nI 6)]) 2 hx (c_X5_claimOf hW.hP hW.hI) gL_isChip_X5_claimOf rfl ⟨rfl, rfl⟩ (by decide +kernel) rfl (by decide) (by decide) E_144 rfl rfl (Nat.le_of_ble_eq_true rfl) dL_isChip_691 (fun a691 M' P' hp => ?_)
          rw [hX] at hp
          obtain ⟨⟨rfl, rfl⟩, hQ⟩ := hp
          have hz := (clm_at (i := i) (j := 6) hK12 (by omega) (by omega) hQ).trans si
          clear hQ
          subst hz
          refine x_iconst h (nI 1) dL_isChip_694 (by decide) ?_
          refine x_icmp_ne h 767 dL_isChip_695 (by decide) (fun c => absurd c (by decide)) (fun _ => ?_)
          refine x_iload h 11 dL_isChip_698 rfl ?_
          refine x_iload h 10 dL_isChip_700 rfl ?_
          refine x_iconst h (nI 1) dL_isChip_702 (by decide) ?_
          refine x_isub_n h dL_isChip_703 (by omega) ?_
          refine x_icmp_ne_n h 717 dL_isChip_704 (by decide) (by first | omega | exact jN_lt | exact sumw_lt hN6 (by omega) | exact cnt_lt31 (by decide) | exact cnt_lt31 (by omega)) (by first | omega | exact jN_lt | exact sumw_lt hN6 (by omega) | exact cnt_lt31 (by decide) | exact cnt_lt31 (by omega)) (fun c_704 => by exfalso; omega) (fun c_704 => ?_)
          refine x_iload h 0 dL_isChip_707 rfl ?_
          refine x_ldc h ((-1000004)) (by decide +kernel) dL_isChip_709 ?_
          refine x_icmp_ne h 767 dL_isChip_711 (by decide) (fun c => absurd c (by decide)) (fun _ => ?_)
          refine x_goto h 763 dL_isChip_714 (by decide) ?_
          refine x_iconst h (nI 1) dL_isChip_763 (by decide) ?_
          refine x_goto h 768 dL_isChip_764 (by decide) ?_
          refine x_istore h [(6, .int (nI 1)), (11, .int (-1000004)), (10, .int (nI i)), (0, .ref (g.1 144)), (1, .int (nI (sumN (fun k => wir Xc (nI k)) N))), (2, .int (nI (joinedN Xc N))), (3, .int (sumI (fun k => Xc (169 + 9 * k + 4)) N)), (4, .int (nI f)), (5, .int (nI y)), (7, .int (wrg Xc K)), (8, .int (nI (appl Xc K))), (9, .int (nI k))] dL_isChip_768 (by decide) rfl ?_
          refine x_iinc_n h 11 (n := 1) [(9, .int (nI (k + 1))), (6, .int (nI 1)), (11, .int (-1000004)), (10, .int (nI i)), (0, .ref (g.1 144)), (1, .int (nI (sumN (fun k => wir Xc (nI k)) N))), (2, .int (nI (joinedN Xc N))), (3, .int (sumI (fun k => Xc (169 + 9 * k + 4)) N)), (4, .int (nI f)), (5, .int (nI y)), (7, .int (wrg Xc K)), (8, .int (nI (appl Xc K)))] dL_isChip_770 rfl (by decide) rfl ?_
          refine x_goto h 651 dL_isChip_773 (by decide) ?_
          exact x_lv (ih651 (k + 1) (by omega) (by omega)) [4, 5, 6, 7, 8, 9, 1, 10, 11, 0] rfl
        · obtain ⟨j, hj, ej, sj, aj⟩ := dk_some (X := Xc) hK12 (k := k + 1) (by omega)
          rw [ej] at hQ
          obtain rfl := hQ
          have hbf := dk_next hi hj si sj (by omega)
          refine x_istore h [(11, .int (nI j)), (10, .int (nI i)), (0, .ref (g.1 144)), (1, .int (nI (sumN (fun k => wir Xc (nI k)) N))), (2, .int (nI (joinedN Xc N))), (3, .int (sumI (fun k => Xc (169 + 9 * k + 4)) N)), (4, .int (nI f)), (5, .int (nI y)), (6, .int (nI 1)), (7, .int (wrg Xc K)), (8, .int (nI (appl Xc K))), (9, .int (nI k))] dL_isChip_679 (by decide) rfl ?_
          refine x_iload h 1 dL_isChip_681 rfl ?_
          refine x_if_lt_n h 767 dL_isChip_683 (by decide) (by first | omega | exact jN_lt | exact sumw_lt hN6 (by omega) | exact cnt_lt31 (by decide) | exact cnt_lt31 (by omega)) ?_
          refine x_aload_n h 2 dL_isChip_686 rfl rfl ?_
          refine x_iload h 1 dL_isChip_687 rfl ?_
          refine x_bipush h (nI 6) dL_isChip_689 (by decide) ?_
          refine x_callV h (As := [.int (nI i), .int (nI 6)]) 2 hx (c_X5_claimOf hW.hP hW.hI) gL_isChip_X5_claimOf rfl ⟨rfl, rfl⟩ (by decide +kernel) rfl (by decide) (by decide) E_144 rfl rfl (Nat.le_of_ble_eq_true rfl) dL_isChip_691 (fun a691_1 M' P' hp => ?_)
          rw [hX] at hp
          obtain ⟨⟨rfl, rfl⟩, hQ⟩ := hp
          have hz := (clm_at (i := i) (j := 6) hK12 (by omega) (by omega) hQ).trans si
          clear hQ
          subst hz
          refine x_iconst h (nI 1) dL_isChip_694 (by decide) ?_
          refine x_icmp_ne h 767 dL_isChip_695 (by decide) (fun c => absurd c (by decide)) (fun _ => ?_)
          refine x_iload h 11 dL_isChip_698 rfl ?_
          refine x_iload h 10 dL_isChip_700 rfl ?_
          refine x_iconst h (nI 1) dL_isChip_702 (by decide) ?_
          refine x_isub_n h dL_isChip_703 (by omega) ?_
          refine x_icmp_ne_n h 717 dL_isChip_704 (by decide) (by first | omega | exact jN_lt | exact sumw_lt hN6 (by omega) | exact cnt_lt31 (by decide) | exact cnt_lt31 (by omega)) (by first | omega | exact jN_lt | exact sumw_lt hN6 (by omega) | exact cnt_lt31 (by decide) | exact cnt_lt31 (by omega)) (fun c_704 => ?_) (fun c_704 => by exfalso; omega)
          refine x_iload h 0 dL_isChip_717 rfl ?_
          refine x_if_lt_n h 767 dL_isChip_719 (by decide) (by first | omega | exact jN_lt | exact sumw_lt hN6 (by omega) | exact cnt_lt31 (by decide) | exact cnt_lt31 (by omega)) ?_
          refine x_aload_n h 2 dL_isChip_722 rfl rfl ?_
          refine x_iload h 1 dL_isChip_723 rfl ?_
          refine x_iconst h (nI 5) dL_isChip_725 (by decide) ?_
          refine x_callV h (As := [.int (nI i), .int (nI 5)]) 2 hx (c_X5_claimOf hW.hP hW.hI) gL_isChip_X5_claimOf rfl ⟨rfl, rfl⟩ (by decide +kernel) rfl (by decide) (by decide) E_144 rfl rfl (Nat.le_of_ble_eq_true rfl) dL_isChip_726 (fun a726 M' P' hp => ?_)
          rw [hX] at hp
          obtain ⟨⟨rfl, rfl⟩, hQ⟩ := hp
          have hz := (clm_at (i := i) (j := 5) hK12 (by omega) (by omega) hQ)
          clear hQ
          subst hz
          refine x_aload_n h 2 dL_isChip_729 rfl rfl ?_
          refine x_iload h 0 dL_isChip_730 rfl ?_
          refine x_iconst h (nI 5) dL_isChip_732 (by decide) ?_
          refine x_callV h (As := [.int (nI j), .int (nI 5)]) 2 hx (c_X5_claimOf hW.hP hW.hI) gL_isChip_X5_claimOf rfl ⟨rfl, rfl⟩ (by decide +kernel) rfl (by decide) (by decide) E_144 rfl rfl (Nat.le_of_ble_eq_true rfl) dL_isChip_733 (fun a733 M' P' hp => ?_)
          rw [hX] at hp
          obtain ⟨⟨rfl, rfl⟩, hQ⟩ := hp
          have hz := (clm_at (i := j) (j := 5) hK12 (by omega) (by omega) hQ)
          clear hQ
          subst hz
          refine x_icmp_gt h 763 dL_isChip_736 (by decide) (fun c_736 => ?_) (fun c_736 => ?_)
          · -- 736 true
            refine x_iconst h (nI 1) dL_isChip_763 (by decide) ?_
            refine x_goto h 768 dL_isChip_764 (by decide) ?_
            refine x_istore h [(6, .int (nI 1)), (11, .int (nI j)), (10, .int (nI i)), (0, .ref (g.1 144)), (1, .int (nI (sumN (fun k => wir Xc (nI k)) N))), (2, .int (nI (joinedN Xc N))), (3, .int (sumI (fun k => Xc (169 + 9 * k + 4)) N)), (4, .int (nI f)), (5, .int (nI y)), (7, .int (wrg Xc K)), (8, .int (nI (appl Xc K))), (9, .int (nI k))] dL_isChip_768 (by decide) rfl ?_
            refine x_iinc_n h 11 (n := 1) [(9, .int (nI (k + 1))), (6, .int (nI 1)), (11, .int (nI j)), (10, .int (nI i)), (0, .ref (g.1 144)), (1, .int (nI (sumN (fun k => wir Xc (nI k)) N))), (2, .int (nI (joinedN Xc N))), (3, .int (sumI (fun k => Xc (169 + 9 * k + 4)) N)), (4, .int (nI f)), (5, .int (nI y)), (7, .int (wrg Xc K)), (8, .int (nI (appl Xc K)))] dL_isChip_770 rfl (by decide) rfl ?_
            refine x_goto h 651 dL_isChip_773 (by decide) ?_
            exact x_lv (ih651 (k + 1) (by omega) (by omega)) [4, 5, 6, 7, 8, 9, 1, 10, 11, 0] rfl
          · -- 736 false
            refine x_aload_n h 2 dL_isChip_739 rfl rfl ?_
            refine x_iload h 1 dL_isChip_740 rfl ?_
            refine x_iconst h (nI 5) dL_isChip_742 (by decide) ?_
            refine x_callV h (As := [.int (nI i), .int (nI 5)]) 2 hx (c_X5_claimOf hW.hP hW.hI) gL_isChip_X5_claimOf rfl ⟨rfl, rfl⟩ (by decide +kernel) rfl (by decide) (by decide) E_144 rfl rfl (Nat.le_of_ble_eq_true rfl) dL_isChip_743 (fun a743 M' P' hp => ?_)
            rw [hX] at hp
            obtain ⟨⟨rfl, rfl⟩, hQ⟩ := hp
            have hz := (clm_at (i := i) (j := 5) hK12 (by omega) (by omega) hQ)
            clear hQ
            subst hz
            refine x_aload_n h 2 dL_isChip_746 rfl rfl ?_
            refine x_iload h 0 dL_isChip_747 rfl ?_
            refine x_iconst h (nI 5) dL_isChip_749 (by decide) ?_
            refine x_callV h (As := [.int (nI j), .int (nI 5)]) 2 hx (c_X5_claimOf hW.hP hW.hI) gL_isChip_X5_claimOf rfl ⟨rfl, rfl⟩ (by decide +kernel) rfl (by decide) (by decide) E_144 rfl rfl (Nat.le_of_ble_eq_true rfl) dL_isChip_750 (fun a750 M' P' hp => ?_)
            rw [hX] at hp
            obtain ⟨⟨rfl, rfl⟩, hQ⟩ := hp
            have hz := (clm_at (i := j) (j := 5) hK12 (by omega) (by omega) hQ)
            clear hQ
            subst hz
            refine x_icmp_ne h 767 dL_isChip_753 (by decide) (fun c_753 => by exfalso; exact hbf.elim (fun q => c_736 q) (fun q => c_753 q.1)) (fun c_753 => ?_)
            refine x_iload h 1 dL_isChip_756 rfl ?_
            refine x_iload h 0 dL_isChip_758 rfl ?_
            refine x_icmp_ge_n h 767 dL_isChip_760 (by decide) (by first | omega | exact jN_lt | exact sumw_lt hN6 (by omega) | exact cnt_lt31 (by decide) | exact cnt_lt31 (by omega)) (by first | omega | exact jN_lt | exact sumw_lt hN6 (by omega) | exact cnt_lt31 (by decide) | exact cnt_lt31 (by omega)) (fun c_760 => by exfalso; exact hbf.elim (fun q => absurd q c_736) (fun q => absurd q.2 (by omega))) (fun c_760 => ?_)
            refine x_iconst h (nI 1) dL_isChip_763 (by decide) ?_
            refine x_goto h 768 dL_isChip_764 (by decide) ?_
            refine x_istore h [(6, .int (nI 1)), (11, .int (nI j)), (10, .int (nI i)), (0, .ref (g.1 144)), (1, .int (nI (sumN (fun k => wir Xc (nI k)) N))), (2, .int (nI (joinedN Xc N))), (3, .int (sumI (fun k => Xc (169 + 9 * k + 4)) N)), (4, .int (nI f)), (5, .int (nI y)), (7, .int (wrg Xc K)), (8, .int (nI (appl Xc K))), (9, .int (nI k))] dL_isChip_768 (by decide) rfl ?_
            refine x_iinc_n h 11 (n := 1) [(9, .int (nI (k + 1))), (6, .int (nI 1)), (11, .int (nI j)), (10, .int (nI i)), (0, .ref (g.1 144)), (1, .int (nI (sumN (fun k => wir Xc (nI k)) N))), (2, .int (nI (joinedN Xc N))), (3, .int (sumI (fun k => Xc (169 + 9 * k + 4)) N)), (4, .int (nI f)), (5, .int (nI y)), (7, .int (wrg Xc K)), (8, .int (nI (appl Xc K)))] dL_isChip_770 rfl (by decide) rfl ?_
            refine x_goto h 651 dL_isChip_773 (by decide) ?_
            exact x_lv (ih651 (k + 1) (by omega) (by omega)) [4, 5, 6, 7, 8, 9, 1, 10, 11, 0] rfl
  exact x_lv (L651 _ 0 (Nat.lt_succ_self _) (by exact Nat.zero_le _)) [1, 2, 3, 4, 5, 6, 7, 8, 9, 0] rfl

set_option maxRecDepth 100000 in
set_option maxHeartbeats 16000000 in
theorem ic_5 {x : Ctx} {g : Geo} {l : Launch} {M : Nat → Nat → Int32} {P : Nat → Nat} {Xc : Nat → Int32} {N K B A s : Nat} (hx : x.1.2.1 = l) (h : Cxk x g cL_isChip 13 wsL_isChip RL rmL_isChip) (hW : WI M P N K B A s) (hX : M (P 0) = Xc) {f y : Nat} (hfe : f = wir Xc eC.1) (hye : y = cross eC Xc N) (hret : RetZ x cL_isChip (fun r M' P' => (P = P' ∧ M = M') ∧ r = nI 1)) : X x 776 [(0, .ref (g.1 144)), (1, .int (nI (sumN (fun k => wir Xc (nI k)) N))), (2, .int (nI (joinedN Xc N))), (3, .int (sumI (fun k => Xc (169 + 9 * k + 4)) N)), (4, .int (nI f)), (5, .int (nI y)), (6, .int (nI 1)), (7, .int (wrg Xc K)), (8, .int (nI (appl Xc K)))] [] M P := by
  have hN6 := hW.N6
  have hK12 := hW.K12
  have hG0 : GI Xc N K B A := hX ▸ hW.hG
  have hI := hG0.1
  have hO : OwV eC Xc N := hI.1.2.1
  obtain ⟨-, hnw, ⟨ac, eac, hacA, hA30, hcl⟩, hmo, -, -⟩ := hG0
  have hap : appl Xc K ≤ K := appl_le
  have wir0 : ∀ k, k < N → jN Xc k ≠ 1 → wir Xc (nI k) = 0 := fun k hk hj => cnt_zero (fun a ha => decide_eq_false (hnw k hk ((jN_0 hj).trans nI_0.symm) a ha))
  have hf31 : f < 2 ^ 31 := by rw [hfe]; exact cnt_lt31 (by decide)
  have hy31 : y < 2 ^ 31 := by rw [hye]; exact cnt_lt31 (by decide)
  refine x_iload h 6 dL_isChip_776 rfl ?_
  refine x_if_eq h 854 dL_isChip_778 (by decide) (fun c => absurd c (by decide)) (fun _ => ?_)
  refine x_iload_n h 1 dL_isChip_781 rfl rfl ?_
  refine x_aload_n h 0 dL_isChip_782 rfl rfl ?_
  refine x_bipush h (nI 8) dL_isChip_783 (by decide) ?_
  refine x_callV h (As := [.int (nI 8)]) 1 hx (c_X5_count hW.hP hW.hI hW.hs hW.hs4 hW.hln) gL_isChip_X5_count rfl ⟨rfl, rfl⟩ (by decide +kernel) rfl (by decide) (by decide) E_144 rfl rfl (Nat.le_of_ble_eq_true rfl) dL_isChip_785 (fun a785 M' P' hp => ?_)
  rw [hX] at hp
  obtain ⟨⟨rfl, rfl⟩, hQ⟩ := hp
  have hz := cnt_at (j := 8) (by omega) (by omega) (by omega) hQ
  clear hQ
  subst hz
  refine x_icmp_ne_n h 854 dL_isChip_788 (by decide) (by first | omega | exact jN_lt | exact sumw_lt hN6 (by omega) | exact cnt_lt31 (by decide) | exact cnt_lt31 (by omega)) (by first | omega | exact jN_lt | exact sumw_lt hN6 (by omega) | exact cnt_lt31 (by decide) | exact cnt_lt31 (by omega)) (fun c_788 => by exfalso; exact c_788 (wires_sum hN6).symm) (fun c_788 => ?_)
  refine x_iload_n h 2 dL_isChip_791 rfl rfl ?_
  refine x_aload_n h 0 dL_isChip_792 rfl rfl ?_
  refine x_iconst h (nI 1) dL_isChip_793 (by decide) ?_
  refine x_callV h (As := [.int (nI 1)]) 1 hx (c_X5_count hW.hP hW.hI hW.hs hW.hs4 hW.hln) gL_isChip_X5_count rfl ⟨rfl, rfl⟩ (by decide +kernel) rfl (by decide) (by decide) E_144 rfl rfl (Nat.le_of_ble_eq_true rfl) dL_isChip_794 (fun a794 M' P' hp => ?_)
  rw [hX] at hp
  obtain ⟨⟨rfl, rfl⟩, hQ⟩ := hp
  have hz := cnt_at (j := 1) (by omega) (by omega) (by omega) hQ
  clear hQ
  subst hz
  refine x_icmp_ne_n h 854 dL_isChip_797 (by decide) (by first | omega | exact jN_lt | exact sumw_lt hN6 (by omega) | exact cnt_lt31 (by decide) | exact cnt_lt31 (by omega)) (by first | omega | exact jN_lt | exact sumw_lt hN6 (by omega) | exact cnt_lt31 (by decide) | exact cnt_lt31 (by omega)) (fun c_797 => by exfalso; exact c_797 rfl) (fun c_797 => ?_)
  refine x_iload_n h 3 dL_isChip_800 rfl rfl ?_
  refine x_aload_n h 0 dL_isChip_801 rfl rfl ?_
  refine x_bipush h (nI 7) dL_isChip_802 (by decide) ?_
  refine x_callV h (As := [.int (nI 7)]) 1 hx (c_X5_count hW.hP hW.hI hW.hs hW.hs4 hW.hln) gL_isChip_X5_count rfl ⟨rfl, rfl⟩ (by decide +kernel) rfl (by decide) (by decide) E_144 rfl rfl (Nat.le_of_ble_eq_true rfl) dL_isChip_804 (fun a804 M' P' hp => ?_)
  rw [hX] at hp
  obtain ⟨⟨rfl, rfl⟩, hQ⟩ := hp
  have hz := cnt_at (j := 7) (by omega) (by omega) (by omega) hQ
  clear hQ
  subst hz
  refine x_icmp_ne h 854 dL_isChip_807 (by decide) (fun c_807 => by exfalso; exact c_807 rfl) (fun c_807 => ?_)
  refine x_iload h 4 dL_isChip_810 rfl ?_
  refine x_aload_n h 0 dL_isChip_812 rfl rfl ?_
  refine x_iconst h (nI 3) dL_isChip_813 (by decide) ?_
  refine x_callV h (As := [.int (nI 3)]) 1 hx (c_X5_count hW.hP hW.hI hW.hs hW.hs4 hW.hln) gL_isChip_X5_count rfl ⟨rfl, rfl⟩ (by decide +kernel) rfl (by decide) (by decide) E_144 rfl rfl (Nat.le_of_ble_eq_true rfl) dL_isChip_814 (fun a814 M' P' hp => ?_)
  rw [hX] at hp
  obtain ⟨⟨rfl, rfl⟩, hQ⟩ := hp
  have hz := cnt_at (j := 3) (by omega) (by omega) (by omega) hQ
  clear hQ
  subst hz
  refine x_icmp_ne_n h 854 dL_isChip_817 (by decide) (by first | omega | exact jN_lt | exact sumw_lt hN6 (by omega) | exact cnt_lt31 (by decide) | exact cnt_lt31 (by omega)) (by first | omega | exact jN_lt | exact sumw_lt hN6 (by omega) | exact cnt_lt31 (by decide) | exact cnt_lt31 (by omega)) (fun c_817 => by exfalso; exact c_817 hfe) (fun c_817 => ?_)
  refine x_iload h 5 dL_isChip_820 rfl ?_
  refine x_aload_n h 0 dL_isChip_822 rfl rfl ?_
  refine x_bipush h (nI 9) dL_isChip_823 (by decide) ?_
  refine x_callV h (As := [.int (nI 9)]) 1 hx (c_X5_count hW.hP hW.hI hW.hs hW.hs4 hW.hln) gL_isChip_X5_count rfl ⟨rfl, rfl⟩ (by decide +kernel) rfl (by decide) (by decide) E_144 rfl rfl (Nat.le_of_ble_eq_true rfl) dL_isChip_825 (fun a825 M' P' hp => ?_)
  rw [hX] at hp
  obtain ⟨⟨rfl, rfl⟩, hQ⟩ := hp
  have hz := cnt_at (j := 9) (by omega) (by omega) (by omega) hQ
  clear hQ
  subst hz
  refine x_icmp_ne_n h 854 dL_isChip_828 (by decide) (by first | omega | exact jN_lt | exact sumw_lt hN6 (by omega) | exact cnt_lt31 (by decide) | exact cnt_lt31 (by omega)) (by first | omega | exact jN_lt | exact sumw_lt hN6 (by omega) | exact cnt_lt31 (by decide) | exact cnt_lt31 (by omega)) (fun c_828 => by exfalso; exact c_828 hye) (fun c_828 => ?_)
  refine x_iload h 7 dL_isChip_831 rfl ?_
  refine x_aload_n h 0 dL_isChip_833 rfl rfl ?_
  refine x_callV h (As := []) 0 hx (c_X5_wronged hW.hP hW.hI) gL_isChip_X5_wronged rfl ⟨rfl, rfl⟩ (by decide +kernel) rfl (by decide) (by decide) E_144 rfl rfl (Nat.le_of_ble_eq_true rfl) dL_isChip_834 (fun a834 M' P' hp => ?_)
  rw [hX] at hp
  obtain ⟨⟨rfl, rfl⟩, rfl⟩ := hp
  refine x_icmp_ne h 854 dL_isChip_837 (by decide) (fun c_837 => by exfalso; exact c_837 rfl) (fun c_837 => ?_)
  refine x_iload h 8 dL_isChip_840 rfl ?_
  refine x_aload_n h 0 dL_isChip_842 rfl rfl ?_
  refine x_iconst h (nI 5) dL_isChip_843 (by decide) ?_
  refine x_callV h (As := [.int (nI 5)]) 1 hx (c_X5_count hW.hP hW.hI hW.hs hW.hs4 hW.hln) gL_isChip_X5_count rfl ⟨rfl, rfl⟩ (by decide +kernel) rfl (by decide) (by decide) E_144 rfl rfl (Nat.le_of_ble_eq_true rfl) dL_isChip_844 (fun a844 M' P' hp => ?_)
  rw [hX] at hp
  obtain ⟨⟨rfl, rfl⟩, hQ⟩ := hp
  have hz := cnt_at (j := 5) (by omega) (by omega) (by omega) hQ
  clear hQ
  subst hz
  refine x_icmp_ne_n h 854 dL_isChip_847 (by decide) (by first | omega | exact jN_lt | exact sumw_lt hN6 (by omega) | exact cnt_lt31 (by decide) | exact cnt_lt31 (by omega)) (by first | omega | exact jN_lt | exact sumw_lt hN6 (by omega) | exact cnt_lt31 (by decide) | exact cnt_lt31 (by omega)) (fun c_847 => by exfalso; exact c_847 rfl) (fun c_847 => ?_)
  refine x_iconst h (nI 1) dL_isChip_850 (by decide) ?_
  refine x_goto h 855 dL_isChip_851 (by decide) ?_
  exact hret _ _ _ _ _ dL_isChip_855 (by decide) (by exact ⟨⟨rfl, rfl⟩, rfl⟩)

set_option maxRecDepth 100000 in
theorem c_L_isChip {l : Launch} {g : Geo} {M : Nat → Nat → Int32} {P : Nat → Nat} {N K B A s : Nat} (hW : WI M P N K B A s) : Met l yL_isChip wsL_isChip rmL_isChip (cPre g [.ref (g.1 144)] M P) (cQi g (fun r M' P' => (P = P' ∧ M = M') ∧ r = nI 1)) 0 0 (gA g) := by
  refine met_z (cc := cL_isChip) (maxL := 13) (by decide) rfl ⟨rfl, rfl⟩ (Nat.le_of_ble_eq_true rfl) (fun x hx h hret => ?_)
  replace h : Cxk x g cL_isChip 13 wsL_isChip RL rmL_isChip := h
  show X x 0 [(0, .ref (g.1 144))] [] M P
  refine x_iconst h (nI 0) dL_isChip_0 (by decide) ?_
  refine x_istore_n h [(1, .int (nI 0)), (0, .ref (g.1 144))] dL_isChip_1 rfl (by decide) rfl ?_
  refine x_iconst h (nI 0) dL_isChip_2 (by decide) ?_
  refine x_istore_n h [(2, .int (nI 0)), (1, .int (nI 0)), (0, .ref (g.1 144))] dL_isChip_3 rfl (by decide) rfl ?_
  refine x_iconst h (nI 0) dL_isChip_4 (by decide) ?_
  refine x_istore_n h [(3, .int (nI 0)), (2, .int (nI 0)), (1, .int (nI 0)), (0, .ref (g.1 144))] dL_isChip_5 rfl (by decide) rfl ?_
  refine x_iconst h (nI 0) dL_isChip_6 (by decide) ?_
  refine x_istore h [(4, .int (nI 0)), (3, .int (nI 0)), (2, .int (nI 0)), (1, .int (nI 0)), (0, .ref (g.1 144))] dL_isChip_7 (by decide) rfl ?_
  refine x_iconst h (nI 0) dL_isChip_9 (by decide) ?_
  refine x_istore h [(5, .int (nI 0)), (4, .int (nI 0)), (3, .int (nI 0)), (2, .int (nI 0)), (1, .int (nI 0)), (0, .ref (g.1 144))] dL_isChip_10 (by decide) rfl ?_
  refine x_iconst h (nI 1) dL_isChip_12 (by decide) ?_
  refine x_istore h [(6, .int (nI 1)), (5, .int (nI 0)), (4, .int (nI 0)), (3, .int (nI 0)), (2, .int (nI 0)), (1, .int (nI 0)), (0, .ref (g.1 144))] dL_isChip_13 (by decide) rfl ?_
  refine x_iconst h (nI 0) dL_isChip_15 (by decide) ?_
  refine x_istore h [(7, .int (nI 0)), (6, .int (nI 1)), (5, .int (nI 0)), (4, .int (nI 0)), (3, .int (nI 0)), (2, .int (nI 0)), (1, .int (nI 0)), (0, .ref (g.1 144))] dL_isChip_16 (by decide) rfl ?_
  obtain ⟨X, hX⟩ : ∃ X, M (P 0) = X := ⟨_, rfl⟩
  refine x_lv (ic_1 hx h hW hX ?_) [7, 6, 5, 4, 3, 2, 1, 0] rfl
  exact ic_2 hx h hW hX (fun f y hf hy => ic_3 hx h hW hX hf hy (ic_4 hx h hW hX hf hy (ic_5 hx h hW hX hf hy hret)))
