set_option maxRecDepth 20000 in
theorem ggL_isRoute_X5_cost : GoodIn wsL_isRoute wsX5_cost := goodIn_r _ [8, 9, 10, 11, 12, 13, 7, 14, 15, 16, 17, 18, 19, 20, 21, 22, 23, 24, 25, 26, 27, 28, 29, 30, 31, 32, 33, 34, 35, 36, 37, 38, 39, 40, 41, 42, 43, 44, 45, 46, 47, 48, 49, 50, 51, 52, 53, 54, 55, 56, 57, 58, 59, 60, 61, 62, 63, 64, 65, 66, 67, 68, 69, 70, 71, 72, 73, 74, 75, 76, 77, 78, 79, 80, 81, 82, 83, 84, 85, 86, 87, 88, 89, 90, 91, 92, 93, 94, 95, 96, 97, 98, 99, 197, 198, 199, 200, 201, 202, 203, 204, 205, 206, 207, 208, 209, 210, 211, 212, 213, 214, 215, 216, 217, 218, 219, 220, 221, 222, 223, 224, 225, 226, 227, 228, 229, 230, 231, 232, 233, 234, 235] (by decide +kernel) (by decide +kernel)
set_option maxRecDepth 20000 in
theorem gL_isRoute_X5_cost : GoodIn wsL_isRoute (wsV RL 67 RX5 yX5_cost wsX5_cost) := goodIn_app (goodIn_of _ (by decide +kernel)) ggL_isRoute_X5_cost
set_option maxRecDepth 20000 in
theorem ggL_isRoute_X5_routeAt : GoodIn wsL_isRoute wsX5_routeAt := goodIn_r _ [103, 16, 9, 11, 12, 13, 7, 14, 15, 17, 18, 19, 20, 21, 22, 23, 24, 25, 26, 27, 28, 29, 30, 31, 32, 33, 34, 35, 36, 37, 38, 39, 40, 41, 42, 43, 44, 45, 46, 47, 48, 49, 50, 51, 52, 53, 54, 55, 56, 57, 58, 59, 60, 61, 62, 63, 64, 65, 66, 67, 68, 69, 70, 71, 72, 73, 74, 75, 76, 77, 78, 79, 80, 81, 82, 83, 84, 85, 86, 87, 88, 89, 90, 91, 92, 93, 94, 95, 96, 97, 98, 99, 104, 105, 106, 107, 108, 197, 198, 199, 200, 201, 202, 203, 219, 220, 221, 222, 223, 224, 225, 226, 227, 228, 229, 230, 231, 232, 233, 234, 235, 204, 205, 206, 207, 208, 209, 210, 211, 212, 213, 214, 215, 216, 217, 218] (by decide +kernel) (by decide +kernel)
set_option maxRecDepth 20000 in
theorem gL_isRoute_X5_routeAt : GoodIn wsL_isRoute (wsV RL 76 RX5 yX5_routeAt wsX5_routeAt) := goodIn_app (goodIn_of _ (by decide +kernel)) ggL_isRoute_X5_routeAt
set_option maxRecDepth 20000 in
theorem ggL_isRoute_X5_netOf : GoodIn wsL_isRoute wsX5_netOf := goodIn_r _ [112, 15, 113, 114, 115, 24, 116, 117, 52, 118, 119, 120, 121, 53, 122, 123, 124, 125, 126, 54, 22, 23, 25, 26, 127, 128, 129, 130, 50, 131, 132, 133, 134, 197, 198, 199, 200, 201, 202, 203, 219, 220, 221, 222, 223, 224, 225, 226, 227, 228, 229, 230, 231, 232, 233, 234, 235] (by decide +kernel) (by decide +kernel)
set_option maxRecDepth 20000 in
theorem gL_isRoute_X5_netOf : GoodIn wsL_isRoute (wsV RL 22 RX5 yX5_netOf wsX5_netOf) := goodIn_app (goodIn_of _ (by decide +kernel)) ggL_isRoute_X5_netOf
set_option maxRecDepth 20000 in
theorem ggL_isRoute_L_marks : GoodIn wsL_isRoute wsL_marks := goodIn_r _ [138, 139, 140, 137, 141, 142] (by decide +kernel) (by decide +kernel)
set_option maxRecDepth 20000 in
theorem gL_isRoute_L_marks : GoodIn wsL_isRoute (va_wsS RL 107 yL_marks wsL_marks) := goodIn_app (goodIn_of _ (by decide +kernel)) ggL_isRoute_L_marks
set_option maxRecDepth 20000 in
theorem ggL_isRoute_L_marked : GoodIn wsL_isRoute wsL_marked := goodIn_r _ [141, 142] (by decide +kernel) (by decide +kernel)
set_option maxRecDepth 20000 in
theorem gL_isRoute_L_marked : GoodIn wsL_isRoute (va_wsS RL 103 yL_marked wsL_marked) := goodIn_app (goodIn_of _ (by decide +kernel)) ggL_isRoute_L_marked
set_option maxRecDepth 20000 in
theorem ggL_isRoute_X5_cellOf : GoodIn wsL_isRoute wsX5_cellOf := goodIn_r _ [146, 16, 15, 147, 20, 197, 198, 199, 200, 201, 202, 203, 219, 220, 221, 222, 223, 224, 225, 226] (by decide +kernel) (by decide +kernel)
set_option maxRecDepth 20000 in
theorem gL_isRoute_X5_cellOf : GoodIn wsL_isRoute (wsV RL 19 RX5 yX5_cellOf wsX5_cellOf) := goodIn_app (goodIn_of _ (by decide +kernel)) ggL_isRoute_X5_cellOf
set_option maxRecDepth 20000 in
theorem ggL_isRoute_X5_count : GoodIn wsL_isRoute wsX5_count := goodIn_r _ [151, 152, 153, 154, 15, 155, 156, 157, 24, 158, 26, 159, 160, 51, 117, 161, 162, 163, 164, 52, 123, 165, 166, 167, 168, 127, 128, 129, 130, 50, 169, 170, 171, 172, 173, 174, 175, 176, 177, 178, 122, 179, 180, 181, 182, 54, 22, 23, 25, 183, 184, 185, 186, 197, 198, 199, 200, 201, 202, 203, 236, 237, 238, 239, 240, 219, 220, 221, 222, 223, 224, 225, 226, 227, 228, 229, 230, 231, 232, 233, 234, 235, 241, 242, 243, 244, 245, 246, 247] (by decide +kernel) (by decide +kernel)
set_option maxRecDepth 20000 in
theorem gL_isRoute_X5_count : GoodIn wsL_isRoute (wsV RL 13 RX5 yX5_count wsX5_count) := goodIn_app (goodIn_of _ (by decide +kernel)) ggL_isRoute_X5_count
set_option maxRecDepth 20000 in
theorem ggL_isRoute_X5_price : GoodIn wsL_isRoute wsX5_price := goodIn_r _ [190, 9, 191, 11, 12, 13, 7, 14, 15, 16, 17, 18, 19, 20, 21, 22, 23, 24, 25, 26, 27, 28, 29, 30, 31, 32, 33, 34, 35, 36, 37, 38, 39, 40, 41, 42, 43, 44, 45, 46, 47, 48, 49, 50, 51, 52, 53, 54, 55, 56, 57, 58, 59, 60, 61, 62, 63, 64, 65, 66, 67, 68, 69, 70, 71, 72, 73, 74, 75, 76, 77, 78, 79, 80, 81, 82, 83, 84, 85, 86, 87, 88, 89, 90, 91, 92, 93, 94, 95, 96, 97, 98, 99, 197, 198, 199, 200, 201, 202, 203, 204, 205, 206, 207, 208, 209, 210, 211, 212, 213, 214, 215, 216, 217, 218, 219, 220, 221, 222, 223, 224, 225, 226, 227, 228, 229, 230, 231, 232, 233, 234, 235] (by decide +kernel) (by decide +kernel)
set_option maxRecDepth 20000 in
theorem gL_isRoute_X5_price : GoodIn wsL_isRoute (wsV RL 70 RX5 yX5_price wsX5_price) := goodIn_app (goodIn_of _ (by decide +kernel)) ggL_isRoute_X5_price
set_option maxRecDepth 20000 in
theorem ggL_isRoute_X5_victims : GoodIn wsL_isRoute wsX5_victims := goodIn_r _ [195, 9, 196, 11, 12, 13, 7, 14, 15, 16, 17, 18, 19, 20, 21, 22, 23, 24, 25, 26, 27, 28, 29, 30, 31, 32, 33, 34, 35, 36, 37, 38, 39, 40, 41, 42, 43, 44, 45, 46, 47, 48, 49, 50, 51, 52, 53, 54, 55, 56, 57, 58, 59, 60, 61, 62, 63, 64, 65, 66, 67, 68, 69, 70, 71, 72, 73, 74, 75, 76, 77, 78, 79, 80, 81, 82, 83, 84, 85, 86, 87, 88, 89, 90, 91, 92, 93, 94, 95, 96, 97, 98, 99, 197, 198, 199, 200, 201, 202, 203, 204, 205, 206, 207, 208, 209, 210, 211, 212, 213, 214, 215, 216, 217, 218, 219, 220, 221, 222, 223, 224, 225, 226, 227, 228, 229, 230, 231, 232, 233, 234, 235] (by decide +kernel) (by decide +kernel)
set_option maxRecDepth 20000 in
theorem gL_isRoute_X5_victims : GoodIn wsL_isRoute (wsV RL 73 RX5 yX5_victims wsX5_victims) := goodIn_app (goodIn_of _ (by decide +kernel)) ggL_isRoute_X5_victims
theorem dL_isRoute_0 : decode cL_isRoute 0 = .ok (.aload_n 0, 1) := by decide +kernel
theorem dL_isRoute_1 : decode cL_isRoute 1 = .ok (.iload_n 1, 1) := by decide +kernel
theorem dL_isRoute_2 : decode cL_isRoute 2 = .ok (.iload_n 2, 1) := by decide +kernel
theorem dL_isRoute_3 : decode cL_isRoute 3 = .ok (.invokevirtual 67, 3) := by decide +kernel
theorem dL_isRoute_6 : decode cL_isRoute 6 = .ok (.istore_n 3, 1) := by decide +kernel
theorem dL_isRoute_7 : decode cL_isRoute 7 = .ok (.iload_n 3, 1) := by decide +kernel
theorem dL_isRoute_8 : decode cL_isRoute 8 = .ok (.ifCond .ge 50, 3) := by decide +kernel
theorem dL_isRoute_11 : decode cL_isRoute 11 = .ok (.aload_n 0, 1) := by decide +kernel
theorem dL_isRoute_12 : decode cL_isRoute 12 = .ok (.iload_n 1, 1) := by decide +kernel
theorem dL_isRoute_13 : decode cL_isRoute 13 = .ok (.iload_n 2, 1) := by decide +kernel
theorem dL_isRoute_14 : decode cL_isRoute 14 = .ok (.iconst 0, 1) := by decide +kernel
theorem dL_isRoute_15 : decode cL_isRoute 15 = .ok (.invokevirtual 76, 3) := by decide +kernel
theorem dL_isRoute_18 : decode cL_isRoute 18 = .ok (.iload_n 3, 1) := by decide +kernel
theorem dL_isRoute_19 : decode cL_isRoute 19 = .ok (.if_icmp .ne 37, 3) := by decide +kernel
theorem dL_isRoute_22 : decode cL_isRoute 22 = .ok (.iload_n 2, 1) := by decide +kernel
theorem dL_isRoute_23 : decode cL_isRoute 23 = .ok (.iconst 1, 1) := by decide +kernel
theorem dL_isRoute_24 : decode cL_isRoute 24 = .ok (.if_icmp .eq 28, 3) := by decide +kernel
theorem dL_isRoute_27 : decode cL_isRoute 27 = .ok (.iload_n 3, 1) := by decide +kernel
theorem dL_isRoute_28 : decode cL_isRoute 28 = .ok (.ldc 93, 2) := by decide +kernel
theorem dL_isRoute_30 : decode cL_isRoute 30 = .ok (.if_icmp .eq 22, 3) := by decide +kernel
theorem dL_isRoute_33 : decode cL_isRoute 33 = .ok (.aload_n 0, 1) := by decide +kernel
theorem dL_isRoute_34 : decode cL_isRoute 34 = .ok (.iload_n 1, 1) := by decide +kernel
theorem dL_isRoute_35 : decode cL_isRoute 35 = .ok (.iconst 1, 1) := by decide +kernel
theorem dL_isRoute_36 : decode cL_isRoute 36 = .ok (.invokevirtual 67, 3) := by decide +kernel
theorem dL_isRoute_39 : decode cL_isRoute 39 = .ok (.iload_n 3, 1) := by decide +kernel
theorem dL_isRoute_40 : decode cL_isRoute 40 = .ok (.if_icmp .le 12, 3) := by decide +kernel
theorem dL_isRoute_43 : decode cL_isRoute 43 = .ok (.aload_n 0, 1) := by decide +kernel
theorem dL_isRoute_44 : decode cL_isRoute 44 = .ok (.iload_n 1, 1) := by decide +kernel
theorem dL_isRoute_45 : decode cL_isRoute 45 = .ok (.iconst 1, 1) := by decide +kernel
theorem dL_isRoute_46 : decode cL_isRoute 46 = .ok (.invokevirtual 67, 3) := by decide +kernel
theorem dL_isRoute_49 : decode cL_isRoute 49 = .ok (.ifCond .lt 7, 3) := by decide +kernel
theorem dL_isRoute_52 : decode cL_isRoute 52 = .ok (.iconst 1, 1) := by decide +kernel
theorem dL_isRoute_53 : decode cL_isRoute 53 = .ok (.goto 4, 3) := by decide +kernel
theorem dL_isRoute_56 : decode cL_isRoute 56 = .ok (.iconst 0, 1) := by decide +kernel
theorem dL_isRoute_57 : decode cL_isRoute 57 = .ok (.ireturn, 1) := by decide +kernel
theorem dL_isRoute_58 : decode cL_isRoute 58 = .ok (.bipush 6, 2) := by decide +kernel
theorem dL_isRoute_60 : decode cL_isRoute 60 = .ok (.newarray .long, 2) := by decide +kernel
theorem dL_isRoute_62 : decode cL_isRoute 62 = .ok (.astore 4, 2) := by decide +kernel
theorem dL_isRoute_64 : decode cL_isRoute 64 = .ok (.iconst 1, 1) := by decide +kernel
theorem dL_isRoute_65 : decode cL_isRoute 65 = .ok (.istore 5, 2) := by decide +kernel
theorem dL_isRoute_67 : decode cL_isRoute 67 = .ok (.iconst 0, 1) := by decide +kernel
theorem dL_isRoute_68 : decode cL_isRoute 68 = .ok (.istore 6, 2) := by decide +kernel
theorem dL_isRoute_70 : decode cL_isRoute 70 = .ok (.iconst 0, 1) := by decide +kernel
theorem dL_isRoute_71 : decode cL_isRoute 71 = .ok (.istore 7, 2) := by decide +kernel
theorem dL_isRoute_73 : decode cL_isRoute 73 = .ok (.iconst 0, 1) := by decide +kernel
theorem dL_isRoute_74 : decode cL_isRoute 74 = .ok (.istore 8, 2) := by decide +kernel
theorem dL_isRoute_76 : decode cL_isRoute 76 = .ok (.aload 4, 2) := by decide +kernel
theorem dL_isRoute_78 : decode cL_isRoute 78 = .ok (.aload_n 0, 1) := by decide +kernel
theorem dL_isRoute_79 : decode cL_isRoute 79 = .ok (.iload_n 1, 1) := by decide +kernel
theorem dL_isRoute_80 : decode cL_isRoute 80 = .ok (.iconst 0, 1) := by decide +kernel
theorem dL_isRoute_81 : decode cL_isRoute 81 = .ok (.invokevirtual 22, 3) := by decide +kernel
theorem dL_isRoute_84 : decode cL_isRoute 84 = .ok (.iconst 1, 1) := by decide +kernel
theorem dL_isRoute_85 : decode cL_isRoute 85 = .ok (.invokestatic 107, 3) := by decide +kernel
theorem dL_isRoute_88 : decode cL_isRoute 88 = .ok (.aload 4, 2) := by decide +kernel
theorem dL_isRoute_90 : decode cL_isRoute 90 = .ok (.bipush 81, 2) := by decide +kernel
theorem dL_isRoute_92 : decode cL_isRoute 92 = .ok (.aload_n 0, 1) := by decide +kernel
theorem dL_isRoute_93 : decode cL_isRoute 93 = .ok (.iload_n 1, 1) := by decide +kernel
theorem dL_isRoute_94 : decode cL_isRoute 94 = .ok (.iconst 0, 1) := by decide +kernel
theorem dL_isRoute_95 : decode cL_isRoute 95 = .ok (.invokevirtual 22, 3) := by decide +kernel
theorem dL_isRoute_98 : decode cL_isRoute 98 = .ok (.iadd, 1) := by decide +kernel
theorem dL_isRoute_99 : decode cL_isRoute 99 = .ok (.iconst 1, 1) := by decide +kernel
theorem dL_isRoute_100 : decode cL_isRoute 100 = .ok (.invokestatic 107, 3) := by decide +kernel
theorem dL_isRoute_103 : decode cL_isRoute 103 = .ok (.iconst 0, 1) := by decide +kernel
theorem dL_isRoute_104 : decode cL_isRoute 104 = .ok (.istore 9, 2) := by decide +kernel
theorem dL_isRoute_106 : decode cL_isRoute 106 = .ok (.iconst 1, 1) := by decide +kernel
theorem dL_isRoute_107 : decode cL_isRoute 107 = .ok (.istore 10, 2) := by decide +kernel
theorem dL_isRoute_109 : decode cL_isRoute 109 = .ok (.iload 5, 2) := by decide +kernel
theorem dL_isRoute_111 : decode cL_isRoute 111 = .ok (.iconst 3, 1) := by decide +kernel
theorem dL_isRoute_112 : decode cL_isRoute 112 = .ok (.if_icmp .ge 545, 3) := by decide +kernel
theorem dL_isRoute_115 : decode cL_isRoute 115 = .ok (.iload 10, 2) := by decide +kernel
theorem dL_isRoute_117 : decode cL_isRoute 117 = .ok (.ifCond .eq 540, 3) := by decide +kernel
theorem dL_isRoute_120 : decode cL_isRoute 120 = .ok (.aload_n 0, 1) := by decide +kernel
theorem dL_isRoute_121 : decode cL_isRoute 121 = .ok (.iload_n 1, 1) := by decide +kernel
theorem dL_isRoute_122 : decode cL_isRoute 122 = .ok (.iload 5, 2) := by decide +kernel
theorem dL_isRoute_124 : decode cL_isRoute 124 = .ok (.invokevirtual 22, 3) := by decide +kernel
theorem dL_isRoute_127 : decode cL_isRoute 127 = .ok (.ifCond .lt 530, 3) := by decide +kernel
theorem dL_isRoute_130 : decode cL_isRoute 130 = .ok (.aload_n 0, 1) := by decide +kernel
theorem dL_isRoute_131 : decode cL_isRoute 131 = .ok (.iload_n 1, 1) := by decide +kernel
theorem dL_isRoute_132 : decode cL_isRoute 132 = .ok (.iload_n 2, 1) := by decide +kernel
theorem dL_isRoute_133 : decode cL_isRoute 133 = .ok (.iload 9, 2) := by decide +kernel
theorem dL_isRoute_135 : decode cL_isRoute 135 = .ok (.invokevirtual 76, 3) := by decide +kernel
theorem dL_isRoute_138 : decode cL_isRoute 138 = .ok (.istore 11, 2) := by decide +kernel
theorem dL_isRoute_140 : decode cL_isRoute 140 = .ok (.iload 11, 2) := by decide +kernel
theorem dL_isRoute_142 : decode cL_isRoute 142 = .ok (.ifCond .lt 22, 3) := by decide +kernel
theorem dL_isRoute_145 : decode cL_isRoute 145 = .ok (.iload 11, 2) := by decide +kernel
theorem dL_isRoute_147 : decode cL_isRoute 147 = .ok (.bipush 81, 2) := by decide +kernel
theorem dL_isRoute_149 : decode cL_isRoute 149 = .ok (.irem, 1) := by decide +kernel
theorem dL_isRoute_150 : decode cL_isRoute 150 = .ok (.aload_n 0, 1) := by decide +kernel
theorem dL_isRoute_151 : decode cL_isRoute 151 = .ok (.iload_n 1, 1) := by decide +kernel
theorem dL_isRoute_152 : decode cL_isRoute 152 = .ok (.iload 5, 2) := by decide +kernel
theorem dL_isRoute_154 : decode cL_isRoute 154 = .ok (.invokevirtual 22, 3) := by decide +kernel
theorem dL_isRoute_157 : decode cL_isRoute 157 = .ok (.if_icmp .ne 7, 3) := by decide +kernel
theorem dL_isRoute_160 : decode cL_isRoute 160 = .ok (.iconst 1, 1) := by decide +kernel
theorem dL_isRoute_161 : decode cL_isRoute 161 = .ok (.goto 4, 3) := by decide +kernel
theorem dL_isRoute_164 : decode cL_isRoute 164 = .ok (.iconst 0, 1) := by decide +kernel
theorem dL_isRoute_165 : decode cL_isRoute 165 = .ok (.istore 10, 2) := by decide +kernel
theorem dL_isRoute_167 : decode cL_isRoute 167 = .ok (.iload 10, 2) := by decide +kernel
theorem dL_isRoute_169 : decode cL_isRoute 169 = .ok (.ifCond .eq 360, 3) := by decide +kernel
theorem dL_isRoute_172 : decode cL_isRoute 172 = .ok (.aload 4, 2) := by decide +kernel
theorem dL_isRoute_174 : decode cL_isRoute 174 = .ok (.iload 11, 2) := by decide +kernel
theorem dL_isRoute_176 : decode cL_isRoute 176 = .ok (.invokestatic 103, 3) := by decide +kernel
theorem dL_isRoute_179 : decode cL_isRoute 179 = .ok (.iconst 1, 1) := by decide +kernel
theorem dL_isRoute_180 : decode cL_isRoute 180 = .ok (.if_icmp .eq 349, 3) := by decide +kernel
theorem dL_isRoute_183 : decode cL_isRoute 183 = .ok (.aload 4, 2) := by decide +kernel
theorem dL_isRoute_185 : decode cL_isRoute 185 = .ok (.iload 11, 2) := by decide +kernel
theorem dL_isRoute_187 : decode cL_isRoute 187 = .ok (.iconst 2, 1) := by decide +kernel
theorem dL_isRoute_188 : decode cL_isRoute 188 = .ok (.invokestatic 107, 3) := by decide +kernel
theorem dL_isRoute_191 : decode cL_isRoute 191 = .ok (.iinc 9 1, 3) := by decide +kernel
theorem dL_isRoute_194 : decode cL_isRoute 194 = .ok (.aload_n 0, 1) := by decide +kernel
theorem dL_isRoute_195 : decode cL_isRoute 195 = .ok (.iload_n 1, 1) := by decide +kernel
theorem dL_isRoute_196 : decode cL_isRoute 196 = .ok (.iload_n 2, 1) := by decide +kernel
theorem dL_isRoute_197 : decode cL_isRoute 197 = .ok (.iload 9, 2) := by decide +kernel
theorem dL_isRoute_199 : decode cL_isRoute 199 = .ok (.invokevirtual 76, 3) := by decide +kernel
theorem dL_isRoute_202 : decode cL_isRoute 202 = .ok (.istore 12, 2) := by decide +kernel
theorem dL_isRoute_204 : decode cL_isRoute 204 = .ok (.iload 12, 2) := by decide +kernel
theorem dL_isRoute_206 : decode cL_isRoute 206 = .ok (.ifCond .lt 20, 3) := by decide +kernel
theorem dL_isRoute_209 : decode cL_isRoute 209 = .ok (.iload 12, 2) := by decide +kernel
theorem dL_isRoute_211 : decode cL_isRoute 211 = .ok (.bipush 81, 2) := by decide +kernel
theorem dL_isRoute_213 : decode cL_isRoute 213 = .ok (.irem, 1) := by decide +kernel
theorem dL_isRoute_214 : decode cL_isRoute 214 = .ok (.iload 11, 2) := by decide +kernel
theorem dL_isRoute_216 : decode cL_isRoute 216 = .ok (.bipush 81, 2) := by decide +kernel
theorem dL_isRoute_218 : decode cL_isRoute 218 = .ok (.irem, 1) := by decide +kernel
theorem dL_isRoute_219 : decode cL_isRoute 219 = .ok (.if_icmp .ne 7, 3) := by decide +kernel
theorem dL_isRoute_222 : decode cL_isRoute 222 = .ok (.iconst 1, 1) := by decide +kernel
theorem dL_isRoute_223 : decode cL_isRoute 223 = .ok (.goto 4, 3) := by decide +kernel
theorem dL_isRoute_226 : decode cL_isRoute 226 = .ok (.iconst 0, 1) := by decide +kernel
theorem dL_isRoute_227 : decode cL_isRoute 227 = .ok (.istore 13, 2) := by decide +kernel
theorem dL_isRoute_229 : decode cL_isRoute 229 = .ok (.iload 12, 2) := by decide +kernel
theorem dL_isRoute_231 : decode cL_isRoute 231 = .ok (.ifCond .lt 81, 3) := by decide +kernel
theorem dL_isRoute_234 : decode cL_isRoute 234 = .ok (.iload 12, 2) := by decide +kernel
theorem dL_isRoute_236 : decode cL_isRoute 236 = .ok (.bipush 81, 2) := by decide +kernel
theorem dL_isRoute_238 : decode cL_isRoute 238 = .ok (.idiv, 1) := by decide +kernel
theorem dL_isRoute_239 : decode cL_isRoute 239 = .ok (.iload 11, 2) := by decide +kernel
theorem dL_isRoute_241 : decode cL_isRoute 241 = .ok (.bipush 81, 2) := by decide +kernel
theorem dL_isRoute_243 : decode cL_isRoute 243 = .ok (.idiv, 1) := by decide +kernel
theorem dL_isRoute_244 : decode cL_isRoute 244 = .ok (.if_icmp .ne 68, 3) := by decide +kernel
theorem dL_isRoute_247 : decode cL_isRoute 247 = .ok (.iload 11, 2) := by decide +kernel
theorem dL_isRoute_249 : decode cL_isRoute 249 = .ok (.bipush 81, 2) := by decide +kernel
theorem dL_isRoute_251 : decode cL_isRoute 251 = .ok (.if_icmp .ge 37, 3) := by decide +kernel
theorem dL_isRoute_254 : decode cL_isRoute 254 = .ok (.iload 12, 2) := by decide +kernel
theorem dL_isRoute_256 : decode cL_isRoute 256 = .ok (.bipush 9, 2) := by decide +kernel
theorem dL_isRoute_258 : decode cL_isRoute 258 = .ok (.idiv, 1) := by decide +kernel
theorem dL_isRoute_259 : decode cL_isRoute 259 = .ok (.iload 11, 2) := by decide +kernel
theorem dL_isRoute_261 : decode cL_isRoute 261 = .ok (.bipush 9, 2) := by decide +kernel
theorem dL_isRoute_263 : decode cL_isRoute 263 = .ok (.idiv, 1) := by decide +kernel
theorem dL_isRoute_264 : decode cL_isRoute 264 = .ok (.if_icmp .ne 48, 3) := by decide +kernel
theorem dL_isRoute_267 : decode cL_isRoute 267 = .ok (.iload 12, 2) := by decide +kernel
theorem dL_isRoute_269 : decode cL_isRoute 269 = .ok (.iload 11, 2) := by decide +kernel
theorem dL_isRoute_271 : decode cL_isRoute 271 = .ok (.isub, 1) := by decide +kernel
theorem dL_isRoute_272 : decode cL_isRoute 272 = .ok (.iconst 1, 1) := by decide +kernel
theorem dL_isRoute_273 : decode cL_isRoute 273 = .ok (.if_icmp .eq 35, 3) := by decide +kernel
theorem dL_isRoute_276 : decode cL_isRoute 276 = .ok (.iload 11, 2) := by decide +kernel
theorem dL_isRoute_278 : decode cL_isRoute 278 = .ok (.iload 12, 2) := by decide +kernel
theorem dL_isRoute_280 : decode cL_isRoute 280 = .ok (.isub, 1) := by decide +kernel
theorem dL_isRoute_281 : decode cL_isRoute 281 = .ok (.iconst 1, 1) := by decide +kernel
theorem dL_isRoute_282 : decode cL_isRoute 282 = .ok (.if_icmp .ne 30, 3) := by decide +kernel
theorem dL_isRoute_285 : decode cL_isRoute 285 = .ok (.goto 23, 3) := by decide +kernel
theorem dL_isRoute_288 : decode cL_isRoute 288 = .ok (.iload 12, 2) := by decide +kernel
theorem dL_isRoute_290 : decode cL_isRoute 290 = .ok (.iload 11, 2) := by decide +kernel
theorem dL_isRoute_292 : decode cL_isRoute 292 = .ok (.isub, 1) := by decide +kernel
theorem dL_isRoute_293 : decode cL_isRoute 293 = .ok (.bipush 9, 2) := by decide +kernel
theorem dL_isRoute_295 : decode cL_isRoute 295 = .ok (.if_icmp .eq 13, 3) := by decide +kernel
theorem dL_isRoute_298 : decode cL_isRoute 298 = .ok (.iload 11, 2) := by decide +kernel
theorem dL_isRoute_300 : decode cL_isRoute 300 = .ok (.iload 12, 2) := by decide +kernel
theorem dL_isRoute_302 : decode cL_isRoute 302 = .ok (.isub, 1) := by decide +kernel
theorem dL_isRoute_303 : decode cL_isRoute 303 = .ok (.bipush 9, 2) := by decide +kernel
theorem dL_isRoute_305 : decode cL_isRoute 305 = .ok (.if_icmp .ne 7, 3) := by decide +kernel
theorem dL_isRoute_308 : decode cL_isRoute 308 = .ok (.iconst 1, 1) := by decide +kernel
theorem dL_isRoute_309 : decode cL_isRoute 309 = .ok (.goto 4, 3) := by decide +kernel
theorem dL_isRoute_312 : decode cL_isRoute 312 = .ok (.iconst 0, 1) := by decide +kernel
theorem dL_isRoute_313 : decode cL_isRoute 313 = .ok (.istore 14, 2) := by decide +kernel
theorem dL_isRoute_315 : decode cL_isRoute 315 = .ok (.iload 13, 2) := by decide +kernel
theorem dL_isRoute_317 : decode cL_isRoute 317 = .ok (.iload 14, 2) := by decide +kernel
theorem dL_isRoute_319 : decode cL_isRoute 319 = .ok (.if_icmp .eq 18, 3) := by decide +kernel
theorem dL_isRoute_322 : decode cL_isRoute 322 = .ok (.aload 4, 2) := by decide +kernel
theorem dL_isRoute_324 : decode cL_isRoute 324 = .ok (.iload 12, 2) := by decide +kernel
theorem dL_isRoute_326 : decode cL_isRoute 326 = .ok (.invokestatic 103, 3) := by decide +kernel
theorem dL_isRoute_329 : decode cL_isRoute 329 = .ok (.iconst 2, 1) := by decide +kernel
theorem dL_isRoute_330 : decode cL_isRoute 330 = .ok (.if_icmp .eq 7, 3) := by decide +kernel
theorem dL_isRoute_333 : decode cL_isRoute 333 = .ok (.iconst 1, 1) := by decide +kernel
theorem dL_isRoute_334 : decode cL_isRoute 334 = .ok (.goto 4, 3) := by decide +kernel
theorem dL_isRoute_337 : decode cL_isRoute 337 = .ok (.iconst 0, 1) := by decide +kernel
theorem dL_isRoute_338 : decode cL_isRoute 338 = .ok (.istore 10, 2) := by decide +kernel
theorem dL_isRoute_340 : decode cL_isRoute 340 = .ok (.iload 10, 2) := by decide +kernel
theorem dL_isRoute_342 : decode cL_isRoute 342 = .ok (.ifCond .eq 184, 3) := by decide +kernel
theorem dL_isRoute_345 : decode cL_isRoute 345 = .ok (.aload_n 0, 1) := by decide +kernel
theorem dL_isRoute_346 : decode cL_isRoute 346 = .ok (.iload 12, 2) := by decide +kernel
theorem dL_isRoute_348 : decode cL_isRoute 348 = .ok (.invokevirtual 19, 3) := by decide +kernel
theorem dL_isRoute_351 : decode cL_isRoute 351 = .ok (.istore 15, 2) := by decide +kernel
theorem dL_isRoute_353 : decode cL_isRoute 353 = .ok (.aload 4, 2) := by decide +kernel
theorem dL_isRoute_355 : decode cL_isRoute 355 = .ok (.iload 12, 2) := by decide +kernel
theorem dL_isRoute_357 : decode cL_isRoute 357 = .ok (.invokestatic 103, 3) := by decide +kernel
theorem dL_isRoute_360 : decode cL_isRoute 360 = .ok (.ifCond .ne 19, 3) := by decide +kernel
theorem dL_isRoute_363 : decode cL_isRoute 363 = .ok (.iload 15, 2) := by decide +kernel
theorem dL_isRoute_365 : decode cL_isRoute 365 = .ok (.ifCond .lt 14, 3) := by decide +kernel
theorem dL_isRoute_368 : decode cL_isRoute 368 = .ok (.iload 15, 2) := by decide +kernel
theorem dL_isRoute_370 : decode cL_isRoute 370 = .ok (.bipush 6, 2) := by decide +kernel
theorem dL_isRoute_372 : decode cL_isRoute 372 = .ok (.if_icmp .ge 7, 3) := by decide +kernel
theorem dL_isRoute_375 : decode cL_isRoute 375 = .ok (.iconst 1, 1) := by decide +kernel
theorem dL_isRoute_376 : decode cL_isRoute 376 = .ok (.goto 4, 3) := by decide +kernel
theorem dL_isRoute_379 : decode cL_isRoute 379 = .ok (.iconst 0, 1) := by decide +kernel
theorem dL_isRoute_380 : decode cL_isRoute 380 = .ok (.istore 16, 2) := by decide +kernel
theorem dL_isRoute_382 : decode cL_isRoute 382 = .ok (.aload 4, 2) := by decide +kernel
theorem dL_isRoute_384 : decode cL_isRoute 384 = .ok (.iload 12, 2) := by decide +kernel
theorem dL_isRoute_386 : decode cL_isRoute 386 = .ok (.invokestatic 103, 3) := by decide +kernel
theorem dL_isRoute_389 : decode cL_isRoute 389 = .ok (.iconst 1, 1) := by decide +kernel
theorem dL_isRoute_390 : decode cL_isRoute 390 = .ok (.if_icmp .eq 35, 3) := by decide +kernel
theorem dL_isRoute_393 : decode cL_isRoute 393 = .ok (.iload 15, 2) := by decide +kernel
theorem dL_isRoute_395 : decode cL_isRoute 395 = .ok (.ldc 83, 2) := by decide +kernel
theorem dL_isRoute_397 : decode cL_isRoute 397 = .ok (.if_icmp .eq 28, 3) := by decide +kernel
theorem dL_isRoute_400 : decode cL_isRoute 400 = .ok (.iload 15, 2) := by decide +kernel
theorem dL_isRoute_402 : decode cL_isRoute 402 = .ok (.bipush 10, 2) := by decide +kernel
theorem dL_isRoute_404 : decode cL_isRoute 404 = .ok (.iload_n 1, 1) := by decide +kernel
theorem dL_isRoute_405 : decode cL_isRoute 405 = .ok (.iadd, 1) := by decide +kernel
theorem dL_isRoute_406 : decode cL_isRoute 406 = .ok (.if_icmp .eq 19, 3) := by decide +kernel
theorem dL_isRoute_409 : decode cL_isRoute 409 = .ok (.iload_n 2, 1) := by decide +kernel
theorem dL_isRoute_410 : decode cL_isRoute 410 = .ok (.iconst 1, 1) := by decide +kernel
theorem dL_isRoute_411 : decode cL_isRoute 411 = .ok (.if_icmp .ne 18, 3) := by decide +kernel
theorem dL_isRoute_414 : decode cL_isRoute 414 = .ok (.iload 16, 2) := by decide +kernel
theorem dL_isRoute_416 : decode cL_isRoute 416 = .ok (.ifCond .eq 13, 3) := by decide +kernel
theorem dL_isRoute_419 : decode cL_isRoute 419 = .ok (.iload 15, 2) := by decide +kernel
theorem dL_isRoute_421 : decode cL_isRoute 421 = .ok (.iload_n 1, 1) := by decide +kernel
theorem dL_isRoute_422 : decode cL_isRoute 422 = .ok (.if_icmp .eq 7, 3) := by decide +kernel
theorem dL_isRoute_425 : decode cL_isRoute 425 = .ok (.iconst 1, 1) := by decide +kernel
theorem dL_isRoute_426 : decode cL_isRoute 426 = .ok (.goto 4, 3) := by decide +kernel
theorem dL_isRoute_429 : decode cL_isRoute 429 = .ok (.iconst 0, 1) := by decide +kernel
theorem dL_isRoute_430 : decode cL_isRoute 430 = .ok (.istore 10, 2) := by decide +kernel
theorem dL_isRoute_432 : decode cL_isRoute 432 = .ok (.iload 6, 2) := by decide +kernel
theorem dL_isRoute_434 : decode cL_isRoute 434 = .ok (.iload 13, 2) := by decide +kernel
theorem dL_isRoute_436 : decode cL_isRoute 436 = .ok (.ifCond .eq 12, 3) := by decide +kernel
theorem dL_isRoute_439 : decode cL_isRoute 439 = .ok (.aload_n 0, 1) := by decide +kernel
theorem dL_isRoute_440 : decode cL_isRoute 440 = .ok (.bipush 20, 2) := by decide +kernel
theorem dL_isRoute_442 : decode cL_isRoute 442 = .ok (.invokevirtual 13, 3) := by decide +kernel
theorem dL_isRoute_445 : decode cL_isRoute 445 = .ok (.goto 4, 3) := by decide +kernel
theorem dL_isRoute_448 : decode cL_isRoute 448 = .ok (.iconst 1, 1) := by decide +kernel
theorem dL_isRoute_449 : decode cL_isRoute 449 = .ok (.iload 16, 2) := by decide +kernel
theorem dL_isRoute_451 : decode cL_isRoute 451 = .ok (.ifCond .eq 20, 3) := by decide +kernel
theorem dL_isRoute_454 : decode cL_isRoute 454 = .ok (.aload_n 0, 1) := by decide +kernel
theorem dL_isRoute_455 : decode cL_isRoute 455 = .ok (.bipush 21, 2) := by decide +kernel
theorem dL_isRoute_457 : decode cL_isRoute 457 = .ok (.invokevirtual 13, 3) := by decide +kernel
theorem dL_isRoute_460 : decode cL_isRoute 460 = .ok (.aload_n 0, 1) := by decide +kernel
theorem dL_isRoute_461 : decode cL_isRoute 461 = .ok (.iload 15, 2) := by decide +kernel
theorem dL_isRoute_463 : decode cL_isRoute 463 = .ok (.iconst 3, 1) := by decide +kernel
theorem dL_isRoute_464 : decode cL_isRoute 464 = .ok (.invokevirtual 22, 3) := by decide +kernel
theorem dL_isRoute_467 : decode cL_isRoute 467 = .ok (.iadd, 1) := by decide +kernel
theorem dL_isRoute_468 : decode cL_isRoute 468 = .ok (.goto 4, 3) := by decide +kernel
theorem dL_isRoute_471 : decode cL_isRoute 471 = .ok (.iconst 0, 1) := by decide +kernel
theorem dL_isRoute_472 : decode cL_isRoute 472 = .ok (.iadd, 1) := by decide +kernel
theorem dL_isRoute_473 : decode cL_isRoute 473 = .ok (.iadd, 1) := by decide +kernel
theorem dL_isRoute_474 : decode cL_isRoute 474 = .ok (.istore 6, 2) := by decide +kernel
theorem dL_isRoute_476 : decode cL_isRoute 476 = .ok (.iload 7, 2) := by decide +kernel
theorem dL_isRoute_478 : decode cL_isRoute 478 = .ok (.iload 16, 2) := by decide +kernel
theorem dL_isRoute_480 : decode cL_isRoute 480 = .ok (.ifCond .eq 20, 3) := by decide +kernel
theorem dL_isRoute_483 : decode cL_isRoute 483 = .ok (.aload_n 0, 1) := by decide +kernel
theorem dL_isRoute_484 : decode cL_isRoute 484 = .ok (.bipush 21, 2) := by decide +kernel
theorem dL_isRoute_486 : decode cL_isRoute 486 = .ok (.invokevirtual 13, 3) := by decide +kernel
theorem dL_isRoute_489 : decode cL_isRoute 489 = .ok (.aload_n 0, 1) := by decide +kernel
theorem dL_isRoute_490 : decode cL_isRoute 490 = .ok (.iload 15, 2) := by decide +kernel
theorem dL_isRoute_492 : decode cL_isRoute 492 = .ok (.iconst 3, 1) := by decide +kernel
theorem dL_isRoute_493 : decode cL_isRoute 493 = .ok (.invokevirtual 22, 3) := by decide +kernel
theorem dL_isRoute_496 : decode cL_isRoute 496 = .ok (.iadd, 1) := by decide +kernel
theorem dL_isRoute_497 : decode cL_isRoute 497 = .ok (.goto 4, 3) := by decide +kernel
theorem dL_isRoute_500 : decode cL_isRoute 500 = .ok (.iconst 0, 1) := by decide +kernel
theorem dL_isRoute_501 : decode cL_isRoute 501 = .ok (.iadd, 1) := by decide +kernel
theorem dL_isRoute_502 : decode cL_isRoute 502 = .ok (.istore 7, 2) := by decide +kernel
theorem dL_isRoute_504 : decode cL_isRoute 504 = .ok (.iload 8, 2) := by decide +kernel
theorem dL_isRoute_506 : decode cL_isRoute 506 = .ok (.iload 16, 2) := by decide +kernel
theorem dL_isRoute_508 : decode cL_isRoute 508 = .ok (.ifCond .eq 10, 3) := by decide +kernel
theorem dL_isRoute_511 : decode cL_isRoute 511 = .ok (.iconst 1, 1) := by decide +kernel
theorem dL_isRoute_512 : decode cL_isRoute 512 = .ok (.iload 15, 2) := by decide +kernel
theorem dL_isRoute_514 : decode cL_isRoute 514 = .ok (.ishl, 1) := by decide +kernel
theorem dL_isRoute_515 : decode cL_isRoute 515 = .ok (.goto 4, 3) := by decide +kernel
theorem dL_isRoute_518 : decode cL_isRoute 518 = .ok (.iconst 0, 1) := by decide +kernel
theorem dL_isRoute_519 : decode cL_isRoute 519 = .ok (.ior, 1) := by decide +kernel
theorem dL_isRoute_520 : decode cL_isRoute 520 = .ok (.istore 8, 2) := by decide +kernel
theorem dL_isRoute_522 : decode cL_isRoute 522 = .ok (.iload 12, 2) := by decide +kernel
theorem dL_isRoute_524 : decode cL_isRoute 524 = .ok (.istore 11, 2) := by decide +kernel
theorem dL_isRoute_526 : decode cL_isRoute 526 = .ok (.goto (-359), 3) := by decide +kernel
theorem dL_isRoute_529 : decode cL_isRoute 529 = .ok (.iinc 9 1, 3) := by decide +kernel
theorem dL_isRoute_532 : decode cL_isRoute 532 = .ok (.iconst 0, 1) := by decide +kernel
theorem dL_isRoute_533 : decode cL_isRoute 533 = .ok (.istore 12, 2) := by decide +kernel
theorem dL_isRoute_535 : decode cL_isRoute 535 = .ok (.iload 12, 2) := by decide +kernel
theorem dL_isRoute_537 : decode cL_isRoute 537 = .ok (.sipush 162, 3) := by decide +kernel
theorem dL_isRoute_540 : decode cL_isRoute 540 = .ok (.if_icmp .ge 38, 3) := by decide +kernel
theorem dL_isRoute_543 : decode cL_isRoute 543 = .ok (.aload 4, 2) := by decide +kernel
theorem dL_isRoute_545 : decode cL_isRoute 545 = .ok (.iload 12, 2) := by decide +kernel
theorem dL_isRoute_547 : decode cL_isRoute 547 = .ok (.aload 4, 2) := by decide +kernel
theorem dL_isRoute_549 : decode cL_isRoute 549 = .ok (.iload 12, 2) := by decide +kernel
theorem dL_isRoute_551 : decode cL_isRoute 551 = .ok (.invokestatic 103, 3) := by decide +kernel
theorem dL_isRoute_554 : decode cL_isRoute 554 = .ok (.iconst 2, 1) := by decide +kernel
theorem dL_isRoute_555 : decode cL_isRoute 555 = .ok (.if_icmp .ne 7, 3) := by decide +kernel
theorem dL_isRoute_558 : decode cL_isRoute 558 = .ok (.iconst 1, 1) := by decide +kernel
theorem dL_isRoute_559 : decode cL_isRoute 559 = .ok (.goto 10, 3) := by decide +kernel
theorem dL_isRoute_562 : decode cL_isRoute 562 = .ok (.aload 4, 2) := by decide +kernel
theorem dL_isRoute_564 : decode cL_isRoute 564 = .ok (.iload 12, 2) := by decide +kernel
theorem dL_isRoute_566 : decode cL_isRoute 566 = .ok (.invokestatic 103, 3) := by decide +kernel
theorem dL_isRoute_569 : decode cL_isRoute 569 = .ok (.invokestatic 107, 3) := by decide +kernel
theorem dL_isRoute_572 : decode cL_isRoute 572 = .ok (.iinc 12 1, 3) := by decide +kernel
theorem dL_isRoute_575 : decode cL_isRoute 575 = .ok (.goto (-40), 3) := by decide +kernel
theorem dL_isRoute_578 : decode cL_isRoute 578 = .ok (.iconst 0, 1) := by decide +kernel
theorem dL_isRoute_579 : decode cL_isRoute 579 = .ok (.istore 12, 2) := by decide +kernel
theorem dL_isRoute_581 : decode cL_isRoute 581 = .ok (.iload 12, 2) := by decide +kernel
theorem dL_isRoute_583 : decode cL_isRoute 583 = .ok (.iconst 3, 1) := by decide +kernel
theorem dL_isRoute_584 : decode cL_isRoute 584 = .ok (.if_icmp .ge 67, 3) := by decide +kernel
theorem dL_isRoute_587 : decode cL_isRoute 587 = .ok (.aload_n 0, 1) := by decide +kernel
theorem dL_isRoute_588 : decode cL_isRoute 588 = .ok (.iload_n 1, 1) := by decide +kernel
theorem dL_isRoute_589 : decode cL_isRoute 589 = .ok (.iload 12, 2) := by decide +kernel
theorem dL_isRoute_591 : decode cL_isRoute 591 = .ok (.invokevirtual 22, 3) := by decide +kernel
theorem dL_isRoute_594 : decode cL_isRoute 594 = .ok (.istore 13, 2) := by decide +kernel
theorem dL_isRoute_596 : decode cL_isRoute 596 = .ok (.iload 13, 2) := by decide +kernel
theorem dL_isRoute_598 : decode cL_isRoute 598 = .ok (.ifCond .lt 47, 3) := by decide +kernel
theorem dL_isRoute_601 : decode cL_isRoute 601 = .ok (.aload 4, 2) := by decide +kernel
theorem dL_isRoute_603 : decode cL_isRoute 603 = .ok (.iload 13, 2) := by decide +kernel
theorem dL_isRoute_605 : decode cL_isRoute 605 = .ok (.invokestatic 103, 3) := by decide +kernel
theorem dL_isRoute_608 : decode cL_isRoute 608 = .ok (.iconst 1, 1) := by decide +kernel
theorem dL_isRoute_609 : decode cL_isRoute 609 = .ok (.if_icmp .eq 17, 3) := by decide +kernel
theorem dL_isRoute_612 : decode cL_isRoute 612 = .ok (.aload 4, 2) := by decide +kernel
theorem dL_isRoute_614 : decode cL_isRoute 614 = .ok (.bipush 81, 2) := by decide +kernel
theorem dL_isRoute_616 : decode cL_isRoute 616 = .ok (.iload 13, 2) := by decide +kernel
theorem dL_isRoute_618 : decode cL_isRoute 618 = .ok (.iadd, 1) := by decide +kernel
theorem dL_isRoute_619 : decode cL_isRoute 619 = .ok (.invokestatic 103, 3) := by decide +kernel
theorem dL_isRoute_622 : decode cL_isRoute 622 = .ok (.iconst 1, 1) := by decide +kernel
theorem dL_isRoute_623 : decode cL_isRoute 623 = .ok (.if_icmp .ne 22, 3) := by decide +kernel
theorem dL_isRoute_626 : decode cL_isRoute 626 = .ok (.aload 4, 2) := by decide +kernel
theorem dL_isRoute_628 : decode cL_isRoute 628 = .ok (.iload 13, 2) := by decide +kernel
theorem dL_isRoute_630 : decode cL_isRoute 630 = .ok (.iconst 1, 1) := by decide +kernel
theorem dL_isRoute_631 : decode cL_isRoute 631 = .ok (.invokestatic 107, 3) := by decide +kernel
theorem dL_isRoute_634 : decode cL_isRoute 634 = .ok (.aload 4, 2) := by decide +kernel
theorem dL_isRoute_636 : decode cL_isRoute 636 = .ok (.bipush 81, 2) := by decide +kernel
theorem dL_isRoute_638 : decode cL_isRoute 638 = .ok (.iload 13, 2) := by decide +kernel
theorem dL_isRoute_640 : decode cL_isRoute 640 = .ok (.iadd, 1) := by decide +kernel
theorem dL_isRoute_641 : decode cL_isRoute 641 = .ok (.iconst 1, 1) := by decide +kernel
theorem dL_isRoute_642 : decode cL_isRoute 642 = .ok (.invokestatic 107, 3) := by decide +kernel
theorem dL_isRoute_645 : decode cL_isRoute 645 = .ok (.iinc 12 1, 3) := by decide +kernel
theorem dL_isRoute_648 : decode cL_isRoute 648 = .ok (.goto (-67), 3) := by decide +kernel
theorem dL_isRoute_651 : decode cL_isRoute 651 = .ok (.iinc 5 1, 3) := by decide +kernel
theorem dL_isRoute_654 : decode cL_isRoute 654 = .ok (.goto (-545), 3) := by decide +kernel
theorem dL_isRoute_657 : decode cL_isRoute 657 = .ok (.iload 10, 2) := by decide +kernel
theorem dL_isRoute_659 : decode cL_isRoute 659 = .ok (.ifCond .eq 67, 3) := by decide +kernel
theorem dL_isRoute_662 : decode cL_isRoute 662 = .ok (.aload_n 0, 1) := by decide +kernel
theorem dL_isRoute_663 : decode cL_isRoute 663 = .ok (.iload_n 1, 1) := by decide +kernel
theorem dL_isRoute_664 : decode cL_isRoute 664 = .ok (.iload_n 2, 1) := by decide +kernel
theorem dL_isRoute_665 : decode cL_isRoute 665 = .ok (.iload 9, 2) := by decide +kernel
theorem dL_isRoute_667 : decode cL_isRoute 667 = .ok (.invokevirtual 76, 3) := by decide +kernel
theorem dL_isRoute_670 : decode cL_isRoute 670 = .ok (.ldc 83, 2) := by decide +kernel
theorem dL_isRoute_672 : decode cL_isRoute 672 = .ok (.if_icmp .ne 54, 3) := by decide +kernel
theorem dL_isRoute_675 : decode cL_isRoute 675 = .ok (.iload 6, 2) := by decide +kernel
theorem dL_isRoute_677 : decode cL_isRoute 677 = .ok (.iload_n 3, 1) := by decide +kernel
theorem dL_isRoute_678 : decode cL_isRoute 678 = .ok (.if_icmp .ne 48, 3) := by decide +kernel
theorem dL_isRoute_681 : decode cL_isRoute 681 = .ok (.iload_n 2, 1) := by decide +kernel
theorem dL_isRoute_682 : decode cL_isRoute 682 = .ok (.ifCond .ne 20, 3) := by decide +kernel
theorem dL_isRoute_685 : decode cL_isRoute 685 = .ok (.iload 7, 2) := by decide +kernel
theorem dL_isRoute_687 : decode cL_isRoute 687 = .ok (.ifCond .ne 39, 3) := by decide +kernel
theorem dL_isRoute_690 : decode cL_isRoute 690 = .ok (.aload_n 0, 1) := by decide +kernel
theorem dL_isRoute_691 : decode cL_isRoute 691 = .ok (.iload_n 1, 1) := by decide +kernel
theorem dL_isRoute_692 : decode cL_isRoute 692 = .ok (.iconst 1, 1) := by decide +kernel
theorem dL_isRoute_693 : decode cL_isRoute 693 = .ok (.invokevirtual 67, 3) := by decide +kernel
theorem dL_isRoute_696 : decode cL_isRoute 696 = .ok (.ifCond .lt 30, 3) := by decide +kernel
theorem dL_isRoute_699 : decode cL_isRoute 699 = .ok (.goto 23, 3) := by decide +kernel
theorem dL_isRoute_702 : decode cL_isRoute 702 = .ok (.iload 7, 2) := by decide +kernel
theorem dL_isRoute_704 : decode cL_isRoute 704 = .ok (.aload_n 0, 1) := by decide +kernel
theorem dL_isRoute_705 : decode cL_isRoute 705 = .ok (.iload_n 1, 1) := by decide +kernel
theorem dL_isRoute_706 : decode cL_isRoute 706 = .ok (.invokevirtual 70, 3) := by decide +kernel
theorem dL_isRoute_709 : decode cL_isRoute 709 = .ok (.if_icmp .ne 17, 3) := by decide +kernel
theorem dL_isRoute_712 : decode cL_isRoute 712 = .ok (.iload 8, 2) := by decide +kernel
theorem dL_isRoute_714 : decode cL_isRoute 714 = .ok (.aload_n 0, 1) := by decide +kernel
theorem dL_isRoute_715 : decode cL_isRoute 715 = .ok (.iload_n 1, 1) := by decide +kernel
theorem dL_isRoute_716 : decode cL_isRoute 716 = .ok (.invokevirtual 73, 3) := by decide +kernel
theorem dL_isRoute_719 : decode cL_isRoute 719 = .ok (.if_icmp .ne 7, 3) := by decide +kernel
theorem dL_isRoute_722 : decode cL_isRoute 722 = .ok (.iconst 1, 1) := by decide +kernel
theorem dL_isRoute_723 : decode cL_isRoute 723 = .ok (.goto 4, 3) := by decide +kernel
theorem dL_isRoute_726 : decode cL_isRoute 726 = .ok (.iconst 0, 1) := by decide +kernel
theorem dL_isRoute_727 : decode cL_isRoute 727 = .ok (.ireturn, 1) := by decide +kernel
abbrev rmL_isRoute : Room := { frames := 6, cells := 1, slots := 6, locals := 143 }
set_option maxRecDepth 100000 in
set_option maxHeartbeats 16000000 in
/-- one stage: the way from one more pin to what is joined -/
theorem zr_stage {x : Ctx} {g : Geo} {l : Launch} {a : Nat} {cL : ClassId} {M0 M : Nat → Nat → Int32} {P : Nat → Nat} {X : Nat → Int32} {N K B A s n b z pn p vc Z S : Nat} {m : Nat → Nat} {l1 l2 pl l0 post : List Nat} {J : Nat → Bool} {tw : Nat → Option Nat} {D : Nat → Nat} (hx : x.1.2.1 = l) (h : ∀ m, Tk x g (zE g a cL m) 1 6 cL_isRoute 17 wsL_isRoute RL rmL_isRoute) (hz : ZC x g a cL) (hn : n < N) (hb : b < 2) (hp1 : 1 ≤ pn) (hpn : pn < 3) (hpin : fNet eC X n pn = nI p) (hp81 : p < 81) (hj0 : X (169 + 9 * n + 5) = 0) (hrt : rtX eC X N n (decide (b = 1)) = some (z, l1, l2)) (hLf : l1 ++ l2 = pl ++ l0 ++ post) (hlen : (l1 ++ l2).length ≤ 324) (hst : StgP X N n (decide (b = 1)) vc p pl J tw D l0) (hvc : X 0 = nI vc ∧ 1 ≤ vc ∧ vc ≤ 20) (hm : MkI m J []) (hZ : ∃ c, l0.head? = some c ∧ S + D c = Z) (hZb : Z < 2 ^ 30) (hR : RS M0 P X N K B A s M)
    (kk : ∀ (M' : Nat → Nat → Int32) (m' : Nat → Nat), RS M0 P X N K B A s M' → (∀ x, m' x ≤ 2) → (∀ x, x < 162 → (m' x = 1 ↔ JN X n J l0 x) ∧ m' x ≠ 2) → T x (zE g a cL m') 1 6 109 [(0, .ref (g.1 144)), (1, .int (nI n)), (2, .int (nI b)), (3, .int (nI z)), (4, .ref a), (5, .int (nI (pn + 1))), (6, .int (nI Z)), (7, .int (nI (priE eC X N (pl ++ l0)))), (8, .int (nI (bset (vicE eC X (pl ++ l0)) N))), (9, .int (nI (pl ++ l0).length)), (10, .int (nI 1))] [] M' P) : T x (zE g a cL m) 1 6 109 [(0, .ref (g.1 144)), (1, .int (nI n)), (2, .int (nI b)), (3, .int (nI z)), (4, .ref a), (5, .int (nI pn)), (6, .int (nI S)), (7, .int (nI (priE eC X N pl))), (8, .int (nI (bset (vicE eC X pl) N))), (9, .int (nI pl.length)), (10, .int (nI 1))] [] M P := by
  have hN6 := hR.1.N6
  have hK12 := hR.1.K12
  have hI : InvC X N K B := hR.2.1 ▸ hR.1.hI
  have hGd := hI.1.1
  have hGn := hGd.net hn
  obtain ⟨hPL, hnd, ⟨c0, r0, hl0, hc81, hcw, hDc⟩, hJ0, hJw, hcell⟩ := hst
  obtain ⟨c1, hh, hS⟩ := hZ
  rw [hl0] at hh hPL
  obtain rfl : c0 = c1 := Option.some.inj hh
  have hc0 : c0 < 162 := hPL.1
  have hplen : pl.length + l0.length ≤ 324 := by rw [hLf] at hlen; simp only [List.length_append] at hlen; omega
  refine tt_iload (h _) 5 dL_isRoute_109 rfl ?_
  refine tt_iconst (h _) (nI 3) dL_isRoute_111 (by decide) ?_
  refine tt_icmp_ge_n (h _) 657 dL_isRoute_112 (by decide) (by omega) (by decide) (fun c_112 => by exfalso; omega) (fun c_112 => ?_)
  refine tt_iload (h _) 10 dL_isRoute_115 rfl ?_
  refine tt_if_eq (h _) 657 dL_isRoute_117 (by decide) (fun c => absurd c (by decide)) (fun _ => ?_)
  refine tt_aload_n (h _) 0 dL_isRoute_120 rfl rfl ?_
  refine tt_iload_n (h _) 1 dL_isRoute_121 rfl rfl ?_
  refine tt_iload (h _) 5 dL_isRoute_122 rfl ?_
  refine tt_callV (h _) (As := [.int (nI n), .int (nI pn)]) 2 hx (c_X5_netOf hR.1.hP hR.1.hI) gL_isRoute_X5_netOf rfl ⟨rfl, rfl⟩ (by decide +kernel) rfl (by decide) (by decide) E_144 rfl rfl (Nat.le_of_ble_eq_true rfl) dL_isRoute_124 (fun a124 M' P' hp => ?_)
  rw [hR.2.1] at hp
  obtain ⟨⟨rfl, rfl⟩, hQ⟩ := hp
  have hz' := net_at (k := n) (j := pn) hN6 hn (by omega) hQ
  clear hQ
  subst hz'
  refine tt_top (nI p) (hpin) ?_
  refine tt_if_lt_n (h _) 657 dL_isRoute_127 (by decide) (by omega) ?_
  refine tt_aload_n (h _) 0 dL_isRoute_130 rfl rfl ?_
  refine tt_iload_n (h _) 1 dL_isRoute_131 rfl rfl ?_
  refine tt_iload_n (h _) 2 dL_isRoute_132 rfl rfl ?_
  refine tt_iload (h _) 9 dL_isRoute_133 rfl ?_
  refine tt_callV (h _) (As := [.int (nI n), .int (nI b), .int (nI pl.length)]) 3 hx (c_X5_routeAt hR.1.hP hR.1.hI hR.1.hNb) gL_isRoute_X5_routeAt rfl ⟨rfl, rfl⟩ (by decide +kernel) rfl (by decide) (by decide) E_144 rfl rfl (Nat.le_of_ble_eq_true rfl) dL_isRoute_135 (fun a135 M135_ P135_ hp => ?_)
  rw [hR.2.1] at hp
  obtain ⟨rfl, hF, hQ⟩ := hp
  have hz' := ra_ok (j := pl.length) hN6 hn hb (by omega) hj0 hrt hQ
  clear hQ
  subst hz'
  replace hR := RS_fr hR (FrS_F hF)
  clear hF
  refine tt_top (nI c0) (by rw [hLf, hl0, List.append_assoc]; exact atL_mid) ?_
  refine tt_istore (h _) [(11, .int (nI c0)), (0, .ref (g.1 144)), (1, .int (nI n)), (2, .int (nI b)), (3, .int (nI z)), (4, .ref a), (5, .int (nI pn)), (6, .int (nI S)), (7, .int (nI (priE eC X N pl))), (8, .int (nI (bset (vicE eC X pl) N))), (9, .int (nI pl.length)), (10, .int (nI 1))] dL_isRoute_138 (by decide) rfl ?_
  refine tt_iload (h _) 0 dL_isRoute_140 rfl ?_
  refine tt_if_lt_n (h _) 164 dL_isRoute_142 (by decide) (by omega) ?_
  refine tt_iload (h _) 0 dL_isRoute_145 rfl ?_
  refine tt_bipush (h _) (nI 81) dL_isRoute_147 (by decide) ?_
  refine tt_irem_n (h _) dL_isRoute_149 (by omega) (by decide) (by decide) ?_
  refine tt_aload_n (h _) 1 dL_isRoute_150 rfl rfl ?_
  refine tt_iload_n (h _) 2 dL_isRoute_151 rfl rfl ?_
  refine tt_iload (h _) 6 dL_isRoute_152 rfl ?_
  refine tt_callV (h _) (As := [.int (nI n), .int (nI pn)]) 2 hx (c_X5_netOf hR.1.hP hR.1.hI) gL_isRoute_X5_netOf rfl ⟨rfl, rfl⟩ (by decide +kernel) rfl (by decide) (by decide) E_144 rfl rfl (Nat.le_of_ble_eq_true rfl) dL_isRoute_154 (fun a154 M' P' hp => ?_)
  rw [hR.2.1] at hp
  obtain ⟨⟨rfl, rfl⟩, hQ⟩ := hp
  have hz' := net_at (k := n) (j := pn) hN6 hn (by omega) hQ
  clear hQ
  subst hz'
  refine tt_top (nI p) (hpin) ?_
  refine tt_icmp_ne_n (h _) 164 dL_isRoute_157 (by decide) (by omega) (by omega) (fun c_157 => by exfalso; exact c_157 hc81) (fun c_157 => ?_)
  refine tt_iconst (h _) (nI 1) dL_isRoute_160 (by decide) ?_
  refine tt_goto (h _) 165 dL_isRoute_161 (by decide) ?_
  refine tt_istore (h _) [(10, .int (nI 1)), (11, .int (nI c0)), (0, .ref (g.1 144)), (1, .int (nI n)), (2, .int (nI b)), (3, .int (nI z)), (4, .ref a), (5, .int (nI pn)), (6, .int (nI S)), (7, .int (nI (priE eC X N pl))), (8, .int (nI (bset (vicE eC X pl) N))), (9, .int (nI pl.length))] dL_isRoute_165 (by decide) rfl ?_
  have L167 : ∀ (fu : Nat) (pre : List Nat) (c : Nat) (r : List Nat) (m1 : Nat → Nat) (S1 : Nat) (G : Nat) (V : Nat) (at1 : Nat) (M1 : Nat → Nat → Int32), r.length < fu → (l0 = pre ++ c :: r) → (PL vc tw J D (c :: r)) → (at1 = (pl ++ pre).length) → (MkI m1 J pre) → (S1 + D c = Z) → (G = priE eC X N (pl ++ pre ++ [c])) → (V = bset (vicE eC X (pl ++ pre ++ [c])) N) → (RS M0 P X N K B A s M1) → T x (zE g a cL m1) 1 6 167 [(0, .ref (g.1 144)), (1, .int (nI n)), (2, .int (nI b)), (3, .int (nI z)), (4, .ref a), (5, .int (nI pn)), (6, .int (nI S1)), (7, .int (nI G)), (8, .int (nI V)), (9, .int (nI at1)), (10, .int (nI 1)), (11, .int (nI c))] [] M1 P := by
    intro fu
    induction fu with
    | zero => intro pre c r m1 S1 G V at1 M1 hmu167; exact absurd hmu167 (Nat.not_lt_zero _)
    | succ fu ih167 =>
      intro pre c r m1 S1 G V at1 M1 hmu167 hl hP hat hI1 hS1 hG1 hV1 hR
      have hat9 : at1 + 1 ≤ 324 := by
        have h9 := hplen
        rw [hl] at h9
        rw [hat]
        simp only [List.length_append, List.length_cons] at h9 ⊢
        omega
      cases r with
      | nil =>
        obtain ⟨hc, hJc, hD0⟩ := hP
        refine tt_iload (h _) 10 dL_isRoute_167 rfl ?_
        refine tt_if_eq (h _) 529 dL_isRoute_169 (by decide) (fun c => absurd c (by decide)) (fun _ => ?_)
        refine tt_aload (h _) 4 dL_isRoute_172 rfl ?_
        refine tt_iload (h _) 11 dL_isRoute_174 rfl ?_
        refine tt_marked (h _) hz (c := c) (by omega) hI1.1 gL_isRoute_L_marked (by decide) (Nat.le_of_ble_eq_true rfl) dL_isRoute_176 ?_
        refine tt_top (nI 1) (congrArg nI ((hI1.2 c hc).1.mpr hJc)) ?_
        refine tt_iconst (h _) (nI 1) dL_isRoute_179 (by decide) ?_
        refine tt_icmp_eq (h _) 529 dL_isRoute_180 (by decide) (fun _ => ?_) (fun c => absurd (by decide) c)
        refine tt_iinc_n (h _) 9 (n := 1) [(9, .int (nI (at1 + 1))), (0, .ref (g.1 144)), (1, .int (nI n)), (2, .int (nI b)), (3, .int (nI z)), (4, .ref a), (5, .int (nI pn)), (6, .int (nI S1)), (7, .int (nI G)), (8, .int (nI V)), (10, .int (nI 1)), (11, .int (nI c))] dL_isRoute_529 rfl (by decide) rfl ?_
        obtain rfl : Z = S1 := by omega
        have hG2 : G = priE eC X N (pl ++ l0) := by rw [hG1, hl, List.append_assoc]
        have hV2 : V = bset (vicE eC X (pl ++ l0)) N := by rw [hV1, hl, List.append_assoc]
        have hat2 : at1 + 1 = (pl ++ l0).length := by rw [hl, hat]; simp; omega
        rw [hG2, hV2, hat2]
        have hll : ∀ x, (J x = true ∨ x ∈ pre) ↔ (J x = true ∨ x ∈ l0) := fun x => by
          rw [hl, List.mem_append, List.mem_singleton]
          exact ⟨fun q => q.imp id Or.inl, fun q => q.elim Or.inl (fun q => q.elim Or.inr (fun q => Or.inl (by rw [q]; exact hJc)))⟩
        refine tt_iconst (h _) (nI 0) dL_isRoute_532 (by decide) ?_
        refine tt_istore (h _) [(12, .int (nI 0)), (9, .int (nI ((pl ++ l0).length))), (0, .ref (g.1 144)), (1, .int (nI n)), (2, .int (nI b)), (3, .int (nI z)), (4, .ref a), (5, .int (nI pn)), (6, .int (nI Z)), (7, .int (nI (priE eC X N (pl ++ l0)))), (8, .int (nI (bset (vicE eC X (pl ++ l0)) N))), (10, .int (nI 1)), (11, .int (nI c))] dL_isRoute_533 (by decide) rfl ?_
        have L535 : ∀ (fu : Nat) (q : Nat) (m3 : Nat → Nat), (162 - q) < fu → (q ≤ 162) → (Mk12 m1 m3 q) → T x (zE g a cL m3) 1 6 535 [(0, .ref (g.1 144)), (1, .int (nI n)), (2, .int (nI b)), (3, .int (nI z)), (4, .ref a), (5, .int (nI pn)), (6, .int (nI Z)), (7, .int (nI (priE eC X N (pl ++ l0)))), (8, .int (nI (bset (vicE eC X (pl ++ l0)) N))), (9, .int (nI ((pl ++ l0).length))), (10, .int (nI 1)), (12, .int (nI q))] [] M1 P := by
          intro fu
          induction fu with
          | zero => intro q m3 hmu535; exact absurd hmu535 (Nat.not_lt_zero _)
          | succ fu ih535 =>
            intro q m3 hmu535 hq hm3
            refine tt_iload (h _) 11 dL_isRoute_535 rfl ?_
            refine tt_sipush (h _) (nI 162) dL_isRoute_537 (by decide) ?_
            refine tt_icmp_ge_n (h _) 578 dL_isRoute_540 (by decide) (by omega) (by decide) (fun c_540 => ?_) (fun c_540 => ?_)
            · -- 540 true
              obtain rfl : 162 = q := by omega
              refine tt_iconst (h _) (nI 0) dL_isRoute_578 (by decide) ?_
              refine tt_istore (h _) [(12, .int (nI 0)), (0, .ref (g.1 144)), (1, .int (nI n)), (2, .int (nI b)), (3, .int (nI z)), (4, .ref a), (5, .int (nI pn)), (6, .int (nI Z)), (7, .int (nI (priE eC X N (pl ++ l0)))), (8, .int (nI (bset (vicE eC X (pl ++ l0)) N))), (9, .int (nI ((pl ++ l0).length))), (10, .int (nI 1))] dL_isRoute_579 (by decide) rfl ?_
              have L581 : ∀ (fu : Nat) (j : Nat) (m4 : Nat → Nat), (3 - j) < fu → (j ≤ 3) → (MkP X n m3 m4 j) → T x (zE g a cL m4) 1 6 581 [(0, .ref (g.1 144)), (1, .int (nI n)), (2, .int (nI b)), (3, .int (nI z)), (4, .ref a), (5, .int (nI pn)), (6, .int (nI Z)), (7, .int (nI (priE eC X N (pl ++ l0)))), (8, .int (nI (bset (vicE eC X (pl ++ l0)) N))), (9, .int (nI ((pl ++ l0).length))), (10, .int (nI 1)), (12, .int (nI j))] [] M1 P := by
                intro fu
                induction fu with
                | zero => intro j m4 hmu581; exact absurd hmu581 (Nat.not_lt_zero _)
                | succ fu ih581 =>
                  intro j m4 hmu581 hj hm4
                  refine tt_iload (h _) 11 dL_isRoute_581 rfl ?_
                  refine tt_iconst (h _) (nI 3) dL_isRoute_583 (by decide) ?_
                  refine tt_icmp_ge_n (h _) 651 dL_isRoute_584 (by decide) (by omega) (by decide) (fun c_584 => ?_) (fun c_584 => ?_)
                  · -- 584 true
                    obtain rfl : 3 = j := by omega
                    refine tt_iinc_n (h _) 5 (n := 1) [(5, .int (nI (pn + 1))), (0, .ref (g.1 144)), (1, .int (nI n)), (2, .int (nI b)), (3, .int (nI z)), (4, .ref a), (6, .int (nI Z)), (7, .int (nI (priE eC X N (pl ++ l0)))), (8, .int (nI (bset (vicE eC X (pl ++ l0)) N))), (9, .int (nI ((pl ++ l0).length))), (10, .int (nI 1)), (12, .int (nI 3))] dL_isRoute_651 rfl (by decide) rfl ?_
                    refine tt_goto (h _) 109 dL_isRoute_654 (by decide) ?_
                    have hmm := MkP_JN hI1 hm3 hm4 hll
                    exact tt_lv (kk _ _ hR hmm.1 hmm.2) [1, 2, 3, 4, 5, 0, 6, 7, 8, 9, 10] rfl
                  · -- 584 false
                    refine tt_aload_n (h _) 0 dL_isRoute_587 rfl rfl ?_
                    refine tt_iload_n (h _) 1 dL_isRoute_588 rfl rfl ?_
                    refine tt_iload (h _) 11 dL_isRoute_589 rfl ?_
                    refine tt_callV (h _) (As := [.int (nI n), .int (nI j)]) 2 hx (c_X5_netOf hR.1.hP hR.1.hI) gL_isRoute_X5_netOf rfl ⟨rfl, rfl⟩ (by decide +kernel) rfl (by decide) (by decide) E_144 rfl rfl (Nat.le_of_ble_eq_true rfl) dL_isRoute_591 (fun a591 M' P' hp => ?_)
                    rw [hR.2.1] at hp
                    obtain ⟨⟨rfl, rfl⟩, hQ⟩ := hp
                    have hz' := net_at (k := n) (j := j) hN6 hn (by omega) hQ
                    clear hQ
                    subst hz'
                    rcases pin_at (k := j) hGn (by omega) (by omega) with ep | ⟨q2, hq81, ep, -, -⟩
                    · skip
                      refine tt_top (-1000004) ep ?_
                      refine tt_istore (h _) [(13, .int (-1000004)), (0, .ref (g.1 144)), (1, .int (nI n)), (2, .int (nI b)), (3, .int (nI z)), (4, .ref a), (5, .int (nI pn)), (6, .int (nI Z)), (7, .int (nI (priE eC X N (pl ++ l0)))), (8, .int (nI (bset (vicE eC X (pl ++ l0)) N))), (9, .int (nI ((pl ++ l0).length))), (10, .int (nI 1)), (12, .int (nI j))] dL_isRoute_594 (by decide) rfl ?_
                      refine tt_iload (h _) 0 dL_isRoute_596 rfl ?_
                      refine tt_if_lt (h _) 645 dL_isRoute_598 (by decide) (fun _ => ?_) (fun c => absurd (by decide) c)
                      refine tt_iinc_n (h _) 12 (n := 1) [(12, .int (nI (j + 1))), (13, .int (-1000004)), (0, .ref (g.1 144)), (1, .int (nI n)), (2, .int (nI b)), (3, .int (nI z)), (4, .ref a), (5, .int (nI pn)), (6, .int (nI Z)), (7, .int (nI (priE eC X N (pl ++ l0)))), (8, .int (nI (bset (vicE eC X (pl ++ l0)) N))), (9, .int (nI ((pl ++ l0).length))), (10, .int (nI 1))] dL_isRoute_645 rfl (by decide) rfl ?_
                      refine tt_goto (h _) 581 dL_isRoute_648 (by decide) ?_
                      exact tt_lv (ih581 (j + 1) m4 (by omega) (by omega) (by first | exact MkP_no hm4 (fun q hq e => absurd (by rw [← e, ep]; decide) (nI_pos (n := q) (by omega))) | exact MkP_yes hm4 hq81 ep ((MkP_at hm4 hq81).mp (Or.inl c_609)) | exact MkP_yes hm4 hq81 ep ((MkP_at hm4 hq81).mp (Or.inr c_623)) | exact MkP_no hm4 (fun q hq e z => by have e2 := (nI_eq (by omega) (by omega)).mp (ep.symm.trans e); subst e2; exact ((MkP_at hm4 hq).mpr z).elim c_609 c_623))) [2, 3, 4, 5, 6, 7, 8, 9, 10, 11, 12, 0] rfl
                    · skip
                      refine tt_top (nI q2) ep ?_
                      refine tt_istore (h _) [(13, .int (nI q2)), (0, .ref (g.1 144)), (1, .int (nI n)), (2, .int (nI b)), (3, .int (nI z)), (4, .ref a), (5, .int (nI pn)), (6, .int (nI Z)), (7, .int (nI (priE eC X N (pl ++ l0)))), (8, .int (nI (bset (vicE eC X (pl ++ l0)) N))), (9, .int (nI ((pl ++ l0).length))), (10, .int (nI 1)), (12, .int (nI j))] dL_isRoute_594 (by decide) rfl ?_
                      refine tt_iload (h _) 0 dL_isRoute_596 rfl ?_
                      refine tt_if_lt_n (h _) 645 dL_isRoute_598 (by decide) (by omega) ?_
                      have hq3 := hm4.1 q2
                      have hq4 := hm4.1 (81 + q2)
                      refine tt_aload (h _) 5 dL_isRoute_601 rfl ?_
                      refine tt_iload (h _) 0 dL_isRoute_603 rfl ?_
                      refine tt_marked (h _) hz (c := q2) (by omega) hm4.1 gL_isRoute_L_marked (by decide) (Nat.le_of_ble_eq_true rfl) dL_isRoute_605 ?_
                      refine tt_iconst (h _) (nI 1) dL_isRoute_608 (by decide) ?_
                      refine tt_icmp_eq_n (h _) 626 dL_isRoute_609 (by decide) (by omega) (by decide) (fun c_609 => ?_) (fun c_609 => ?_)
                      · -- 609 true
                        refine tt_aload (h _) 5 dL_isRoute_626 rfl ?_
                        refine tt_iload (h _) 0 dL_isRoute_628 rfl ?_
                        refine tt_iconst (h _) (nI 1) dL_isRoute_630 (by decide) ?_
                        refine tt_marks (h _) hz (c := q2) (hh := 1) (by omega) hm4.1 (by decide) gL_isRoute_L_marks (by decide) (Nat.le_of_ble_eq_true rfl) dL_isRoute_631 ?_
                        refine tt_aload (h _) 5 dL_isRoute_634 rfl ?_
                        refine tt_bipush (h _) (nI 81) dL_isRoute_636 (by decide) ?_
                        refine tt_iload (h _) 0 dL_isRoute_638 rfl ?_
                        refine tt_iadd_n (h _) dL_isRoute_640 ?_
                        refine tt_iconst (h _) (nI 1) dL_isRoute_641 (by decide) ?_
                        refine tt_marks (h _) hz (c := 81 + q2) (hh := 1) (by omega) (updN_le hm4.1 (by decide)) (by decide) gL_isRoute_L_marks (by decide) (Nat.le_of_ble_eq_true rfl) dL_isRoute_642 ?_
                        refine tt_iinc_n (h _) 12 (n := 1) [(12, .int (nI (j + 1))), (13, .int (nI q2)), (0, .ref (g.1 144)), (1, .int (nI n)), (2, .int (nI b)), (3, .int (nI z)), (4, .ref a), (5, .int (nI pn)), (6, .int (nI Z)), (7, .int (nI (priE eC X N (pl ++ l0)))), (8, .int (nI (bset (vicE eC X (pl ++ l0)) N))), (9, .int (nI ((pl ++ l0).length))), (10, .int (nI 1))] dL_isRoute_645 rfl (by decide) rfl ?_
                        refine tt_goto (h _) 581 dL_isRoute_648 (by decide) ?_
                        exact tt_lv (ih581 (j + 1) (updN (updN m4 q2 1) (81 + q2) 1) (by omega) (by omega) (by first | exact MkP_no hm4 (fun q hq e => absurd (by rw [← e, ep]; decide) (nI_pos (n := q) (by omega))) | exact MkP_yes hm4 hq81 ep ((MkP_at hm4 hq81).mp (Or.inl c_609)) | exact MkP_yes hm4 hq81 ep ((MkP_at hm4 hq81).mp (Or.inr c_623)) | exact MkP_no hm4 (fun q hq e z => by have e2 := (nI_eq (by omega) (by omega)).mp (ep.symm.trans e); subst e2; exact ((MkP_at hm4 hq).mpr z).elim c_609 c_623))) [2, 3, 4, 5, 6, 7, 8, 9, 10, 11, 12, 0] rfl
                      · -- 609 false
                        refine tt_aload (h _) 5 dL_isRoute_612 rfl ?_
                        refine tt_bipush (h _) (nI 81) dL_isRoute_614 (by decide) ?_
                        refine tt_iload (h _) 0 dL_isRoute_616 rfl ?_
                        refine tt_iadd_n (h _) dL_isRoute_618 ?_
                        refine tt_marked (h _) hz (c := 81 + q2) (by omega) hm4.1 gL_isRoute_L_marked (by decide) (Nat.le_of_ble_eq_true rfl) dL_isRoute_619 ?_
                        refine tt_iconst (h _) (nI 1) dL_isRoute_622 (by decide) ?_
                        refine tt_icmp_ne_n (h _) 645 dL_isRoute_623 (by decide) (by omega) (by decide) (fun c_623 => ?_) (fun c_623 => ?_)
                        · -- 623 true
                          refine tt_iinc_n (h _) 12 (n := 1) [(12, .int (nI (j + 1))), (13, .int (nI q2)), (0, .ref (g.1 144)), (1, .int (nI n)), (2, .int (nI b)), (3, .int (nI z)), (4, .ref a), (5, .int (nI pn)), (6, .int (nI Z)), (7, .int (nI (priE eC X N (pl ++ l0)))), (8, .int (nI (bset (vicE eC X (pl ++ l0)) N))), (9, .int (nI ((pl ++ l0).length))), (10, .int (nI 1))] dL_isRoute_645 rfl (by decide) rfl ?_
                          refine tt_goto (h _) 581 dL_isRoute_648 (by decide) ?_
                          exact tt_lv (ih581 (j + 1) m4 (by omega) (by omega) (by first | exact MkP_no hm4 (fun q hq e => absurd (by rw [← e, ep]; decide) (nI_pos (n := q) (by omega))) | exact MkP_yes hm4 hq81 ep ((MkP_at hm4 hq81).mp (Or.inl c_609)) | exact MkP_yes hm4 hq81 ep ((MkP_at hm4 hq81).mp (Or.inr c_623)) | exact MkP_no hm4 (fun q hq e z => by have e2 := (nI_eq (by omega) (by omega)).mp (ep.symm.trans e); subst e2; exact ((MkP_at hm4 hq).mpr z).elim c_609 c_623))) [2, 3, 4, 5, 6, 7, 8, 9, 10, 11, 12, 0] rfl
                        · -- 623 false
                          refine tt_aload (h _) 5 dL_isRoute_626 rfl ?_
                          refine tt_iload (h _) 0 dL_isRoute_628 rfl ?_
                          refine tt_iconst (h _) (nI 1) dL_isRoute_630 (by decide) ?_
                          refine tt_marks (h _) hz (c := q2) (hh := 1) (by omega) hm4.1 (by decide) gL_isRoute_L_marks (by decide) (Nat.le_of_ble_eq_true rfl) dL_isRoute_631 ?_
                          refine tt_aload (h _) 5 dL_isRoute_634 rfl ?_
                          refine tt_bipush (h _) (nI 81) dL_isRoute_636 (by decide) ?_
                          refine tt_iload (h _) 0 dL_isRoute_638 rfl ?_
                          refine tt_iadd_n (h _) dL_isRoute_640 ?_
                          refine tt_iconst (h _) (nI 1) dL_isRoute_641 (by decide) ?_
                          refine tt_marks (h _) hz (c := 81 + q2) (hh := 1) (by omega) (updN_le hm4.1 (by decide)) (by decide) gL_isRoute_L_marks (by decide) (Nat.le_of_ble_eq_true rfl) dL_isRoute_642 ?_
                          refine tt_iinc_n (h _) 12 (n := 1) [(12, .int (nI (j + 1))), (13, .int (nI q2)), (0, .ref (g.1 144)), (1, .int (nI n)), (2, .int (nI b)), (3, .int (nI z)), (4, .ref a), (5, .int (nI pn)), (6, .int (nI Z)), (7, .int (nI (priE eC X N (pl ++ l0)))), (8, .int (nI (bset (vicE eC X (pl ++ l0)) N))), (9, .int (nI ((pl ++ l0).length))), (10, .int (nI 1))] dL_isRoute_645 rfl (by decide) rfl ?_
                          refine tt_goto (h _) 581 dL_isRoute_648 (by decide) ?_
                          exact tt_lv (ih581 (j + 1) (updN (updN m4 q2 1) (81 + q2) 1) (by omega) (by omega) (by first | exact MkP_no hm4 (fun q hq e => absurd (by rw [← e, ep]; decide) (nI_pos (n := q) (by omega))) | exact MkP_yes hm4 hq81 ep ((MkP_at hm4 hq81).mp (Or.inl c_609)) | exact MkP_yes hm4 hq81 ep ((MkP_at hm4 hq81).mp (Or.inr c_623)) | exact MkP_no hm4 (fun q hq e z => by have e2 := (nI_eq (by omega) (by omega)).mp (ep.symm.trans e); subst e2; exact ((MkP_at hm4 hq).mpr z).elim c_609 c_623))) [2, 3, 4, 5, 6, 7, 8, 9, 10, 11, 12, 0] rfl
              exact tt_lv (L581 _ 0 m3 (Nat.lt_succ_self _) (by omega) (MkP_0 hm3.1 (fun x hx => ((hm3.2 x hx).1 hx).2))) [1, 2, 3, 4, 5, 6, 7, 8, 9, 10, 11, 0] rfl
            · -- 540 false
              have hq2 := hm3.1 q
              refine tt_aload (h _) 4 dL_isRoute_543 rfl ?_
              refine tt_iload (h _) 11 dL_isRoute_545 rfl ?_
              refine tt_aload (h _) 4 dL_isRoute_547 rfl ?_
              refine tt_iload (h _) 11 dL_isRoute_549 rfl ?_
              refine tt_marked (h _) hz (c := q) (by omega) hm3.1 gL_isRoute_L_marked (by decide) (Nat.le_of_ble_eq_true rfl) dL_isRoute_551 ?_
              refine tt_iconst (h _) (nI 2) dL_isRoute_554 (by decide) ?_
              refine tt_icmp_ne_n (h _) 562 dL_isRoute_555 (by decide) (by omega) (by decide) (fun c_555 => ?_) (fun c_555 => ?_)
              · -- 555 true
                refine tt_aload (h _) 4 dL_isRoute_562 rfl ?_
                refine tt_iload (h _) 11 dL_isRoute_564 rfl ?_
                refine tt_marked (h _) hz (c := q) (by omega) hm3.1 gL_isRoute_L_marked (by decide) (Nat.le_of_ble_eq_true rfl) dL_isRoute_566 ?_
                refine tt_marks (h _) hz (c := q) (hh := (m3 q)) (by omega) hm3.1 (by omega) gL_isRoute_L_marks (by decide) (Nat.le_of_ble_eq_true rfl) dL_isRoute_569 ?_
                refine tt_iinc_n (h _) 11 (n := 1) [(12, .int (nI (q + 1))), (0, .ref (g.1 144)), (1, .int (nI n)), (2, .int (nI b)), (3, .int (nI z)), (4, .ref a), (5, .int (nI pn)), (6, .int (nI Z)), (7, .int (nI (priE eC X N (pl ++ l0)))), (8, .int (nI (bset (vicE eC X (pl ++ l0)) N))), (9, .int (nI ((pl ++ l0).length))), (10, .int (nI 1))] dL_isRoute_572 rfl (by decide) rfl ?_
                refine tt_goto (h _) 535 dL_isRoute_575 (by decide) ?_
                exact tt_lv (ih535 (q + 1) (updN m3 q (m3 q)) (by omega) (by omega) (Mk12_s hm3 (by omega) (by first | exact (if_pos c_555).symm | exact (if_neg c_555).symm))) [1, 2, 3, 4, 5, 6, 7, 8, 9, 10, 11, 0] rfl
              · -- 555 false
                refine tt_iconst (h _) (nI 1) dL_isRoute_558 (by decide) ?_
                refine tt_goto (h _) 569 dL_isRoute_559 (by decide) ?_
                refine tt_marks (h _) hz (c := q) (hh := 1) (by omega) hm3.1 (by omega) gL_isRoute_L_marks (by decide) (Nat.le_of_ble_eq_true rfl) dL_isRoute_569 ?_
                refine tt_iinc_n (h _) 11 (n := 1) [(12, .int (nI (q + 1))), (0, .ref (g.1 144)), (1, .int (nI n)), (2, .int (nI b)), (3, .int (nI z)), (4, .ref a), (5, .int (nI pn)), (6, .int (nI Z)), (7, .int (nI (priE eC X N (pl ++ l0)))), (8, .int (nI (bset (vicE eC X (pl ++ l0)) N))), (9, .int (nI ((pl ++ l0).length))), (10, .int (nI 1))] dL_isRoute_572 rfl (by decide) rfl ?_
                refine tt_goto (h _) 535 dL_isRoute_575 (by decide) ?_
                exact tt_lv (ih535 (q + 1) (updN m3 q 1) (by omega) (by omega) (Mk12_s hm3 (by omega) (by first | exact (if_pos c_555).symm | exact (if_neg c_555).symm))) [1, 2, 3, 4, 5, 6, 7, 8, 9, 10, 11, 0] rfl
        exact tt_lv (L535 _ 0 m1 (Nat.lt_succ_self _) (by omega) (Mk12_0 hI1.1)) [2, 3, 4, 5, 6, 7, 8, 9, 10, 1, 11, 0] rfl
      | cons t r2 =>
        obtain ⟨hc, hJc, ⟨k, hk, hnb, w, hw, hmv⟩, hP2⟩ := hP
        have ht : t < 162 := nb_lt hc hnb
        refine tt_iload (h _) 10 dL_isRoute_167 rfl ?_
        refine tt_if_eq (h _) 529 dL_isRoute_169 (by decide) (fun c => absurd c (by decide)) (fun _ => ?_)
        refine tt_aload (h _) 4 dL_isRoute_172 rfl ?_
        refine tt_iload (h _) 11 dL_isRoute_174 rfl ?_
        refine tt_marked (h _) hz (c := c) (by omega) hI1.1 gL_isRoute_L_marked (by decide) (Nat.le_of_ble_eq_true rfl) dL_isRoute_176 ?_
        refine tt_top (nI 0) (congrArg nI (MkI_0 hI1 hc hJc (nd_c (hl ▸ hnd)))) ?_
        refine tt_iconst (h _) (nI 1) dL_isRoute_179 (by decide) ?_
        refine tt_icmp_eq (h _) 529 dL_isRoute_180 (by decide) (fun c => absurd c (by decide)) (fun _ => ?_)
        refine tt_aload (h _) 4 dL_isRoute_183 rfl ?_
        refine tt_iload (h _) 11 dL_isRoute_185 rfl ?_
        refine tt_iconst (h _) (nI 2) dL_isRoute_187 (by decide) ?_
        refine tt_marks (h _) hz (c := c) (hh := 2) (by omega) hI1.1 (by decide) gL_isRoute_L_marks (by decide) (Nat.le_of_ble_eq_true rfl) dL_isRoute_188 ?_
        obtain ⟨m2, hm2⟩ : ∃ q, q = updN m1 c 2 := ⟨_, rfl⟩
        rw [← hm2]
        have hI2 : MkI m2 J (pre ++ [c]) := by rw [hm2]; exact MkI_go hI1 hc hJc
        have hnt : t ∉ pre ++ [c] := nd_t (hl ▸ hnd)
        refine tt_iinc_n (h _) 9 (n := 1) [(9, .int (nI (at1 + 1))), (0, .ref (g.1 144)), (1, .int (nI n)), (2, .int (nI b)), (3, .int (nI z)), (4, .ref a), (5, .int (nI pn)), (6, .int (nI S1)), (7, .int (nI G)), (8, .int (nI V)), (10, .int (nI 1)), (11, .int (nI c))] dL_isRoute_191 rfl (by decide) rfl ?_
        refine tt_aload_n (h _) 1 dL_isRoute_194 rfl rfl ?_
        refine tt_iload_n (h _) 2 dL_isRoute_195 rfl rfl ?_
        refine tt_iload_n (h _) 3 dL_isRoute_196 rfl rfl ?_
        refine tt_iload (h _) 0 dL_isRoute_197 rfl ?_
        refine tt_callV (h _) (As := [.int (nI n), .int (nI b), .int (nI (at1 + 1))]) 3 hx (c_X5_routeAt hR.1.hP hR.1.hI hR.1.hNb) gL_isRoute_X5_routeAt rfl ⟨rfl, rfl⟩ (by decide +kernel) rfl (by decide) (by decide) E_144 rfl rfl (Nat.le_of_ble_eq_true rfl) dL_isRoute_199 (fun a199 M199_ P199_ hp => ?_)
        rw [hR.2.1] at hp
        obtain ⟨rfl, hF, hQ⟩ := hp
        have hz' := ra_ok (j := at1 + 1) hN6 hn hb (by omega) hj0 hrt hQ
        clear hQ
        subst hz'
        replace hR := RS_fr hR (FrS_F hF)
        clear hF
        refine tt_top (nI t) (by rw [hLf, hl, hat]; exact atL_nx) ?_
        refine tt_istore (h _) [(12, .int (nI t)), (9, .int (nI (at1 + 1))), (0, .ref (g.1 144)), (1, .int (nI n)), (2, .int (nI b)), (3, .int (nI z)), (4, .ref a), (5, .int (nI pn)), (6, .int (nI S1)), (7, .int (nI G)), (8, .int (nI V)), (10, .int (nI 1)), (11, .int (nI c))] dL_isRoute_202 (by decide) rfl ?_
        have J315 : ∀ (u : Nat) (u2 : Nat), ((u = 1 ∧ u2 = 0 ∧ mv vc k c = vc) ∨ (u = 0 ∧ u2 = 1 ∧ mv vc k c = 1)) → T x (zE g a cL m2) 1 6 315 [(0, .ref (g.1 144)), (1, .int (nI n)), (2, .int (nI b)), (3, .int (nI z)), (4, .ref a), (5, .int (nI pn)), (6, .int (nI S1)), (7, .int (nI G)), (8, .int (nI V)), (9, .int (nI (at1 + 1))), (10, .int (nI 1)), (11, .int (nI c)), (12, .int (nI t)), (13, .int (nI u)), (14, .int (nI u2))] [] M199_ P := by
          intro u u2 hu
          rcases hu with ⟨rfl, rfl, hmv2⟩ | ⟨rfl, rfl, hmv2⟩
          · skip
            rcases Bool.eq_false_or_eq_true (J t) with hJt | hJt
            · have hmt : m2 t = 1 := (hI2.2 t ht).1.mpr hJt
              have hw0 : w = 0 := by have := hJ0 t ht hJt (by rw [hw]; exact Option.some_ne_none _); rw [hw] at this; exact Option.some.inj this
              have hsame : t ∈ pl ++ pre ++ [c] ∨ ∀ k, k < N → X (7 + t) ≠ nI k := (hJw t ht hJt).imp (fun q => List.mem_append_left _ (List.mem_append_left _ q)) id
              refine tt_iload (h _) 13 dL_isRoute_315 rfl ?_
              refine tt_iload (h _) 14 dL_isRoute_317 rfl ?_
              refine tt_icmp_eq (h _) 337 dL_isRoute_319 (by decide) (fun c => absurd c (by decide)) (fun _ => ?_)
              refine tt_aload (h _) 4 dL_isRoute_322 rfl ?_
              refine tt_iload (h _) 12 dL_isRoute_324 rfl ?_
              refine tt_marked (h _) hz (c := t) (by omega) hI2.1 gL_isRoute_L_marked (by decide) (Nat.le_of_ble_eq_true rfl) dL_isRoute_326 ?_
              refine tt_top (nI 1) (congrArg nI hmt) ?_
              refine tt_iconst (h _) (nI 2) dL_isRoute_329 (by decide) ?_
              refine tt_icmp_eq (h _) 337 dL_isRoute_330 (by decide) (fun c => absurd c (by decide)) (fun _ => ?_)
              refine tt_iconst (h _) (nI 1) dL_isRoute_333 (by decide) ?_
              refine tt_goto (h _) 338 dL_isRoute_334 (by decide) ?_
              refine tt_istore (h _) [(10, .int (nI 1)), (0, .ref (g.1 144)), (1, .int (nI n)), (2, .int (nI b)), (3, .int (nI z)), (4, .ref a), (5, .int (nI pn)), (6, .int (nI S1)), (7, .int (nI G)), (8, .int (nI V)), (9, .int (nI (at1 + 1))), (11, .int (nI c)), (12, .int (nI t)), (13, .int (nI 1)), (14, .int (nI 0))] dL_isRoute_338 (by decide) rfl ?_
              refine tt_iload (h _) 0 dL_isRoute_340 rfl ?_
              refine tt_if_eq (h _) 526 dL_isRoute_342 (by decide) (fun c => absurd c (by decide)) (fun _ => ?_)
              refine tt_aload_n (h _) 1 dL_isRoute_345 rfl rfl ?_
              refine tt_iload (h _) 12 dL_isRoute_346 rfl ?_
              refine tt_callV (h _) (As := [.int (nI t)]) 1 hx (c_X5_cellOf hR.1.hP hR.1.hI) gL_isRoute_X5_cellOf rfl ⟨rfl, rfl⟩ (by decide +kernel) rfl (by decide) (by decide) E_144 rfl rfl (Nat.le_of_ble_eq_true rfl) dL_isRoute_348 (fun a348 M' P' hp => ?_)
              rw [hR.2.1] at hp
              obtain ⟨⟨rfl, rfl⟩, hQ⟩ := hp
              have hz' := cell_at ht hQ
              clear hQ
              subst hz'
              refine tt_istore (h _) [(15, .int (cellV X t)), (10, .int (nI 1)), (0, .ref (g.1 144)), (1, .int (nI n)), (2, .int (nI b)), (3, .int (nI z)), (4, .ref a), (5, .int (nI pn)), (6, .int (nI S1)), (7, .int (nI G)), (8, .int (nI V)), (9, .int (nI (at1 + 1))), (11, .int (nI c)), (12, .int (nI t)), (13, .int (nI 1)), (14, .int (nI 0))] dL_isRoute_351 (by decide) rfl ?_
              refine tt_aload (h _) 6 dL_isRoute_353 rfl ?_
              refine tt_iload (h _) 13 dL_isRoute_355 rfl ?_
              refine tt_marked (h _) hz (c := t) (by omega) hI2.1 gL_isRoute_L_marked (by decide) (Nat.le_of_ble_eq_true rfl) dL_isRoute_357 ?_
              refine tt_top (nI 1) (congrArg nI hmt) ?_
              refine tt_if_ne (h _) 379 dL_isRoute_360 (by decide) (fun _ => ?_) (fun c => absurd c (by decide))
              refine tt_iconst (h _) (nI 0) dL_isRoute_379 (by decide) ?_
              refine tt_istore (h _) [(16, .int (nI 0)), (15, .int (cellV X t)), (10, .int (nI 1)), (0, .ref (g.1 144)), (1, .int (nI n)), (2, .int (nI b)), (3, .int (nI z)), (4, .ref a), (5, .int (nI pn)), (6, .int (nI S1)), (7, .int (nI G)), (8, .int (nI V)), (9, .int (nI (at1 + 1))), (11, .int (nI c)), (12, .int (nI t)), (13, .int (nI 1)), (14, .int (nI 0))] dL_isRoute_380 (by decide) rfl ?_
              refine tt_aload (h _) 7 dL_isRoute_382 rfl ?_
              refine tt_iload (h _) 14 dL_isRoute_384 rfl ?_
              refine tt_marked (h _) hz (c := t) (by omega) hI2.1 gL_isRoute_L_marked (by decide) (Nat.le_of_ble_eq_true rfl) dL_isRoute_386 ?_
              refine tt_top (nI 1) (congrArg nI hmt) ?_
              refine tt_iconst (h _) (nI 1) dL_isRoute_389 (by decide) ?_
              refine tt_icmp_eq (h _) 425 dL_isRoute_390 (by decide) (fun _ => ?_) (fun c => absurd (by decide) c)
              refine tt_iconst (h _) (nI 1) dL_isRoute_425 (by decide) ?_
              refine tt_goto (h _) 430 dL_isRoute_426 (by decide) ?_
              refine tt_istore (h _) [(10, .int (nI 1)), (16, .int (nI 0)), (15, .int (cellV X t)), (0, .ref (g.1 144)), (1, .int (nI n)), (2, .int (nI b)), (3, .int (nI z)), (4, .ref a), (5, .int (nI pn)), (6, .int (nI S1)), (7, .int (nI G)), (8, .int (nI V)), (9, .int (nI (at1 + 1))), (11, .int (nI c)), (12, .int (nI t)), (13, .int (nI 1)), (14, .int (nI 0))] dL_isRoute_430 (by decide) rfl ?_
              refine tt_iload (h _) 9 dL_isRoute_432 rfl ?_
              refine tt_iload (h _) 15 dL_isRoute_434 rfl ?_
              refine tt_if_eq (h _) 448 dL_isRoute_436 (by decide) (fun c => absurd c (by decide)) (fun _ => ?_)
              refine tt_aload_n (h _) 3 dL_isRoute_439 rfl rfl ?_
              refine tt_bipush (h _) (nI 20) dL_isRoute_440 (by decide) ?_
              refine tt_callV (h _) (As := [.int (nI 20)]) 1 hx (c_X5_count hR.1.hP hR.1.hI hR.1.hs hR.1.hs4 hR.1.hln) gL_isRoute_X5_count rfl ⟨rfl, rfl⟩ (by decide +kernel) rfl (by decide) (by decide) E_144 rfl rfl (Nat.le_of_ble_eq_true rfl) dL_isRoute_442 (fun a442 M' P' hp => ?_)
              rw [hR.2.1] at hp
              obtain ⟨⟨rfl, rfl⟩, hQ⟩ := hp
              have hz' := cnt_at (j := 20) (by omega) (by omega) (by omega) hQ
              clear hQ
              subst hz'
              refine tt_top (nI vc) (hvc.1) ?_
              refine tt_goto (h _) 449 dL_isRoute_445 (by decide) ?_
              refine tt_iload (h _) 1 dL_isRoute_449 rfl ?_
              refine tt_if_eq (h _) 471 dL_isRoute_451 (by decide) (fun _ => ?_) (fun c => absurd (by decide) c)
              refine tt_iconst (h _) (nI 0) dL_isRoute_471 (by decide) ?_
              refine tt_iadd_n (h _) dL_isRoute_472 ?_
              refine tt_iadd_n (h _) dL_isRoute_473 ?_
              refine tt_istore (h _) [(6, .int (nI (S1 + (vc + 0)))), (10, .int (nI 1)), (16, .int (nI 0)), (15, .int (cellV X t)), (0, .ref (g.1 144)), (1, .int (nI n)), (2, .int (nI b)), (3, .int (nI z)), (4, .ref a), (5, .int (nI pn)), (7, .int (nI G)), (8, .int (nI V)), (9, .int (nI (at1 + 1))), (11, .int (nI c)), (12, .int (nI t)), (13, .int (nI 1)), (14, .int (nI 0))] dL_isRoute_474 (by decide) rfl ?_
              refine tt_iload (h _) 10 dL_isRoute_476 rfl ?_
              refine tt_iload (h _) 2 dL_isRoute_478 rfl ?_
              refine tt_if_eq (h _) 500 dL_isRoute_480 (by decide) (fun _ => ?_) (fun c => absurd (by decide) c)
              refine tt_iconst (h _) (nI 0) dL_isRoute_500 (by decide) ?_
              refine tt_iadd_n (h _) dL_isRoute_501 ?_
              refine tt_istore (h _) [(7, .int (nI (G + 0))), (6, .int (nI (S1 + (vc + 0)))), (10, .int (nI 1)), (16, .int (nI 0)), (15, .int (cellV X t)), (0, .ref (g.1 144)), (1, .int (nI n)), (2, .int (nI b)), (3, .int (nI z)), (4, .ref a), (5, .int (nI pn)), (8, .int (nI V)), (9, .int (nI (at1 + 1))), (11, .int (nI c)), (12, .int (nI t)), (13, .int (nI 1)), (14, .int (nI 0))] dL_isRoute_502 (by decide) rfl ?_
              refine tt_iload (h _) 11 dL_isRoute_504 rfl ?_
              refine tt_iload (h _) 3 dL_isRoute_506 rfl ?_
              refine tt_if_eq (h _) 518 dL_isRoute_508 (by decide) (fun _ => ?_) (fun c => absurd (by decide) c)
              refine tt_iconst (h _) (nI 0) dL_isRoute_518 (by decide) ?_
              refine tt_ior (h _) dL_isRoute_519 ?_
              refine tt_top (nI V) (or_0 _) ?_
              refine tt_istore (h _) [(8, .int (nI V)), (7, .int (nI (G + 0))), (6, .int (nI (S1 + (vc + 0)))), (10, .int (nI 1)), (16, .int (nI 0)), (15, .int (cellV X t)), (0, .ref (g.1 144)), (1, .int (nI n)), (2, .int (nI b)), (3, .int (nI z)), (4, .ref a), (5, .int (nI pn)), (9, .int (nI (at1 + 1))), (11, .int (nI c)), (12, .int (nI t)), (13, .int (nI 1)), (14, .int (nI 0))] dL_isRoute_520 (by decide) rfl ?_
              refine tt_iload (h _) 14 dL_isRoute_522 rfl ?_
              refine tt_istore (h _) [(11, .int (nI t)), (8, .int (nI V)), (7, .int (nI (G + 0))), (6, .int (nI (S1 + (vc + 0)))), (10, .int (nI 1)), (16, .int (nI 0)), (15, .int (cellV X t)), (0, .ref (g.1 144)), (1, .int (nI n)), (2, .int (nI b)), (3, .int (nI z)), (4, .ref a), (5, .int (nI pn)), (9, .int (nI (at1 + 1))), (12, .int (nI t)), (13, .int (nI 1)), (14, .int (nI 0))] dL_isRoute_524 (by decide) rfl ?_
              refine tt_goto (h _) 167 dL_isRoute_526 (by decide) ?_
              exact tt_lv (ih167 (pre ++ [c]) t r2 m2 (S1 + (vc + 0)) (G + 0) V (at1 + 1) M199_ (by simp only [List.length_cons] at hmu167; omega) (by rw [hl]; simp) (hP2) (by rw [hat]; simp; omega) (hI2) (by omega) (by first | (rw [Nat.add_zero, ← List.append_assoc pl pre [c], hG1]; exact (pri_same hsame).symm) | (rw [← List.append_assoc pl pre [c], hG1]; exact pri_hit hN6 ht ho1 hmem ho)) (by first | (rw [← List.append_assoc pl pre [c], hV1]; exact (vic_same hsame).symm) | (rw [← List.append_assoc pl pre [c], hV1]; exact vic_hit hN6 ho1 ho)) (hR)) [7, 8, 9, 10, 11, 12, 3, 2, 1, 13, 4, 0] rfl
            · have hmt : m2 t = 0 := MkI_0 hI2 ht hJt hnt
              rcases hcell t w ht hJt hw with ⟨ho, hw0⟩ | ⟨ho, hw0⟩ | ⟨o, ho1, ho2, ho, hw0, hb1, htp⟩
              · skip
                have hsame : t ∈ pl ++ pre ++ [c] ∨ ∀ k, k < N → X (7 + t) ≠ nI k := Or.inr (fun k hk e => m1_ne (k := k) (by omega) (ho.symm.trans e))
                refine tt_iload (h _) 13 dL_isRoute_315 rfl ?_
                refine tt_iload (h _) 14 dL_isRoute_317 rfl ?_
                refine tt_icmp_eq (h _) 337 dL_isRoute_319 (by decide) (fun c => absurd c (by decide)) (fun _ => ?_)
                refine tt_aload (h _) 4 dL_isRoute_322 rfl ?_
                refine tt_iload (h _) 12 dL_isRoute_324 rfl ?_
                refine tt_marked (h _) hz (c := t) (by omega) hI2.1 gL_isRoute_L_marked (by decide) (Nat.le_of_ble_eq_true rfl) dL_isRoute_326 ?_
                refine tt_top (nI 0) (congrArg nI hmt) ?_
                refine tt_iconst (h _) (nI 2) dL_isRoute_329 (by decide) ?_
                refine tt_icmp_eq (h _) 337 dL_isRoute_330 (by decide) (fun c => absurd c (by decide)) (fun _ => ?_)
                refine tt_iconst (h _) (nI 1) dL_isRoute_333 (by decide) ?_
                refine tt_goto (h _) 338 dL_isRoute_334 (by decide) ?_
                refine tt_istore (h _) [(10, .int (nI 1)), (0, .ref (g.1 144)), (1, .int (nI n)), (2, .int (nI b)), (3, .int (nI z)), (4, .ref a), (5, .int (nI pn)), (6, .int (nI S1)), (7, .int (nI G)), (8, .int (nI V)), (9, .int (nI (at1 + 1))), (11, .int (nI c)), (12, .int (nI t)), (13, .int (nI 1)), (14, .int (nI 0))] dL_isRoute_338 (by decide) rfl ?_
                refine tt_iload (h _) 0 dL_isRoute_340 rfl ?_
                refine tt_if_eq (h _) 526 dL_isRoute_342 (by decide) (fun c => absurd c (by decide)) (fun _ => ?_)
                refine tt_aload_n (h _) 1 dL_isRoute_345 rfl rfl ?_
                refine tt_iload (h _) 12 dL_isRoute_346 rfl ?_
                refine tt_callV (h _) (As := [.int (nI t)]) 1 hx (c_X5_cellOf hR.1.hP hR.1.hI) gL_isRoute_X5_cellOf rfl ⟨rfl, rfl⟩ (by decide +kernel) rfl (by decide) (by decide) E_144 rfl rfl (Nat.le_of_ble_eq_true rfl) dL_isRoute_348 (fun a348_1 M' P' hp => ?_)
                rw [hR.2.1] at hp
                obtain ⟨⟨rfl, rfl⟩, hQ⟩ := hp
                have hz' := cell_at ht hQ
                clear hQ
                subst hz'
                refine tt_top (-1000004) (if_pos ho) ?_
                refine tt_istore (h _) [(15, .int (-1000004)), (10, .int (nI 1)), (0, .ref (g.1 144)), (1, .int (nI n)), (2, .int (nI b)), (3, .int (nI z)), (4, .ref a), (5, .int (nI pn)), (6, .int (nI S1)), (7, .int (nI G)), (8, .int (nI V)), (9, .int (nI (at1 + 1))), (11, .int (nI c)), (12, .int (nI t)), (13, .int (nI 1)), (14, .int (nI 0))] dL_isRoute_351 (by decide) rfl ?_
                refine tt_aload (h _) 6 dL_isRoute_353 rfl ?_
                refine tt_iload (h _) 13 dL_isRoute_355 rfl ?_
                refine tt_marked (h _) hz (c := t) (by omega) hI2.1 gL_isRoute_L_marked (by decide) (Nat.le_of_ble_eq_true rfl) dL_isRoute_357 ?_
                refine tt_top (nI 0) (congrArg nI hmt) ?_
                refine tt_if_ne (h _) 379 dL_isRoute_360 (by decide) (fun c => absurd c (by decide)) (fun _ => ?_)
                refine tt_iload (h _) 0 dL_isRoute_363 rfl ?_
                refine tt_if_lt (h _) 379 dL_isRoute_365 (by decide) (fun _ => ?_) (fun c => absurd (by decide) c)
                refine tt_iconst (h _) (nI 0) dL_isRoute_379 (by decide) ?_
                refine tt_istore (h _) [(16, .int (nI 0)), (15, .int (-1000004)), (10, .int (nI 1)), (0, .ref (g.1 144)), (1, .int (nI n)), (2, .int (nI b)), (3, .int (nI z)), (4, .ref a), (5, .int (nI pn)), (6, .int (nI S1)), (7, .int (nI G)), (8, .int (nI V)), (9, .int (nI (at1 + 1))), (11, .int (nI c)), (12, .int (nI t)), (13, .int (nI 1)), (14, .int (nI 0))] dL_isRoute_380 (by decide) rfl ?_
                refine tt_aload (h _) 7 dL_isRoute_382 rfl ?_
                refine tt_iload (h _) 14 dL_isRoute_384 rfl ?_
                refine tt_marked (h _) hz (c := t) (by omega) hI2.1 gL_isRoute_L_marked (by decide) (Nat.le_of_ble_eq_true rfl) dL_isRoute_386 ?_
                refine tt_top (nI 0) (congrArg nI hmt) ?_
                refine tt_iconst (h _) (nI 1) dL_isRoute_389 (by decide) ?_
                refine tt_icmp_eq (h _) 425 dL_isRoute_390 (by decide) (fun c => absurd c (by decide)) (fun _ => ?_)
                refine tt_iload (h _) 1 dL_isRoute_393 rfl ?_
                refine tt_ldc (h _) ((-1000004)) (by decide +kernel) dL_isRoute_395 ?_
                refine tt_icmp_eq (h _) 425 dL_isRoute_397 (by decide) (fun _ => ?_) (fun c => absurd (by decide) c)
                refine tt_iconst (h _) (nI 1) dL_isRoute_425 (by decide) ?_
                refine tt_goto (h _) 430 dL_isRoute_426 (by decide) ?_
                refine tt_istore (h _) [(10, .int (nI 1)), (16, .int (nI 0)), (15, .int (-1000004)), (0, .ref (g.1 144)), (1, .int (nI n)), (2, .int (nI b)), (3, .int (nI z)), (4, .ref a), (5, .int (nI pn)), (6, .int (nI S1)), (7, .int (nI G)), (8, .int (nI V)), (9, .int (nI (at1 + 1))), (11, .int (nI c)), (12, .int (nI t)), (13, .int (nI 1)), (14, .int (nI 0))] dL_isRoute_430 (by decide) rfl ?_
                refine tt_iload (h _) 9 dL_isRoute_432 rfl ?_
                refine tt_iload (h _) 15 dL_isRoute_434 rfl ?_
                refine tt_if_eq (h _) 448 dL_isRoute_436 (by decide) (fun c => absurd c (by decide)) (fun _ => ?_)
                refine tt_aload_n (h _) 3 dL_isRoute_439 rfl rfl ?_
                refine tt_bipush (h _) (nI 20) dL_isRoute_440 (by decide) ?_
                refine tt_callV (h _) (As := [.int (nI 20)]) 1 hx (c_X5_count hR.1.hP hR.1.hI hR.1.hs hR.1.hs4 hR.1.hln) gL_isRoute_X5_count rfl ⟨rfl, rfl⟩ (by decide +kernel) rfl (by decide) (by decide) E_144 rfl rfl (Nat.le_of_ble_eq_true rfl) dL_isRoute_442 (fun a442_1 M' P' hp => ?_)
                rw [hR.2.1] at hp
                obtain ⟨⟨rfl, rfl⟩, hQ⟩ := hp
                have hz' := cnt_at (j := 20) (by omega) (by omega) (by omega) hQ
                clear hQ
                subst hz'
                refine tt_top (nI vc) (hvc.1) ?_
                refine tt_goto (h _) 449 dL_isRoute_445 (by decide) ?_
                refine tt_iload (h _) 1 dL_isRoute_449 rfl ?_
                refine tt_if_eq (h _) 471 dL_isRoute_451 (by decide) (fun _ => ?_) (fun c => absurd (by decide) c)
                refine tt_iconst (h _) (nI 0) dL_isRoute_471 (by decide) ?_
                refine tt_iadd_n (h _) dL_isRoute_472 ?_
                refine tt_iadd_n (h _) dL_isRoute_473 ?_
                refine tt_istore (h _) [(6, .int (nI (S1 + (vc + 0)))), (10, .int (nI 1)), (16, .int (nI 0)), (15, .int (-1000004)), (0, .ref (g.1 144)), (1, .int (nI n)), (2, .int (nI b)), (3, .int (nI z)), (4, .ref a), (5, .int (nI pn)), (7, .int (nI G)), (8, .int (nI V)), (9, .int (nI (at1 + 1))), (11, .int (nI c)), (12, .int (nI t)), (13, .int (nI 1)), (14, .int (nI 0))] dL_isRoute_474 (by decide) rfl ?_
                refine tt_iload (h _) 10 dL_isRoute_476 rfl ?_
                refine tt_iload (h _) 2 dL_isRoute_478 rfl ?_
                refine tt_if_eq (h _) 500 dL_isRoute_480 (by decide) (fun _ => ?_) (fun c => absurd (by decide) c)
                refine tt_iconst (h _) (nI 0) dL_isRoute_500 (by decide) ?_
                refine tt_iadd_n (h _) dL_isRoute_501 ?_
                refine tt_istore (h _) [(7, .int (nI (G + 0))), (6, .int (nI (S1 + (vc + 0)))), (10, .int (nI 1)), (16, .int (nI 0)), (15, .int (-1000004)), (0, .ref (g.1 144)), (1, .int (nI n)), (2, .int (nI b)), (3, .int (nI z)), (4, .ref a), (5, .int (nI pn)), (8, .int (nI V)), (9, .int (nI (at1 + 1))), (11, .int (nI c)), (12, .int (nI t)), (13, .int (nI 1)), (14, .int (nI 0))] dL_isRoute_502 (by decide) rfl ?_
                refine tt_iload (h _) 11 dL_isRoute_504 rfl ?_
                refine tt_iload (h _) 3 dL_isRoute_506 rfl ?_
                refine tt_if_eq (h _) 518 dL_isRoute_508 (by decide) (fun _ => ?_) (fun c => absurd (by decide) c)
                refine tt_iconst (h _) (nI 0) dL_isRoute_518 (by decide) ?_
                refine tt_ior (h _) dL_isRoute_519 ?_
                refine tt_top (nI V) (or_0 _) ?_
                refine tt_istore (h _) [(8, .int (nI V)), (7, .int (nI (G + 0))), (6, .int (nI (S1 + (vc + 0)))), (10, .int (nI 1)), (16, .int (nI 0)), (15, .int (-1000004)), (0, .ref (g.1 144)), (1, .int (nI n)), (2, .int (nI b)), (3, .int (nI z)), (4, .ref a), (5, .int (nI pn)), (9, .int (nI (at1 + 1))), (11, .int (nI c)), (12, .int (nI t)), (13, .int (nI 1)), (14, .int (nI 0))] dL_isRoute_520 (by decide) rfl ?_
                refine tt_iload (h _) 14 dL_isRoute_522 rfl ?_
                refine tt_istore (h _) [(11, .int (nI t)), (8, .int (nI V)), (7, .int (nI (G + 0))), (6, .int (nI (S1 + (vc + 0)))), (10, .int (nI 1)), (16, .int (nI 0)), (15, .int (-1000004)), (0, .ref (g.1 144)), (1, .int (nI n)), (2, .int (nI b)), (3, .int (nI z)), (4, .ref a), (5, .int (nI pn)), (9, .int (nI (at1 + 1))), (12, .int (nI t)), (13, .int (nI 1)), (14, .int (nI 0))] dL_isRoute_524 (by decide) rfl ?_
                refine tt_goto (h _) 167 dL_isRoute_526 (by decide) ?_
                exact tt_lv (ih167 (pre ++ [c]) t r2 m2 (S1 + (vc + 0)) (G + 0) V (at1 + 1) M199_ (by simp only [List.length_cons] at hmu167; omega) (by rw [hl]; simp) (hP2) (by rw [hat]; simp; omega) (hI2) (by omega) (by first | (rw [Nat.add_zero, ← List.append_assoc pl pre [c], hG1]; exact (pri_same hsame).symm) | (rw [← List.append_assoc pl pre [c], hG1]; exact pri_hit hN6 ht ho1 hmem ho)) (by first | (rw [← List.append_assoc pl pre [c], hV1]; exact (vic_same hsame).symm) | (rw [← List.append_assoc pl pre [c], hV1]; exact vic_hit hN6 ho1 ho)) (hR)) [7, 8, 9, 10, 11, 12, 3, 2, 1, 13, 4, 0] rfl
              · skip
                have hsame : t ∈ pl ++ pre ++ [c] ∨ ∀ k, k < N → X (7 + t) ≠ nI k := Or.inr (fun k hk => pin_no hGd ho (by omega) hk)
                refine tt_iload (h _) 13 dL_isRoute_315 rfl ?_
                refine tt_iload (h _) 14 dL_isRoute_317 rfl ?_
                refine tt_icmp_eq (h _) 337 dL_isRoute_319 (by decide) (fun c => absurd c (by decide)) (fun _ => ?_)
                refine tt_aload (h _) 4 dL_isRoute_322 rfl ?_
                refine tt_iload (h _) 12 dL_isRoute_324 rfl ?_
                refine tt_marked (h _) hz (c := t) (by omega) hI2.1 gL_isRoute_L_marked (by decide) (Nat.le_of_ble_eq_true rfl) dL_isRoute_326 ?_
                refine tt_top (nI 0) (congrArg nI hmt) ?_
                refine tt_iconst (h _) (nI 2) dL_isRoute_329 (by decide) ?_
                refine tt_icmp_eq (h _) 337 dL_isRoute_330 (by decide) (fun c => absurd c (by decide)) (fun _ => ?_)
                refine tt_iconst (h _) (nI 1) dL_isRoute_333 (by decide) ?_
                refine tt_goto (h _) 338 dL_isRoute_334 (by decide) ?_
                refine tt_istore (h _) [(10, .int (nI 1)), (0, .ref (g.1 144)), (1, .int (nI n)), (2, .int (nI b)), (3, .int (nI z)), (4, .ref a), (5, .int (nI pn)), (6, .int (nI S1)), (7, .int (nI G)), (8, .int (nI V)), (9, .int (nI (at1 + 1))), (11, .int (nI c)), (12, .int (nI t)), (13, .int (nI 1)), (14, .int (nI 0))] dL_isRoute_338 (by decide) rfl ?_
                refine tt_iload (h _) 0 dL_isRoute_340 rfl ?_
                refine tt_if_eq (h _) 526 dL_isRoute_342 (by decide) (fun c => absurd c (by decide)) (fun _ => ?_)
                refine tt_aload_n (h _) 1 dL_isRoute_345 rfl rfl ?_
                refine tt_iload (h _) 12 dL_isRoute_346 rfl ?_
                refine tt_callV (h _) (As := [.int (nI t)]) 1 hx (c_X5_cellOf hR.1.hP hR.1.hI) gL_isRoute_X5_cellOf rfl ⟨rfl, rfl⟩ (by decide +kernel) rfl (by decide) (by decide) E_144 rfl rfl (Nat.le_of_ble_eq_true rfl) dL_isRoute_348 (fun a348_2 M' P' hp => ?_)
                rw [hR.2.1] at hp
                obtain ⟨⟨rfl, rfl⟩, hQ⟩ := hp
                have hz' := cell_at ht hQ
                clear hQ
                subst hz'
                refine tt_top (nI (10 + n)) ((cellV_k (by omega)).mpr ho) ?_
                refine tt_istore (h _) [(15, .int (nI (10 + n))), (10, .int (nI 1)), (0, .ref (g.1 144)), (1, .int (nI n)), (2, .int (nI b)), (3, .int (nI z)), (4, .ref a), (5, .int (nI pn)), (6, .int (nI S1)), (7, .int (nI G)), (8, .int (nI V)), (9, .int (nI (at1 + 1))), (11, .int (nI c)), (12, .int (nI t)), (13, .int (nI 1)), (14, .int (nI 0))] dL_isRoute_351 (by decide) rfl ?_
                refine tt_aload (h _) 6 dL_isRoute_353 rfl ?_
                refine tt_iload (h _) 13 dL_isRoute_355 rfl ?_
                refine tt_marked (h _) hz (c := t) (by omega) hI2.1 gL_isRoute_L_marked (by decide) (Nat.le_of_ble_eq_true rfl) dL_isRoute_357 ?_
                refine tt_top (nI 0) (congrArg nI hmt) ?_
                refine tt_if_ne (h _) 379 dL_isRoute_360 (by decide) (fun c => absurd c (by decide)) (fun _ => ?_)
                refine tt_iload (h _) 0 dL_isRoute_363 rfl ?_
                refine tt_if_lt_n (h _) 379 dL_isRoute_365 (by decide) (by omega) ?_
                refine tt_iload (h _) 0 dL_isRoute_368 rfl ?_
                refine tt_bipush (h _) (nI 6) dL_isRoute_370 (by decide) ?_
                refine tt_icmp_ge_n (h _) 379 dL_isRoute_372 (by decide) (by omega) (by decide) (fun c_372 => ?_) (fun c_372 => by exfalso; omega)
                refine tt_iconst (h _) (nI 0) dL_isRoute_379 (by decide) ?_
                refine tt_istore (h _) [(16, .int (nI 0)), (15, .int (nI (10 + n))), (10, .int (nI 1)), (0, .ref (g.1 144)), (1, .int (nI n)), (2, .int (nI b)), (3, .int (nI z)), (4, .ref a), (5, .int (nI pn)), (6, .int (nI S1)), (7, .int (nI G)), (8, .int (nI V)), (9, .int (nI (at1 + 1))), (11, .int (nI c)), (12, .int (nI t)), (13, .int (nI 1)), (14, .int (nI 0))] dL_isRoute_380 (by decide) rfl ?_
                refine tt_aload (h _) 7 dL_isRoute_382 rfl ?_
                refine tt_iload (h _) 14 dL_isRoute_384 rfl ?_
                refine tt_marked (h _) hz (c := t) (by omega) hI2.1 gL_isRoute_L_marked (by decide) (Nat.le_of_ble_eq_true rfl) dL_isRoute_386 ?_
                refine tt_top (nI 0) (congrArg nI hmt) ?_
                refine tt_iconst (h _) (nI 1) dL_isRoute_389 (by decide) ?_
                refine tt_icmp_eq (h _) 425 dL_isRoute_390 (by decide) (fun c => absurd c (by decide)) (fun _ => ?_)
                refine tt_iload (h _) 1 dL_isRoute_393 rfl ?_
                refine tt_ldc (h _) ((-1000004)) (by decide +kernel) dL_isRoute_395 ?_
                refine tt_icmp_eq (h _) 425 dL_isRoute_397 (by decide) (fun c_397 => by exfalso; exact absurd (by rw [c_397]; decide) (nI_pos (n := 10 + n) (by omega))) (fun c_397 => ?_)
                refine tt_iload (h _) 1 dL_isRoute_400 rfl ?_
                refine tt_bipush (h _) (nI 10) dL_isRoute_402 (by decide) ?_
                refine tt_iload_n (h _) 4 dL_isRoute_404 rfl rfl ?_
                refine tt_iadd_n (h _) dL_isRoute_405 ?_
                refine tt_icmp_eq_n (h _) 425 dL_isRoute_406 (by decide) (by omega) (by omega) (fun c_406 => ?_) (fun c_406 => by exfalso; exact c_406 rfl)
                refine tt_iconst (h _) (nI 1) dL_isRoute_425 (by decide) ?_
                refine tt_goto (h _) 430 dL_isRoute_426 (by decide) ?_
                refine tt_istore (h _) [(10, .int (nI 1)), (16, .int (nI 0)), (15, .int (nI (10 + n))), (0, .ref (g.1 144)), (1, .int (nI n)), (2, .int (nI b)), (3, .int (nI z)), (4, .ref a), (5, .int (nI pn)), (6, .int (nI S1)), (7, .int (nI G)), (8, .int (nI V)), (9, .int (nI (at1 + 1))), (11, .int (nI c)), (12, .int (nI t)), (13, .int (nI 1)), (14, .int (nI 0))] dL_isRoute_430 (by decide) rfl ?_
                refine tt_iload (h _) 9 dL_isRoute_432 rfl ?_
                refine tt_iload (h _) 15 dL_isRoute_434 rfl ?_
                refine tt_if_eq (h _) 448 dL_isRoute_436 (by decide) (fun c => absurd c (by decide)) (fun _ => ?_)
                refine tt_aload_n (h _) 3 dL_isRoute_439 rfl rfl ?_
                refine tt_bipush (h _) (nI 20) dL_isRoute_440 (by decide) ?_
                refine tt_callV (h _) (As := [.int (nI 20)]) 1 hx (c_X5_count hR.1.hP hR.1.hI hR.1.hs hR.1.hs4 hR.1.hln) gL_isRoute_X5_count rfl ⟨rfl, rfl⟩ (by decide +kernel) rfl (by decide) (by decide) E_144 rfl rfl (Nat.le_of_ble_eq_true rfl) dL_isRoute_442 (fun a442_2 M' P' hp => ?_)
                rw [hR.2.1] at hp
                obtain ⟨⟨rfl, rfl⟩, hQ⟩ := hp
                have hz' := cnt_at (j := 20) (by omega) (by omega) (by omega) hQ
                clear hQ
                subst hz'
                refine tt_top (nI vc) (hvc.1) ?_
                refine tt_goto (h _) 449 dL_isRoute_445 (by decide) ?_
                refine tt_iload (h _) 1 dL_isRoute_449 rfl ?_
                refine tt_if_eq (h _) 471 dL_isRoute_451 (by decide) (fun _ => ?_) (fun c => absurd (by decide) c)
                refine tt_iconst (h _) (nI 0) dL_isRoute_471 (by decide) ?_
                refine tt_iadd_n (h _) dL_isRoute_472 ?_
                refine tt_iadd_n (h _) dL_isRoute_473 ?_
                refine tt_istore (h _) [(6, .int (nI (S1 + (vc + 0)))), (10, .int (nI 1)), (16, .int (nI 0)), (15, .int (nI (10 + n))), (0, .ref (g.1 144)), (1, .int (nI n)), (2, .int (nI b)), (3, .int (nI z)), (4, .ref a), (5, .int (nI pn)), (7, .int (nI G)), (8, .int (nI V)), (9, .int (nI (at1 + 1))), (11, .int (nI c)), (12, .int (nI t)), (13, .int (nI 1)), (14, .int (nI 0))] dL_isRoute_474 (by decide) rfl ?_
                refine tt_iload (h _) 10 dL_isRoute_476 rfl ?_
                refine tt_iload (h _) 2 dL_isRoute_478 rfl ?_
                refine tt_if_eq (h _) 500 dL_isRoute_480 (by decide) (fun _ => ?_) (fun c => absurd (by decide) c)
                refine tt_iconst (h _) (nI 0) dL_isRoute_500 (by decide) ?_
                refine tt_iadd_n (h _) dL_isRoute_501 ?_
                refine tt_istore (h _) [(7, .int (nI (G + 0))), (6, .int (nI (S1 + (vc + 0)))), (10, .int (nI 1)), (16, .int (nI 0)), (15, .int (nI (10 + n))), (0, .ref (g.1 144)), (1, .int (nI n)), (2, .int (nI b)), (3, .int (nI z)), (4, .ref a), (5, .int (nI pn)), (8, .int (nI V)), (9, .int (nI (at1 + 1))), (11, .int (nI c)), (12, .int (nI t)), (13, .int (nI 1)), (14, .int (nI 0))] dL_isRoute_502 (by decide) rfl ?_
                refine tt_iload (h _) 11 dL_isRoute_504 rfl ?_
                refine tt_iload (h _) 3 dL_isRoute_506 rfl ?_
                refine tt_if_eq (h _) 518 dL_isRoute_508 (by decide) (fun _ => ?_) (fun c => absurd (by decide) c)
                refine tt_iconst (h _) (nI 0) dL_isRoute_518 (by decide) ?_
                refine tt_ior (h _) dL_isRoute_519 ?_
                refine tt_top (nI V) (or_0 _) ?_
                refine tt_istore (h _) [(8, .int (nI V)), (7, .int (nI (G + 0))), (6, .int (nI (S1 + (vc + 0)))), (10, .int (nI 1)), (16, .int (nI 0)), (15, .int (nI (10 + n))), (0, .ref (g.1 144)), (1, .int (nI n)), (2, .int (nI b)), (3, .int (nI z)), (4, .ref a), (5, .int (nI pn)), (9, .int (nI (at1 + 1))), (11, .int (nI c)), (12, .int (nI t)), (13, .int (nI 1)), (14, .int (nI 0))] dL_isRoute_520 (by decide) rfl ?_
                refine tt_iload (h _) 14 dL_isRoute_522 rfl ?_
                refine tt_istore (h _) [(11, .int (nI t)), (8, .int (nI V)), (7, .int (nI (G + 0))), (6, .int (nI (S1 + (vc + 0)))), (10, .int (nI 1)), (16, .int (nI 0)), (15, .int (nI (10 + n))), (0, .ref (g.1 144)), (1, .int (nI n)), (2, .int (nI b)), (3, .int (nI z)), (4, .ref a), (5, .int (nI pn)), (9, .int (nI (at1 + 1))), (12, .int (nI t)), (13, .int (nI 1)), (14, .int (nI 0))] dL_isRoute_524 (by decide) rfl ?_
                refine tt_goto (h _) 167 dL_isRoute_526 (by decide) ?_
                exact tt_lv (ih167 (pre ++ [c]) t r2 m2 (S1 + (vc + 0)) (G + 0) V (at1 + 1) M199_ (by simp only [List.length_cons] at hmu167; omega) (by rw [hl]; simp) (hP2) (by rw [hat]; simp; omega) (hI2) (by omega) (by first | (rw [Nat.add_zero, ← List.append_assoc pl pre [c], hG1]; exact (pri_same hsame).symm) | (rw [← List.append_assoc pl pre [c], hG1]; exact pri_hit hN6 ht ho1 hmem ho)) (by first | (rw [← List.append_assoc pl pre [c], hV1]; exact (vic_same hsame).symm) | (rw [← List.append_assoc pl pre [c], hV1]; exact vic_hit hN6 ho1 ho)) (hR)) [7, 8, 9, 10, 11, 12, 3, 2, 1, 13, 4, 0] rfl
              · skip
                have hmem : t ∉ pl ++ pre ++ [c] := fun q => by rw [List.append_assoc] at q; exact (List.mem_append.mp q).elim htp hnt
                have hst9 := (hGd.net ho1).st.2
                have hpr50 := hGd.pr.2
                refine tt_iload (h _) 13 dL_isRoute_315 rfl ?_
                refine tt_iload (h _) 14 dL_isRoute_317 rfl ?_
                refine tt_icmp_eq (h _) 337 dL_isRoute_319 (by decide) (fun c => absurd c (by decide)) (fun _ => ?_)
                refine tt_aload (h _) 4 dL_isRoute_322 rfl ?_
                refine tt_iload (h _) 12 dL_isRoute_324 rfl ?_
                refine tt_marked (h _) hz (c := t) (by omega) hI2.1 gL_isRoute_L_marked (by decide) (Nat.le_of_ble_eq_true rfl) dL_isRoute_326 ?_
                refine tt_top (nI 0) (congrArg nI hmt) ?_
                refine tt_iconst (h _) (nI 2) dL_isRoute_329 (by decide) ?_
                refine tt_icmp_eq (h _) 337 dL_isRoute_330 (by decide) (fun c => absurd c (by decide)) (fun _ => ?_)
                refine tt_iconst (h _) (nI 1) dL_isRoute_333 (by decide) ?_
                refine tt_goto (h _) 338 dL_isRoute_334 (by decide) ?_
                refine tt_istore (h _) [(10, .int (nI 1)), (0, .ref (g.1 144)), (1, .int (nI n)), (2, .int (nI b)), (3, .int (nI z)), (4, .ref a), (5, .int (nI pn)), (6, .int (nI S1)), (7, .int (nI G)), (8, .int (nI V)), (9, .int (nI (at1 + 1))), (11, .int (nI c)), (12, .int (nI t)), (13, .int (nI 1)), (14, .int (nI 0))] dL_isRoute_338 (by decide) rfl ?_
                refine tt_iload (h _) 0 dL_isRoute_340 rfl ?_
                refine tt_if_eq (h _) 526 dL_isRoute_342 (by decide) (fun c => absurd c (by decide)) (fun _ => ?_)
                refine tt_aload_n (h _) 1 dL_isRoute_345 rfl rfl ?_
                refine tt_iload (h _) 12 dL_isRoute_346 rfl ?_
                refine tt_callV (h _) (As := [.int (nI t)]) 1 hx (c_X5_cellOf hR.1.hP hR.1.hI) gL_isRoute_X5_cellOf rfl ⟨rfl, rfl⟩ (by decide +kernel) rfl (by decide) (by decide) E_144 rfl rfl (Nat.le_of_ble_eq_true rfl) dL_isRoute_348 (fun a348_3 M' P' hp => ?_)
                rw [hR.2.1] at hp
                obtain ⟨⟨rfl, rfl⟩, hQ⟩ := hp
                have hz' := cell_at ht hQ
                clear hQ
                subst hz'
                refine tt_top (nI o) ((cellV_k (by omega)).mpr ho) ?_
                refine tt_istore (h _) [(15, .int (nI o)), (10, .int (nI 1)), (0, .ref (g.1 144)), (1, .int (nI n)), (2, .int (nI b)), (3, .int (nI z)), (4, .ref a), (5, .int (nI pn)), (6, .int (nI S1)), (7, .int (nI G)), (8, .int (nI V)), (9, .int (nI (at1 + 1))), (11, .int (nI c)), (12, .int (nI t)), (13, .int (nI 1)), (14, .int (nI 0))] dL_isRoute_351 (by decide) rfl ?_
                refine tt_aload (h _) 6 dL_isRoute_353 rfl ?_
                refine tt_iload (h _) 13 dL_isRoute_355 rfl ?_
                refine tt_marked (h _) hz (c := t) (by omega) hI2.1 gL_isRoute_L_marked (by decide) (Nat.le_of_ble_eq_true rfl) dL_isRoute_357 ?_
                refine tt_top (nI 0) (congrArg nI hmt) ?_
                refine tt_if_ne (h _) 379 dL_isRoute_360 (by decide) (fun c => absurd c (by decide)) (fun _ => ?_)
                refine tt_iload (h _) 0 dL_isRoute_363 rfl ?_
                refine tt_if_lt_n (h _) 379 dL_isRoute_365 (by decide) (by omega) ?_
                refine tt_iload (h _) 0 dL_isRoute_368 rfl ?_
                refine tt_bipush (h _) (nI 6) dL_isRoute_370 (by decide) ?_
                refine tt_icmp_ge_n (h _) 379 dL_isRoute_372 (by decide) (by omega) (by decide) (fun c_372 => by exfalso; omega) (fun c_372 => ?_)
                refine tt_iconst (h _) (nI 1) dL_isRoute_375 (by decide) ?_
                refine tt_goto (h _) 380 dL_isRoute_376 (by decide) ?_
                refine tt_istore (h _) [(16, .int (nI 1)), (15, .int (nI o)), (10, .int (nI 1)), (0, .ref (g.1 144)), (1, .int (nI n)), (2, .int (nI b)), (3, .int (nI z)), (4, .ref a), (5, .int (nI pn)), (6, .int (nI S1)), (7, .int (nI G)), (8, .int (nI V)), (9, .int (nI (at1 + 1))), (11, .int (nI c)), (12, .int (nI t)), (13, .int (nI 1)), (14, .int (nI 0))] dL_isRoute_380 (by decide) rfl ?_
                refine tt_aload (h _) 7 dL_isRoute_382 rfl ?_
                refine tt_iload (h _) 14 dL_isRoute_384 rfl ?_
                refine tt_marked (h _) hz (c := t) (by omega) hI2.1 gL_isRoute_L_marked (by decide) (Nat.le_of_ble_eq_true rfl) dL_isRoute_386 ?_
                refine tt_top (nI 0) (congrArg nI hmt) ?_
                refine tt_iconst (h _) (nI 1) dL_isRoute_389 (by decide) ?_
                refine tt_icmp_eq (h _) 425 dL_isRoute_390 (by decide) (fun c => absurd c (by decide)) (fun _ => ?_)
                refine tt_iload (h _) 1 dL_isRoute_393 rfl ?_
                refine tt_ldc (h _) ((-1000004)) (by decide +kernel) dL_isRoute_395 ?_
                refine tt_icmp_eq (h _) 425 dL_isRoute_397 (by decide) (fun c_397 => by exfalso; exact absurd (by rw [c_397]; decide) (nI_pos (n := o) (by omega))) (fun c_397 => ?_)
                refine tt_iload (h _) 1 dL_isRoute_400 rfl ?_
                refine tt_bipush (h _) (nI 10) dL_isRoute_402 (by decide) ?_
                refine tt_iload_n (h _) 4 dL_isRoute_404 rfl rfl ?_
                refine tt_iadd_n (h _) dL_isRoute_405 ?_
                refine tt_icmp_eq_n (h _) 425 dL_isRoute_406 (by decide) (by omega) (by omega) (fun c_406 => by exfalso; omega) (fun c_406 => ?_)
                refine tt_iload_n (h _) 5 dL_isRoute_409 rfl rfl ?_
                refine tt_iconst (h _) (nI 1) dL_isRoute_410 (by decide) ?_
                refine tt_icmp_ne_n (h _) 429 dL_isRoute_411 (by decide) (by omega) (by decide) (fun c_411 => by exfalso; exact c_411 (of_decide_eq_true hb1)) (fun c_411 => ?_)
                refine tt_iload (h _) 0 dL_isRoute_414 rfl ?_
                refine tt_if_eq (h _) 429 dL_isRoute_416 (by decide) (fun c => absurd c (by decide)) (fun _ => ?_)
                refine tt_iload (h _) 1 dL_isRoute_419 rfl ?_
                refine tt_iload_n (h _) 4 dL_isRoute_421 rfl rfl ?_
                refine tt_icmp_eq_n (h _) 429 dL_isRoute_422 (by decide) (by omega) (by omega) (fun c_422 => by exfalso; exact ho2 c_422) (fun c_422 => ?_)
                refine tt_iconst (h _) (nI 1) dL_isRoute_425 (by decide) ?_
                refine tt_goto (h _) 430 dL_isRoute_426 (by decide) ?_
                refine tt_istore (h _) [(10, .int (nI 1)), (16, .int (nI 1)), (15, .int (nI o)), (0, .ref (g.1 144)), (1, .int (nI n)), (2, .int (nI b)), (3, .int (nI z)), (4, .ref a), (5, .int (nI pn)), (6, .int (nI S1)), (7, .int (nI G)), (8, .int (nI V)), (9, .int (nI (at1 + 1))), (11, .int (nI c)), (12, .int (nI t)), (13, .int (nI 1)), (14, .int (nI 0))] dL_isRoute_430 (by decide) rfl ?_
                refine tt_iload (h _) 9 dL_isRoute_432 rfl ?_
                refine tt_iload (h _) 15 dL_isRoute_434 rfl ?_
                refine tt_if_eq (h _) 448 dL_isRoute_436 (by decide) (fun c => absurd c (by decide)) (fun _ => ?_)
                refine tt_aload_n (h _) 3 dL_isRoute_439 rfl rfl ?_
                refine tt_bipush (h _) (nI 20) dL_isRoute_440 (by decide) ?_
                refine tt_callV (h _) (As := [.int (nI 20)]) 1 hx (c_X5_count hR.1.hP hR.1.hI hR.1.hs hR.1.hs4 hR.1.hln) gL_isRoute_X5_count rfl ⟨rfl, rfl⟩ (by decide +kernel) rfl (by decide) (by decide) E_144 rfl rfl (Nat.le_of_ble_eq_true rfl) dL_isRoute_442 (fun a442_3 M' P' hp => ?_)
                rw [hR.2.1] at hp
                obtain ⟨⟨rfl, rfl⟩, hQ⟩ := hp
                have hz' := cnt_at (j := 20) (by omega) (by omega) (by omega) hQ
                clear hQ
                subst hz'
                refine tt_top (nI vc) (hvc.1) ?_
                refine tt_goto (h _) 449 dL_isRoute_445 (by decide) ?_
                refine tt_iload (h _) 1 dL_isRoute_449 rfl ?_
                refine tt_if_eq (h _) 471 dL_isRoute_451 (by decide) (fun c => absurd c (by decide)) (fun _ => ?_)
                refine tt_aload_n (h _) 3 dL_isRoute_454 rfl rfl ?_
                refine tt_bipush (h _) (nI 21) dL_isRoute_455 (by decide) ?_
                refine tt_callV (h _) (As := [.int (nI 21)]) 1 hx (c_X5_count hR.1.hP hR.1.hI hR.1.hs hR.1.hs4 hR.1.hln) gL_isRoute_X5_count rfl ⟨rfl, rfl⟩ (by decide +kernel) rfl (by decide) (by decide) E_144 rfl rfl (Nat.le_of_ble_eq_true rfl) dL_isRoute_457 (fun a457 M' P' hp => ?_)
                rw [hR.2.1] at hp
                obtain ⟨⟨rfl, rfl⟩, hQ⟩ := hp
                have hz' := cnt_at (j := 21) (by omega) (by omega) (by omega) hQ
                clear hQ
                subst hz'
                refine tt_top (nI (prX X)) (hGd.pr.1) ?_
                refine tt_aload_n (h _) 3 dL_isRoute_460 rfl rfl ?_
                refine tt_iload (h _) 2 dL_isRoute_461 rfl ?_
                refine tt_iconst (h _) (nI 3) dL_isRoute_463 (by decide) ?_
                refine tt_callV (h _) (As := [.int (nI o), .int (nI 3)]) 2 hx (c_X5_netOf hR.1.hP hR.1.hI) gL_isRoute_X5_netOf rfl ⟨rfl, rfl⟩ (by decide +kernel) rfl (by decide) (by decide) E_144 rfl rfl (Nat.le_of_ble_eq_true rfl) dL_isRoute_464 (fun a464 M' P' hp => ?_)
                rw [hR.2.1] at hp
                obtain ⟨⟨rfl, rfl⟩, hQ⟩ := hp
                have hz' := net_at (k := o) (j := 3) hN6 ho1 (by omega) hQ
                clear hQ
                subst hz'
                refine tt_top (nI (stX X o)) ((hGd.net ho1).st.1) ?_
                refine tt_iadd_n (h _) dL_isRoute_467 ?_
                refine tt_goto (h _) 472 dL_isRoute_468 (by decide) ?_
                refine tt_iadd_n (h _) dL_isRoute_472 ?_
                refine tt_iadd_n (h _) dL_isRoute_473 ?_
                refine tt_istore (h _) [(6, .int (nI (S1 + (vc + ((prX X) + (stX X o)))))), (10, .int (nI 1)), (16, .int (nI 1)), (15, .int (nI o)), (0, .ref (g.1 144)), (1, .int (nI n)), (2, .int (nI b)), (3, .int (nI z)), (4, .ref a), (5, .int (nI pn)), (7, .int (nI G)), (8, .int (nI V)), (9, .int (nI (at1 + 1))), (11, .int (nI c)), (12, .int (nI t)), (13, .int (nI 1)), (14, .int (nI 0))] dL_isRoute_474 (by decide) rfl ?_
                refine tt_iload (h _) 10 dL_isRoute_476 rfl ?_
                refine tt_iload (h _) 2 dL_isRoute_478 rfl ?_
                refine tt_if_eq (h _) 500 dL_isRoute_480 (by decide) (fun c => absurd c (by decide)) (fun _ => ?_)
                refine tt_aload_n (h _) 4 dL_isRoute_483 rfl rfl ?_
                refine tt_bipush (h _) (nI 21) dL_isRoute_484 (by decide) ?_
                refine tt_callV (h _) (As := [.int (nI 21)]) 1 hx (c_X5_count hR.1.hP hR.1.hI hR.1.hs hR.1.hs4 hR.1.hln) gL_isRoute_X5_count rfl ⟨rfl, rfl⟩ (by decide +kernel) rfl (by decide) (by decide) E_144 rfl rfl (Nat.le_of_ble_eq_true rfl) dL_isRoute_486 (fun a486 M' P' hp => ?_)
                rw [hR.2.1] at hp
                obtain ⟨⟨rfl, rfl⟩, hQ⟩ := hp
                have hz' := cnt_at (j := 21) (by omega) (by omega) (by omega) hQ
                clear hQ
                subst hz'
                refine tt_top (nI (prX X)) (hGd.pr.1) ?_
                refine tt_aload_n (h _) 4 dL_isRoute_489 rfl rfl ?_
                refine tt_iload (h _) 3 dL_isRoute_490 rfl ?_
                refine tt_iconst (h _) (nI 3) dL_isRoute_492 (by decide) ?_
                refine tt_callV (h _) (As := [.int (nI o), .int (nI 3)]) 2 hx (c_X5_netOf hR.1.hP hR.1.hI) gL_isRoute_X5_netOf rfl ⟨rfl, rfl⟩ (by decide +kernel) rfl (by decide) (by decide) E_144 rfl rfl (Nat.le_of_ble_eq_true rfl) dL_isRoute_493 (fun a493 M' P' hp => ?_)
                rw [hR.2.1] at hp
                obtain ⟨⟨rfl, rfl⟩, hQ⟩ := hp
                have hz' := net_at (k := o) (j := 3) hN6 ho1 (by omega) hQ
                clear hQ
                subst hz'
                refine tt_top (nI (stX X o)) ((hGd.net ho1).st.1) ?_
                refine tt_iadd_n (h _) dL_isRoute_496 ?_
                refine tt_goto (h _) 501 dL_isRoute_497 (by decide) ?_
                refine tt_iadd_n (h _) dL_isRoute_501 ?_
                refine tt_istore (h _) [(7, .int (nI (G + ((prX X) + (stX X o))))), (6, .int (nI (S1 + (vc + ((prX X) + (stX X o)))))), (10, .int (nI 1)), (16, .int (nI 1)), (15, .int (nI o)), (0, .ref (g.1 144)), (1, .int (nI n)), (2, .int (nI b)), (3, .int (nI z)), (4, .ref a), (5, .int (nI pn)), (8, .int (nI V)), (9, .int (nI (at1 + 1))), (11, .int (nI c)), (12, .int (nI t)), (13, .int (nI 1)), (14, .int (nI 0))] dL_isRoute_502 (by decide) rfl ?_
                refine tt_iload (h _) 11 dL_isRoute_504 rfl ?_
                refine tt_iload (h _) 3 dL_isRoute_506 rfl ?_
                refine tt_if_eq (h _) 518 dL_isRoute_508 (by decide) (fun c => absurd c (by decide)) (fun _ => ?_)
                refine tt_iconst (h _) (nI 1) dL_isRoute_511 (by decide) ?_
                refine tt_iload (h _) 4 dL_isRoute_512 rfl ?_
                refine tt_ishl (h _) dL_isRoute_514 ?_
                refine tt_goto (h _) 519 dL_isRoute_515 (by decide) ?_
                refine tt_ior (h _) dL_isRoute_519 ?_
                refine tt_top (nI (V ||| 2 ^ o)) (nI_or (by rw [hV1]; exact vicE_lt hN6) (by omega)) ?_
                refine tt_istore (h _) [(8, .int (nI (V ||| 2 ^ o))), (7, .int (nI (G + ((prX X) + (stX X o))))), (6, .int (nI (S1 + (vc + ((prX X) + (stX X o)))))), (10, .int (nI 1)), (16, .int (nI 1)), (15, .int (nI o)), (0, .ref (g.1 144)), (1, .int (nI n)), (2, .int (nI b)), (3, .int (nI z)), (4, .ref a), (5, .int (nI pn)), (9, .int (nI (at1 + 1))), (11, .int (nI c)), (12, .int (nI t)), (13, .int (nI 1)), (14, .int (nI 0))] dL_isRoute_520 (by decide) rfl ?_
                refine tt_iload (h _) 14 dL_isRoute_522 rfl ?_
                refine tt_istore (h _) [(11, .int (nI t)), (8, .int (nI (V ||| 2 ^ o))), (7, .int (nI (G + ((prX X) + (stX X o))))), (6, .int (nI (S1 + (vc + ((prX X) + (stX X o)))))), (10, .int (nI 1)), (16, .int (nI 1)), (15, .int (nI o)), (0, .ref (g.1 144)), (1, .int (nI n)), (2, .int (nI b)), (3, .int (nI z)), (4, .ref a), (5, .int (nI pn)), (9, .int (nI (at1 + 1))), (12, .int (nI t)), (13, .int (nI 1)), (14, .int (nI 0))] dL_isRoute_524 (by decide) rfl ?_
                refine tt_goto (h _) 167 dL_isRoute_526 (by decide) ?_
                exact tt_lv (ih167 (pre ++ [c]) t r2 m2 (S1 + (vc + ((prX X) + (stX X o)))) (G + ((prX X) + (stX X o))) (V ||| 2 ^ o) (at1 + 1) M199_ (by simp only [List.length_cons] at hmu167; omega) (by rw [hl]; simp) (hP2) (by rw [hat]; simp; omega) (hI2) (by omega) (by first | (rw [Nat.add_zero, ← List.append_assoc pl pre [c], hG1]; exact (pri_same hsame).symm) | (rw [← List.append_assoc pl pre [c], hG1]; exact pri_hit hN6 ht ho1 hmem ho)) (by first | (rw [← List.append_assoc pl pre [c], hV1]; exact (vic_same hsame).symm) | (rw [← List.append_assoc pl pre [c], hV1]; exact vic_hit hN6 ho1 ho)) (hR)) [7, 8, 9, 10, 11, 12, 3, 2, 1, 13, 4, 0] rfl
          · skip
            rcases Bool.eq_false_or_eq_true (J t) with hJt | hJt
            · have hmt : m2 t = 1 := (hI2.2 t ht).1.mpr hJt
              have hw0 : w = 0 := by have := hJ0 t ht hJt (by rw [hw]; exact Option.some_ne_none _); rw [hw] at this; exact Option.some.inj this
              have hsame : t ∈ pl ++ pre ++ [c] ∨ ∀ k, k < N → X (7 + t) ≠ nI k := (hJw t ht hJt).imp (fun q => List.mem_append_left _ (List.mem_append_left _ q)) id
              refine tt_iload (h _) 13 dL_isRoute_315 rfl ?_
              refine tt_iload (h _) 14 dL_isRoute_317 rfl ?_
              refine tt_icmp_eq (h _) 337 dL_isRoute_319 (by decide) (fun c => absurd c (by decide)) (fun _ => ?_)
              refine tt_aload (h _) 4 dL_isRoute_322 rfl ?_
              refine tt_iload (h _) 12 dL_isRoute_324 rfl ?_
              refine tt_marked (h _) hz (c := t) (by omega) hI2.1 gL_isRoute_L_marked (by decide) (Nat.le_of_ble_eq_true rfl) dL_isRoute_326 ?_
              refine tt_top (nI 1) (congrArg nI hmt) ?_
              refine tt_iconst (h _) (nI 2) dL_isRoute_329 (by decide) ?_
              refine tt_icmp_eq (h _) 337 dL_isRoute_330 (by decide) (fun c => absurd c (by decide)) (fun _ => ?_)
              refine tt_iconst (h _) (nI 1) dL_isRoute_333 (by decide) ?_
              refine tt_goto (h _) 338 dL_isRoute_334 (by decide) ?_
              refine tt_istore (h _) [(10, .int (nI 1)), (0, .ref (g.1 144)), (1, .int (nI n)), (2, .int (nI b)), (3, .int (nI z)), (4, .ref a), (5, .int (nI pn)), (6, .int (nI S1)), (7, .int (nI G)), (8, .int (nI V)), (9, .int (nI (at1 + 1))), (11, .int (nI c)), (12, .int (nI t)), (13, .int (nI 0)), (14, .int (nI 1))] dL_isRoute_338 (by decide) rfl ?_
              refine tt_iload (h _) 0 dL_isRoute_340 rfl ?_
              refine tt_if_eq (h _) 526 dL_isRoute_342 (by decide) (fun c => absurd c (by decide)) (fun _ => ?_)
              refine tt_aload_n (h _) 1 dL_isRoute_345 rfl rfl ?_
              refine tt_iload (h _) 12 dL_isRoute_346 rfl ?_
              refine tt_callV (h _) (As := [.int (nI t)]) 1 hx (c_X5_cellOf hR.1.hP hR.1.hI) gL_isRoute_X5_cellOf rfl ⟨rfl, rfl⟩ (by decide +kernel) rfl (by decide) (by decide) E_144 rfl rfl (Nat.le_of_ble_eq_true rfl) dL_isRoute_348 (fun a348_4 M' P' hp => ?_)
              rw [hR.2.1] at hp
              obtain ⟨⟨rfl, rfl⟩, hQ⟩ := hp
              have hz' := cell_at ht hQ
              clear hQ
              subst hz'
              refine tt_istore (h _) [(15, .int (cellV X t)), (10, .int (nI 1)), (0, .ref (g.1 144)), (1, .int (nI n)), (2, .int (nI b)), (3, .int (nI z)), (4, .ref a), (5, .int (nI pn)), (6, .int (nI S1)), (7, .int (nI G)), (8, .int (nI V)), (9, .int (nI (at1 + 1))), (11, .int (nI c)), (12, .int (nI t)), (13, .int (nI 0)), (14, .int (nI 1))] dL_isRoute_351 (by decide) rfl ?_
              refine tt_aload (h _) 6 dL_isRoute_353 rfl ?_
              refine tt_iload (h _) 13 dL_isRoute_355 rfl ?_
              refine tt_marked (h _) hz (c := t) (by omega) hI2.1 gL_isRoute_L_marked (by decide) (Nat.le_of_ble_eq_true rfl) dL_isRoute_357 ?_
              refine tt_top (nI 1) (congrArg nI hmt) ?_
              refine tt_if_ne (h _) 379 dL_isRoute_360 (by decide) (fun _ => ?_) (fun c => absurd c (by decide))
              refine tt_iconst (h _) (nI 0) dL_isRoute_379 (by decide) ?_
              refine tt_istore (h _) [(16, .int (nI 0)), (15, .int (cellV X t)), (10, .int (nI 1)), (0, .ref (g.1 144)), (1, .int (nI n)), (2, .int (nI b)), (3, .int (nI z)), (4, .ref a), (5, .int (nI pn)), (6, .int (nI S1)), (7, .int (nI G)), (8, .int (nI V)), (9, .int (nI (at1 + 1))), (11, .int (nI c)), (12, .int (nI t)), (13, .int (nI 0)), (14, .int (nI 1))] dL_isRoute_380 (by decide) rfl ?_
              refine tt_aload (h _) 7 dL_isRoute_382 rfl ?_
              refine tt_iload (h _) 14 dL_isRoute_384 rfl ?_
              refine tt_marked (h _) hz (c := t) (by omega) hI2.1 gL_isRoute_L_marked (by decide) (Nat.le_of_ble_eq_true rfl) dL_isRoute_386 ?_
              refine tt_top (nI 1) (congrArg nI hmt) ?_
              refine tt_iconst (h _) (nI 1) dL_isRoute_389 (by decide) ?_
              refine tt_icmp_eq (h _) 425 dL_isRoute_390 (by decide) (fun _ => ?_) (fun c => absurd (by decide) c)
              refine tt_iconst (h _) (nI 1) dL_isRoute_425 (by decide) ?_
              refine tt_goto (h _) 430 dL_isRoute_426 (by decide) ?_
              refine tt_istore (h _) [(10, .int (nI 1)), (16, .int (nI 0)), (15, .int (cellV X t)), (0, .ref (g.1 144)), (1, .int (nI n)), (2, .int (nI b)), (3, .int (nI z)), (4, .ref a), (5, .int (nI pn)), (6, .int (nI S1)), (7, .int (nI G)), (8, .int (nI V)), (9, .int (nI (at1 + 1))), (11, .int (nI c)), (12, .int (nI t)), (13, .int (nI 0)), (14, .int (nI 1))] dL_isRoute_430 (by decide) rfl ?_
              refine tt_iload (h _) 9 dL_isRoute_432 rfl ?_
              refine tt_iload (h _) 15 dL_isRoute_434 rfl ?_
              refine tt_if_eq (h _) 448 dL_isRoute_436 (by decide) (fun _ => ?_) (fun c => absurd (by decide) c)
              refine tt_iconst (h _) (nI 1) dL_isRoute_448 (by decide) ?_
              refine tt_iload (h _) 1 dL_isRoute_449 rfl ?_
              refine tt_if_eq (h _) 471 dL_isRoute_451 (by decide) (fun _ => ?_) (fun c => absurd (by decide) c)
              refine tt_iconst (h _) (nI 0) dL_isRoute_471 (by decide) ?_
              refine tt_iadd_n (h _) dL_isRoute_472 ?_
              refine tt_iadd_n (h _) dL_isRoute_473 ?_
              refine tt_istore (h _) [(6, .int (nI (S1 + (1 + 0)))), (10, .int (nI 1)), (16, .int (nI 0)), (15, .int (cellV X t)), (0, .ref (g.1 144)), (1, .int (nI n)), (2, .int (nI b)), (3, .int (nI z)), (4, .ref a), (5, .int (nI pn)), (7, .int (nI G)), (8, .int (nI V)), (9, .int (nI (at1 + 1))), (11, .int (nI c)), (12, .int (nI t)), (13, .int (nI 0)), (14, .int (nI 1))] dL_isRoute_474 (by decide) rfl ?_
              refine tt_iload (h _) 10 dL_isRoute_476 rfl ?_
              refine tt_iload (h _) 2 dL_isRoute_478 rfl ?_
              refine tt_if_eq (h _) 500 dL_isRoute_480 (by decide) (fun _ => ?_) (fun c => absurd (by decide) c)
              refine tt_iconst (h _) (nI 0) dL_isRoute_500 (by decide) ?_
              refine tt_iadd_n (h _) dL_isRoute_501 ?_
              refine tt_istore (h _) [(7, .int (nI (G + 0))), (6, .int (nI (S1 + (1 + 0)))), (10, .int (nI 1)), (16, .int (nI 0)), (15, .int (cellV X t)), (0, .ref (g.1 144)), (1, .int (nI n)), (2, .int (nI b)), (3, .int (nI z)), (4, .ref a), (5, .int (nI pn)), (8, .int (nI V)), (9, .int (nI (at1 + 1))), (11, .int (nI c)), (12, .int (nI t)), (13, .int (nI 0)), (14, .int (nI 1))] dL_isRoute_502 (by decide) rfl ?_
              refine tt_iload (h _) 11 dL_isRoute_504 rfl ?_
              refine tt_iload (h _) 3 dL_isRoute_506 rfl ?_
              refine tt_if_eq (h _) 518 dL_isRoute_508 (by decide) (fun _ => ?_) (fun c => absurd (by decide) c)
              refine tt_iconst (h _) (nI 0) dL_isRoute_518 (by decide) ?_
              refine tt_ior (h _) dL_isRoute_519 ?_
              refine tt_top (nI V) (or_0 _) ?_
              refine tt_istore (h _) [(8, .int (nI V)), (7, .int (nI (G + 0))), (6, .int (nI (S1 + (1 + 0)))), (10, .int (nI 1)), (16, .int (nI 0)), (15, .int (cellV X t)), (0, .ref (g.1 144)), (1, .int (nI n)), (2, .int (nI b)), (3, .int (nI z)), (4, .ref a), (5, .int (nI pn)), (9, .int (nI (at1 + 1))), (11, .int (nI c)), (12, .int (nI t)), (13, .int (nI 0)), (14, .int (nI 1))] dL_isRoute_520 (by decide) rfl ?_
              refine tt_iload (h _) 14 dL_isRoute_522 rfl ?_
              refine tt_istore (h _) [(11, .int (nI t)), (8, .int (nI V)), (7, .int (nI (G + 0))), (6, .int (nI (S1 + (1 + 0)))), (10, .int (nI 1)), (16, .int (nI 0)), (15, .int (cellV X t)), (0, .ref (g.1 144)), (1, .int (nI n)), (2, .int (nI b)), (3, .int (nI z)), (4, .ref a), (5, .int (nI pn)), (9, .int (nI (at1 + 1))), (12, .int (nI t)), (13, .int (nI 0)), (14, .int (nI 1))] dL_isRoute_524 (by decide) rfl ?_
              refine tt_goto (h _) 167 dL_isRoute_526 (by decide) ?_
              exact tt_lv (ih167 (pre ++ [c]) t r2 m2 (S1 + (1 + 0)) (G + 0) V (at1 + 1) M199_ (by simp only [List.length_cons] at hmu167; omega) (by rw [hl]; simp) (hP2) (by rw [hat]; simp; omega) (hI2) (by omega) (by first | (rw [Nat.add_zero, ← List.append_assoc pl pre [c], hG1]; exact (pri_same hsame).symm) | (rw [← List.append_assoc pl pre [c], hG1]; exact pri_hit hN6 ht ho1 hmem ho)) (by first | (rw [← List.append_assoc pl pre [c], hV1]; exact (vic_same hsame).symm) | (rw [← List.append_assoc pl pre [c], hV1]; exact vic_hit hN6 ho1 ho)) (hR)) [7, 8, 9, 10, 11, 12, 3, 2, 1, 13, 4, 0] rfl
            · have hmt : m2 t = 0 := MkI_0 hI2 ht hJt hnt
              rcases hcell t w ht hJt hw with ⟨ho, hw0⟩ | ⟨ho, hw0⟩ | ⟨o, ho1, ho2, ho, hw0, hb1, htp⟩
              · skip
                have hsame : t ∈ pl ++ pre ++ [c] ∨ ∀ k, k < N → X (7 + t) ≠ nI k := Or.inr (fun k hk e => m1_ne (k := k) (by omega) (ho.symm.trans e))
                refine tt_iload (h _) 13 dL_isRoute_315 rfl ?_
                refine tt_iload (h _) 14 dL_isRoute_317 rfl ?_
                refine tt_icmp_eq (h _) 337 dL_isRoute_319 (by decide) (fun c => absurd c (by decide)) (fun _ => ?_)
                refine tt_aload (h _) 4 dL_isRoute_322 rfl ?_
                refine tt_iload (h _) 12 dL_isRoute_324 rfl ?_
                refine tt_marked (h _) hz (c := t) (by omega) hI2.1 gL_isRoute_L_marked (by decide) (Nat.le_of_ble_eq_true rfl) dL_isRoute_326 ?_
                refine tt_top (nI 0) (congrArg nI hmt) ?_
                refine tt_iconst (h _) (nI 2) dL_isRoute_329 (by decide) ?_
                refine tt_icmp_eq (h _) 337 dL_isRoute_330 (by decide) (fun c => absurd c (by decide)) (fun _ => ?_)
                refine tt_iconst (h _) (nI 1) dL_isRoute_333 (by decide) ?_
                refine tt_goto (h _) 338 dL_isRoute_334 (by decide) ?_
                refine tt_istore (h _) [(10, .int (nI 1)), (0, .ref (g.1 144)), (1, .int (nI n)), (2, .int (nI b)), (3, .int (nI z)), (4, .ref a), (5, .int (nI pn)), (6, .int (nI S1)), (7, .int (nI G)), (8, .int (nI V)), (9, .int (nI (at1 + 1))), (11, .int (nI c)), (12, .int (nI t)), (13, .int (nI 0)), (14, .int (nI 1))] dL_isRoute_338 (by decide) rfl ?_
                refine tt_iload (h _) 0 dL_isRoute_340 rfl ?_
                refine tt_if_eq (h _) 526 dL_isRoute_342 (by decide) (fun c => absurd c (by decide)) (fun _ => ?_)
                refine tt_aload_n (h _) 1 dL_isRoute_345 rfl rfl ?_
                refine tt_iload (h _) 12 dL_isRoute_346 rfl ?_
                refine tt_callV (h _) (As := [.int (nI t)]) 1 hx (c_X5_cellOf hR.1.hP hR.1.hI) gL_isRoute_X5_cellOf rfl ⟨rfl, rfl⟩ (by decide +kernel) rfl (by decide) (by decide) E_144 rfl rfl (Nat.le_of_ble_eq_true rfl) dL_isRoute_348 (fun a348_5 M' P' hp => ?_)
                rw [hR.2.1] at hp
                obtain ⟨⟨rfl, rfl⟩, hQ⟩ := hp
                have hz' := cell_at ht hQ
                clear hQ
                subst hz'
                refine tt_top (-1000004) (if_pos ho) ?_
                refine tt_istore (h _) [(15, .int (-1000004)), (10, .int (nI 1)), (0, .ref (g.1 144)), (1, .int (nI n)), (2, .int (nI b)), (3, .int (nI z)), (4, .ref a), (5, .int (nI pn)), (6, .int (nI S1)), (7, .int (nI G)), (8, .int (nI V)), (9, .int (nI (at1 + 1))), (11, .int (nI c)), (12, .int (nI t)), (13, .int (nI 0)), (14, .int (nI 1))] dL_isRoute_351 (by decide) rfl ?_
                refine tt_aload (h _) 6 dL_isRoute_353 rfl ?_
                refine tt_iload (h _) 13 dL_isRoute_355 rfl ?_
                refine tt_marked (h _) hz (c := t) (by omega) hI2.1 gL_isRoute_L_marked (by decide) (Nat.le_of_ble_eq_true rfl) dL_isRoute_357 ?_
                refine tt_top (nI 0) (congrArg nI hmt) ?_
                refine tt_if_ne (h _) 379 dL_isRoute_360 (by decide) (fun c => absurd c (by decide)) (fun _ => ?_)
                refine tt_iload (h _) 0 dL_isRoute_363 rfl ?_
                refine tt_if_lt (h _) 379 dL_isRoute_365 (by decide) (fun _ => ?_) (fun c => absurd (by decide) c)
                refine tt_iconst (h _) (nI 0) dL_isRoute_379 (by decide) ?_
                refine tt_istore (h _) [(16, .int (nI 0)), (15, .int (-1000004)), (10, .int (nI 1)), (0, .ref (g.1 144)), (1, .int (nI n)), (2, .int (nI b)), (3, .int (nI z)), (4, .ref a), (5, .int (nI pn)), (6, .int (nI S1)), (7, .int (nI G)), (8, .int (nI V)), (9, .int (nI (at1 + 1))), (11, .int (nI c)), (12, .int (nI t)), (13, .int (nI 0)), (14, .int (nI 1))] dL_isRoute_380 (by decide) rfl ?_
                refine tt_aload (h _) 7 dL_isRoute_382 rfl ?_
                refine tt_iload (h _) 14 dL_isRoute_384 rfl ?_
                refine tt_marked (h _) hz (c := t) (by omega) hI2.1 gL_isRoute_L_marked (by decide) (Nat.le_of_ble_eq_true rfl) dL_isRoute_386 ?_
                refine tt_top (nI 0) (congrArg nI hmt) ?_
                refine tt_iconst (h _) (nI 1) dL_isRoute_389 (by decide) ?_
                refine tt_icmp_eq (h _) 425 dL_isRoute_390 (by decide) (fun c => absurd c (by decide)) (fun _ => ?_)
                refine tt_iload (h _) 1 dL_isRoute_393 rfl ?_
                refine tt_ldc (h _) ((-1000004)) (by decide +kernel) dL_isRoute_395 ?_
                refine tt_icmp_eq (h _) 425 dL_isRoute_397 (by decide) (fun _ => ?_) (fun c => absurd (by decide) c)
                refine tt_iconst (h _) (nI 1) dL_isRoute_425 (by decide) ?_
                refine tt_goto (h _) 430 dL_isRoute_426 (by decide) ?_
                refine tt_istore (h _) [(10, .int (nI 1)), (16, .int (nI 0)), (15, .int (-1000004)), (0, .ref (g.1 144)), (1, .int (nI n)), (2, .int (nI b)), (3, .int (nI z)), (4, .ref a), (5, .int (nI pn)), (6, .int (nI S1)), (7, .int (nI G)), (8, .int (nI V)), (9, .int (nI (at1 + 1))), (11, .int (nI c)), (12, .int (nI t)), (13, .int (nI 0)), (14, .int (nI 1))] dL_isRoute_430 (by decide) rfl ?_
                refine tt_iload (h _) 9 dL_isRoute_432 rfl ?_
                refine tt_iload (h _) 15 dL_isRoute_434 rfl ?_
                refine tt_if_eq (h _) 448 dL_isRoute_436 (by decide) (fun _ => ?_) (fun c => absurd (by decide) c)
                refine tt_iconst (h _) (nI 1) dL_isRoute_448 (by decide) ?_
                refine tt_iload (h _) 1 dL_isRoute_449 rfl ?_
                refine tt_if_eq (h _) 471 dL_isRoute_451 (by decide) (fun _ => ?_) (fun c => absurd (by decide) c)
                refine tt_iconst (h _) (nI 0) dL_isRoute_471 (by decide) ?_
                refine tt_iadd_n (h _) dL_isRoute_472 ?_
                refine tt_iadd_n (h _) dL_isRoute_473 ?_
                refine tt_istore (h _) [(6, .int (nI (S1 + (1 + 0)))), (10, .int (nI 1)), (16, .int (nI 0)), (15, .int (-1000004)), (0, .ref (g.1 144)), (1, .int (nI n)), (2, .int (nI b)), (3, .int (nI z)), (4, .ref a), (5, .int (nI pn)), (7, .int (nI G)), (8, .int (nI V)), (9, .int (nI (at1 + 1))), (11, .int (nI c)), (12, .int (nI t)), (13, .int (nI 0)), (14, .int (nI 1))] dL_isRoute_474 (by decide) rfl ?_
                refine tt_iload (h _) 10 dL_isRoute_476 rfl ?_
                refine tt_iload (h _) 2 dL_isRoute_478 rfl ?_
                refine tt_if_eq (h _) 500 dL_isRoute_480 (by decide) (fun _ => ?_) (fun c => absurd (by decide) c)
                refine tt_iconst (h _) (nI 0) dL_isRoute_500 (by decide) ?_
                refine tt_iadd_n (h _) dL_isRoute_501 ?_
                refine tt_istore (h _) [(7, .int (nI (G + 0))), (6, .int (nI (S1 + (1 + 0)))), (10, .int (nI 1)), (16, .int (nI 0)), (15, .int (-1000004)), (0, .ref (g.1 144)), (1, .int (nI n)), (2, .int (nI b)), (3, .int (nI z)), (4, .ref a), (5, .int (nI pn)), (8, .int (nI V)), (9, .int (nI (at1 + 1))), (11, .int (nI c)), (12, .int (nI t)), (13, .int (nI 0)), (14, .int (nI 1))] dL_isRoute_502 (by decide) rfl ?_
                refine tt_iload (h _) 11 dL_isRoute_504 rfl ?_
                refine tt_iload (h _) 3 dL_isRoute_506 rfl ?_
                refine tt_if_eq (h _) 518 dL_isRoute_508 (by decide) (fun _ => ?_) (fun c => absurd (by decide) c)
                refine tt_iconst (h _) (nI 0) dL_isRoute_518 (by decide) ?_
                refine tt_ior (h _) dL_isRoute_519 ?_
                refine tt_top (nI V) (or_0 _) ?_
                refine tt_istore (h _) [(8, .int (nI V)), (7, .int (nI (G + 0))), (6, .int (nI (S1 + (1 + 0)))), (10, .int (nI 1)), (16, .int (nI 0)), (15, .int (-1000004)), (0, .ref (g.1 144)), (1, .int (nI n)), (2, .int (nI b)), (3, .int (nI z)), (4, .ref a), (5, .int (nI pn)), (9, .int (nI (at1 + 1))), (11, .int (nI c)), (12, .int (nI t)), (13, .int (nI 0)), (14, .int (nI 1))] dL_isRoute_520 (by decide) rfl ?_
                refine tt_iload (h _) 14 dL_isRoute_522 rfl ?_
                refine tt_istore (h _) [(11, .int (nI t)), (8, .int (nI V)), (7, .int (nI (G + 0))), (6, .int (nI (S1 + (1 + 0)))), (10, .int (nI 1)), (16, .int (nI 0)), (15, .int (-1000004)), (0, .ref (g.1 144)), (1, .int (nI n)), (2, .int (nI b)), (3, .int (nI z)), (4, .ref a), (5, .int (nI pn)), (9, .int (nI (at1 + 1))), (12, .int (nI t)), (13, .int (nI 0)), (14, .int (nI 1))] dL_isRoute_524 (by decide) rfl ?_
                refine tt_goto (h _) 167 dL_isRoute_526 (by decide) ?_
                exact tt_lv (ih167 (pre ++ [c]) t r2 m2 (S1 + (1 + 0)) (G + 0) V (at1 + 1) M199_ (by simp only [List.length_cons] at hmu167; omega) (by rw [hl]; simp) (hP2) (by rw [hat]; simp; omega) (hI2) (by omega) (by first | (rw [Nat.add_zero, ← List.append_assoc pl pre [c], hG1]; exact (pri_same hsame).symm) | (rw [← List.append_assoc pl pre [c], hG1]; exact pri_hit hN6 ht ho1 hmem ho)) (by first | (rw [← List.append_assoc pl pre [c], hV1]; exact (vic_same hsame).symm) | (rw [← List.append_assoc pl pre [c], hV1]; exact vic_hit hN6 ho1 ho)) (hR)) [7, 8, 9, 10, 11, 12, 3, 2, 1, 13, 4, 0] rfl
              · skip
                have hsame : t ∈ pl ++ pre ++ [c] ∨ ∀ k, k < N → X (7 + t) ≠ nI k := Or.inr (fun k hk => pin_no hGd ho (by omega) hk)
                refine tt_iload (h _) 13 dL_isRoute_315 rfl ?_
                refine tt_iload (h _) 14 dL_isRoute_317 rfl ?_
                refine tt_icmp_eq (h _) 337 dL_isRoute_319 (by decide) (fun c => absurd c (by decide)) (fun _ => ?_)
                refine tt_aload (h _) 4 dL_isRoute_322 rfl ?_
                refine tt_iload (h _) 12 dL_isRoute_324 rfl ?_
                refine tt_marked (h _) hz (c := t) (by omega) hI2.1 gL_isRoute_L_marked (by decide) (Nat.le_of_ble_eq_true rfl) dL_isRoute_326 ?_
                refine tt_top (nI 0) (congrArg nI hmt) ?_
                refine tt_iconst (h _) (nI 2) dL_isRoute_329 (by decide) ?_
                refine tt_icmp_eq (h _) 337 dL_isRoute_330 (by decide) (fun c => absurd c (by decide)) (fun _ => ?_)
                refine tt_iconst (h _) (nI 1) dL_isRoute_333 (by decide) ?_
                refine tt_goto (h _) 338 dL_isRoute_334 (by decide) ?_
                refine tt_istore (h _) [(10, .int (nI 1)), (0, .ref (g.1 144)), (1, .int (nI n)), (2, .int (nI b)), (3, .int (nI z)), (4, .ref a), (5, .int (nI pn)), (6, .int (nI S1)), (7, .int (nI G)), (8, .int (nI V)), (9, .int (nI (at1 + 1))), (11, .int (nI c)), (12, .int (nI t)), (13, .int (nI 0)), (14, .int (nI 1))] dL_isRoute_338 (by decide) rfl ?_
                refine tt_iload (h _) 0 dL_isRoute_340 rfl ?_
                refine tt_if_eq (h _) 526 dL_isRoute_342 (by decide) (fun c => absurd c (by decide)) (fun _ => ?_)
                refine tt_aload_n (h _) 1 dL_isRoute_345 rfl rfl ?_
                refine tt_iload (h _) 12 dL_isRoute_346 rfl ?_
                refine tt_callV (h _) (As := [.int (nI t)]) 1 hx (c_X5_cellOf hR.1.hP hR.1.hI) gL_isRoute_X5_cellOf rfl ⟨rfl, rfl⟩ (by decide +kernel) rfl (by decide) (by decide) E_144 rfl rfl (Nat.le_of_ble_eq_true rfl) dL_isRoute_348 (fun a348_6 M' P' hp => ?_)
                rw [hR.2.1] at hp
                obtain ⟨⟨rfl, rfl⟩, hQ⟩ := hp
                have hz' := cell_at ht hQ
                clear hQ
                subst hz'
                refine tt_top (nI (10 + n)) ((cellV_k (by omega)).mpr ho) ?_
                refine tt_istore (h _) [(15, .int (nI (10 + n))), (10, .int (nI 1)), (0, .ref (g.1 144)), (1, .int (nI n)), (2, .int (nI b)), (3, .int (nI z)), (4, .ref a), (5, .int (nI pn)), (6, .int (nI S1)), (7, .int (nI G)), (8, .int (nI V)), (9, .int (nI (at1 + 1))), (11, .int (nI c)), (12, .int (nI t)), (13, .int (nI 0)), (14, .int (nI 1))] dL_isRoute_351 (by decide) rfl ?_
                refine tt_aload (h _) 6 dL_isRoute_353 rfl ?_
                refine tt_iload (h _) 13 dL_isRoute_355 rfl ?_
                refine tt_marked (h _) hz (c := t) (by omega) hI2.1 gL_isRoute_L_marked (by decide) (Nat.le_of_ble_eq_true rfl) dL_isRoute_357 ?_
                refine tt_top (nI 0) (congrArg nI hmt) ?_
                refine tt_if_ne (h _) 379 dL_isRoute_360 (by decide) (fun c => absurd c (by decide)) (fun _ => ?_)
                refine tt_iload (h _) 0 dL_isRoute_363 rfl ?_
                refine tt_if_lt_n (h _) 379 dL_isRoute_365 (by decide) (by omega) ?_
                refine tt_iload (h _) 0 dL_isRoute_368 rfl ?_
                refine tt_bipush (h _) (nI 6) dL_isRoute_370 (by decide) ?_
                refine tt_icmp_ge_n (h _) 379 dL_isRoute_372 (by decide) (by omega) (by decide) (fun c_372 => ?_) (fun c_372 => by exfalso; omega)
                refine tt_iconst (h _) (nI 0) dL_isRoute_379 (by decide) ?_
                refine tt_istore (h _) [(16, .int (nI 0)), (15, .int (nI (10 + n))), (10, .int (nI 1)), (0, .ref (g.1 144)), (1, .int (nI n)), (2, .int (nI b)), (3, .int (nI z)), (4, .ref a), (5, .int (nI pn)), (6, .int (nI S1)), (7, .int (nI G)), (8, .int (nI V)), (9, .int (nI (at1 + 1))), (11, .int (nI c)), (12, .int (nI t)), (13, .int (nI 0)), (14, .int (nI 1))] dL_isRoute_380 (by decide) rfl ?_
                refine tt_aload (h _) 7 dL_isRoute_382 rfl ?_
                refine tt_iload (h _) 14 dL_isRoute_384 rfl ?_
                refine tt_marked (h _) hz (c := t) (by omega) hI2.1 gL_isRoute_L_marked (by decide) (Nat.le_of_ble_eq_true rfl) dL_isRoute_386 ?_
                refine tt_top (nI 0) (congrArg nI hmt) ?_
                refine tt_iconst (h _) (nI 1) dL_isRoute_389 (by decide) ?_
                refine tt_icmp_eq (h _) 425 dL_isRoute_390 (by decide) (fun c => absurd c (by decide)) (fun _ => ?_)
                refine tt_iload (h _) 1 dL_isRoute_393 rfl ?_
                refine tt_ldc (h _) ((-1000004)) (by decide +kernel) dL_isRoute_395 ?_
                refine tt_icmp_eq (h _) 425 dL_isRoute_397 (by decide) (fun c_397 => by exfalso; exact absurd (by rw [c_397]; decide) (nI_pos (n := 10 + n) (by omega))) (fun c_397 => ?_)
                refine tt_iload (h _) 1 dL_isRoute_400 rfl ?_
                refine tt_bipush (h _) (nI 10) dL_isRoute_402 (by decide) ?_
                refine tt_iload_n (h _) 4 dL_isRoute_404 rfl rfl ?_
                refine tt_iadd_n (h _) dL_isRoute_405 ?_
                refine tt_icmp_eq_n (h _) 425 dL_isRoute_406 (by decide) (by omega) (by omega) (fun c_406 => ?_) (fun c_406 => by exfalso; exact c_406 rfl)
                refine tt_iconst (h _) (nI 1) dL_isRoute_425 (by decide) ?_
                refine tt_goto (h _) 430 dL_isRoute_426 (by decide) ?_
                refine tt_istore (h _) [(10, .int (nI 1)), (16, .int (nI 0)), (15, .int (nI (10 + n))), (0, .ref (g.1 144)), (1, .int (nI n)), (2, .int (nI b)), (3, .int (nI z)), (4, .ref a), (5, .int (nI pn)), (6, .int (nI S1)), (7, .int (nI G)), (8, .int (nI V)), (9, .int (nI (at1 + 1))), (11, .int (nI c)), (12, .int (nI t)), (13, .int (nI 0)), (14, .int (nI 1))] dL_isRoute_430 (by decide) rfl ?_
                refine tt_iload (h _) 9 dL_isRoute_432 rfl ?_
                refine tt_iload (h _) 15 dL_isRoute_434 rfl ?_
                refine tt_if_eq (h _) 448 dL_isRoute_436 (by decide) (fun _ => ?_) (fun c => absurd (by decide) c)
                refine tt_iconst (h _) (nI 1) dL_isRoute_448 (by decide) ?_
                refine tt_iload (h _) 1 dL_isRoute_449 rfl ?_
                refine tt_if_eq (h _) 471 dL_isRoute_451 (by decide) (fun _ => ?_) (fun c => absurd (by decide) c)
                refine tt_iconst (h _) (nI 0) dL_isRoute_471 (by decide) ?_
                refine tt_iadd_n (h _) dL_isRoute_472 ?_
                refine tt_iadd_n (h _) dL_isRoute_473 ?_
                refine tt_istore (h _) [(6, .int (nI (S1 + (1 + 0)))), (10, .int (nI 1)), (16, .int (nI 0)), (15, .int (nI (10 + n))), (0, .ref (g.1 144)), (1, .int (nI n)), (2, .int (nI b)), (3, .int (nI z)), (4, .ref a), (5, .int (nI pn)), (7, .int (nI G)), (8, .int (nI V)), (9, .int (nI (at1 + 1))), (11, .int (nI c)), (12, .int (nI t)), (13, .int (nI 0)), (14, .int (nI 1))] dL_isRoute_474 (by decide) rfl ?_
                refine tt_iload (h _) 10 dL_isRoute_476 rfl ?_
                refine tt_iload (h _) 2 dL_isRoute_478 rfl ?_
                refine tt_if_eq (h _) 500 dL_isRoute_480 (by decide) (fun _ => ?_) (fun c => absurd (by decide) c)
                refine tt_iconst (h _) (nI 0) dL_isRoute_500 (by decide) ?_
                refine tt_iadd_n (h _) dL_isRoute_501 ?_
                refine tt_istore (h _) [(7, .int (nI (G + 0))), (6, .int (nI (S1 + (1 + 0)))), (10, .int (nI 1)), (16, .int (nI 0)), (15, .int (nI (10 + n))), (0, .ref (g.1 144)), (1, .int (nI n)), (2, .int (nI b)), (3, .int (nI z)), (4, .ref a), (5, .int (nI pn)), (8, .int (nI V)), (9, .int (nI (at1 + 1))), (11, .int (nI c)), (12, .int (nI t)), (13, .int (nI 0)), (14, .int (nI 1))] dL_isRoute_502 (by decide) rfl ?_
                refine tt_iload (h _) 11 dL_isRoute_504 rfl ?_
                refine tt_iload (h _) 3 dL_isRoute_506 rfl ?_
                refine tt_if_eq (h _) 518 dL_isRoute_508 (by decide) (fun _ => ?_) (fun c => absurd (by decide) c)
                refine tt_iconst (h _) (nI 0) dL_isRoute_518 (by decide) ?_
                refine tt_ior (h _) dL_isRoute_519 ?_
                refine tt_top (nI V) (or_0 _) ?_
                refine tt_istore (h _) [(8, .int (nI V)), (7, .int (nI (G + 0))), (6, .int (nI (S1 + (1 + 0)))), (10, .int (nI 1)), (16, .int (nI 0)), (15, .int (nI (10 + n))), (0, .ref (g.1 144)), (1, .int (nI n)), (2, .int (nI b)), (3, .int (nI z)), (4, .ref a), (5, .int (nI pn)), (9, .int (nI (at1 + 1))), (11, .int (nI c)), (12, .int (nI t)), (13, .int (nI 0)), (14, .int (nI 1))] dL_isRoute_520 (by decide) rfl ?_
                refine tt_iload (h _) 14 dL_isRoute_522 rfl ?_
                refine tt_istore (h _) [(11, .int (nI t)), (8, .int (nI V)), (7, .int (nI (G + 0))), (6, .int (nI (S1 + (1 + 0)))), (10, .int (nI 1)), (16, .int (nI 0)), (15, .int (nI (10 + n))), (0, .ref (g.1 144)), (1, .int (nI n)), (2, .int (nI b)), (3, .int (nI z)), (4, .ref a), (5, .int (nI pn)), (9, .int (nI (at1 + 1))), (12, .int (nI t)), (13, .int (nI 0)), (14, .int (nI 1))] dL_isRoute_524 (by decide) rfl ?_
                refine tt_goto (h _) 167 dL_isRoute_526 (by decide) ?_
                exact tt_lv (ih167 (pre ++ [c]) t r2 m2 (S1 + (1 + 0)) (G + 0) V (at1 + 1) M199_ (by simp only [List.length_cons] at hmu167; omega) (by rw [hl]; simp) (hP2) (by rw [hat]; simp; omega) (hI2) (by omega) (by first | (rw [Nat.add_zero, ← List.append_assoc pl pre [c], hG1]; exact (pri_same hsame).symm) | (rw [← List.append_assoc pl pre [c], hG1]; exact pri_hit hN6 ht ho1 hmem ho)) (by first | (rw [← List.append_assoc pl pre [c], hV1]; exact (vic_same hsame).symm) | (rw [← List.append_assoc pl pre [c], hV1]; exact vic_hit hN6 ho1 ho)) (hR)) [7, 8, 9, 10, 11, 12, 3, 2, 1, 13, 4, 0] rfl
              · skip
                have hmem : t ∉ pl ++ pre ++ [c] := fun q => by rw [List.append_assoc] at q; exact (List.mem_append.mp q).elim htp hnt
                have hst9 := (hGd.net ho1).st.2
                have hpr50 := hGd.pr.2
                refine tt_iload (h _) 13 dL_isRoute_315 rfl ?_
                refine tt_iload (h _) 14 dL_isRoute_317 rfl ?_
                refine tt_icmp_eq (h _) 337 dL_isRoute_319 (by decide) (fun c => absurd c (by decide)) (fun _ => ?_)
                refine tt_aload (h _) 4 dL_isRoute_322 rfl ?_
                refine tt_iload (h _) 12 dL_isRoute_324 rfl ?_
                refine tt_marked (h _) hz (c := t) (by omega) hI2.1 gL_isRoute_L_marked (by decide) (Nat.le_of_ble_eq_true rfl) dL_isRoute_326 ?_
                refine tt_top (nI 0) (congrArg nI hmt) ?_
                refine tt_iconst (h _) (nI 2) dL_isRoute_329 (by decide) ?_
                refine tt_icmp_eq (h _) 337 dL_isRoute_330 (by decide) (fun c => absurd c (by decide)) (fun _ => ?_)
                refine tt_iconst (h _) (nI 1) dL_isRoute_333 (by decide) ?_
                refine tt_goto (h _) 338 dL_isRoute_334 (by decide) ?_
                refine tt_istore (h _) [(10, .int (nI 1)), (0, .ref (g.1 144)), (1, .int (nI n)), (2, .int (nI b)), (3, .int (nI z)), (4, .ref a), (5, .int (nI pn)), (6, .int (nI S1)), (7, .int (nI G)), (8, .int (nI V)), (9, .int (nI (at1 + 1))), (11, .int (nI c)), (12, .int (nI t)), (13, .int (nI 0)), (14, .int (nI 1))] dL_isRoute_338 (by decide) rfl ?_
                refine tt_iload (h _) 0 dL_isRoute_340 rfl ?_
                refine tt_if_eq (h _) 526 dL_isRoute_342 (by decide) (fun c => absurd c (by decide)) (fun _ => ?_)
                refine tt_aload_n (h _) 1 dL_isRoute_345 rfl rfl ?_
                refine tt_iload (h _) 12 dL_isRoute_346 rfl ?_
                refine tt_callV (h _) (As := [.int (nI t)]) 1 hx (c_X5_cellOf hR.1.hP hR.1.hI) gL_isRoute_X5_cellOf rfl ⟨rfl, rfl⟩ (by decide +kernel) rfl (by decide) (by decide) E_144 rfl rfl (Nat.le_of_ble_eq_true rfl) dL_isRoute_348 (fun a348_7 M' P' hp => ?_)
                rw [hR.2.1] at hp
                obtain ⟨⟨rfl, rfl⟩, hQ⟩ := hp
                have hz' := cell_at ht hQ
                clear hQ
                subst hz'
                refine tt_top (nI o) ((cellV_k (by omega)).mpr ho) ?_
                refine tt_istore (h _) [(15, .int (nI o)), (10, .int (nI 1)), (0, .ref (g.1 144)), (1, .int (nI n)), (2, .int (nI b)), (3, .int (nI z)), (4, .ref a), (5, .int (nI pn)), (6, .int (nI S1)), (7, .int (nI G)), (8, .int (nI V)), (9, .int (nI (at1 + 1))), (11, .int (nI c)), (12, .int (nI t)), (13, .int (nI 0)), (14, .int (nI 1))] dL_isRoute_351 (by decide) rfl ?_
                refine tt_aload (h _) 6 dL_isRoute_353 rfl ?_
                refine tt_iload (h _) 13 dL_isRoute_355 rfl ?_
                refine tt_marked (h _) hz (c := t) (by omega) hI2.1 gL_isRoute_L_marked (by decide) (Nat.le_of_ble_eq_true rfl) dL_isRoute_357 ?_
                refine tt_top (nI 0) (congrArg nI hmt) ?_
                refine tt_if_ne (h _) 379 dL_isRoute_360 (by decide) (fun c => absurd c (by decide)) (fun _ => ?_)
                refine tt_iload (h _) 0 dL_isRoute_363 rfl ?_
                refine tt_if_lt_n (h _) 379 dL_isRoute_365 (by decide) (by omega) ?_
                refine tt_iload (h _) 0 dL_isRoute_368 rfl ?_
                refine tt_bipush (h _) (nI 6) dL_isRoute_370 (by decide) ?_
                refine tt_icmp_ge_n (h _) 379 dL_isRoute_372 (by decide) (by omega) (by decide) (fun c_372 => by exfalso; omega) (fun c_372 => ?_)
                refine tt_iconst (h _) (nI 1) dL_isRoute_375 (by decide) ?_
                refine tt_goto (h _) 380 dL_isRoute_376 (by decide) ?_
                refine tt_istore (h _) [(16, .int (nI 1)), (15, .int (nI o)), (10, .int (nI 1)), (0, .ref (g.1 144)), (1, .int (nI n)), (2, .int (nI b)), (3, .int (nI z)), (4, .ref a), (5, .int (nI pn)), (6, .int (nI S1)), (7, .int (nI G)), (8, .int (nI V)), (9, .int (nI (at1 + 1))), (11, .int (nI c)), (12, .int (nI t)), (13, .int (nI 0)), (14, .int (nI 1))] dL_isRoute_380 (by decide) rfl ?_
                refine tt_aload (h _) 7 dL_isRoute_382 rfl ?_
                refine tt_iload (h _) 14 dL_isRoute_384 rfl ?_
                refine tt_marked (h _) hz (c := t) (by omega) hI2.1 gL_isRoute_L_marked (by decide) (Nat.le_of_ble_eq_true rfl) dL_isRoute_386 ?_
                refine tt_top (nI 0) (congrArg nI hmt) ?_
                refine tt_iconst (h _) (nI 1) dL_isRoute_389 (by decide) ?_
                refine tt_icmp_eq (h _) 425 dL_isRoute_390 (by decide) (fun c => absurd c (by decide)) (fun _ => ?_)
                refine tt_iload (h _) 1 dL_isRoute_393 rfl ?_
                refine tt_ldc (h _) ((-1000004)) (by decide +kernel) dL_isRoute_395 ?_
                refine tt_icmp_eq (h _) 425 dL_isRoute_397 (by decide) (fun c_397 => by exfalso; exact absurd (by rw [c_397]; decide) (nI_pos (n := o) (by omega))) (fun c_397 => ?_)
                refine tt_iload (h _) 1 dL_isRoute_400 rfl ?_
                refine tt_bipush (h _) (nI 10) dL_isRoute_402 (by decide) ?_
                refine tt_iload_n (h _) 4 dL_isRoute_404 rfl rfl ?_
                refine tt_iadd_n (h _) dL_isRoute_405 ?_
                refine tt_icmp_eq_n (h _) 425 dL_isRoute_406 (by decide) (by omega) (by omega) (fun c_406 => by exfalso; omega) (fun c_406 => ?_)
                refine tt_iload_n (h _) 5 dL_isRoute_409 rfl rfl ?_
                refine tt_iconst (h _) (nI 1) dL_isRoute_410 (by decide) ?_
                refine tt_icmp_ne_n (h _) 429 dL_isRoute_411 (by decide) (by omega) (by decide) (fun c_411 => by exfalso; exact c_411 (of_decide_eq_true hb1)) (fun c_411 => ?_)
                refine tt_iload (h _) 0 dL_isRoute_414 rfl ?_
                refine tt_if_eq (h _) 429 dL_isRoute_416 (by decide) (fun c => absurd c (by decide)) (fun _ => ?_)
                refine tt_iload (h _) 1 dL_isRoute_419 rfl ?_
                refine tt_iload_n (h _) 4 dL_isRoute_421 rfl rfl ?_
                refine tt_icmp_eq_n (h _) 429 dL_isRoute_422 (by decide) (by omega) (by omega) (fun c_422 => by exfalso; exact ho2 c_422) (fun c_422 => ?_)
                refine tt_iconst (h _) (nI 1) dL_isRoute_425 (by decide) ?_
                refine tt_goto (h _) 430 dL_isRoute_426 (by decide) ?_
                refine tt_istore (h _) [(10, .int (nI 1)), (16, .int (nI 1)), (15, .int (nI o)), (0, .ref (g.1 144)), (1, .int (nI n)), (2, .int (nI b)), (3, .int (nI z)), (4, .ref a), (5, .int (nI pn)), (6, .int (nI S1)), (7, .int (nI G)), (8, .int (nI V)), (9, .int (nI (at1 + 1))), (11, .int (nI c)), (12, .int (nI t)), (13, .int (nI 0)), (14, .int (nI 1))] dL_isRoute_430 (by decide) rfl ?_
                refine tt_iload (h _) 9 dL_isRoute_432 rfl ?_
                refine tt_iload (h _) 15 dL_isRoute_434 rfl ?_
                refine tt_if_eq (h _) 448 dL_isRoute_436 (by decide) (fun _ => ?_) (fun c => absurd (by decide) c)
                refine tt_iconst (h _) (nI 1) dL_isRoute_448 (by decide) ?_
                refine tt_iload (h _) 1 dL_isRoute_449 rfl ?_
                refine tt_if_eq (h _) 471 dL_isRoute_451 (by decide) (fun c => absurd c (by decide)) (fun _ => ?_)
                refine tt_aload_n (h _) 3 dL_isRoute_454 rfl rfl ?_
                refine tt_bipush (h _) (nI 21) dL_isRoute_455 (by decide) ?_
                refine tt_callV (h _) (As := [.int (nI 21)]) 1 hx (c_X5_count hR.1.hP hR.1.hI hR.1.hs hR.1.hs4 hR.1.hln) gL_isRoute_X5_count rfl ⟨rfl, rfl⟩ (by decide +kernel) rfl (by decide) (by decide) E_144 rfl rfl (Nat.le_of_ble_eq_true rfl) dL_isRoute_457 (fun a457_1 M' P' hp => ?_)
                rw [hR.2.1] at hp
                obtain ⟨⟨rfl, rfl⟩, hQ⟩ := hp
                have hz' := cnt_at (j := 21) (by omega) (by omega) (by omega) hQ
                clear hQ
                subst hz'
                refine tt_top (nI (prX X)) (hGd.pr.1) ?_
                refine tt_aload_n (h _) 3 dL_isRoute_460 rfl rfl ?_
                refine tt_iload (h _) 2 dL_isRoute_461 rfl ?_
                refine tt_iconst (h _) (nI 3) dL_isRoute_463 (by decide) ?_
                refine tt_callV (h _) (As := [.int (nI o), .int (nI 3)]) 2 hx (c_X5_netOf hR.1.hP hR.1.hI) gL_isRoute_X5_netOf rfl ⟨rfl, rfl⟩ (by decide +kernel) rfl (by decide) (by decide) E_144 rfl rfl (Nat.le_of_ble_eq_true rfl) dL_isRoute_464 (fun a464_1 M' P' hp => ?_)
                rw [hR.2.1] at hp
                obtain ⟨⟨rfl, rfl⟩, hQ⟩ := hp
                have hz' := net_at (k := o) (j := 3) hN6 ho1 (by omega) hQ
                clear hQ
                subst hz'
                refine tt_top (nI (stX X o)) ((hGd.net ho1).st.1) ?_
                refine tt_iadd_n (h _) dL_isRoute_467 ?_
                refine tt_goto (h _) 472 dL_isRoute_468 (by decide) ?_
                refine tt_iadd_n (h _) dL_isRoute_472 ?_
                refine tt_iadd_n (h _) dL_isRoute_473 ?_
                refine tt_istore (h _) [(6, .int (nI (S1 + (1 + ((prX X) + (stX X o)))))), (10, .int (nI 1)), (16, .int (nI 1)), (15, .int (nI o)), (0, .ref (g.1 144)), (1, .int (nI n)), (2, .int (nI b)), (3, .int (nI z)), (4, .ref a), (5, .int (nI pn)), (7, .int (nI G)), (8, .int (nI V)), (9, .int (nI (at1 + 1))), (11, .int (nI c)), (12, .int (nI t)), (13, .int (nI 0)), (14, .int (nI 1))] dL_isRoute_474 (by decide) rfl ?_
                refine tt_iload (h _) 10 dL_isRoute_476 rfl ?_
                refine tt_iload (h _) 2 dL_isRoute_478 rfl ?_
                refine tt_if_eq (h _) 500 dL_isRoute_480 (by decide) (fun c => absurd c (by decide)) (fun _ => ?_)
                refine tt_aload_n (h _) 4 dL_isRoute_483 rfl rfl ?_
                refine tt_bipush (h _) (nI 21) dL_isRoute_484 (by decide) ?_
                refine tt_callV (h _) (As := [.int (nI 21)]) 1 hx (c_X5_count hR.1.hP hR.1.hI hR.1.hs hR.1.hs4 hR.1.hln) gL_isRoute_X5_count rfl ⟨rfl, rfl⟩ (by decide +kernel) rfl (by decide) (by decide) E_144 rfl rfl (Nat.le_of_ble_eq_true rfl) dL_isRoute_486 (fun a486_1 M' P' hp => ?_)
                rw [hR.2.1] at hp
                obtain ⟨⟨rfl, rfl⟩, hQ⟩ := hp
                have hz' := cnt_at (j := 21) (by omega) (by omega) (by omega) hQ
                clear hQ
                subst hz'
                refine tt_top (nI (prX X)) (hGd.pr.1) ?_
                refine tt_aload_n (h _) 4 dL_isRoute_489 rfl rfl ?_
                refine tt_iload (h _) 3 dL_isRoute_490 rfl ?_
                refine tt_iconst (h _) (nI 3) dL_isRoute_492 (by decide) ?_
                refine tt_callV (h _) (As := [.int (nI o), .int (nI 3)]) 2 hx (c_X5_netOf hR.1.hP hR.1.hI) gL_isRoute_X5_netOf rfl ⟨rfl, rfl⟩ (by decide +kernel) rfl (by decide) (by decide) E_144 rfl rfl (Nat.le_of_ble_eq_true rfl) dL_isRoute_493 (fun a493_1 M' P' hp => ?_)
                rw [hR.2.1] at hp
                obtain ⟨⟨rfl, rfl⟩, hQ⟩ := hp
                have hz' := net_at (k := o) (j := 3) hN6 ho1 (by omega) hQ
                clear hQ
                subst hz'
                refine tt_top (nI (stX X o)) ((hGd.net ho1).st.1) ?_
                refine tt_iadd_n (h _) dL_isRoute_496 ?_
                refine tt_goto (h _) 501 dL_isRoute_497 (by decide) ?_
                refine tt_iadd_n (h _) dL_isRoute_501 ?_
                refine tt_istore (h _) [(7, .int (nI (G + ((prX X) + (stX X o))))), (6, .int (nI (S1 + (1 + ((prX X) + (stX X o)))))), (10, .int (nI 1)), (16, .int (nI 1)), (15, .int (nI o)), (0, .ref (g.1 144)), (1, .int (nI n)), (2, .int (nI b)), (3, .int (nI z)), (4, .ref a), (5, .int (nI pn)), (8, .int (nI V)), (9, .int (nI (at1 + 1))), (11, .int (nI c)), (12, .int (nI t)), (13, .int (nI 0)), (14, .int (nI 1))] dL_isRoute_502 (by decide) rfl ?_
                refine tt_iload (h _) 11 dL_isRoute_504 rfl ?_
                refine tt_iload (h _) 3 dL_isRoute_506 rfl ?_
                refine tt_if_eq (h _) 518 dL_isRoute_508 (by decide) (fun c => absurd c (by decide)) (fun _ => ?_)
                refine tt_iconst (h _) (nI 1) dL_isRoute_511 (by decide) ?_
                refine tt_iload (h _) 4 dL_isRoute_512 rfl ?_
                refine tt_ishl (h _) dL_isRoute_514 ?_
                refine tt_goto (h _) 519 dL_isRoute_515 (by decide) ?_
                refine tt_ior (h _) dL_isRoute_519 ?_
                refine tt_top (nI (V ||| 2 ^ o)) (nI_or (by rw [hV1]; exact vicE_lt hN6) (by omega)) ?_
                refine tt_istore (h _) [(8, .int (nI (V ||| 2 ^ o))), (7, .int (nI (G + ((prX X) + (stX X o))))), (6, .int (nI (S1 + (1 + ((prX X) + (stX X o)))))), (10, .int (nI 1)), (16, .int (nI 1)), (15, .int (nI o)), (0, .ref (g.1 144)), (1, .int (nI n)), (2, .int (nI b)), (3, .int (nI z)), (4, .ref a), (5, .int (nI pn)), (9, .int (nI (at1 + 1))), (11, .int (nI c)), (12, .int (nI t)), (13, .int (nI 0)), (14, .int (nI 1))] dL_isRoute_520 (by decide) rfl ?_
                refine tt_iload (h _) 14 dL_isRoute_522 rfl ?_
                refine tt_istore (h _) [(11, .int (nI t)), (8, .int (nI (V ||| 2 ^ o))), (7, .int (nI (G + ((prX X) + (stX X o))))), (6, .int (nI (S1 + (1 + ((prX X) + (stX X o)))))), (10, .int (nI 1)), (16, .int (nI 1)), (15, .int (nI o)), (0, .ref (g.1 144)), (1, .int (nI n)), (2, .int (nI b)), (3, .int (nI z)), (4, .ref a), (5, .int (nI pn)), (9, .int (nI (at1 + 1))), (12, .int (nI t)), (13, .int (nI 0)), (14, .int (nI 1))] dL_isRoute_524 (by decide) rfl ?_
                refine tt_goto (h _) 167 dL_isRoute_526 (by decide) ?_
                exact tt_lv (ih167 (pre ++ [c]) t r2 m2 (S1 + (1 + ((prX X) + (stX X o)))) (G + ((prX X) + (stX X o))) (V ||| 2 ^ o) (at1 + 1) M199_ (by simp only [List.length_cons] at hmu167; omega) (by rw [hl]; simp) (hP2) (by rw [hat]; simp; omega) (hI2) (by omega) (by first | (rw [Nat.add_zero, ← List.append_assoc pl pre [c], hG1]; exact (pri_same hsame).symm) | (rw [← List.append_assoc pl pre [c], hG1]; exact pri_hit hN6 ht ho1 hmem ho)) (by first | (rw [← List.append_assoc pl pre [c], hV1]; exact (vic_same hsame).symm) | (rw [← List.append_assoc pl pre [c], hV1]; exact vic_hit hN6 ho1 ho)) (hR)) [7, 8, 9, 10, 11, 12, 3, 2, 1, 13, 4, 0] rfl
        rcases nb_via (vc := vc) hc hk hnb with ⟨q1, q2, hq3⟩ | ⟨q1, q2, hq3, ⟨q4, q5, q6⟩ | ⟨q4, q5, q6⟩ | ⟨q4, q6⟩ | ⟨q4, q6⟩⟩
        · skip
          refine tt_iload (h _) 0 dL_isRoute_204 rfl ?_
          refine tt_if_lt_n (h _) 226 dL_isRoute_206 (by decide) (by omega) ?_
          refine tt_iload (h _) 0 dL_isRoute_209 rfl ?_
          refine tt_bipush (h _) (nI 81) dL_isRoute_211 (by decide) ?_
          refine tt_irem_n (h _) dL_isRoute_213 (by omega) (by decide) (by decide) ?_
          refine tt_iload (h _) 12 dL_isRoute_214 rfl ?_
          refine tt_bipush (h _) (nI 81) dL_isRoute_216 (by decide) ?_
          refine tt_irem_n (h _) dL_isRoute_218 (by omega) (by decide) (by decide) ?_
          refine tt_icmp_ne_n (h _) 226 dL_isRoute_219 (by decide) (by omega) (by omega) (fun c_219 => by exfalso; exact c_219 q1) (fun c_219 => ?_)
          refine tt_iconst (h _) (nI 1) dL_isRoute_222 (by decide) ?_
          refine tt_goto (h _) 227 dL_isRoute_223 (by decide) ?_
          refine tt_istore (h _) [(13, .int (nI 1)), (12, .int (nI t)), (9, .int (nI (at1 + 1))), (0, .ref (g.1 144)), (1, .int (nI n)), (2, .int (nI b)), (3, .int (nI z)), (4, .ref a), (5, .int (nI pn)), (6, .int (nI S1)), (7, .int (nI G)), (8, .int (nI V)), (10, .int (nI 1)), (11, .int (nI c))] dL_isRoute_227 (by decide) rfl ?_
          refine tt_iload (h _) 1 dL_isRoute_229 rfl ?_
          refine tt_if_lt_n (h _) 312 dL_isRoute_231 (by decide) (by omega) ?_
          refine tt_iload (h _) 1 dL_isRoute_234 rfl ?_
          refine tt_bipush (h _) (nI 81) dL_isRoute_236 (by decide) ?_
          refine tt_idiv_n (h _) dL_isRoute_238 (by omega) (by decide) (by decide) ?_
          refine tt_iload (h _) 13 dL_isRoute_239 rfl ?_
          refine tt_bipush (h _) (nI 81) dL_isRoute_241 (by decide) ?_
          refine tt_idiv_n (h _) dL_isRoute_243 (by omega) (by decide) (by decide) ?_
          refine tt_icmp_ne_n (h _) 312 dL_isRoute_244 (by decide) (by omega) (by omega) (fun c_244 => ?_) (fun c_244 => by exfalso; exact q2 c_244)
          refine tt_iconst (h _) (nI 0) dL_isRoute_312 (by decide) ?_
          refine tt_istore (h _) [(14, .int (nI 0)), (13, .int (nI 1)), (12, .int (nI t)), (9, .int (nI (at1 + 1))), (0, .ref (g.1 144)), (1, .int (nI n)), (2, .int (nI b)), (3, .int (nI z)), (4, .ref a), (5, .int (nI pn)), (6, .int (nI S1)), (7, .int (nI G)), (8, .int (nI V)), (10, .int (nI 1)), (11, .int (nI c))] dL_isRoute_313 (by decide) rfl ?_
          exact tt_lv (J315 1 0 (by first | exact Or.inl ⟨rfl, rfl, hq3⟩ | exact Or.inr ⟨rfl, rfl, hq3⟩)) [4, 5, 6, 7, 8, 9, 10, 11, 12, 3, 13, 14, 2, 1, 0] rfl
        · skip
          refine tt_iload (h _) 0 dL_isRoute_204 rfl ?_
          refine tt_if_lt_n (h _) 226 dL_isRoute_206 (by decide) (by omega) ?_
          refine tt_iload (h _) 0 dL_isRoute_209 rfl ?_
          refine tt_bipush (h _) (nI 81) dL_isRoute_211 (by decide) ?_
          refine tt_irem_n (h _) dL_isRoute_213 (by omega) (by decide) (by decide) ?_
          refine tt_iload (h _) 12 dL_isRoute_214 rfl ?_
          refine tt_bipush (h _) (nI 81) dL_isRoute_216 (by decide) ?_
          refine tt_irem_n (h _) dL_isRoute_218 (by omega) (by decide) (by decide) ?_
          refine tt_icmp_ne_n (h _) 226 dL_isRoute_219 (by decide) (by omega) (by omega) (fun c_219 => ?_) (fun c_219 => by exfalso; exact q1 c_219)
          refine tt_iconst (h _) (nI 0) dL_isRoute_226 (by decide) ?_
          refine tt_istore (h _) [(13, .int (nI 0)), (12, .int (nI t)), (9, .int (nI (at1 + 1))), (0, .ref (g.1 144)), (1, .int (nI n)), (2, .int (nI b)), (3, .int (nI z)), (4, .ref a), (5, .int (nI pn)), (6, .int (nI S1)), (7, .int (nI G)), (8, .int (nI V)), (10, .int (nI 1)), (11, .int (nI c))] dL_isRoute_227 (by decide) rfl ?_
          refine tt_iload (h _) 1 dL_isRoute_229 rfl ?_
          refine tt_if_lt_n (h _) 312 dL_isRoute_231 (by decide) (by omega) ?_
          refine tt_iload (h _) 1 dL_isRoute_234 rfl ?_
          refine tt_bipush (h _) (nI 81) dL_isRoute_236 (by decide) ?_
          refine tt_idiv_n (h _) dL_isRoute_238 (by omega) (by decide) (by decide) ?_
          refine tt_iload (h _) 13 dL_isRoute_239 rfl ?_
          refine tt_bipush (h _) (nI 81) dL_isRoute_241 (by decide) ?_
          refine tt_idiv_n (h _) dL_isRoute_243 (by omega) (by decide) (by decide) ?_
          refine tt_icmp_ne_n (h _) 312 dL_isRoute_244 (by decide) (by omega) (by omega) (fun c_244 => by exfalso; exact c_244 q2) (fun c_244 => ?_)
          refine tt_iload (h _) 13 dL_isRoute_247 rfl ?_
          refine tt_bipush (h _) (nI 81) dL_isRoute_249 (by decide) ?_
          refine tt_icmp_ge_n (h _) 288 dL_isRoute_251 (by decide) (by omega) (by decide) (fun c_251 => by exfalso; omega) (fun c_251 => ?_)
          refine tt_iload (h _) 1 dL_isRoute_254 rfl ?_
          refine tt_bipush (h _) (nI 9) dL_isRoute_256 (by decide) ?_
          refine tt_idiv_n (h _) dL_isRoute_258 (by omega) (by decide) (by decide) ?_
          refine tt_iload (h _) 13 dL_isRoute_259 rfl ?_
          refine tt_bipush (h _) (nI 9) dL_isRoute_261 (by decide) ?_
          refine tt_idiv_n (h _) dL_isRoute_263 (by omega) (by decide) (by decide) ?_
          refine tt_icmp_ne_n (h _) 312 dL_isRoute_264 (by decide) (by omega) (by omega) (fun c_264 => by exfalso; exact c_264 q5) (fun c_264 => ?_)
          refine tt_iload (h _) 1 dL_isRoute_267 rfl ?_
          refine tt_iload (h _) 13 dL_isRoute_269 rfl ?_
          refine tt_isub_n (h _) dL_isRoute_271 (by omega) ?_
          refine tt_iconst (h _) (nI 1) dL_isRoute_272 (by decide) ?_
          refine tt_icmp_eq_n (h _) 308 dL_isRoute_273 (by decide) (by omega) (by decide) (fun c_273 => ?_) (fun c_273 => by exfalso; omega)
          refine tt_iconst (h _) (nI 1) dL_isRoute_308 (by decide) ?_
          refine tt_goto (h _) 313 dL_isRoute_309 (by decide) ?_
          refine tt_istore (h _) [(14, .int (nI 1)), (13, .int (nI 0)), (12, .int (nI t)), (9, .int (nI (at1 + 1))), (0, .ref (g.1 144)), (1, .int (nI n)), (2, .int (nI b)), (3, .int (nI z)), (4, .ref a), (5, .int (nI pn)), (6, .int (nI S1)), (7, .int (nI G)), (8, .int (nI V)), (10, .int (nI 1)), (11, .int (nI c))] dL_isRoute_313 (by decide) rfl ?_
          exact tt_lv (J315 0 1 (by first | exact Or.inl ⟨rfl, rfl, hq3⟩ | exact Or.inr ⟨rfl, rfl, hq3⟩)) [4, 5, 6, 7, 8, 9, 10, 11, 12, 3, 13, 14, 2, 1, 0] rfl
        · skip
          refine tt_iload (h _) 0 dL_isRoute_204 rfl ?_
          refine tt_if_lt_n (h _) 226 dL_isRoute_206 (by decide) (by omega) ?_
          refine tt_iload (h _) 0 dL_isRoute_209 rfl ?_
          refine tt_bipush (h _) (nI 81) dL_isRoute_211 (by decide) ?_
          refine tt_irem_n (h _) dL_isRoute_213 (by omega) (by decide) (by decide) ?_
          refine tt_iload (h _) 12 dL_isRoute_214 rfl ?_
          refine tt_bipush (h _) (nI 81) dL_isRoute_216 (by decide) ?_
          refine tt_irem_n (h _) dL_isRoute_218 (by omega) (by decide) (by decide) ?_
          refine tt_icmp_ne_n (h _) 226 dL_isRoute_219 (by decide) (by omega) (by omega) (fun c_219 => ?_) (fun c_219 => by exfalso; exact q1 c_219)
          refine tt_iconst (h _) (nI 0) dL_isRoute_226 (by decide) ?_
          refine tt_istore (h _) [(13, .int (nI 0)), (12, .int (nI t)), (9, .int (nI (at1 + 1))), (0, .ref (g.1 144)), (1, .int (nI n)), (2, .int (nI b)), (3, .int (nI z)), (4, .ref a), (5, .int (nI pn)), (6, .int (nI S1)), (7, .int (nI G)), (8, .int (nI V)), (10, .int (nI 1)), (11, .int (nI c))] dL_isRoute_227 (by decide) rfl ?_
          refine tt_iload (h _) 1 dL_isRoute_229 rfl ?_
          refine tt_if_lt_n (h _) 312 dL_isRoute_231 (by decide) (by omega) ?_
          refine tt_iload (h _) 1 dL_isRoute_234 rfl ?_
          refine tt_bipush (h _) (nI 81) dL_isRoute_236 (by decide) ?_
          refine tt_idiv_n (h _) dL_isRoute_238 (by omega) (by decide) (by decide) ?_
          refine tt_iload (h _) 13 dL_isRoute_239 rfl ?_
          refine tt_bipush (h _) (nI 81) dL_isRoute_241 (by decide) ?_
          refine tt_idiv_n (h _) dL_isRoute_243 (by omega) (by decide) (by decide) ?_
          refine tt_icmp_ne_n (h _) 312 dL_isRoute_244 (by decide) (by omega) (by omega) (fun c_244 => by exfalso; exact c_244 q2) (fun c_244 => ?_)
          refine tt_iload (h _) 13 dL_isRoute_247 rfl ?_
          refine tt_bipush (h _) (nI 81) dL_isRoute_249 (by decide) ?_
          refine tt_icmp_ge_n (h _) 288 dL_isRoute_251 (by decide) (by omega) (by decide) (fun c_251 => by exfalso; omega) (fun c_251 => ?_)
          refine tt_iload (h _) 1 dL_isRoute_254 rfl ?_
          refine tt_bipush (h _) (nI 9) dL_isRoute_256 (by decide) ?_
          refine tt_idiv_n (h _) dL_isRoute_258 (by omega) (by decide) (by decide) ?_
          refine tt_iload (h _) 13 dL_isRoute_259 rfl ?_
          refine tt_bipush (h _) (nI 9) dL_isRoute_261 (by decide) ?_
          refine tt_idiv_n (h _) dL_isRoute_263 (by omega) (by decide) (by decide) ?_
          refine tt_icmp_ne_n (h _) 312 dL_isRoute_264 (by decide) (by omega) (by omega) (fun c_264 => by exfalso; exact c_264 q5) (fun c_264 => ?_)
          refine tt_iload (h _) 1 dL_isRoute_267 rfl ?_
          refine tt_iload (h _) 13 dL_isRoute_269 rfl ?_
          refine tt_isub (h _) dL_isRoute_271 ?_
          refine tt_iconst (h _) (nI 1) dL_isRoute_272 (by decide) ?_
          refine tt_icmp_eq (h _) 308 dL_isRoute_273 (by decide) (fun c_273 => by exfalso; exact sub_ne ht hc (by decide) (by omega) c_273) (fun c_273 => ?_)
          refine tt_iload (h _) 13 dL_isRoute_276 rfl ?_
          refine tt_iload (h _) 1 dL_isRoute_278 rfl ?_
          refine tt_isub_n (h _) dL_isRoute_280 (by omega) ?_
          refine tt_iconst (h _) (nI 1) dL_isRoute_281 (by decide) ?_
          refine tt_icmp_ne_n (h _) 312 dL_isRoute_282 (by decide) (by omega) (by decide) (fun c_282 => by exfalso; omega) (fun c_282 => ?_)
          refine tt_goto (h _) 308 dL_isRoute_285 (by decide) ?_
          refine tt_iconst (h _) (nI 1) dL_isRoute_308 (by decide) ?_
          refine tt_goto (h _) 313 dL_isRoute_309 (by decide) ?_
          refine tt_istore (h _) [(14, .int (nI 1)), (13, .int (nI 0)), (12, .int (nI t)), (9, .int (nI (at1 + 1))), (0, .ref (g.1 144)), (1, .int (nI n)), (2, .int (nI b)), (3, .int (nI z)), (4, .ref a), (5, .int (nI pn)), (6, .int (nI S1)), (7, .int (nI G)), (8, .int (nI V)), (10, .int (nI 1)), (11, .int (nI c))] dL_isRoute_313 (by decide) rfl ?_
          exact tt_lv (J315 0 1 (by first | exact Or.inl ⟨rfl, rfl, hq3⟩ | exact Or.inr ⟨rfl, rfl, hq3⟩)) [4, 5, 6, 7, 8, 9, 10, 11, 12, 3, 13, 14, 2, 1, 0] rfl
        · skip
          refine tt_iload (h _) 0 dL_isRoute_204 rfl ?_
          refine tt_if_lt_n (h _) 226 dL_isRoute_206 (by decide) (by omega) ?_
          refine tt_iload (h _) 0 dL_isRoute_209 rfl ?_
          refine tt_bipush (h _) (nI 81) dL_isRoute_211 (by decide) ?_
          refine tt_irem_n (h _) dL_isRoute_213 (by omega) (by decide) (by decide) ?_
          refine tt_iload (h _) 12 dL_isRoute_214 rfl ?_
          refine tt_bipush (h _) (nI 81) dL_isRoute_216 (by decide) ?_
          refine tt_irem_n (h _) dL_isRoute_218 (by omega) (by decide) (by decide) ?_
          refine tt_icmp_ne_n (h _) 226 dL_isRoute_219 (by decide) (by omega) (by omega) (fun c_219 => ?_) (fun c_219 => by exfalso; exact q1 c_219)
          refine tt_iconst (h _) (nI 0) dL_isRoute_226 (by decide) ?_
          refine tt_istore (h _) [(13, .int (nI 0)), (12, .int (nI t)), (9, .int (nI (at1 + 1))), (0, .ref (g.1 144)), (1, .int (nI n)), (2, .int (nI b)), (3, .int (nI z)), (4, .ref a), (5, .int (nI pn)), (6, .int (nI S1)), (7, .int (nI G)), (8, .int (nI V)), (10, .int (nI 1)), (11, .int (nI c))] dL_isRoute_227 (by decide) rfl ?_
          refine tt_iload (h _) 1 dL_isRoute_229 rfl ?_
          refine tt_if_lt_n (h _) 312 dL_isRoute_231 (by decide) (by omega) ?_
          refine tt_iload (h _) 1 dL_isRoute_234 rfl ?_
          refine tt_bipush (h _) (nI 81) dL_isRoute_236 (by decide) ?_
          refine tt_idiv_n (h _) dL_isRoute_238 (by omega) (by decide) (by decide) ?_
          refine tt_iload (h _) 13 dL_isRoute_239 rfl ?_
          refine tt_bipush (h _) (nI 81) dL_isRoute_241 (by decide) ?_
          refine tt_idiv_n (h _) dL_isRoute_243 (by omega) (by decide) (by decide) ?_
          refine tt_icmp_ne_n (h _) 312 dL_isRoute_244 (by decide) (by omega) (by omega) (fun c_244 => by exfalso; exact c_244 q2) (fun c_244 => ?_)
          refine tt_iload (h _) 13 dL_isRoute_247 rfl ?_
          refine tt_bipush (h _) (nI 81) dL_isRoute_249 (by decide) ?_
          refine tt_icmp_ge_n (h _) 288 dL_isRoute_251 (by decide) (by omega) (by decide) (fun c_251 => ?_) (fun c_251 => by exfalso; omega)
          refine tt_iload (h _) 1 dL_isRoute_288 rfl ?_
          refine tt_iload (h _) 13 dL_isRoute_290 rfl ?_
          refine tt_isub_n (h _) dL_isRoute_292 (by omega) ?_
          refine tt_bipush (h _) (nI 9) dL_isRoute_293 (by decide) ?_
          refine tt_icmp_eq_n (h _) 308 dL_isRoute_295 (by decide) (by omega) (by decide) (fun c_295 => ?_) (fun c_295 => by exfalso; omega)
          refine tt_iconst (h _) (nI 1) dL_isRoute_308 (by decide) ?_
          refine tt_goto (h _) 313 dL_isRoute_309 (by decide) ?_
          refine tt_istore (h _) [(14, .int (nI 1)), (13, .int (nI 0)), (12, .int (nI t)), (9, .int (nI (at1 + 1))), (0, .ref (g.1 144)), (1, .int (nI n)), (2, .int (nI b)), (3, .int (nI z)), (4, .ref a), (5, .int (nI pn)), (6, .int (nI S1)), (7, .int (nI G)), (8, .int (nI V)), (10, .int (nI 1)), (11, .int (nI c))] dL_isRoute_313 (by decide) rfl ?_
          exact tt_lv (J315 0 1 (by first | exact Or.inl ⟨rfl, rfl, hq3⟩ | exact Or.inr ⟨rfl, rfl, hq3⟩)) [4, 5, 6, 7, 8, 9, 10, 11, 12, 3, 13, 14, 2, 1, 0] rfl
        · skip
          refine tt_iload (h _) 0 dL_isRoute_204 rfl ?_
          refine tt_if_lt_n (h _) 226 dL_isRoute_206 (by decide) (by omega) ?_
          refine tt_iload (h _) 0 dL_isRoute_209 rfl ?_
          refine tt_bipush (h _) (nI 81) dL_isRoute_211 (by decide) ?_
          refine tt_irem_n (h _) dL_isRoute_213 (by omega) (by decide) (by decide) ?_
          refine tt_iload (h _) 12 dL_isRoute_214 rfl ?_
          refine tt_bipush (h _) (nI 81) dL_isRoute_216 (by decide) ?_
          refine tt_irem_n (h _) dL_isRoute_218 (by omega) (by decide) (by decide) ?_
          refine tt_icmp_ne_n (h _) 226 dL_isRoute_219 (by decide) (by omega) (by omega) (fun c_219 => ?_) (fun c_219 => by exfalso; exact q1 c_219)
          refine tt_iconst (h _) (nI 0) dL_isRoute_226 (by decide) ?_
          refine tt_istore (h _) [(13, .int (nI 0)), (12, .int (nI t)), (9, .int (nI (at1 + 1))), (0, .ref (g.1 144)), (1, .int (nI n)), (2, .int (nI b)), (3, .int (nI z)), (4, .ref a), (5, .int (nI pn)), (6, .int (nI S1)), (7, .int (nI G)), (8, .int (nI V)), (10, .int (nI 1)), (11, .int (nI c))] dL_isRoute_227 (by decide) rfl ?_
          refine tt_iload (h _) 1 dL_isRoute_229 rfl ?_
          refine tt_if_lt_n (h _) 312 dL_isRoute_231 (by decide) (by omega) ?_
          refine tt_iload (h _) 1 dL_isRoute_234 rfl ?_
          refine tt_bipush (h _) (nI 81) dL_isRoute_236 (by decide) ?_
          refine tt_idiv_n (h _) dL_isRoute_238 (by omega) (by decide) (by decide) ?_
          refine tt_iload (h _) 13 dL_isRoute_239 rfl ?_
          refine tt_bipush (h _) (nI 81) dL_isRoute_241 (by decide) ?_
          refine tt_idiv_n (h _) dL_isRoute_243 (by omega) (by decide) (by decide) ?_
          refine tt_icmp_ne_n (h _) 312 dL_isRoute_244 (by decide) (by omega) (by omega) (fun c_244 => by exfalso; exact c_244 q2) (fun c_244 => ?_)
          refine tt_iload (h _) 13 dL_isRoute_247 rfl ?_
          refine tt_bipush (h _) (nI 81) dL_isRoute_249 (by decide) ?_
          refine tt_icmp_ge_n (h _) 288 dL_isRoute_251 (by decide) (by omega) (by decide) (fun c_251 => ?_) (fun c_251 => by exfalso; omega)
          refine tt_iload (h _) 1 dL_isRoute_288 rfl ?_
          refine tt_iload (h _) 13 dL_isRoute_290 rfl ?_
          refine tt_isub (h _) dL_isRoute_292 ?_
          refine tt_bipush (h _) (nI 9) dL_isRoute_293 (by decide) ?_
          refine tt_icmp_eq (h _) 308 dL_isRoute_295 (by decide) (fun c_295 => by exfalso; exact sub_ne ht hc (by decide) (by omega) c_295) (fun c_295 => ?_)
          refine tt_iload (h _) 13 dL_isRoute_298 rfl ?_
          refine tt_iload (h _) 1 dL_isRoute_300 rfl ?_
          refine tt_isub_n (h _) dL_isRoute_302 (by omega) ?_
          refine tt_bipush (h _) (nI 9) dL_isRoute_303 (by decide) ?_
          refine tt_icmp_ne_n (h _) 312 dL_isRoute_305 (by decide) (by omega) (by decide) (fun c_305 => by exfalso; omega) (fun c_305 => ?_)
          refine tt_iconst (h _) (nI 1) dL_isRoute_308 (by decide) ?_
          refine tt_goto (h _) 313 dL_isRoute_309 (by decide) ?_
          refine tt_istore (h _) [(14, .int (nI 1)), (13, .int (nI 0)), (12, .int (nI t)), (9, .int (nI (at1 + 1))), (0, .ref (g.1 144)), (1, .int (nI n)), (2, .int (nI b)), (3, .int (nI z)), (4, .ref a), (5, .int (nI pn)), (6, .int (nI S1)), (7, .int (nI G)), (8, .int (nI V)), (10, .int (nI 1)), (11, .int (nI c))] dL_isRoute_313 (by decide) rfl ?_
          exact tt_lv (J315 0 1 (by first | exact Or.inl ⟨rfl, rfl, hq3⟩ | exact Or.inr ⟨rfl, rfl, hq3⟩)) [4, 5, 6, 7, 8, 9, 10, 11, 12, 3, 13, 14, 2, 1, 0] rfl
  exact tt_lv (L167 _ ([]) c0 r0 m S (priE eC X N pl) (bset (vicE eC X pl) N) pl.length M135_ (Nat.lt_succ_self _) (hl0) (hPL) (by simp) (hm) (hS) (by rw [List.append_nil]; exact (pri_same (Or.inr hcw)).symm) (by rw [List.append_nil]; exact (vic_same (Or.inr hcw)).symm) (hR)) [2, 3, 4, 5, 6, 7, 8, 9, 10, 11, 0, 1] rfl
