section TY
variable {M M' : Nat → Nat → Int32} {r : Int32}
theorem typ_no2 {ln : Nat} (h : (¬ (nI 32 ≤ nI 31 ∧ nI 31 ≤ nI 126) ∧ r = -1000001 ∧ M = M') ∨ ((nI 32 ≤ nI 31 ∧ nI 31 ≤ nI 126) ∧ ((60 ≤ ln ∧ r = -1000003 ∧ M = M') ∨ (ln < 60 ∧ r = nI (ln + 1) ∧ M' = st2 (st2 M 148 ln (nI 31)) 147 1 (nI (ln + 1)))))) : r = -1000001 ∧ M = M' := by
  rcases h with ⟨-, e1, e2⟩ | ⟨e, -⟩
  · exact ⟨e1, e2⟩
  · exact absurd e.1 (by decide)
end TY
set_option maxRecDepth 20000 in
theorem ggL_refused_L_print : GoodIn wsL_refused wsL_print := goodIn_r _ [7, 8, 9, 10, 11, 12, 13, 14, 15, 16, 17, 18, 19, 20, 21, 22, 23, 24, 25, 26, 27, 28, 29, 30, 31, 32, 33, 34, 35, 36, 37, 38, 39, 40, 41, 42, 43, 44, 45, 46, 47, 48, 49, 50, 51, 52, 53, 54, 55, 56, 57, 58, 59, 60, 61, 62, 63, 64, 65, 66, 67, 68, 69, 70, 71, 72, 73, 74, 75, 76, 77, 78, 79, 80, 81, 82, 83, 84, 85, 86, 87, 88, 89, 90, 91, 92, 93, 94, 95, 96, 97, 98, 99, 100, 101, 102, 103, 104, 105, 106, 107, 108, 109, 110, 111, 112, 113, 114, 115, 500, 501, 502, 503, 504, 505, 506, 507, 508, 509, 510, 511, 512, 513, 514, 515, 516, 517, 518, 519, 520, 521, 522, 523, 524, 525, 526, 527, 528, 529, 530, 531, 532, 533, 534, 535] (by decide +kernel) (by decide +kernel)
set_option maxRecDepth 20000 in
theorem gL_refused_L_print : GoodIn wsL_refused (va_wsS RL 29 yL_print wsL_print) := goodIn_app (goodIn_of _ (by decide +kernel)) ggL_refused_L_print
set_option maxRecDepth 20000 in
theorem ggL_refused_X5_count : GoodIn wsL_refused wsX5_count := goodIn_r _ [14, 15, 16, 17, 18, 19, 20, 21, 22, 23, 24, 25, 26, 27, 28, 29, 30, 31, 32, 33, 34, 35, 36, 37, 38, 39, 40, 41, 42, 43, 44, 45, 46, 47, 48, 49, 50, 51, 52, 53, 54, 55, 56, 57, 58, 59, 60, 61, 62, 63, 64, 65, 66, 500, 501, 502, 503, 504, 505, 506, 507, 508, 509, 510, 511, 512, 513, 514, 515, 516, 517, 518, 519, 520, 521, 522, 523, 524, 525, 526, 527, 528, 529, 530, 531, 532, 533, 534, 535] (by decide +kernel) (by decide +kernel)
set_option maxRecDepth 20000 in
theorem gL_refused_X5_count : GoodIn wsL_refused (wsV RL 13 RX5 yX5_count wsX5_count) := goodIn_app (goodIn_of _ (by decide +kernel)) ggL_refused_X5_count
set_option maxRecDepth 20000 in
theorem ggL_refused_X5_set : GoodIn wsL_refused wsX5_set := goodIn_r _ [119, 120, 121, 122, 13, 123, 124, 18, 125, 126, 127, 22, 128, 27, 129, 130, 131, 132, 43, 133, 24, 33, 25, 48, 26, 134, 135, 136, 137, 138, 139, 140, 141, 142, 143, 144, 145, 146, 147, 148, 149, 150, 151, 152, 153, 154, 155, 156, 157, 158, 159, 160, 161, 162, 163, 28, 164, 165, 166, 167, 168, 15, 169, 170, 171, 172, 500, 501, 502, 503, 504, 505, 506, 512, 513, 514, 515, 516, 517, 518, 519, 520, 521, 522, 523, 524, 525, 526, 527, 528, 529, 530, 531, 532, 533, 534, 535] (by decide +kernel) (by decide +kernel)
set_option maxRecDepth 20000 in
theorem gL_refused_X5_set : GoodIn wsL_refused (wsV RL 35 RX5 yX5_set wsX5_set) := goodIn_app (goodIn_of _ (by decide +kernel)) ggL_refused_X5_set
set_option maxRecDepth 20000 in
theorem ggL_refused_X5_block : GoodIn wsL_refused wsX5_block := goodIn_r _ [176, 120, 121, 122, 13, 123, 124, 18, 125, 126, 127, 22, 128, 27, 129, 130, 131, 132, 43, 133, 24, 33, 25, 48, 26, 134, 135, 136, 137, 138, 139, 140, 141, 142, 143, 144, 145, 146, 147, 148, 149, 150, 151, 152, 153, 154, 155, 156, 157, 158, 159, 177, 178, 179, 180, 28, 181, 35, 36, 37, 38, 39, 40, 41, 42, 164, 165, 166, 167, 168, 15, 169, 170, 171, 172, 500, 501, 502, 503, 504, 505, 506, 512, 513, 514, 515, 516, 517, 518, 519, 520, 521, 522, 523, 524, 525, 526, 527, 528, 529, 530, 531, 532, 533, 534, 535] (by decide +kernel) (by decide +kernel)
set_option maxRecDepth 20000 in
theorem gL_refused_X5_block : GoodIn wsL_refused (wsV RL 39 RX5 yX5_block wsX5_block) := goodIn_app (goodIn_of _ (by decide +kernel)) ggL_refused_X5_block
set_option maxRecDepth 20000 in
theorem ggL_refused_X5_net : GoodIn wsL_refused wsX5_net := goodIn_r _ [185, 120, 121, 122, 13, 123, 124, 18, 125, 126, 127, 22, 128, 27, 129, 130, 131, 132, 43, 133, 24, 33, 25, 48, 26, 134, 135, 136, 137, 138, 139, 140, 141, 142, 143, 144, 145, 146, 147, 148, 149, 150, 151, 152, 153, 154, 155, 156, 157, 158, 159, 186, 187, 188, 189, 28, 181, 190, 82, 83, 84, 86, 54, 34, 87, 88, 89, 191, 192, 193, 194, 195, 196, 197, 198, 199, 200, 201, 164, 165, 166, 167, 168, 15, 169, 170, 171, 172, 500, 501, 502, 503, 504, 505, 506, 512, 513, 514, 515, 516, 517, 518, 519, 520, 521, 522, 523, 524, 525, 526, 527, 528, 529, 530, 531, 532, 533, 534, 535] (by decide +kernel) (by decide +kernel)
set_option maxRecDepth 20000 in
theorem gL_refused_X5_net : GoodIn wsL_refused (wsV RL 42 RX5 yX5_net wsX5_net) := goodIn_app (goodIn_of _ (by decide +kernel)) ggL_refused_X5_net
set_option maxRecDepth 20000 in
theorem ggL_refused_X5_give : GoodIn wsL_refused wsX5_give := goodIn_r _ [205, 120, 121, 122, 13, 123, 124, 18, 125, 126, 127, 22, 128, 27, 129, 130, 131, 132, 43, 133, 24, 33, 25, 48, 26, 134, 135, 136, 137, 138, 139, 140, 141, 142, 143, 144, 145, 146, 147, 148, 149, 150, 151, 152, 153, 154, 155, 156, 157, 158, 159, 206, 207, 208, 209, 28, 54, 210, 190, 59, 60, 61, 62, 164, 165, 166, 167, 168, 15, 169, 170, 171, 172, 500, 501, 502, 503, 504, 505, 506, 512, 513, 514, 515, 516, 517, 518, 519, 520, 521, 522, 523, 524, 525, 526, 527, 528, 529, 530, 531, 532, 533, 534, 535] (by decide +kernel) (by decide +kernel)
set_option maxRecDepth 20000 in
theorem gL_refused_X5_give : GoodIn wsL_refused (wsV RL 46 RX5 yX5_give wsX5_give) := goodIn_app (goodIn_of _ (by decide +kernel)) ggL_refused_X5_give
set_option maxRecDepth 20000 in
theorem ggL_refused_X5_netOf : GoodIn wsL_refused wsX5_netOf := goodIn_r _ [77, 18, 78, 79, 80, 22, 81, 28, 33, 82, 83, 84, 85, 86, 54, 34, 87, 88, 89, 59, 60, 61, 62, 24, 39, 40, 41, 42, 43, 90, 91, 92, 93, 500, 501, 502, 503, 504, 505, 506, 512, 513, 514, 515, 516, 517, 518, 519, 520, 521, 522, 523, 524, 525, 526, 527, 528] (by decide +kernel) (by decide +kernel)
set_option maxRecDepth 20000 in
theorem gL_refused_X5_netOf : GoodIn wsL_refused (wsV RL 22 RX5 yX5_netOf wsX5_netOf) := goodIn_app (goodIn_of _ (by decide +kernel)) ggL_refused_X5_netOf
set_option maxRecDepth 20000 in
theorem ggL_refused_X5_cellOf : GoodIn wsL_refused wsX5_cellOf := goodIn_r _ [70, 71, 18, 72, 73, 500, 501, 502, 503, 504, 505, 506, 512, 513, 514, 515, 516, 517, 518, 519] (by decide +kernel) (by decide +kernel)
set_option maxRecDepth 20000 in
theorem gL_refused_X5_cellOf : GoodIn wsL_refused (wsV RL 19 RX5 yX5_cellOf wsX5_cellOf) := goodIn_app (goodIn_of _ (by decide +kernel)) ggL_refused_X5_cellOf
set_option maxRecDepth 20000 in
theorem ggL_refused_X5_wireAt : GoodIn wsL_refused wsX5_wireAt := goodIn_r _ [214, 18, 71, 215, 60, 61, 22, 62, 24, 216, 217, 218, 219, 43, 85, 500, 501, 502, 503, 504, 505, 506, 512, 513, 514, 515, 516, 517, 518, 519] (by decide +kernel) (by decide +kernel)
set_option maxRecDepth 20000 in
theorem gL_refused_X5_wireAt : GoodIn wsL_refused (wsV RL 49 RX5 yX5_wireAt wsX5_wireAt) := goodIn_app (goodIn_of _ (by decide +kernel)) ggL_refused_X5_wireAt
set_option maxRecDepth 20000 in
theorem ggL_refused_X5_lay : GoodIn wsL_refused wsX5_lay := goodIn_r _ [223, 224, 120, 121, 122, 13, 123, 124, 18, 125, 126, 127, 22, 128, 27, 129, 130, 131, 132, 43, 133, 24, 33, 25, 48, 26, 134, 135, 136, 137, 138, 139, 140, 141, 142, 143, 144, 145, 146, 147, 148, 149, 150, 151, 152, 153, 154, 155, 156, 157, 158, 159, 225, 226, 227, 228, 28, 34, 181, 229, 59, 60, 61, 62, 230, 231, 232, 233, 234, 235, 236, 237, 238, 239, 240, 241, 242, 243, 244, 245, 246, 247, 248, 249, 250, 251, 252, 86, 253, 254, 255, 256, 257, 258, 259, 260, 261, 262, 263, 264, 265, 266, 267, 268, 269, 270, 271, 272, 273, 274, 275, 276, 277, 278, 279, 280, 281, 282, 283, 284, 285, 286, 287, 288, 289, 290, 291, 292, 293, 294, 295, 296, 297, 298, 299, 300, 301, 302, 303, 304, 305, 306, 307, 164, 165, 166, 167, 168, 15, 169, 170, 171, 172, 500, 501, 502, 503, 504, 505, 506, 512, 513, 514, 515, 516, 517, 518, 519, 520, 521, 522, 523, 524, 525, 526, 527, 528, 529, 530, 531, 532, 533, 534, 535, 536, 537, 538, 539, 540, 541, 542, 543, 544, 545, 546, 547, 548, 549, 550] (by decide +kernel) (by decide +kernel)
set_option maxRecDepth 20000 in
theorem gL_refused_X5_lay : GoodIn wsL_refused (wsV RL 52 RX5 yX5_lay wsX5_lay) := goodIn_app (goodIn_of _ (by decide +kernel)) ggL_refused_X5_lay
set_option maxRecDepth 20000 in
theorem ggL_refused_X5_dig : GoodIn wsL_refused wsX5_dig := goodIn_r _ [311, 224, 120, 121, 122, 13, 123, 124, 18, 125, 126, 127, 22, 128, 27, 129, 130, 131, 132, 43, 133, 24, 33, 25, 48, 26, 134, 135, 136, 137, 138, 139, 140, 141, 142, 143, 144, 145, 146, 147, 148, 149, 150, 151, 152, 153, 154, 155, 156, 157, 158, 159, 312, 313, 314, 315, 28, 34, 54, 316, 181, 317, 190, 318, 87, 59, 60, 61, 62, 230, 231, 232, 233, 234, 235, 236, 237, 238, 239, 240, 241, 242, 243, 244, 245, 246, 247, 248, 249, 250, 251, 252, 86, 253, 254, 255, 256, 257, 258, 259, 260, 261, 262, 263, 264, 265, 266, 267, 268, 269, 270, 271, 272, 273, 274, 275, 276, 277, 278, 279, 280, 281, 282, 283, 284, 285, 286, 287, 288, 289, 290, 291, 292, 293, 294, 295, 296, 297, 319, 320, 321, 322, 323, 324, 325, 326, 327, 328, 329, 330, 331, 332, 333, 102, 103, 104, 105, 106, 49, 107, 39, 40, 41, 42, 90, 91, 92, 93, 334, 335, 336, 337, 338, 339, 340, 341, 298, 299, 300, 301, 302, 303, 304, 305, 306, 307, 164, 165, 166, 167, 168, 15, 169, 170, 171, 172, 500, 501, 502, 503, 504, 505, 506, 512, 513, 514, 515, 516, 517, 518, 519, 520, 521, 522, 523, 524, 525, 526, 527, 528, 529, 530, 531, 532, 533, 534, 535, 536, 537, 538, 539, 540, 541, 542, 543, 544, 545, 546, 547, 548, 549, 550] (by decide +kernel) (by decide +kernel)
set_option maxRecDepth 20000 in
theorem gL_refused_X5_dig : GoodIn wsL_refused (wsV RL 55 RX5 yX5_dig wsX5_dig) := goodIn_app (goodIn_of _ (by decide +kernel)) ggL_refused_X5_dig
set_option maxRecDepth 20000 in
theorem ggL_refused_X5_rip : GoodIn wsL_refused wsX5_rip := goodIn_r _ [345, 120, 121, 122, 13, 123, 124, 18, 125, 126, 127, 22, 128, 27, 129, 130, 131, 132, 43, 133, 24, 33, 25, 48, 26, 134, 135, 136, 137, 138, 139, 140, 141, 142, 143, 144, 145, 146, 147, 148, 149, 150, 151, 152, 153, 154, 155, 156, 157, 158, 159, 346, 347, 348, 349, 28, 34, 181, 59, 60, 61, 62, 39, 40, 41, 42, 338, 339, 340, 341, 164, 165, 166, 167, 168, 15, 169, 170, 171, 172, 500, 501, 502, 503, 504, 505, 506, 512, 513, 514, 515, 516, 517, 518, 519, 520, 521, 522, 523, 524, 525, 526, 527, 528, 529, 530, 531, 532, 533, 534, 535] (by decide +kernel) (by decide +kernel)
set_option maxRecDepth 20000 in
theorem gL_refused_X5_rip : GoodIn wsL_refused (wsV RL 58 RX5 yX5_rip wsX5_rip) := goodIn_app (goodIn_of _ (by decide +kernel)) ggL_refused_X5_rip
set_option maxRecDepth 20000 in
theorem ggL_refused_X5_appeal : GoodIn wsL_refused wsX5_appeal := goodIn_r _ [353, 120, 121, 122, 13, 123, 124, 18, 125, 126, 127, 22, 128, 27, 129, 130, 131, 132, 43, 133, 24, 33, 25, 48, 26, 134, 135, 136, 137, 138, 139, 140, 141, 142, 143, 144, 145, 146, 147, 148, 149, 150, 151, 152, 153, 154, 155, 156, 157, 158, 159, 354, 355, 356, 357, 28, 49, 107, 181, 108, 109, 110, 111, 44, 45, 46, 47, 164, 165, 166, 167, 168, 15, 169, 170, 171, 172, 500, 501, 502, 503, 504, 505, 506, 512, 513, 514, 515, 516, 517, 518, 519, 520, 521, 522, 523, 524, 525, 526, 527, 528, 529, 530, 531, 532, 533, 534, 535] (by decide +kernel) (by decide +kernel)
set_option maxRecDepth 20000 in
theorem gL_refused_X5_appeal : GoodIn wsL_refused (wsV RL 61 RX5 yX5_appeal wsX5_appeal) := goodIn_app (goodIn_of _ (by decide +kernel)) ggL_refused_X5_appeal
set_option maxRecDepth 20000 in
theorem ggL_refused_X5_pass : GoodIn wsL_refused wsX5_pass := goodIn_r _ [361, 120, 121, 122, 13, 123, 124, 18, 125, 126, 127, 22, 128, 27, 129, 130, 131, 132, 43, 133, 24, 33, 25, 48, 26, 134, 135, 136, 137, 138, 139, 140, 141, 142, 143, 144, 145, 146, 147, 148, 149, 150, 151, 152, 153, 154, 155, 156, 157, 158, 159, 362, 363, 364, 365, 28, 210, 190, 164, 165, 166, 167, 168, 15, 169, 170, 171, 172, 500, 501, 502, 503, 504, 505, 506, 512, 513, 514, 515, 516, 517, 518, 519, 520, 521, 522, 523, 524, 525, 526, 527, 528, 529, 530, 531, 532, 533, 534, 535] (by decide +kernel) (by decide +kernel)
set_option maxRecDepth 20000 in
theorem gL_refused_X5_pass : GoodIn wsL_refused (wsV RL 64 RX5 yX5_pass wsX5_pass) := goodIn_app (goodIn_of _ (by decide +kernel)) ggL_refused_X5_pass
set_option maxRecDepth 20000 in
theorem ggL_refused_X5_cost : GoodIn wsL_refused wsX5_cost := goodIn_r _ [369, 224, 370, 371, 372, 373, 13, 374, 18, 71, 375, 376, 377, 73, 215, 60, 61, 22, 62, 24, 378, 231, 232, 233, 234, 235, 236, 237, 238, 239, 240, 241, 242, 243, 244, 245, 246, 247, 248, 249, 250, 251, 252, 43, 27, 33, 86, 59, 253, 254, 255, 256, 257, 258, 259, 260, 261, 262, 263, 264, 265, 266, 267, 268, 269, 270, 271, 272, 273, 274, 275, 276, 277, 278, 279, 280, 281, 282, 283, 284, 285, 286, 287, 288, 289, 290, 291, 292, 293, 294, 295, 296, 297, 500, 501, 502, 503, 504, 505, 506, 536, 537, 538, 539, 540, 541, 542, 543, 544, 545, 546, 547, 548, 549, 550, 512, 513, 514, 515, 516, 517, 518, 519, 520, 521, 522, 523, 524, 525, 526, 527, 528] (by decide +kernel) (by decide +kernel)
set_option maxRecDepth 20000 in
theorem gL_refused_X5_cost : GoodIn wsL_refused (wsV RL 67 RX5 yX5_cost wsX5_cost) := goodIn_app (goodIn_of _ (by decide +kernel)) ggL_refused_X5_cost
set_option maxRecDepth 20000 in
theorem ggL_refused_X5_price : GoodIn wsL_refused wsX5_price := goodIn_r _ [382, 224, 383, 371, 372, 373, 13, 374, 18, 71, 375, 376, 377, 73, 215, 60, 61, 22, 62, 24, 378, 231, 232, 233, 234, 235, 236, 237, 238, 239, 240, 241, 242, 243, 244, 245, 246, 247, 248, 249, 250, 251, 252, 43, 27, 33, 86, 59, 253, 254, 255, 256, 257, 258, 259, 260, 261, 262, 263, 264, 265, 266, 267, 268, 269, 270, 271, 272, 273, 274, 275, 276, 277, 278, 279, 280, 281, 282, 283, 284, 285, 286, 287, 288, 289, 290, 291, 292, 293, 294, 295, 296, 297, 500, 501, 502, 503, 504, 505, 506, 536, 537, 538, 539, 540, 541, 542, 543, 544, 545, 546, 547, 548, 549, 550, 512, 513, 514, 515, 516, 517, 518, 519, 520, 521, 522, 523, 524, 525, 526, 527, 528] (by decide +kernel) (by decide +kernel)
set_option maxRecDepth 20000 in
theorem gL_refused_X5_price : GoodIn wsL_refused (wsV RL 70 RX5 yX5_price wsX5_price) := goodIn_app (goodIn_of _ (by decide +kernel)) ggL_refused_X5_price
set_option maxRecDepth 20000 in
theorem ggL_refused_X5_victims : GoodIn wsL_refused wsX5_victims := goodIn_r _ [387, 224, 388, 371, 372, 373, 13, 374, 18, 71, 375, 376, 377, 73, 215, 60, 61, 22, 62, 24, 378, 231, 232, 233, 234, 235, 236, 237, 238, 239, 240, 241, 242, 243, 244, 245, 246, 247, 248, 249, 250, 251, 252, 43, 27, 33, 86, 59, 253, 254, 255, 256, 257, 258, 259, 260, 261, 262, 263, 264, 265, 266, 267, 268, 269, 270, 271, 272, 273, 274, 275, 276, 277, 278, 279, 280, 281, 282, 283, 284, 285, 286, 287, 288, 289, 290, 291, 292, 293, 294, 295, 296, 297, 500, 501, 502, 503, 504, 505, 506, 536, 537, 538, 539, 540, 541, 542, 543, 544, 545, 546, 547, 548, 549, 550, 512, 513, 514, 515, 516, 517, 518, 519, 520, 521, 522, 523, 524, 525, 526, 527, 528] (by decide +kernel) (by decide +kernel)
set_option maxRecDepth 20000 in
theorem gL_refused_X5_victims : GoodIn wsL_refused (wsV RL 73 RX5 yX5_victims wsX5_victims) := goodIn_app (goodIn_of _ (by decide +kernel)) ggL_refused_X5_victims
set_option maxRecDepth 20000 in
theorem ggL_refused_X5_routeAt : GoodIn wsL_refused wsX5_routeAt := goodIn_r _ [392, 71, 224, 371, 372, 373, 13, 374, 18, 375, 376, 377, 73, 215, 60, 61, 22, 62, 24, 378, 231, 232, 233, 234, 235, 236, 237, 238, 239, 240, 241, 242, 243, 244, 245, 246, 247, 248, 249, 250, 251, 252, 43, 27, 33, 86, 59, 253, 254, 255, 256, 257, 258, 259, 260, 261, 262, 263, 264, 265, 266, 267, 268, 269, 270, 271, 272, 273, 274, 275, 276, 277, 278, 279, 280, 281, 282, 283, 284, 285, 286, 287, 288, 289, 290, 291, 292, 293, 294, 295, 296, 297, 393, 304, 305, 306, 307, 500, 501, 502, 503, 504, 505, 506, 512, 513, 514, 515, 516, 517, 518, 519, 520, 521, 522, 523, 524, 525, 526, 527, 528, 536, 537, 538, 539, 540, 541, 542, 543, 544, 545, 546, 547, 548, 549, 550] (by decide +kernel) (by decide +kernel)
set_option maxRecDepth 20000 in
theorem gL_refused_X5_routeAt : GoodIn wsL_refused (wsV RL 76 RX5 yX5_routeAt wsX5_routeAt) := goodIn_app (goodIn_of _ (by decide +kernel)) ggL_refused_X5_routeAt
set_option maxRecDepth 20000 in
theorem ggL_refused_X5_bestOrder : GoodIn wsL_refused wsX5_bestOrder := goodIn_r _ [397, 71, 398, 399, 73, 400, 401, 402, 13, 403, 18, 404, 375, 376, 405, 406, 407, 408, 224, 120, 121, 122, 123, 124, 125, 126, 127, 22, 128, 27, 129, 130, 131, 132, 43, 133, 24, 33, 25, 48, 26, 134, 135, 136, 137, 138, 139, 140, 141, 142, 143, 144, 145, 146, 147, 148, 149, 150, 151, 152, 153, 154, 155, 156, 157, 158, 159, 225, 226, 227, 228, 28, 34, 181, 229, 59, 60, 61, 62, 230, 231, 232, 233, 234, 235, 236, 237, 238, 239, 240, 241, 242, 243, 244, 245, 246, 247, 248, 249, 250, 251, 252, 86, 253, 254, 255, 256, 257, 258, 259, 260, 261, 262, 263, 264, 265, 266, 267, 268, 269, 270, 271, 272, 273, 274, 275, 276, 277, 278, 279, 280, 281, 282, 283, 284, 285, 286, 287, 288, 289, 290, 291, 292, 293, 294, 295, 296, 297, 298, 299, 300, 301, 302, 303, 304, 305, 306, 307, 500, 501, 502, 503, 504, 505, 506, 512, 513, 514, 515, 516, 517, 518, 519, 520, 521, 522, 523, 524, 525, 526, 527, 528, 529, 530, 531, 532, 533, 534, 535, 536, 537, 538, 539, 540, 541, 542, 543, 544, 545, 546, 547, 548, 549, 550] (by decide +kernel) (by decide +kernel)
set_option maxRecDepth 20000 in
theorem gL_refused_X5_bestOrder : GoodIn wsL_refused (wsV RL 80 RX5 yX5_bestOrder wsX5_bestOrder) := goodIn_app (goodIn_of _ (by decide +kernel)) ggL_refused_X5_bestOrder
set_option maxRecDepth 20000 in
theorem ggL_refused_X5_claimOf : GoodIn wsL_refused wsX5_claimOf := goodIn_r _ [97, 18, 98, 99, 100, 22, 101, 28, 48, 102, 103, 104, 105, 106, 49, 26, 107, 108, 109, 110, 111, 25, 112, 113, 114, 115, 27, 500, 501, 502, 503, 504, 505, 506, 512, 513, 514, 515, 516, 517, 518, 519, 529, 530, 531, 532, 533, 534, 535] (by decide +kernel) (by decide +kernel)
set_option maxRecDepth 20000 in
theorem gL_refused_X5_claimOf : GoodIn wsL_refused (wsV RL 26 RX5 yX5_claimOf wsX5_claimOf) := goodIn_app (goodIn_of _ (by decide +kernel)) ggL_refused_X5_claimOf
set_option maxRecDepth 20000 in
theorem ggL_refused_X5_docketAt : GoodIn wsL_refused wsX5_docketAt := goodIn_r _ [412, 71, 18, 73, 413, 414, 415, 22, 416, 25, 48, 49, 417, 418, 419, 420, 112, 113, 114, 115, 27, 104, 105, 500, 501, 502, 503, 504, 505, 506, 512, 513, 514, 515, 516, 517, 518, 519, 529, 530, 531, 532, 533, 534, 535] (by decide +kernel) (by decide +kernel)
set_option maxRecDepth 20000 in
theorem gL_refused_X5_docketAt : GoodIn wsL_refused (wsV RL 84 RX5 yX5_docketAt wsX5_docketAt) := goodIn_app (goodIn_of _ (by decide +kernel)) ggL_refused_X5_docketAt
set_option maxRecDepth 20000 in
theorem ggL_refused_X5_type : GoodIn wsL_refused wsX5_type := goodIn_r _ [424, 16, 425, 426, 427, 428, 429, 430, 431, 432, 433, 500, 501, 502, 503, 504, 505, 506, 507, 508, 509, 510, 511] (by decide +kernel) (by decide +kernel)
set_option maxRecDepth 20000 in
theorem gL_refused_X5_type : GoodIn wsL_refused (wsV RL 87 RX5 yX5_type wsX5_type) := goodIn_app (goodIn_of _ (by decide +kernel)) ggL_refused_X5_type
set_option maxRecDepth 20000 in
theorem ggL_refused_X5_fault : GoodIn wsL_refused wsX5_fault := goodIn_r _ [437, 71, 16, 224, 438, 73, 439, 120, 121, 122, 13, 123, 124, 18, 125, 126, 127, 22, 128, 27, 129, 130, 131, 132, 43, 133, 24, 33, 25, 48, 26, 134, 135, 136, 137, 138, 139, 140, 141, 142, 143, 144, 145, 146, 147, 148, 149, 150, 151, 152, 153, 154, 155, 156, 157, 158, 159, 440, 441, 442, 428, 443, 444, 445, 446, 431, 447, 448, 449, 450, 451, 452, 453, 454, 433, 455, 456, 457, 458, 459, 460, 461, 462, 463, 464, 465, 466, 467, 468, 469, 470, 471, 181, 103, 102, 106, 54, 472, 170, 171, 172, 473, 474, 475, 49, 476, 414, 415, 416, 417, 418, 419, 420, 112, 113, 114, 115, 104, 105, 108, 109, 110, 111, 59, 60, 61, 62, 326, 327, 328, 329, 334, 335, 336, 337, 338, 339, 340, 341, 34, 477, 478, 479, 480, 481, 482, 483, 484, 485, 486, 487, 488, 363, 364, 365, 28, 210, 190, 489, 490, 355, 356, 357, 107, 44, 45, 46, 47, 491, 492, 226, 227, 228, 229, 230, 231, 232, 233, 234, 235, 236, 237, 238, 239, 240, 241, 242, 243, 244, 245, 246, 247, 248, 249, 250, 251, 252, 86, 253, 254, 255, 256, 257, 258, 259, 260, 261, 262, 263, 264, 265, 266, 267, 268, 269, 270, 271, 272, 273, 274, 275, 276, 277, 278, 279, 280, 281, 282, 283, 284, 285, 286, 287, 288, 289, 290, 291, 292, 293, 294, 295, 296, 297, 298, 299, 300, 301, 302, 303, 304, 305, 306, 307, 493, 313, 314, 315, 316, 317, 318, 87, 319, 320, 321, 322, 323, 324, 325, 330, 331, 332, 333, 39, 40, 41, 42, 90, 91, 92, 93, 494, 347, 348, 349, 500, 501, 502, 503, 504, 505, 506, 507, 508, 509, 510, 511, 512, 513, 514, 515, 516, 517, 518, 519, 520, 521, 522, 523, 524, 525, 526, 527, 528, 529, 530, 531, 532, 533, 534, 535, 536, 537, 538, 539, 540, 541, 542, 543, 544, 545, 546, 547, 548, 549, 550] (by decide +kernel) (by decide +kernel)
set_option maxRecDepth 20000 in
theorem gL_refused_X5_fault : GoodIn wsL_refused (wsV RL 90 RX5 yX5_fault wsX5_fault) := goodIn_app (goodIn_of _ (by decide +kernel)) ggL_refused_X5_fault
set_option maxRecDepth 20000 in
theorem ggL_refused_X5_hear : GoodIn wsL_refused wsX5_hear := goodIn_r _ [498, 120, 121, 122, 13, 123, 124, 18, 125, 126, 127, 22, 128, 27, 129, 130, 131, 132, 43, 133, 24, 33, 25, 48, 26, 134, 135, 136, 137, 138, 139, 140, 141, 142, 143, 144, 145, 146, 147, 148, 149, 150, 151, 152, 153, 154, 155, 156, 157, 158, 159, 499, 469, 470, 471, 181, 103, 102, 106, 54, 472, 170, 171, 172, 473, 474, 475, 49, 476, 414, 415, 416, 417, 418, 419, 420, 112, 113, 114, 115, 104, 105, 108, 109, 110, 111, 59, 60, 61, 62, 326, 327, 328, 329, 334, 335, 336, 337, 338, 339, 340, 341, 34, 477, 478, 479, 480, 481, 482, 483, 484, 164, 165, 166, 167, 168, 15, 169, 500, 501, 502, 503, 504, 505, 506, 512, 513, 514, 515, 516, 517, 518, 519, 520, 521, 522, 523, 524, 525, 526, 527, 528, 529, 530, 531, 532, 533, 534, 535] (by decide +kernel) (by decide +kernel)
set_option maxRecDepth 20000 in
theorem gL_refused_X5_hear : GoodIn wsL_refused (wsV RL 94 RX5 yX5_hear wsX5_hear) := goodIn_app (goodIn_of _ (by decide +kernel)) ggL_refused_X5_hear
theorem dL_refused_0 : decode cL_refused 0 = .ok (.aload_n 0, 1) := by decide +kernel
theorem dL_refused_1 : decode cL_refused 1 = .ok (.invokestatic 29, 3) := by decide +kernel
theorem dL_refused_4 : decode cL_refused 4 = .ok (.lstore_n 1, 1) := by decide +kernel
theorem dL_refused_5 : decode cL_refused 5 = .ok (.aload_n 0, 1) := by decide +kernel
theorem dL_refused_6 : decode cL_refused 6 = .ok (.iconst 0, 1) := by decide +kernel
theorem dL_refused_7 : decode cL_refused 7 = .ok (.invokevirtual 13, 3) := by decide +kernel
theorem dL_refused_10 : decode cL_refused 10 = .ok (.istore_n 3, 1) := by decide +kernel
theorem dL_refused_11 : decode cL_refused 11 = .ok (.aload_n 0, 1) := by decide +kernel
theorem dL_refused_12 : decode cL_refused 12 = .ok (.iconst 4, 1) := by decide +kernel
theorem dL_refused_13 : decode cL_refused 13 = .ok (.invokevirtual 13, 3) := by decide +kernel
theorem dL_refused_16 : decode cL_refused 16 = .ok (.istore 4, 2) := by decide +kernel
theorem dL_refused_18 : decode cL_refused 18 = .ok (.aload_n 0, 1) := by decide +kernel
theorem dL_refused_19 : decode cL_refused 19 = .ok (.bipush 10, 2) := by decide +kernel
theorem dL_refused_21 : decode cL_refused 21 = .ok (.invokevirtual 13, 3) := by decide +kernel
theorem dL_refused_24 : decode cL_refused 24 = .ok (.istore 5, 2) := by decide +kernel
theorem dL_refused_26 : decode cL_refused 26 = .ok (.aload_n 0, 1) := by decide +kernel
theorem dL_refused_27 : decode cL_refused 27 = .ok (.iconst 4, 1) := by decide +kernel
theorem dL_refused_28 : decode cL_refused 28 = .ok (.iconst 1, 1) := by decide +kernel
theorem dL_refused_29 : decode cL_refused 29 = .ok (.invokevirtual 35, 3) := by decide +kernel
theorem dL_refused_32 : decode cL_refused 32 = .ok (.ldc 38, 2) := by decide +kernel
theorem dL_refused_34 : decode cL_refused 34 = .ok (.if_icmp .ne 225, 3) := by decide +kernel
theorem dL_refused_37 : decode cL_refused 37 = .ok (.aload_n 0, 1) := by decide +kernel
theorem dL_refused_38 : decode cL_refused 38 = .ok (.iconst 0, 1) := by decide +kernel
theorem dL_refused_39 : decode cL_refused 39 = .ok (.iconst 0, 1) := by decide +kernel
theorem dL_refused_40 : decode cL_refused 40 = .ok (.invokevirtual 35, 3) := by decide +kernel
theorem dL_refused_43 : decode cL_refused 43 = .ok (.ldc 38, 2) := by decide +kernel
theorem dL_refused_45 : decode cL_refused 45 = .ok (.if_icmp .ne 214, 3) := by decide +kernel
theorem dL_refused_48 : decode cL_refused 48 = .ok (.aload_n 0, 1) := by decide +kernel
theorem dL_refused_49 : decode cL_refused 49 = .ok (.iconst 0, 1) := by decide +kernel
theorem dL_refused_50 : decode cL_refused 50 = .ok (.bipush 21, 2) := by decide +kernel
theorem dL_refused_52 : decode cL_refused 52 = .ok (.invokevirtual 35, 3) := by decide +kernel
theorem dL_refused_55 : decode cL_refused 55 = .ok (.ldc 38, 2) := by decide +kernel
theorem dL_refused_57 : decode cL_refused 57 = .ok (.if_icmp .ne 202, 3) := by decide +kernel
theorem dL_refused_60 : decode cL_refused 60 = .ok (.aload_n 0, 1) := by decide +kernel
theorem dL_refused_61 : decode cL_refused 61 = .ok (.iconst 1, 1) := by decide +kernel
theorem dL_refused_62 : decode cL_refused 62 = .ok (.bipush 51, 2) := by decide +kernel
theorem dL_refused_64 : decode cL_refused 64 = .ok (.invokevirtual 35, 3) := by decide +kernel
theorem dL_refused_67 : decode cL_refused 67 = .ok (.ldc 38, 2) := by decide +kernel
theorem dL_refused_69 : decode cL_refused 69 = .ok (.if_icmp .ne 190, 3) := by decide +kernel
theorem dL_refused_72 : decode cL_refused 72 = .ok (.aload_n 0, 1) := by decide +kernel
theorem dL_refused_73 : decode cL_refused 73 = .ok (.iconst 2, 1) := by decide +kernel
theorem dL_refused_74 : decode cL_refused 74 = .ok (.iconst (-1), 1) := by decide +kernel
theorem dL_refused_75 : decode cL_refused 75 = .ok (.invokevirtual 35, 3) := by decide +kernel
theorem dL_refused_78 : decode cL_refused 78 = .ok (.ldc 38, 2) := by decide +kernel
theorem dL_refused_80 : decode cL_refused 80 = .ok (.if_icmp .ne 179, 3) := by decide +kernel
theorem dL_refused_83 : decode cL_refused 83 = .ok (.aload_n 0, 1) := by decide +kernel
theorem dL_refused_84 : decode cL_refused 84 = .ok (.iconst 3, 1) := by decide +kernel
theorem dL_refused_85 : decode cL_refused 85 = .ok (.iconst 0, 1) := by decide +kernel
theorem dL_refused_86 : decode cL_refused 86 = .ok (.invokevirtual 35, 3) := by decide +kernel
theorem dL_refused_89 : decode cL_refused 89 = .ok (.ldc 38, 2) := by decide +kernel
theorem dL_refused_91 : decode cL_refused 91 = .ok (.if_icmp .ne 168, 3) := by decide +kernel
theorem dL_refused_94 : decode cL_refused 94 = .ok (.aload_n 0, 1) := by decide +kernel
theorem dL_refused_95 : decode cL_refused 95 = .ok (.bipush 81, 2) := by decide +kernel
theorem dL_refused_97 : decode cL_refused 97 = .ok (.iconst 1, 1) := by decide +kernel
theorem dL_refused_98 : decode cL_refused 98 = .ok (.invokevirtual 39, 3) := by decide +kernel
theorem dL_refused_101 : decode cL_refused 101 = .ok (.ldc 38, 2) := by decide +kernel
theorem dL_refused_103 : decode cL_refused 103 = .ok (.if_icmp .ne 156, 3) := by decide +kernel
theorem dL_refused_106 : decode cL_refused 106 = .ok (.aload_n 0, 1) := by decide +kernel
theorem dL_refused_107 : decode cL_refused 107 = .ok (.iconst 0, 1) := by decide +kernel
theorem dL_refused_108 : decode cL_refused 108 = .ok (.iconst 2, 1) := by decide +kernel
theorem dL_refused_109 : decode cL_refused 109 = .ok (.invokevirtual 39, 3) := by decide +kernel
theorem dL_refused_112 : decode cL_refused 112 = .ok (.ldc 38, 2) := by decide +kernel
theorem dL_refused_114 : decode cL_refused 114 = .ok (.if_icmp .ne 145, 3) := by decide +kernel
theorem dL_refused_117 : decode cL_refused 117 = .ok (.aload_n 0, 1) := by decide +kernel
theorem dL_refused_118 : decode cL_refused 118 = .ok (.iconst 0, 1) := by decide +kernel
theorem dL_refused_119 : decode cL_refused 119 = .ok (.bipush 81, 2) := by decide +kernel
theorem dL_refused_121 : decode cL_refused 121 = .ok (.iconst (-1), 1) := by decide +kernel
theorem dL_refused_122 : decode cL_refused 122 = .ok (.iconst 0, 1) := by decide +kernel
theorem dL_refused_123 : decode cL_refused 123 = .ok (.iconst 0, 1) := by decide +kernel
theorem dL_refused_124 : decode cL_refused 124 = .ok (.invokevirtual 42, 3) := by decide +kernel
theorem dL_refused_127 : decode cL_refused 127 = .ok (.ldc 38, 2) := by decide +kernel
theorem dL_refused_129 : decode cL_refused 129 = .ok (.if_icmp .ne 130, 3) := by decide +kernel
theorem dL_refused_132 : decode cL_refused 132 = .ok (.aload_n 0, 1) := by decide +kernel
theorem dL_refused_133 : decode cL_refused 133 = .ok (.iconst 5, 1) := by decide +kernel
theorem dL_refused_134 : decode cL_refused 134 = .ok (.iconst 5, 1) := by decide +kernel
theorem dL_refused_135 : decode cL_refused 135 = .ok (.iconst (-1), 1) := by decide +kernel
theorem dL_refused_136 : decode cL_refused 136 = .ok (.iconst 0, 1) := by decide +kernel
theorem dL_refused_137 : decode cL_refused 137 = .ok (.iconst 0, 1) := by decide +kernel
theorem dL_refused_138 : decode cL_refused 138 = .ok (.invokevirtual 42, 3) := by decide +kernel
theorem dL_refused_141 : decode cL_refused 141 = .ok (.ldc 38, 2) := by decide +kernel
theorem dL_refused_143 : decode cL_refused 143 = .ok (.if_icmp .ne 116, 3) := by decide +kernel
theorem dL_refused_146 : decode cL_refused 146 = .ok (.aload_n 0, 1) := by decide +kernel
theorem dL_refused_147 : decode cL_refused 147 = .ok (.iconst 5, 1) := by decide +kernel
theorem dL_refused_148 : decode cL_refused 148 = .ok (.bipush 6, 2) := by decide +kernel
theorem dL_refused_150 : decode cL_refused 150 = .ok (.iconst 5, 1) := by decide +kernel
theorem dL_refused_151 : decode cL_refused 151 = .ok (.iconst 0, 1) := by decide +kernel
theorem dL_refused_152 : decode cL_refused 152 = .ok (.iconst 0, 1) := by decide +kernel
theorem dL_refused_153 : decode cL_refused 153 = .ok (.invokevirtual 42, 3) := by decide +kernel
theorem dL_refused_156 : decode cL_refused 156 = .ok (.ldc 38, 2) := by decide +kernel
theorem dL_refused_158 : decode cL_refused 158 = .ok (.if_icmp .ne 101, 3) := by decide +kernel
theorem dL_refused_161 : decode cL_refused 161 = .ok (.aload_n 0, 1) := by decide +kernel
theorem dL_refused_162 : decode cL_refused 162 = .ok (.iconst 5, 1) := by decide +kernel
theorem dL_refused_163 : decode cL_refused 163 = .ok (.bipush 6, 2) := by decide +kernel
theorem dL_refused_165 : decode cL_refused 165 = .ok (.bipush (-2), 2) := by decide +kernel
theorem dL_refused_167 : decode cL_refused 167 = .ok (.iconst 0, 1) := by decide +kernel
theorem dL_refused_168 : decode cL_refused 168 = .ok (.iconst 0, 1) := by decide +kernel
theorem dL_refused_169 : decode cL_refused 169 = .ok (.invokevirtual 42, 3) := by decide +kernel
theorem dL_refused_172 : decode cL_refused 172 = .ok (.ldc 38, 2) := by decide +kernel
theorem dL_refused_174 : decode cL_refused 174 = .ok (.if_icmp .ne 85, 3) := by decide +kernel
theorem dL_refused_177 : decode cL_refused 177 = .ok (.aload_n 0, 1) := by decide +kernel
theorem dL_refused_178 : decode cL_refused 178 = .ok (.iconst 5, 1) := by decide +kernel
theorem dL_refused_179 : decode cL_refused 179 = .ok (.bipush 6, 2) := by decide +kernel
theorem dL_refused_181 : decode cL_refused 181 = .ok (.iconst (-1), 1) := by decide +kernel
theorem dL_refused_182 : decode cL_refused 182 = .ok (.bipush 10, 2) := by decide +kernel
theorem dL_refused_184 : decode cL_refused 184 = .ok (.iconst 0, 1) := by decide +kernel
theorem dL_refused_185 : decode cL_refused 185 = .ok (.invokevirtual 42, 3) := by decide +kernel
theorem dL_refused_188 : decode cL_refused 188 = .ok (.ldc 38, 2) := by decide +kernel
theorem dL_refused_190 : decode cL_refused 190 = .ok (.if_icmp .ne 69, 3) := by decide +kernel
theorem dL_refused_193 : decode cL_refused 193 = .ok (.aload_n 0, 1) := by decide +kernel
theorem dL_refused_194 : decode cL_refused 194 = .ok (.iconst 5, 1) := by decide +kernel
theorem dL_refused_195 : decode cL_refused 195 = .ok (.bipush 6, 2) := by decide +kernel
theorem dL_refused_197 : decode cL_refused 197 = .ok (.iconst (-1), 1) := by decide +kernel
theorem dL_refused_198 : decode cL_refused 198 = .ok (.iconst 0, 1) := by decide +kernel
theorem dL_refused_199 : decode cL_refused 199 = .ok (.sipush 10000, 3) := by decide +kernel
theorem dL_refused_202 : decode cL_refused 202 = .ok (.invokevirtual 42, 3) := by decide +kernel
theorem dL_refused_205 : decode cL_refused 205 = .ok (.ldc 38, 2) := by decide +kernel
theorem dL_refused_207 : decode cL_refused 207 = .ok (.if_icmp .ne 52, 3) := by decide +kernel
theorem dL_refused_210 : decode cL_refused 210 = .ok (.aload_n 0, 1) := by decide +kernel
theorem dL_refused_211 : decode cL_refused 211 = .ok (.iload_n 3, 1) := by decide +kernel
theorem dL_refused_212 : decode cL_refused 212 = .ok (.iconst 1, 1) := by decide +kernel
theorem dL_refused_213 : decode cL_refused 213 = .ok (.invokevirtual 46, 3) := by decide +kernel
theorem dL_refused_216 : decode cL_refused 216 = .ok (.ldc 38, 2) := by decide +kernel
theorem dL_refused_218 : decode cL_refused 218 = .ok (.if_icmp .ne 41, 3) := by decide +kernel
theorem dL_refused_221 : decode cL_refused 221 = .ok (.aload_n 0, 1) := by decide +kernel
theorem dL_refused_222 : decode cL_refused 222 = .ok (.iload_n 3, 1) := by decide +kernel
theorem dL_refused_223 : decode cL_refused 223 = .ok (.iconst 0, 1) := by decide +kernel
theorem dL_refused_224 : decode cL_refused 224 = .ok (.invokevirtual 22, 3) := by decide +kernel
theorem dL_refused_227 : decode cL_refused 227 = .ok (.ldc 38, 2) := by decide +kernel
theorem dL_refused_229 : decode cL_refused 229 = .ok (.if_icmp .ne 30, 3) := by decide +kernel
theorem dL_refused_232 : decode cL_refused 232 = .ok (.aload_n 0, 1) := by decide +kernel
theorem dL_refused_233 : decode cL_refused 233 = .ok (.sipush 162, 3) := by decide +kernel
theorem dL_refused_236 : decode cL_refused 236 = .ok (.invokevirtual 19, 3) := by decide +kernel
theorem dL_refused_239 : decode cL_refused 239 = .ok (.ldc 38, 2) := by decide +kernel
theorem dL_refused_241 : decode cL_refused 241 = .ok (.if_icmp .ne 18, 3) := by decide +kernel
theorem dL_refused_244 : decode cL_refused 244 = .ok (.aload_n 0, 1) := by decide +kernel
theorem dL_refused_245 : decode cL_refused 245 = .ok (.iload_n 3, 1) := by decide +kernel
theorem dL_refused_246 : decode cL_refused 246 = .ok (.iconst 0, 1) := by decide +kernel
theorem dL_refused_247 : decode cL_refused 247 = .ok (.invokevirtual 49, 3) := by decide +kernel
theorem dL_refused_250 : decode cL_refused 250 = .ok (.ldc 38, 2) := by decide +kernel
theorem dL_refused_252 : decode cL_refused 252 = .ok (.if_icmp .ne 7, 3) := by decide +kernel
theorem dL_refused_255 : decode cL_refused 255 = .ok (.iconst 1, 1) := by decide +kernel
theorem dL_refused_256 : decode cL_refused 256 = .ok (.goto 4, 3) := by decide +kernel
theorem dL_refused_259 : decode cL_refused 259 = .ok (.iconst 0, 1) := by decide +kernel
theorem dL_refused_260 : decode cL_refused 260 = .ok (.istore 6, 2) := by decide +kernel
theorem dL_refused_262 : decode cL_refused 262 = .ok (.iload 6, 2) := by decide +kernel
theorem dL_refused_264 : decode cL_refused 264 = .ok (.ifCond .eq 212, 3) := by decide +kernel
theorem dL_refused_267 : decode cL_refused 267 = .ok (.aload_n 0, 1) := by decide +kernel
theorem dL_refused_268 : decode cL_refused 268 = .ok (.iload_n 3, 1) := by decide +kernel
theorem dL_refused_269 : decode cL_refused 269 = .ok (.invokevirtual 52, 3) := by decide +kernel
theorem dL_refused_272 : decode cL_refused 272 = .ok (.ldc 38, 2) := by decide +kernel
theorem dL_refused_274 : decode cL_refused 274 = .ok (.if_icmp .ne 202, 3) := by decide +kernel
theorem dL_refused_277 : decode cL_refused 277 = .ok (.aload_n 0, 1) := by decide +kernel
theorem dL_refused_278 : decode cL_refused 278 = .ok (.iconst (-1), 1) := by decide +kernel
theorem dL_refused_279 : decode cL_refused 279 = .ok (.invokevirtual 55, 3) := by decide +kernel
theorem dL_refused_282 : decode cL_refused 282 = .ok (.ldc 38, 2) := by decide +kernel
theorem dL_refused_284 : decode cL_refused 284 = .ok (.if_icmp .ne 192, 3) := by decide +kernel
theorem dL_refused_287 : decode cL_refused 287 = .ok (.aload_n 0, 1) := by decide +kernel
theorem dL_refused_288 : decode cL_refused 288 = .ok (.iload_n 3, 1) := by decide +kernel
theorem dL_refused_289 : decode cL_refused 289 = .ok (.invokevirtual 58, 3) := by decide +kernel
theorem dL_refused_292 : decode cL_refused 292 = .ok (.ldc 38, 2) := by decide +kernel
theorem dL_refused_294 : decode cL_refused 294 = .ok (.if_icmp .ne 182, 3) := by decide +kernel
theorem dL_refused_297 : decode cL_refused 297 = .ok (.aload_n 0, 1) := by decide +kernel
theorem dL_refused_298 : decode cL_refused 298 = .ok (.iload 4, 2) := by decide +kernel
theorem dL_refused_300 : decode cL_refused 300 = .ok (.invokevirtual 61, 3) := by decide +kernel
theorem dL_refused_303 : decode cL_refused 303 = .ok (.ldc 38, 2) := by decide +kernel
theorem dL_refused_305 : decode cL_refused 305 = .ok (.if_icmp .ne 171, 3) := by decide +kernel
theorem dL_refused_308 : decode cL_refused 308 = .ok (.aload_n 0, 1) := by decide +kernel
theorem dL_refused_309 : decode cL_refused 309 = .ok (.iconst 0, 1) := by decide +kernel
theorem dL_refused_310 : decode cL_refused 310 = .ok (.invokevirtual 64, 3) := by decide +kernel
theorem dL_refused_313 : decode cL_refused 313 = .ok (.ldc 38, 2) := by decide +kernel
theorem dL_refused_315 : decode cL_refused 315 = .ok (.if_icmp .ne 161, 3) := by decide +kernel
theorem dL_refused_318 : decode cL_refused 318 = .ok (.aload_n 0, 1) := by decide +kernel
theorem dL_refused_319 : decode cL_refused 319 = .ok (.bipush 51, 2) := by decide +kernel
theorem dL_refused_321 : decode cL_refused 321 = .ok (.invokevirtual 64, 3) := by decide +kernel
theorem dL_refused_324 : decode cL_refused 324 = .ok (.ldc 38, 2) := by decide +kernel
theorem dL_refused_326 : decode cL_refused 326 = .ok (.if_icmp .ne 150, 3) := by decide +kernel
theorem dL_refused_329 : decode cL_refused 329 = .ok (.aload_n 0, 1) := by decide +kernel
theorem dL_refused_330 : decode cL_refused 330 = .ok (.iload_n 3, 1) := by decide +kernel
theorem dL_refused_331 : decode cL_refused 331 = .ok (.iconst 0, 1) := by decide +kernel
theorem dL_refused_332 : decode cL_refused 332 = .ok (.invokevirtual 67, 3) := by decide +kernel
theorem dL_refused_335 : decode cL_refused 335 = .ok (.ldc 38, 2) := by decide +kernel
theorem dL_refused_337 : decode cL_refused 337 = .ok (.if_icmp .ne 139, 3) := by decide +kernel
theorem dL_refused_340 : decode cL_refused 340 = .ok (.aload_n 0, 1) := by decide +kernel
theorem dL_refused_341 : decode cL_refused 341 = .ok (.iload_n 3, 1) := by decide +kernel
theorem dL_refused_342 : decode cL_refused 342 = .ok (.invokevirtual 70, 3) := by decide +kernel
theorem dL_refused_345 : decode cL_refused 345 = .ok (.ldc 38, 2) := by decide +kernel
theorem dL_refused_347 : decode cL_refused 347 = .ok (.if_icmp .ne 129, 3) := by decide +kernel
theorem dL_refused_350 : decode cL_refused 350 = .ok (.aload_n 0, 1) := by decide +kernel
theorem dL_refused_351 : decode cL_refused 351 = .ok (.iconst (-1), 1) := by decide +kernel
theorem dL_refused_352 : decode cL_refused 352 = .ok (.invokevirtual 73, 3) := by decide +kernel
theorem dL_refused_355 : decode cL_refused 355 = .ok (.ldc 38, 2) := by decide +kernel
theorem dL_refused_357 : decode cL_refused 357 = .ok (.if_icmp .ne 119, 3) := by decide +kernel
theorem dL_refused_360 : decode cL_refused 360 = .ok (.aload_n 0, 1) := by decide +kernel
theorem dL_refused_361 : decode cL_refused 361 = .ok (.iload_n 3, 1) := by decide +kernel
theorem dL_refused_362 : decode cL_refused 362 = .ok (.iconst 0, 1) := by decide +kernel
theorem dL_refused_363 : decode cL_refused 363 = .ok (.iconst 0, 1) := by decide +kernel
theorem dL_refused_364 : decode cL_refused 364 = .ok (.invokevirtual 76, 3) := by decide +kernel
theorem dL_refused_367 : decode cL_refused 367 = .ok (.ldc 38, 2) := by decide +kernel
theorem dL_refused_369 : decode cL_refused 369 = .ok (.if_icmp .ne 107, 3) := by decide +kernel
theorem dL_refused_372 : decode cL_refused 372 = .ok (.aload_n 0, 1) := by decide +kernel
theorem dL_refused_373 : decode cL_refused 373 = .ok (.bipush (-2), 2) := by decide +kernel
theorem dL_refused_375 : decode cL_refused 375 = .ok (.invokevirtual 80, 3) := by decide +kernel
theorem dL_refused_378 : decode cL_refused 378 = .ok (.ldc 38, 2) := by decide +kernel
theorem dL_refused_380 : decode cL_refused 380 = .ok (.if_icmp .ne 96, 3) := by decide +kernel
theorem dL_refused_383 : decode cL_refused 383 = .ok (.aload_n 0, 1) := by decide +kernel
theorem dL_refused_384 : decode cL_refused 384 = .ok (.iconst 3, 1) := by decide +kernel
theorem dL_refused_385 : decode cL_refused 385 = .ok (.invokevirtual 80, 3) := by decide +kernel
theorem dL_refused_388 : decode cL_refused 388 = .ok (.ldc 83, 2) := by decide +kernel
theorem dL_refused_390 : decode cL_refused 390 = .ok (.if_icmp .ne 86, 3) := by decide +kernel
theorem dL_refused_393 : decode cL_refused 393 = .ok (.aload_n 0, 1) := by decide +kernel
theorem dL_refused_394 : decode cL_refused 394 = .ok (.iload 4, 2) := by decide +kernel
theorem dL_refused_396 : decode cL_refused 396 = .ok (.iconst 0, 1) := by decide +kernel
theorem dL_refused_397 : decode cL_refused 397 = .ok (.invokevirtual 26, 3) := by decide +kernel
theorem dL_refused_400 : decode cL_refused 400 = .ok (.ldc 38, 2) := by decide +kernel
theorem dL_refused_402 : decode cL_refused 402 = .ok (.if_icmp .ne 74, 3) := by decide +kernel
theorem dL_refused_405 : decode cL_refused 405 = .ok (.aload_n 0, 1) := by decide +kernel
theorem dL_refused_406 : decode cL_refused 406 = .ok (.iconst (-1), 1) := by decide +kernel
theorem dL_refused_407 : decode cL_refused 407 = .ok (.invokevirtual 84, 3) := by decide +kernel
theorem dL_refused_410 : decode cL_refused 410 = .ok (.ldc 38, 2) := by decide +kernel
theorem dL_refused_412 : decode cL_refused 412 = .ok (.if_icmp .ne 64, 3) := by decide +kernel
theorem dL_refused_415 : decode cL_refused 415 = .ok (.aload_n 0, 1) := by decide +kernel
theorem dL_refused_416 : decode cL_refused 416 = .ok (.aload_n 0, 1) := by decide +kernel
theorem dL_refused_417 : decode cL_refused 417 = .ok (.iconst 5, 1) := by decide +kernel
theorem dL_refused_418 : decode cL_refused 418 = .ok (.invokevirtual 13, 3) := by decide +kernel
theorem dL_refused_421 : decode cL_refused 421 = .ok (.invokevirtual 84, 3) := by decide +kernel
theorem dL_refused_424 : decode cL_refused 424 = .ok (.ldc 83, 2) := by decide +kernel
theorem dL_refused_426 : decode cL_refused 426 = .ok (.if_icmp .ne 50, 3) := by decide +kernel
theorem dL_refused_429 : decode cL_refused 429 = .ok (.aload_n 0, 1) := by decide +kernel
theorem dL_refused_430 : decode cL_refused 430 = .ok (.bipush 12, 2) := by decide +kernel
theorem dL_refused_432 : decode cL_refused 432 = .ok (.invokevirtual 13, 3) := by decide +kernel
theorem dL_refused_435 : decode cL_refused 435 = .ok (.ldc 38, 2) := by decide +kernel
theorem dL_refused_437 : decode cL_refused 437 = .ok (.if_icmp .ne 39, 3) := by decide +kernel
theorem dL_refused_440 : decode cL_refused 440 = .ok (.aload_n 0, 1) := by decide +kernel
theorem dL_refused_441 : decode cL_refused 441 = .ok (.bipush 24, 2) := by decide +kernel
theorem dL_refused_443 : decode cL_refused 443 = .ok (.invokevirtual 13, 3) := by decide +kernel
theorem dL_refused_446 : decode cL_refused 446 = .ok (.ldc 38, 2) := by decide +kernel
theorem dL_refused_448 : decode cL_refused 448 = .ok (.if_icmp .ne 28, 3) := by decide +kernel
theorem dL_refused_451 : decode cL_refused 451 = .ok (.aload_n 0, 1) := by decide +kernel
theorem dL_refused_452 : decode cL_refused 452 = .ok (.bipush 31, 2) := by decide +kernel
theorem dL_refused_454 : decode cL_refused 454 = .ok (.invokevirtual 87, 3) := by decide +kernel
theorem dL_refused_457 : decode cL_refused 457 = .ok (.ldc 38, 2) := by decide +kernel
theorem dL_refused_459 : decode cL_refused 459 = .ok (.if_icmp .ne 17, 3) := by decide +kernel
theorem dL_refused_462 : decode cL_refused 462 = .ok (.aload_n 0, 1) := by decide +kernel
theorem dL_refused_463 : decode cL_refused 463 = .ok (.iconst 2, 1) := by decide +kernel
theorem dL_refused_464 : decode cL_refused 464 = .ok (.invokevirtual 90, 3) := by decide +kernel
theorem dL_refused_467 : decode cL_refused 467 = .ok (.ldc 38, 2) := by decide +kernel
theorem dL_refused_469 : decode cL_refused 469 = .ok (.if_icmp .ne 7, 3) := by decide +kernel
theorem dL_refused_472 : decode cL_refused 472 = .ok (.iconst 1, 1) := by decide +kernel
theorem dL_refused_473 : decode cL_refused 473 = .ok (.goto 4, 3) := by decide +kernel
theorem dL_refused_476 : decode cL_refused 476 = .ok (.iconst 0, 1) := by decide +kernel
theorem dL_refused_477 : decode cL_refused 477 = .ok (.istore 6, 2) := by decide +kernel
theorem dL_refused_479 : decode cL_refused 479 = .ok (.iload_n 3, 1) := by decide +kernel
theorem dL_refused_480 : decode cL_refused 480 = .ok (.ifCond .le 185, 3) := by decide +kernel
theorem dL_refused_483 : decode cL_refused 483 = .ok (.iload 6, 2) := by decide +kernel
theorem dL_refused_485 : decode cL_refused 485 = .ok (.ifCond .eq 177, 3) := by decide +kernel
theorem dL_refused_488 : decode cL_refused 488 = .ok (.aload_n 0, 1) := by decide +kernel
theorem dL_refused_489 : decode cL_refused 489 = .ok (.iconst 0, 1) := by decide +kernel
theorem dL_refused_490 : decode cL_refused 490 = .ok (.iconst 0, 1) := by decide +kernel
theorem dL_refused_491 : decode cL_refused 491 = .ok (.invokevirtual 46, 3) := by decide +kernel
theorem dL_refused_494 : decode cL_refused 494 = .ok (.ldc 38, 2) := by decide +kernel
theorem dL_refused_496 : decode cL_refused 496 = .ok (.if_icmp .ne 166, 3) := by decide +kernel
theorem dL_refused_499 : decode cL_refused 499 = .ok (.aload_n 0, 1) := by decide +kernel
theorem dL_refused_500 : decode cL_refused 500 = .ok (.iconst 0, 1) := by decide +kernel
theorem dL_refused_501 : decode cL_refused 501 = .ok (.bipush 11, 2) := by decide +kernel
theorem dL_refused_503 : decode cL_refused 503 = .ok (.invokevirtual 22, 3) := by decide +kernel
theorem dL_refused_506 : decode cL_refused 506 = .ok (.ldc 38, 2) := by decide +kernel
theorem dL_refused_508 : decode cL_refused 508 = .ok (.if_icmp .ne 154, 3) := by decide +kernel
theorem dL_refused_511 : decode cL_refused 511 = .ok (.aload_n 0, 1) := by decide +kernel
theorem dL_refused_512 : decode cL_refused 512 = .ok (.iconst 0, 1) := by decide +kernel
theorem dL_refused_513 : decode cL_refused 513 = .ok (.iconst (-1), 1) := by decide +kernel
theorem dL_refused_514 : decode cL_refused 514 = .ok (.invokevirtual 49, 3) := by decide +kernel
theorem dL_refused_517 : decode cL_refused 517 = .ok (.ldc 38, 2) := by decide +kernel
theorem dL_refused_519 : decode cL_refused 519 = .ok (.if_icmp .ne 143, 3) := by decide +kernel
theorem dL_refused_522 : decode cL_refused 522 = .ok (.aload_n 0, 1) := by decide +kernel
theorem dL_refused_523 : decode cL_refused 523 = .ok (.iconst 0, 1) := by decide +kernel
theorem dL_refused_524 : decode cL_refused 524 = .ok (.iconst 2, 1) := by decide +kernel
theorem dL_refused_525 : decode cL_refused 525 = .ok (.invokevirtual 67, 3) := by decide +kernel
theorem dL_refused_528 : decode cL_refused 528 = .ok (.ldc 38, 2) := by decide +kernel
theorem dL_refused_530 : decode cL_refused 530 = .ok (.if_icmp .ne 132, 3) := by decide +kernel
theorem dL_refused_533 : decode cL_refused 533 = .ok (.aload_n 0, 1) := by decide +kernel
theorem dL_refused_534 : decode cL_refused 534 = .ok (.iconst 0, 1) := by decide +kernel
theorem dL_refused_535 : decode cL_refused 535 = .ok (.iconst 0, 1) := by decide +kernel
theorem dL_refused_536 : decode cL_refused 536 = .ok (.iconst (-1), 1) := by decide +kernel
theorem dL_refused_537 : decode cL_refused 537 = .ok (.invokevirtual 76, 3) := by decide +kernel
theorem dL_refused_540 : decode cL_refused 540 = .ok (.ldc 38, 2) := by decide +kernel
theorem dL_refused_542 : decode cL_refused 542 = .ok (.if_icmp .ne 120, 3) := by decide +kernel
theorem dL_refused_545 : decode cL_refused 545 = .ok (.aload_n 0, 1) := by decide +kernel
theorem dL_refused_546 : decode cL_refused 546 = .ok (.aload_n 0, 1) := by decide +kernel
theorem dL_refused_547 : decode cL_refused 547 = .ok (.iconst 0, 1) := by decide +kernel
theorem dL_refused_548 : decode cL_refused 548 = .ok (.iconst 0, 1) := by decide +kernel
theorem dL_refused_549 : decode cL_refused 549 = .ok (.invokevirtual 22, 3) := by decide +kernel
theorem dL_refused_552 : decode cL_refused 552 = .ok (.iconst 1, 1) := by decide +kernel
theorem dL_refused_553 : decode cL_refused 553 = .ok (.invokevirtual 39, 3) := by decide +kernel
theorem dL_refused_556 : decode cL_refused 556 = .ok (.ldc 93, 2) := by decide +kernel
theorem dL_refused_558 : decode cL_refused 558 = .ok (.if_icmp .ne 104, 3) := by decide +kernel
theorem dL_refused_561 : decode cL_refused 561 = .ok (.aload_n 0, 1) := by decide +kernel
theorem dL_refused_562 : decode cL_refused 562 = .ok (.aload_n 0, 1) := by decide +kernel
theorem dL_refused_563 : decode cL_refused 563 = .ok (.iconst 0, 1) := by decide +kernel
theorem dL_refused_564 : decode cL_refused 564 = .ok (.iconst 1, 1) := by decide +kernel
theorem dL_refused_565 : decode cL_refused 565 = .ok (.invokevirtual 22, 3) := by decide +kernel
theorem dL_refused_568 : decode cL_refused 568 = .ok (.iconst 0, 1) := by decide +kernel
theorem dL_refused_569 : decode cL_refused 569 = .ok (.invokevirtual 39, 3) := by decide +kernel
theorem dL_refused_572 : decode cL_refused 572 = .ok (.ldc 93, 2) := by decide +kernel
theorem dL_refused_574 : decode cL_refused 574 = .ok (.if_icmp .ne 88, 3) := by decide +kernel
theorem dL_refused_577 : decode cL_refused 577 = .ok (.aload_n 0, 1) := by decide +kernel
theorem dL_refused_578 : decode cL_refused 578 = .ok (.iconst 0, 1) := by decide +kernel
theorem dL_refused_579 : decode cL_refused 579 = .ok (.aload_n 0, 1) := by decide +kernel
theorem dL_refused_580 : decode cL_refused 580 = .ok (.iconst 0, 1) := by decide +kernel
theorem dL_refused_581 : decode cL_refused 581 = .ok (.bipush 6, 2) := by decide +kernel
theorem dL_refused_583 : decode cL_refused 583 = .ok (.invokevirtual 22, 3) := by decide +kernel
theorem dL_refused_586 : decode cL_refused 586 = .ok (.invokevirtual 49, 3) := by decide +kernel
theorem dL_refused_589 : decode cL_refused 589 = .ok (.ldc 83, 2) := by decide +kernel
theorem dL_refused_591 : decode cL_refused 591 = .ok (.if_icmp .ne 71, 3) := by decide +kernel
theorem dL_refused_594 : decode cL_refused 594 = .ok (.aload_n 0, 1) := by decide +kernel
theorem dL_refused_595 : decode cL_refused 595 = .ok (.iconst 0, 1) := by decide +kernel
theorem dL_refused_596 : decode cL_refused 596 = .ok (.iconst 5, 1) := by decide +kernel
theorem dL_refused_597 : decode cL_refused 597 = .ok (.invokevirtual 22, 3) := by decide +kernel
theorem dL_refused_600 : decode cL_refused 600 = .ok (.iconst 1, 1) := by decide +kernel
theorem dL_refused_601 : decode cL_refused 601 = .ok (.if_icmp .ne 47, 3) := by decide +kernel
theorem dL_refused_604 : decode cL_refused 604 = .ok (.aload_n 0, 1) := by decide +kernel
theorem dL_refused_605 : decode cL_refused 605 = .ok (.iconst 0, 1) := by decide +kernel
theorem dL_refused_606 : decode cL_refused 606 = .ok (.invokevirtual 52, 3) := by decide +kernel
theorem dL_refused_609 : decode cL_refused 609 = .ok (.ldc 93, 2) := by decide +kernel
theorem dL_refused_611 : decode cL_refused 611 = .ok (.if_icmp .ne 51, 3) := by decide +kernel
theorem dL_refused_614 : decode cL_refused 614 = .ok (.aload_n 0, 1) := by decide +kernel
theorem dL_refused_615 : decode cL_refused 615 = .ok (.iconst 0, 1) := by decide +kernel
theorem dL_refused_616 : decode cL_refused 616 = .ok (.invokevirtual 55, 3) := by decide +kernel
theorem dL_refused_619 : decode cL_refused 619 = .ok (.ldc 93, 2) := by decide +kernel
theorem dL_refused_621 : decode cL_refused 621 = .ok (.if_icmp .ne 41, 3) := by decide +kernel
theorem dL_refused_624 : decode cL_refused 624 = .ok (.aload_n 0, 1) := by decide +kernel
theorem dL_refused_625 : decode cL_refused 625 = .ok (.iconst 0, 1) := by decide +kernel
theorem dL_refused_626 : decode cL_refused 626 = .ok (.iconst 1, 1) := by decide +kernel
theorem dL_refused_627 : decode cL_refused 627 = .ok (.invokevirtual 67, 3) := by decide +kernel
theorem dL_refused_630 : decode cL_refused 630 = .ok (.ldc 93, 2) := by decide +kernel
theorem dL_refused_632 : decode cL_refused 632 = .ok (.if_icmp .ne 30, 3) := by decide +kernel
theorem dL_refused_635 : decode cL_refused 635 = .ok (.aload_n 0, 1) := by decide +kernel
theorem dL_refused_636 : decode cL_refused 636 = .ok (.iconst 0, 1) := by decide +kernel
theorem dL_refused_637 : decode cL_refused 637 = .ok (.invokevirtual 70, 3) := by decide +kernel
theorem dL_refused_640 : decode cL_refused 640 = .ok (.ldc 93, 2) := by decide +kernel
theorem dL_refused_642 : decode cL_refused 642 = .ok (.if_icmp .ne 20, 3) := by decide +kernel
theorem dL_refused_645 : decode cL_refused 645 = .ok (.goto 13, 3) := by decide +kernel
theorem dL_refused_648 : decode cL_refused 648 = .ok (.aload_n 0, 1) := by decide +kernel
theorem dL_refused_649 : decode cL_refused 649 = .ok (.iconst 0, 1) := by decide +kernel
theorem dL_refused_650 : decode cL_refused 650 = .ok (.invokevirtual 58, 3) := by decide +kernel
theorem dL_refused_653 : decode cL_refused 653 = .ok (.ldc 93, 2) := by decide +kernel
theorem dL_refused_655 : decode cL_refused 655 = .ok (.if_icmp .ne 7, 3) := by decide +kernel
theorem dL_refused_658 : decode cL_refused 658 = .ok (.iconst 1, 1) := by decide +kernel
theorem dL_refused_659 : decode cL_refused 659 = .ok (.goto 4, 3) := by decide +kernel
theorem dL_refused_662 : decode cL_refused 662 = .ok (.iconst 0, 1) := by decide +kernel
theorem dL_refused_663 : decode cL_refused 663 = .ok (.istore 6, 2) := by decide +kernel
theorem dL_refused_665 : decode cL_refused 665 = .ok (.iload 6, 2) := by decide +kernel
theorem dL_refused_667 : decode cL_refused 667 = .ok (.ifCond .eq 44, 3) := by decide +kernel
theorem dL_refused_670 : decode cL_refused 670 = .ok (.aload_n 0, 1) := by decide +kernel
theorem dL_refused_671 : decode cL_refused 671 = .ok (.iconst 5, 1) := by decide +kernel
theorem dL_refused_672 : decode cL_refused 672 = .ok (.invokevirtual 13, 3) := by decide +kernel
theorem dL_refused_675 : decode cL_refused 675 = .ok (.ifCond .gt 12, 3) := by decide +kernel
theorem dL_refused_678 : decode cL_refused 678 = .ok (.aload_n 0, 1) := by decide +kernel
theorem dL_refused_679 : decode cL_refused 679 = .ok (.invokevirtual 94, 3) := by decide +kernel
theorem dL_refused_682 : decode cL_refused 682 = .ok (.ldc 93, 2) := by decide +kernel
theorem dL_refused_684 : decode cL_refused 684 = .ok (.if_icmp .ne 27, 3) := by decide +kernel
theorem dL_refused_687 : decode cL_refused 687 = .ok (.aload_n 0, 1) := by decide +kernel
theorem dL_refused_688 : decode cL_refused 688 = .ok (.bipush 10, 2) := by decide +kernel
theorem dL_refused_690 : decode cL_refused 690 = .ok (.invokevirtual 13, 3) := by decide +kernel
theorem dL_refused_693 : decode cL_refused 693 = .ok (.iload 5, 2) := by decide +kernel
theorem dL_refused_695 : decode cL_refused 695 = .ok (.if_icmp .ne 16, 3) := by decide +kernel
theorem dL_refused_698 : decode cL_refused 698 = .ok (.aload_n 0, 1) := by decide +kernel
theorem dL_refused_699 : decode cL_refused 699 = .ok (.invokestatic 29, 3) := by decide +kernel
theorem dL_refused_702 : decode cL_refused 702 = .ok (.lload_n 1, 1) := by decide +kernel
theorem dL_refused_703 : decode cL_refused 703 = .ok (.lcmp, 1) := by decide +kernel
theorem dL_refused_704 : decode cL_refused 704 = .ok (.ifCond .ne 7, 3) := by decide +kernel
theorem dL_refused_707 : decode cL_refused 707 = .ok (.iconst 1, 1) := by decide +kernel
theorem dL_refused_708 : decode cL_refused 708 = .ok (.goto 4, 3) := by decide +kernel
theorem dL_refused_711 : decode cL_refused 711 = .ok (.iconst 0, 1) := by decide +kernel
theorem dL_refused_712 : decode cL_refused 712 = .ok (.ireturn, 1) := by decide +kernel
abbrev rmL_refused : Room := { frames := 8, cells := 0, slots := 0, locals := 189 }

set_option maxRecDepth 100000 in
set_option maxHeartbeats 16000000 in
theorem rf_0 {x : Ctx} {g : Geo} {l : Launch} {M0 M : Nat → Nat → Int32} {P : Nat → Nat} {Xc : Nat → Int32} {N K B A s : Nat} (hx : x.1.2.1 = l) (h : Cxk x g cL_refused 7 wsL_refused RL rmL_refused) (hR : RS M0 P Xc N K B A s M) (kk : ∀ M', RS M0 P Xc N K B A s M' → X x 83 [(0, .ref (g.1 144)), (1, .long (prn Xc N K)), (3, .int (nI N)), (4, .int (nI K)), (5, .int (nI s))] [] M' P) : X x 26 [(0, .ref (g.1 144)), (1, .long (prn Xc N K)), (3, .int (nI N)), (4, .int (nI K)), (5, .int (nI s))] [] M P := by
  have hN6 := hR.1.N6
  have hK12 := hR.1.K12
  have hs4 := hR.1.hs4
  have hI : InvC Xc N K B := hR.2.1 ▸ hR.1.hI
  have hap : appl Xc K ≤ K := appl_le
  refine x_aload_n h 0 dL_refused_26 rfl rfl ?_
  refine x_iconst h (nI 4) dL_refused_27 (by decide) ?_
  refine x_iconst h (nI 1) dL_refused_28 (by decide) ?_
  refine x_callV h (As := [.int (nI 4), .int (nI 1)]) 2 hx (c_X5_set hR.1.hP hR.1.hI hR.1.hs hR.1.hs4) gL_refused_X5_set rfl ⟨rfl, rfl⟩ (by decide +kernel) rfl (by decide) (by decide) E_144 rfl rfl (Nat.le_of_ble_eq_true rfl) dL_refused_29 (fun a29 M29 P29 hp => ?_)
  rw [hR.2.1] at hp
  obtain ⟨hz1, hz2, hF⟩ := ref_of (Q := fun Y r X' => setQ Y (nI 4) (nI 1) r X') (-1000001) hR.1.hs hp (by decide) (fun Y hY X' q => set_bad (by decide) q)
  clear hp
  subst hz1
  subst hz2
  replace hR := RS_fr hR hF
  clear hF
  refine x_ldc h ((-1000001)) (by decide +kernel) dL_refused_32 ?_
  refine x_icmp_ne h 259 dL_refused_34 (by decide) (fun c => absurd c (by decide)) (fun _ => ?_)
  refine x_aload_n h 0 dL_refused_37 rfl rfl ?_
  refine x_iconst h (nI 0) dL_refused_38 (by decide) ?_
  refine x_iconst h (nI 0) dL_refused_39 (by decide) ?_
  refine x_callV h (As := [.int (nI 0), .int (nI 0)]) 2 hx (c_X5_set hR.1.hP hR.1.hI hR.1.hs hR.1.hs4) gL_refused_X5_set rfl ⟨rfl, rfl⟩ (by decide +kernel) rfl (by decide) (by decide) E_144 rfl rfl (Nat.le_of_ble_eq_true rfl) dL_refused_40 (fun a40 M40 P40 hp => ?_)
  rw [hR.2.1] at hp
  obtain ⟨hz1, hz2, hF⟩ := ref_of (Q := fun Y r X' => setQ Y (nI 0) (nI 0) r X') (-1000001) hR.1.hs hp (by decide) (fun Y hY X' q => set_bad (by decide) q)
  clear hp
  subst hz1
  subst hz2
  replace hR := RS_fr hR hF
  clear hF
  refine x_ldc h ((-1000001)) (by decide +kernel) dL_refused_43 ?_
  refine x_icmp_ne h 259 dL_refused_45 (by decide) (fun c => absurd c (by decide)) (fun _ => ?_)
  refine x_aload_n h 0 dL_refused_48 rfl rfl ?_
  refine x_iconst h (nI 0) dL_refused_49 (by decide) ?_
  refine x_bipush h (nI 21) dL_refused_50 (by decide) ?_
  refine x_callV h (As := [.int (nI 0), .int (nI 21)]) 2 hx (c_X5_set hR.1.hP hR.1.hI hR.1.hs hR.1.hs4) gL_refused_X5_set rfl ⟨rfl, rfl⟩ (by decide +kernel) rfl (by decide) (by decide) E_144 rfl rfl (Nat.le_of_ble_eq_true rfl) dL_refused_52 (fun a52 M52 P52 hp => ?_)
  rw [hR.2.1] at hp
  obtain ⟨hz1, hz2, hF⟩ := ref_of (Q := fun Y r X' => setQ Y (nI 0) (nI 21) r X') (-1000001) hR.1.hs hp (by decide) (fun Y hY X' q => set_bad (by decide) q)
  clear hp
  subst hz1
  subst hz2
  replace hR := RS_fr hR hF
  clear hF
  refine x_ldc h ((-1000001)) (by decide +kernel) dL_refused_55 ?_
  refine x_icmp_ne h 259 dL_refused_57 (by decide) (fun c => absurd c (by decide)) (fun _ => ?_)
  refine x_aload_n h 0 dL_refused_60 rfl rfl ?_
  refine x_iconst h (nI 1) dL_refused_61 (by decide) ?_
  refine x_bipush h (nI 51) dL_refused_62 (by decide) ?_
  refine x_callV h (As := [.int (nI 1), .int (nI 51)]) 2 hx (c_X5_set hR.1.hP hR.1.hI hR.1.hs hR.1.hs4) gL_refused_X5_set rfl ⟨rfl, rfl⟩ (by decide +kernel) rfl (by decide) (by decide) E_144 rfl rfl (Nat.le_of_ble_eq_true rfl) dL_refused_64 (fun a64 M64 P64 hp => ?_)
  rw [hR.2.1] at hp
  obtain ⟨hz1, hz2, hF⟩ := ref_of (Q := fun Y r X' => setQ Y (nI 1) (nI 51) r X') (-1000001) hR.1.hs hp (by decide) (fun Y hY X' q => set_bad (by decide) q)
  clear hp
  subst hz1
  subst hz2
  replace hR := RS_fr hR hF
  clear hF
  refine x_ldc h ((-1000001)) (by decide +kernel) dL_refused_67 ?_
  refine x_icmp_ne h 259 dL_refused_69 (by decide) (fun c => absurd c (by decide)) (fun _ => ?_)
  refine x_aload_n h 0 dL_refused_72 rfl rfl ?_
  refine x_iconst h (nI 2) dL_refused_73 (by decide) ?_
  refine x_iconst h ((-1)) dL_refused_74 (by decide) ?_
  refine x_callV h (As := [.int (nI 2), .int (-1)]) 2 hx (c_X5_set hR.1.hP hR.1.hI hR.1.hs hR.1.hs4) gL_refused_X5_set rfl ⟨rfl, rfl⟩ (by decide +kernel) rfl (by decide) (by decide) E_144 rfl rfl (Nat.le_of_ble_eq_true rfl) dL_refused_75 (fun a75 M75 P75 hp => ?_)
  rw [hR.2.1] at hp
  obtain ⟨hz1, hz2, hF⟩ := ref_of (Q := fun Y r X' => setQ Y (nI 2) (-1) r X') (-1000001) hR.1.hs hp (by decide) (fun Y hY X' q => set_bad (by decide) q)
  clear hp
  subst hz1
  subst hz2
  replace hR := RS_fr hR hF
  clear hF
  refine x_ldc h ((-1000001)) (by decide +kernel) dL_refused_78 ?_
  refine x_icmp_ne h 259 dL_refused_80 (by decide) (fun c => absurd c (by decide)) (fun _ => ?_)
  exact x_lv (kk _ hR) [0, 1, 2, 3, 4] rfl

set_option maxRecDepth 100000 in
set_option maxHeartbeats 16000000 in
theorem rf_1 {x : Ctx} {g : Geo} {l : Launch} {M0 M : Nat → Nat → Int32} {P : Nat → Nat} {Xc : Nat → Int32} {N K B A s : Nat} (hx : x.1.2.1 = l) (h : Cxk x g cL_refused 7 wsL_refused RL rmL_refused) (hR : RS M0 P Xc N K B A s M) (kk : ∀ M', RS M0 P Xc N K B A s M' → X x 117 [(0, .ref (g.1 144)), (1, .long (prn Xc N K)), (3, .int (nI N)), (4, .int (nI K)), (5, .int (nI s))] [] M' P) : X x 83 [(0, .ref (g.1 144)), (1, .long (prn Xc N K)), (3, .int (nI N)), (4, .int (nI K)), (5, .int (nI s))] [] M P := by
  have hN6 := hR.1.N6
  have hK12 := hR.1.K12
  have hs4 := hR.1.hs4
  have hI : InvC Xc N K B := hR.2.1 ▸ hR.1.hI
  have hap : appl Xc K ≤ K := appl_le
  refine x_aload_n h 0 dL_refused_83 rfl rfl ?_
  refine x_iconst h (nI 3) dL_refused_84 (by decide) ?_
  refine x_iconst h (nI 0) dL_refused_85 (by decide) ?_
  refine x_callV h (As := [.int (nI 3), .int (nI 0)]) 2 hx (c_X5_set hR.1.hP hR.1.hI hR.1.hs hR.1.hs4) gL_refused_X5_set rfl ⟨rfl, rfl⟩ (by decide +kernel) rfl (by decide) (by decide) E_144 rfl rfl (Nat.le_of_ble_eq_true rfl) dL_refused_86 (fun a86 M86 P86 hp => ?_)
  rw [hR.2.1] at hp
  obtain ⟨hz1, hz2, hF⟩ := ref_of (Q := fun Y r X' => setQ Y (nI 3) (nI 0) r X') (-1000001) hR.1.hs hp (by decide) (fun Y hY X' q => set_bad (by decide) q)
  clear hp
  subst hz1
  subst hz2
  replace hR := RS_fr hR hF
  clear hF
  refine x_ldc h ((-1000001)) (by decide +kernel) dL_refused_89 ?_
  refine x_icmp_ne h 259 dL_refused_91 (by decide) (fun c => absurd c (by decide)) (fun _ => ?_)
  refine x_aload_n h 0 dL_refused_94 rfl rfl ?_
  refine x_bipush h (nI 81) dL_refused_95 (by decide) ?_
  refine x_iconst h (nI 1) dL_refused_97 (by decide) ?_
  refine x_callV h (As := [.int (nI 81), .int (nI 1)]) 2 hx (c_X5_block hR.1.hP hR.1.hI hR.1.hs hR.1.hs4) gL_refused_X5_block rfl ⟨rfl, rfl⟩ (by decide +kernel) rfl (by decide) (by decide) E_144 rfl rfl (Nat.le_of_ble_eq_true rfl) dL_refused_98 (fun a98 M98 P98 hp => ?_)
  rw [hR.2.1] at hp
  obtain ⟨hz1, hz2, hF⟩ := ref_of (Q := fun Y r X' => blkQ eC Y (nI 81) (nI 1) r X') (-1000001) hR.1.hs hp (by decide) (fun Y hY X' q => blk_bad (fun z => InR_not (by decide) (by decide) z.1) q)
  clear hp
  subst hz1
  subst hz2
  replace hR := RS_fr hR hF
  clear hF
  refine x_ldc h ((-1000001)) (by decide +kernel) dL_refused_101 ?_
  refine x_icmp_ne h 259 dL_refused_103 (by decide) (fun c => absurd c (by decide)) (fun _ => ?_)
  refine x_aload_n h 0 dL_refused_106 rfl rfl ?_
  refine x_iconst h (nI 0) dL_refused_107 (by decide) ?_
  refine x_iconst h (nI 2) dL_refused_108 (by decide) ?_
  refine x_callV h (As := [.int (nI 0), .int (nI 2)]) 2 hx (c_X5_block hR.1.hP hR.1.hI hR.1.hs hR.1.hs4) gL_refused_X5_block rfl ⟨rfl, rfl⟩ (by decide +kernel) rfl (by decide) (by decide) E_144 rfl rfl (Nat.le_of_ble_eq_true rfl) dL_refused_109 (fun a109 M109 P109 hp => ?_)
  rw [hR.2.1] at hp
  obtain ⟨hz1, hz2, hF⟩ := ref_of (Q := fun Y r X' => blkQ eC Y (nI 0) (nI 2) r X') (-1000001) hR.1.hs hp (by decide) (fun Y hY X' q => blk_bad (fun z => InR_not (by decide) (by decide) z.2) q)
  clear hp
  subst hz1
  subst hz2
  replace hR := RS_fr hR hF
  clear hF
  refine x_ldc h ((-1000001)) (by decide +kernel) dL_refused_112 ?_
  refine x_icmp_ne h 259 dL_refused_114 (by decide) (fun c => absurd c (by decide)) (fun _ => ?_)
  exact x_lv (kk _ hR) [0, 1, 2, 3, 4] rfl

set_option maxRecDepth 100000 in
set_option maxHeartbeats 16000000 in
theorem rf_2 {x : Ctx} {g : Geo} {l : Launch} {M0 M : Nat → Nat → Int32} {P : Nat → Nat} {Xc : Nat → Int32} {N K B A s : Nat} (hx : x.1.2.1 = l) (h : Cxk x g cL_refused 7 wsL_refused RL rmL_refused) (hR : RS M0 P Xc N K B A s M) (kk : ∀ M', RS M0 P Xc N K B A s M' → X x 161 [(0, .ref (g.1 144)), (1, .long (prn Xc N K)), (3, .int (nI N)), (4, .int (nI K)), (5, .int (nI s))] [] M' P) : X x 117 [(0, .ref (g.1 144)), (1, .long (prn Xc N K)), (3, .int (nI N)), (4, .int (nI K)), (5, .int (nI s))] [] M P := by
  have hN6 := hR.1.N6
  have hK12 := hR.1.K12
  have hs4 := hR.1.hs4
  have hI : InvC Xc N K B := hR.2.1 ▸ hR.1.hI
  have hap : appl Xc K ≤ K := appl_le
  refine x_aload_n h 0 dL_refused_117 rfl rfl ?_
  refine x_iconst h (nI 0) dL_refused_118 (by decide) ?_
  refine x_bipush h (nI 81) dL_refused_119 (by decide) ?_
  refine x_iconst h ((-1)) dL_refused_121 (by decide) ?_
  refine x_iconst h (nI 0) dL_refused_122 (by decide) ?_
  refine x_iconst h (nI 0) dL_refused_123 (by decide) ?_
  refine x_callV h (As := [.int (nI 0), .int (nI 81), .int (-1), .int (nI 0), .int (nI 0)]) 5 hx (c_X5_net hR.1.hP hR.1.hI hR.1.hs hR.1.hs4) gL_refused_X5_net rfl ⟨rfl, rfl⟩ (by decide +kernel) rfl (by decide) (by decide) E_144 rfl rfl (Nat.le_of_ble_eq_true rfl) dL_refused_124 (fun a124 M124 P124 hp => ?_)
  rw [hR.2.1] at hp
  obtain ⟨hz1, hz2, hF⟩ := ref_of (Q := fun Y r X' => netQ eC Y N (nI 0) (nI 81) (-1) (nI 0) (nI 0) r X') (-1000001) hR.1.hs hp (by decide) (fun Y hY X' q => net_bad (fun z => InR_not (by decide) (by decide) z.2.1) q)
  clear hp
  subst hz1
  subst hz2
  replace hR := RS_fr hR hF
  clear hF
  refine x_ldc h ((-1000001)) (by decide +kernel) dL_refused_127 ?_
  refine x_icmp_ne h 259 dL_refused_129 (by decide) (fun c => absurd c (by decide)) (fun _ => ?_)
  refine x_aload_n h 0 dL_refused_132 rfl rfl ?_
  refine x_iconst h (nI 5) dL_refused_133 (by decide) ?_
  refine x_iconst h (nI 5) dL_refused_134 (by decide) ?_
  refine x_iconst h ((-1)) dL_refused_135 (by decide) ?_
  refine x_iconst h (nI 0) dL_refused_136 (by decide) ?_
  refine x_iconst h (nI 0) dL_refused_137 (by decide) ?_
  refine x_callV h (As := [.int (nI 5), .int (nI 5), .int (-1), .int (nI 0), .int (nI 0)]) 5 hx (c_X5_net hR.1.hP hR.1.hI hR.1.hs hR.1.hs4) gL_refused_X5_net rfl ⟨rfl, rfl⟩ (by decide +kernel) rfl (by decide) (by decide) E_144 rfl rfl (Nat.le_of_ble_eq_true rfl) dL_refused_138 (fun a138 M138 P138 hp => ?_)
  rw [hR.2.1] at hp
  obtain ⟨hz1, hz2, hF⟩ := ref_of (Q := fun Y r X' => netQ eC Y N (nI 5) (nI 5) (-1) (nI 0) (nI 0) r X') (-1000001) hR.1.hs hp (by decide) (fun Y hY X' q => net_bad (fun z => z.2.2.2.1 rfl) q)
  clear hp
  subst hz1
  subst hz2
  replace hR := RS_fr hR hF
  clear hF
  refine x_ldc h ((-1000001)) (by decide +kernel) dL_refused_141 ?_
  refine x_icmp_ne h 259 dL_refused_143 (by decide) (fun c => absurd c (by decide)) (fun _ => ?_)
  refine x_aload_n h 0 dL_refused_146 rfl rfl ?_
  refine x_iconst h (nI 5) dL_refused_147 (by decide) ?_
  refine x_bipush h (nI 6) dL_refused_148 (by decide) ?_
  refine x_iconst h (nI 5) dL_refused_150 (by decide) ?_
  refine x_iconst h (nI 0) dL_refused_151 (by decide) ?_
  refine x_iconst h (nI 0) dL_refused_152 (by decide) ?_
  refine x_callV h (As := [.int (nI 5), .int (nI 6), .int (nI 5), .int (nI 0), .int (nI 0)]) 5 hx (c_X5_net hR.1.hP hR.1.hI hR.1.hs hR.1.hs4) gL_refused_X5_net rfl ⟨rfl, rfl⟩ (by decide +kernel) rfl (by decide) (by decide) E_144 rfl rfl (Nat.le_of_ble_eq_true rfl) dL_refused_153 (fun a153 M153 P153 hp => ?_)
  rw [hR.2.1] at hp
  obtain ⟨hz1, hz2, hF⟩ := ref_of (Q := fun Y r X' => netQ eC Y N (nI 5) (nI 6) (nI 5) (nI 0) (nI 0) r X') (-1000001) hR.1.hs hp (by decide) (fun Y hY X' q => net_bad (fun z => z.2.2.2.2.1 rfl) q)
  clear hp
  subst hz1
  subst hz2
  replace hR := RS_fr hR hF
  clear hF
  refine x_ldc h ((-1000001)) (by decide +kernel) dL_refused_156 ?_
  refine x_icmp_ne h 259 dL_refused_158 (by decide) (fun c => absurd c (by decide)) (fun _ => ?_)
  exact x_lv (kk _ hR) [0, 1, 2, 3, 4] rfl

set_option maxRecDepth 100000 in
set_option maxHeartbeats 16000000 in
theorem rf_3 {x : Ctx} {g : Geo} {l : Launch} {M0 M : Nat → Nat → Int32} {P : Nat → Nat} {Xc : Nat → Int32} {N K B A s : Nat} (hx : x.1.2.1 = l) (h : Cxk x g cL_refused 7 wsL_refused RL rmL_refused) (hR : RS M0 P Xc N K B A s M) (kk : ∀ M', RS M0 P Xc N K B A s M' → X x 210 [(0, .ref (g.1 144)), (1, .long (prn Xc N K)), (3, .int (nI N)), (4, .int (nI K)), (5, .int (nI s))] [] M' P) : X x 161 [(0, .ref (g.1 144)), (1, .long (prn Xc N K)), (3, .int (nI N)), (4, .int (nI K)), (5, .int (nI s))] [] M P := by
  have hN6 := hR.1.N6
  have hK12 := hR.1.K12
  have hs4 := hR.1.hs4
  have hI : InvC Xc N K B := hR.2.1 ▸ hR.1.hI
  have hap : appl Xc K ≤ K := appl_le
  refine x_aload_n h 0 dL_refused_161 rfl rfl ?_
  refine x_iconst h (nI 5) dL_refused_162 (by decide) ?_
  refine x_bipush h (nI 6) dL_refused_163 (by decide) ?_
  refine x_bipush h ((-2)) dL_refused_165 (by decide) ?_
  refine x_iconst h (nI 0) dL_refused_167 (by decide) ?_
  refine x_iconst h (nI 0) dL_refused_168 (by decide) ?_
  refine x_callV h (As := [.int (nI 5), .int (nI 6), .int (-2), .int (nI 0), .int (nI 0)]) 5 hx (c_X5_net hR.1.hP hR.1.hI hR.1.hs hR.1.hs4) gL_refused_X5_net rfl ⟨rfl, rfl⟩ (by decide +kernel) rfl (by decide) (by decide) E_144 rfl rfl (Nat.le_of_ble_eq_true rfl) dL_refused_169 (fun a169 M169 P169 hp => ?_)
  rw [hR.2.1] at hp
  obtain ⟨hz1, hz2, hF⟩ := ref_of (Q := fun Y r X' => netQ eC Y N (nI 5) (nI 6) (-2) (nI 0) (nI 0) r X') (-1000001) hR.1.hs hp (by decide) (fun Y hY X' q => net_bad (fun z => z.2.2.1.elim (fun e => absurd e (by decide)) (InR_m (by decide) (by decide))) q)
  clear hp
  subst hz1
  subst hz2
  replace hR := RS_fr hR hF
  clear hF
  refine x_ldc h ((-1000001)) (by decide +kernel) dL_refused_172 ?_
  refine x_icmp_ne h 259 dL_refused_174 (by decide) (fun c => absurd c (by decide)) (fun _ => ?_)
  refine x_aload_n h 0 dL_refused_177 rfl rfl ?_
  refine x_iconst h (nI 5) dL_refused_178 (by decide) ?_
  refine x_bipush h (nI 6) dL_refused_179 (by decide) ?_
  refine x_iconst h ((-1)) dL_refused_181 (by decide) ?_
  refine x_bipush h (nI 10) dL_refused_182 (by decide) ?_
  refine x_iconst h (nI 0) dL_refused_184 (by decide) ?_
  refine x_callV h (As := [.int (nI 5), .int (nI 6), .int (-1), .int (nI 10), .int (nI 0)]) 5 hx (c_X5_net hR.1.hP hR.1.hI hR.1.hs hR.1.hs4) gL_refused_X5_net rfl ⟨rfl, rfl⟩ (by decide +kernel) rfl (by decide) (by decide) E_144 rfl rfl (Nat.le_of_ble_eq_true rfl) dL_refused_185 (fun a185 M185 P185 hp => ?_)
  rw [hR.2.1] at hp
  obtain ⟨hz1, hz2, hF⟩ := ref_of (Q := fun Y r X' => netQ eC Y N (nI 5) (nI 6) (-1) (nI 10) (nI 0) r X') (-1000001) hR.1.hs hp (by decide) (fun Y hY X' q => net_bad (fun z => absurd z.2.2.2.2.2.2.2.1 (by decide)) q)
  clear hp
  subst hz1
  subst hz2
  replace hR := RS_fr hR hF
  clear hF
  refine x_ldc h ((-1000001)) (by decide +kernel) dL_refused_188 ?_
  refine x_icmp_ne h 259 dL_refused_190 (by decide) (fun c => absurd c (by decide)) (fun _ => ?_)
  refine x_aload_n h 0 dL_refused_193 rfl rfl ?_
  refine x_iconst h (nI 5) dL_refused_194 (by decide) ?_
  refine x_bipush h (nI 6) dL_refused_195 (by decide) ?_
  refine x_iconst h ((-1)) dL_refused_197 (by decide) ?_
  refine x_iconst h (nI 0) dL_refused_198 (by decide) ?_
  refine x_sipush h (nI 10000) dL_refused_199 (by decide) ?_
  refine x_callV h (As := [.int (nI 5), .int (nI 6), .int (-1), .int (nI 0), .int (nI 10000)]) 5 hx (c_X5_net hR.1.hP hR.1.hI hR.1.hs hR.1.hs4) gL_refused_X5_net rfl ⟨rfl, rfl⟩ (by decide +kernel) rfl (by decide) (by decide) E_144 rfl rfl (Nat.le_of_ble_eq_true rfl) dL_refused_202 (fun a202 M202 P202 hp => ?_)
  rw [hR.2.1] at hp
  obtain ⟨hz1, hz2, hF⟩ := ref_of (Q := fun Y r X' => netQ eC Y N (nI 5) (nI 6) (-1) (nI 0) (nI 10000) r X') (-1000001) hR.1.hs hp (by decide) (fun Y hY X' q => net_bad (fun z => absurd z.2.2.2.2.2.2.2.2.2 (by decide)) q)
  clear hp
  subst hz1
  subst hz2
  replace hR := RS_fr hR hF
  clear hF
  refine x_ldc h ((-1000001)) (by decide +kernel) dL_refused_205 ?_
  refine x_icmp_ne h 259 dL_refused_207 (by decide) (fun c => absurd c (by decide)) (fun _ => ?_)
  exact x_lv (kk _ hR) [0, 1, 2, 3, 4] rfl

set_option maxRecDepth 100000 in
set_option maxHeartbeats 16000000 in
theorem rf_4 {x : Ctx} {g : Geo} {l : Launch} {M0 M : Nat → Nat → Int32} {P : Nat → Nat} {Xc : Nat → Int32} {N K B A s : Nat} (hx : x.1.2.1 = l) (h : Cxk x g cL_refused 7 wsL_refused RL rmL_refused) (hR : RS M0 P Xc N K B A s M) (kk : ∀ M', RS M0 P Xc N K B A s M' → X x 244 [(0, .ref (g.1 144)), (1, .long (prn Xc N K)), (3, .int (nI N)), (4, .int (nI K)), (5, .int (nI s))] [] M' P) : X x 210 [(0, .ref (g.1 144)), (1, .long (prn Xc N K)), (3, .int (nI N)), (4, .int (nI K)), (5, .int (nI s))] [] M P := by
  have hN6 := hR.1.N6
  have hK12 := hR.1.K12
  have hs4 := hR.1.hs4
  have hI : InvC Xc N K B := hR.2.1 ▸ hR.1.hI
  have hap : appl Xc K ≤ K := appl_le
  refine x_aload_n h 0 dL_refused_210 rfl rfl ?_
  refine x_iload_n h 2 dL_refused_211 rfl rfl ?_
  refine x_iconst h (nI 1) dL_refused_212 (by decide) ?_
  refine x_callV h (As := [.int (nI N), .int (nI 1)]) 2 hx (c_X5_give hR.1.hP hR.1.hI hR.1.hs hR.1.hs4) gL_refused_X5_give rfl ⟨rfl, rfl⟩ (by decide +kernel) rfl (by decide) (by decide) E_144 rfl rfl (Nat.le_of_ble_eq_true rfl) dL_refused_213 (fun a213 M213 P213 hp => ?_)
  rw [hR.2.1] at hp
  obtain ⟨hz1, hz2, hF⟩ := ref_of (Q := fun Y r X' => giveQ Y N (nI N) (nI 1) r X') (-1000001) hR.1.hs hp (by decide) (fun Y hY X' q => give_bad (fun z => (InR_not (Nat.le_refl N) (by omega)) z.1) q)
  clear hp
  subst hz1
  subst hz2
  replace hR := RS_fr hR hF
  clear hF
  refine x_ldc h ((-1000001)) (by decide +kernel) dL_refused_216 ?_
  refine x_icmp_ne h 259 dL_refused_218 (by decide) (fun c => absurd c (by decide)) (fun _ => ?_)
  refine x_aload_n h 0 dL_refused_221 rfl rfl ?_
  refine x_iload_n h 2 dL_refused_222 rfl rfl ?_
  refine x_iconst h (nI 0) dL_refused_223 (by decide) ?_
  refine x_callV h (As := [.int (nI N), .int (nI 0)]) 2 hx (c_X5_netOf hR.1.hP hR.1.hI) gL_refused_X5_netOf rfl ⟨rfl, rfl⟩ (by decide +kernel) rfl (by decide) (by decide) E_144 rfl rfl (Nat.le_of_ble_eq_true rfl) dL_refused_224 (fun a224 M' P' hp => ?_)
  rw [hR.2.1] at hp
  obtain ⟨⟨rfl, rfl⟩, hQ⟩ := hp
  have hz := net_no (fun z => (InR_not (Nat.le_refl N) (by omega)) z.1) hQ
  clear hQ
  subst hz
  refine x_ldc h ((-1000001)) (by decide +kernel) dL_refused_227 ?_
  refine x_icmp_ne h 259 dL_refused_229 (by decide) (fun c => absurd c (by decide)) (fun _ => ?_)
  refine x_aload_n h 0 dL_refused_232 rfl rfl ?_
  refine x_sipush h (nI 162) dL_refused_233 (by decide) ?_
  refine x_callV h (As := [.int (nI 162)]) 1 hx (c_X5_cellOf hR.1.hP hR.1.hI) gL_refused_X5_cellOf rfl ⟨rfl, rfl⟩ (by decide +kernel) rfl (by decide) (by decide) E_144 rfl rfl (Nat.le_of_ble_eq_true rfl) dL_refused_236 (fun a236 M' P' hp => ?_)
  rw [hR.2.1] at hp
  obtain ⟨⟨rfl, rfl⟩, hQ⟩ := hp
  have hz := cell_no (InR_not (by decide) (by decide)) hQ
  clear hQ
  subst hz
  refine x_ldc h ((-1000001)) (by decide +kernel) dL_refused_239 ?_
  refine x_icmp_ne h 259 dL_refused_241 (by decide) (fun c => absurd c (by decide)) (fun _ => ?_)
  exact x_lv (kk _ hR) [0, 1, 2, 3, 4] rfl

set_option maxRecDepth 100000 in
set_option maxHeartbeats 16000000 in
theorem rf_5 {x : Ctx} {g : Geo} {l : Launch} {M0 M : Nat → Nat → Int32} {P : Nat → Nat} {Xc : Nat → Int32} {N K B A s : Nat} (hx : x.1.2.1 = l) (h : Cxk x g cL_refused 7 wsL_refused RL rmL_refused) (hR : RS M0 P Xc N K B A s M) (kk : ∀ M', RS M0 P Xc N K B A s M' → X x 262 [(0, .ref (g.1 144)), (1, .long (prn Xc N K)), (3, .int (nI N)), (4, .int (nI K)), (5, .int (nI s)), (6, .int (nI 1))] [] M' P) : X x 244 [(0, .ref (g.1 144)), (1, .long (prn Xc N K)), (3, .int (nI N)), (4, .int (nI K)), (5, .int (nI s))] [] M P := by
  have hN6 := hR.1.N6
  have hK12 := hR.1.K12
  have hs4 := hR.1.hs4
  have hI : InvC Xc N K B := hR.2.1 ▸ hR.1.hI
  have hap : appl Xc K ≤ K := appl_le
  refine x_aload_n h 0 dL_refused_244 rfl rfl ?_
  refine x_iload_n h 2 dL_refused_245 rfl rfl ?_
  refine x_iconst h (nI 0) dL_refused_246 (by decide) ?_
  refine x_callV h (As := [.int (nI N), .int (nI 0)]) 2 hx (c_X5_wireAt hR.1.hP hR.1.hI) gL_refused_X5_wireAt rfl ⟨rfl, rfl⟩ (by decide +kernel) rfl (by decide) (by decide) E_144 rfl rfl (Nat.le_of_ble_eq_true rfl) dL_refused_247 (fun a247 M' P' hp => ?_)
  rw [hR.2.1] at hp
  obtain ⟨⟨rfl, rfl⟩, hQ⟩ := hp
  have hz := wire_no (fun z => (InR_not (Nat.le_refl N) (by omega)) z.1) hQ
  clear hQ
  subst hz
  refine x_ldc h ((-1000001)) (by decide +kernel) dL_refused_250 ?_
  refine x_icmp_ne h 259 dL_refused_252 (by decide) (fun c => absurd c (by decide)) (fun _ => ?_)
  refine x_iconst h (nI 1) dL_refused_255 (by decide) ?_
  refine x_goto h 260 dL_refused_256 (by decide) ?_
  refine x_istore h [(6, .int (nI 1)), (0, .ref (g.1 144)), (1, .long (prn Xc N K)), (3, .int (nI N)), (4, .int (nI K)), (5, .int (nI s))] dL_refused_260 (by decide) rfl ?_
  exact x_lv (kk _ hR) [1, 2, 3, 4, 5, 0] rfl

set_option maxRecDepth 100000 in
set_option maxHeartbeats 16000000 in
theorem rf_6 {x : Ctx} {g : Geo} {l : Launch} {M0 M : Nat → Nat → Int32} {P : Nat → Nat} {Xc : Nat → Int32} {N K B A s : Nat} (hx : x.1.2.1 = l) (h : Cxk x g cL_refused 7 wsL_refused RL rmL_refused) (hR : RS M0 P Xc N K B A s M) (kk : ∀ M', RS M0 P Xc N K B A s M' → X x 297 [(0, .ref (g.1 144)), (1, .long (prn Xc N K)), (3, .int (nI N)), (4, .int (nI K)), (5, .int (nI s)), (6, .int (nI 1))] [] M' P) : X x 262 [(0, .ref (g.1 144)), (1, .long (prn Xc N K)), (3, .int (nI N)), (4, .int (nI K)), (5, .int (nI s)), (6, .int (nI 1))] [] M P := by
  have hN6 := hR.1.N6
  have hK12 := hR.1.K12
  have hs4 := hR.1.hs4
  have hI : InvC Xc N K B := hR.2.1 ▸ hR.1.hI
  have hap : appl Xc K ≤ K := appl_le
  refine x_iload h 5 dL_refused_262 rfl ?_
  refine x_if_eq h 476 dL_refused_264 (by decide) (fun c => absurd c (by decide)) (fun _ => ?_)
  refine x_aload_n h 0 dL_refused_267 rfl rfl ?_
  refine x_iload_n h 2 dL_refused_268 rfl rfl ?_
  refine x_callV h (As := [.int (nI N)]) 1 hx (c_X5_lay hR.1.hP hR.1.hI hR.1.hs hR.1.hs4 hR.1.hNb) gL_refused_X5_lay rfl ⟨rfl, rfl⟩ (by decide +kernel) rfl (by decide) (by decide) E_144 rfl rfl (Nat.le_of_ble_eq_true rfl) dL_refused_269 (fun a269 M269 P269 hp => ?_)
  rw [hR.2.1] at hp
  obtain ⟨hz1, hz2, hF⟩ := ref_of (Q := fun Y r X' => layQ eC Y N (nI N) r X') (-1000001) hR.1.hs hp (by decide) (fun Y hY X' q => lay_bad (InR_not (Nat.le_refl N) (by omega)) q)
  clear hp
  subst hz1
  subst hz2
  replace hR := RS_fr hR hF
  clear hF
  refine x_ldc h ((-1000001)) (by decide +kernel) dL_refused_272 ?_
  refine x_icmp_ne h 476 dL_refused_274 (by decide) (fun c => absurd c (by decide)) (fun _ => ?_)
  refine x_aload_n h 0 dL_refused_277 rfl rfl ?_
  refine x_iconst h ((-1)) dL_refused_278 (by decide) ?_
  refine x_callV h (As := [.int (-1)]) 1 hx (c_X5_dig hR.1.hP hR.1.hI hR.1.hs hR.1.hs4 hR.1.hNb) gL_refused_X5_dig rfl ⟨rfl, rfl⟩ (by decide +kernel) rfl (by decide) (by decide) E_144 rfl rfl (Nat.le_of_ble_eq_true rfl) dL_refused_279 (fun a279 M279 P279 hp => ?_)
  rw [hR.2.1] at hp
  obtain ⟨hz1, hz2, hF⟩ := ref_of (Q := fun Y r X' => digQ finC eC Y N K (-1) r X') (-1000001) hR.1.hs hp (by decide) (fun Y hY X' q => dig_bad (InR_m (by decide) (by omega)) q)
  clear hp
  subst hz1
  subst hz2
  replace hR := RS_fr hR hF
  clear hF
  refine x_ldc h ((-1000001)) (by decide +kernel) dL_refused_282 ?_
  refine x_icmp_ne h 476 dL_refused_284 (by decide) (fun c => absurd c (by decide)) (fun _ => ?_)
  refine x_aload_n h 0 dL_refused_287 rfl rfl ?_
  refine x_iload_n h 2 dL_refused_288 rfl rfl ?_
  refine x_callV h (As := [.int (nI N)]) 1 hx (c_X5_rip hR.1.hP hR.1.hI hR.1.hs hR.1.hs4) gL_refused_X5_rip rfl ⟨rfl, rfl⟩ (by decide +kernel) rfl (by decide) (by decide) E_144 rfl rfl (Nat.le_of_ble_eq_true rfl) dL_refused_289 (fun a289 M289 P289 hp => ?_)
  rw [hR.2.1] at hp
  obtain ⟨hz1, hz2, hF⟩ := ref_of (Q := fun Y r X' => ripQ eC Y N (nI N) r X') (-1000001) hR.1.hs hp (by decide) (fun Y hY X' q => rip_bad (InR_not (Nat.le_refl N) (by omega)) q)
  clear hp
  subst hz1
  subst hz2
  replace hR := RS_fr hR hF
  clear hF
  refine x_ldc h ((-1000001)) (by decide +kernel) dL_refused_292 ?_
  refine x_icmp_ne h 476 dL_refused_294 (by decide) (fun c => absurd c (by decide)) (fun _ => ?_)
  exact x_lv (kk _ hR) [0, 1, 2, 3, 4, 5] rfl

set_option maxRecDepth 100000 in
set_option maxHeartbeats 16000000 in
theorem rf_7 {x : Ctx} {g : Geo} {l : Launch} {M0 M : Nat → Nat → Int32} {P : Nat → Nat} {Xc : Nat → Int32} {N K B A s : Nat} (hx : x.1.2.1 = l) (h : Cxk x g cL_refused 7 wsL_refused RL rmL_refused) (hR : RS M0 P Xc N K B A s M) (kk : ∀ M', RS M0 P Xc N K B A s M' → X x 329 [(0, .ref (g.1 144)), (1, .long (prn Xc N K)), (3, .int (nI N)), (4, .int (nI K)), (5, .int (nI s)), (6, .int (nI 1))] [] M' P) : X x 297 [(0, .ref (g.1 144)), (1, .long (prn Xc N K)), (3, .int (nI N)), (4, .int (nI K)), (5, .int (nI s)), (6, .int (nI 1))] [] M P := by
  have hN6 := hR.1.N6
  have hK12 := hR.1.K12
  have hs4 := hR.1.hs4
  have hI : InvC Xc N K B := hR.2.1 ▸ hR.1.hI
  have hap : appl Xc K ≤ K := appl_le
  refine x_aload_n h 0 dL_refused_297 rfl rfl ?_
  refine x_iload h 3 dL_refused_298 rfl ?_
  refine x_callV h (As := [.int (nI K)]) 1 hx (c_X5_appeal hR.1.hP hR.1.hI hR.1.hs hR.1.hs4) gL_refused_X5_appeal rfl ⟨rfl, rfl⟩ (by decide +kernel) rfl (by decide) (by decide) E_144 rfl rfl (Nat.le_of_ble_eq_true rfl) dL_refused_300 (fun a300 M300 P300 hp => ?_)
  rw [hR.2.1] at hp
  obtain ⟨hz1, hz2, hF⟩ := ref_of (Q := fun Y r X' => applQ Y K (nI K) r X') (-1000001) hR.1.hs hp (by decide) (fun Y hY X' q => appl_bad (InR_not (Nat.le_refl K) (by omega)) q)
  clear hp
  subst hz1
  subst hz2
  replace hR := RS_fr hR hF
  clear hF
  refine x_ldc h ((-1000001)) (by decide +kernel) dL_refused_303 ?_
  refine x_icmp_ne h 476 dL_refused_305 (by decide) (fun c => absurd c (by decide)) (fun _ => ?_)
  refine x_aload_n h 0 dL_refused_308 rfl rfl ?_
  refine x_iconst h (nI 0) dL_refused_309 (by decide) ?_
  refine x_callV h (As := [.int (nI 0)]) 1 hx (c_X5_pass hR.1.hP hR.1.hI hR.1.hs hR.1.hs4) gL_refused_X5_pass rfl ⟨rfl, rfl⟩ (by decide +kernel) rfl (by decide) (by decide) E_144 rfl rfl (Nat.le_of_ble_eq_true rfl) dL_refused_310 (fun a310 M310 P310 hp => ?_)
  rw [hR.2.1] at hp
  obtain ⟨hz1, hz2, hF⟩ := ref_of (Q := fun Y r X' => passQ Y (nI 0) r X') (-1000001) hR.1.hs hp (by decide) (fun Y hY X' q => pass_bad (by decide) q)
  clear hp
  subst hz1
  subst hz2
  replace hR := RS_fr hR hF
  clear hF
  refine x_ldc h ((-1000001)) (by decide +kernel) dL_refused_313 ?_
  refine x_icmp_ne h 476 dL_refused_315 (by decide) (fun c => absurd c (by decide)) (fun _ => ?_)
  refine x_aload_n h 0 dL_refused_318 rfl rfl ?_
  refine x_bipush h (nI 51) dL_refused_319 (by decide) ?_
  refine x_callV h (As := [.int (nI 51)]) 1 hx (c_X5_pass hR.1.hP hR.1.hI hR.1.hs hR.1.hs4) gL_refused_X5_pass rfl ⟨rfl, rfl⟩ (by decide +kernel) rfl (by decide) (by decide) E_144 rfl rfl (Nat.le_of_ble_eq_true rfl) dL_refused_321 (fun a321 M321 P321 hp => ?_)
  rw [hR.2.1] at hp
  obtain ⟨hz1, hz2, hF⟩ := ref_of (Q := fun Y r X' => passQ Y (nI 51) r X') (-1000001) hR.1.hs hp (by decide) (fun Y hY X' q => pass_bad (by decide) q)
  clear hp
  subst hz1
  subst hz2
  replace hR := RS_fr hR hF
  clear hF
  refine x_ldc h ((-1000001)) (by decide +kernel) dL_refused_324 ?_
  refine x_icmp_ne h 476 dL_refused_326 (by decide) (fun c => absurd c (by decide)) (fun _ => ?_)
  exact x_lv (kk _ hR) [0, 1, 2, 3, 4, 5] rfl

set_option maxRecDepth 100000 in
set_option maxHeartbeats 16000000 in
theorem rf_8 {x : Ctx} {g : Geo} {l : Launch} {M0 M : Nat → Nat → Int32} {P : Nat → Nat} {Xc : Nat → Int32} {N K B A s : Nat} (hx : x.1.2.1 = l) (h : Cxk x g cL_refused 7 wsL_refused RL rmL_refused) (hR : RS M0 P Xc N K B A s M) (kk : ∀ M', RS M0 P Xc N K B A s M' → X x 360 [(0, .ref (g.1 144)), (1, .long (prn Xc N K)), (3, .int (nI N)), (4, .int (nI K)), (5, .int (nI s)), (6, .int (nI 1))] [] M' P) : X x 329 [(0, .ref (g.1 144)), (1, .long (prn Xc N K)), (3, .int (nI N)), (4, .int (nI K)), (5, .int (nI s)), (6, .int (nI 1))] [] M P := by
  have hN6 := hR.1.N6
  have hK12 := hR.1.K12
  have hs4 := hR.1.hs4
  have hI : InvC Xc N K B := hR.2.1 ▸ hR.1.hI
  have hap : appl Xc K ≤ K := appl_le
  refine x_aload_n h 0 dL_refused_329 rfl rfl ?_
  refine x_iload_n h 2 dL_refused_330 rfl rfl ?_
  refine x_iconst h (nI 0) dL_refused_331 (by decide) ?_
  refine x_callV h (As := [.int (nI N), .int (nI 0)]) 2 hx (c_X5_cost hR.1.hP hR.1.hI hR.1.hNb) gL_refused_X5_cost rfl ⟨rfl, rfl⟩ (by decide +kernel) rfl (by decide) (by decide) E_144 rfl rfl (Nat.le_of_ble_eq_true rfl) dL_refused_332 (fun a332 M332 P332 hp => ?_)
  rw [hR.2.1] at hp
  obtain ⟨rfl, hF, hQ⟩ := hp
  have hz := rt_no (fun z => (InR_not (Nat.le_refl N) (by omega)) z.1) hQ
  clear hQ
  subst hz
  replace hR := RS_fr hR (FrS_F hF)
  clear hF
  refine x_ldc h ((-1000001)) (by decide +kernel) dL_refused_335 ?_
  refine x_icmp_ne h 476 dL_refused_337 (by decide) (fun c => absurd c (by decide)) (fun _ => ?_)
  refine x_aload_n h 0 dL_refused_340 rfl rfl ?_
  refine x_iload_n h 2 dL_refused_341 rfl rfl ?_
  refine x_callV h (As := [.int (nI N)]) 1 hx (c_X5_price hR.1.hP hR.1.hI hR.1.hNb) gL_refused_X5_price rfl ⟨rfl, rfl⟩ (by decide +kernel) rfl (by decide) (by decide) E_144 rfl rfl (Nat.le_of_ble_eq_true rfl) dL_refused_342 (fun a342 M342 P342 hp => ?_)
  rw [hR.2.1] at hp
  obtain ⟨rfl, hF, hQ⟩ := hp
  have hz := rt_no (fun z => (InR_not (Nat.le_refl N) (by omega)) z.1) hQ
  clear hQ
  subst hz
  replace hR := RS_fr hR (FrS_F hF)
  clear hF
  refine x_ldc h ((-1000001)) (by decide +kernel) dL_refused_345 ?_
  refine x_icmp_ne h 476 dL_refused_347 (by decide) (fun c => absurd c (by decide)) (fun _ => ?_)
  refine x_aload_n h 0 dL_refused_350 rfl rfl ?_
  refine x_iconst h ((-1)) dL_refused_351 (by decide) ?_
  refine x_callV h (As := [.int (-1)]) 1 hx (c_X5_victims hR.1.hP hR.1.hI hR.1.hNb) gL_refused_X5_victims rfl ⟨rfl, rfl⟩ (by decide +kernel) rfl (by decide) (by decide) E_144 rfl rfl (Nat.le_of_ble_eq_true rfl) dL_refused_352 (fun a352 M352 P352 hp => ?_)
  rw [hR.2.1] at hp
  obtain ⟨rfl, hF, hQ⟩ := hp
  have hz := rt_no (fun z => (InR_m (by decide) (by omega)) z.1) hQ
  clear hQ
  subst hz
  replace hR := RS_fr hR (FrS_F hF)
  clear hF
  refine x_ldc h ((-1000001)) (by decide +kernel) dL_refused_355 ?_
  refine x_icmp_ne h 476 dL_refused_357 (by decide) (fun c => absurd c (by decide)) (fun _ => ?_)
  exact x_lv (kk _ hR) [0, 1, 2, 3, 4, 5] rfl

set_option maxRecDepth 100000 in
set_option maxHeartbeats 16000000 in
theorem rf_9 {x : Ctx} {g : Geo} {l : Launch} {M0 M : Nat → Nat → Int32} {P : Nat → Nat} {Xc : Nat → Int32} {N K B A s : Nat} (hx : x.1.2.1 = l) (h : Cxk x g cL_refused 7 wsL_refused RL rmL_refused) (hR : RS M0 P Xc N K B A s M) (kk : ∀ M', RS M0 P Xc N K B A s M' → X x 393 [(0, .ref (g.1 144)), (1, .long (prn Xc N K)), (3, .int (nI N)), (4, .int (nI K)), (5, .int (nI s)), (6, .int (nI 1))] [] M' P) : X x 360 [(0, .ref (g.1 144)), (1, .long (prn Xc N K)), (3, .int (nI N)), (4, .int (nI K)), (5, .int (nI s)), (6, .int (nI 1))] [] M P := by
  have hN6 := hR.1.N6
  have hK12 := hR.1.K12
  have hs4 := hR.1.hs4
  have hI : InvC Xc N K B := hR.2.1 ▸ hR.1.hI
  have hap : appl Xc K ≤ K := appl_le
  refine x_aload_n h 0 dL_refused_360 rfl rfl ?_
  refine x_iload_n h 2 dL_refused_361 rfl rfl ?_
  refine x_iconst h (nI 0) dL_refused_362 (by decide) ?_
  refine x_iconst h (nI 0) dL_refused_363 (by decide) ?_
  refine x_callV h (As := [.int (nI N), .int (nI 0), .int (nI 0)]) 3 hx (c_X5_routeAt hR.1.hP hR.1.hI hR.1.hNb) gL_refused_X5_routeAt rfl ⟨rfl, rfl⟩ (by decide +kernel) rfl (by decide) (by decide) E_144 rfl rfl (Nat.le_of_ble_eq_true rfl) dL_refused_364 (fun a364 M364 P364 hp => ?_)
  rw [hR.2.1] at hp
  obtain ⟨rfl, hF, hQ⟩ := hp
  have hz := ra_at (j := 0) (by decide) hQ (fun z => (InR_not (Nat.le_refl N) (by omega)) z.1)
  clear hQ
  subst hz
  replace hR := RS_fr hR (FrS_F hF)
  clear hF
  refine x_ldc h ((-1000001)) (by decide +kernel) dL_refused_367 ?_
  refine x_icmp_ne h 476 dL_refused_369 (by decide) (fun c => absurd c (by decide)) (fun _ => ?_)
  refine x_aload_n h 0 dL_refused_372 rfl rfl ?_
  refine x_bipush h ((-2)) dL_refused_373 (by decide) ?_
  refine x_callV h (As := [.int (-2)]) 1 hx (c_X5_bestOrder hR.1.hP hR.1.hI hR.1.hNb) gL_refused_X5_bestOrder rfl ⟨rfl, rfl⟩ (by decide +kernel) rfl (by decide) (by decide) E_144 rfl rfl (Nat.le_of_ble_eq_true rfl) dL_refused_375 (fun a375 M375 P375 hp => ?_)
  rw [hR.2.1] at hp
  obtain ⟨rfl, hF, hQ⟩ := hp
  have hz := bo_neg (by decide) hQ
  clear hQ
  subst hz
  replace hR := RS_fr hR (FrS_B hR.1.hP hF)
  clear hF
  refine x_ldc h ((-1000001)) (by decide +kernel) dL_refused_378 ?_
  refine x_icmp_ne h 476 dL_refused_380 (by decide) (fun c => absurd c (by decide)) (fun _ => ?_)
  refine x_aload_n h 0 dL_refused_383 rfl rfl ?_
  refine x_iconst h (nI 3) dL_refused_384 (by decide) ?_
  refine x_callV h (As := [.int (nI 3)]) 1 hx (c_X5_bestOrder hR.1.hP hR.1.hI hR.1.hNb) gL_refused_X5_bestOrder rfl ⟨rfl, rfl⟩ (by decide +kernel) rfl (by decide) (by decide) E_144 rfl rfl (Nat.le_of_ble_eq_true rfl) dL_refused_385 (fun a385 M385 P385 hp => ?_)
  rw [hR.2.1] at hp
  obtain ⟨rfl, hF, hQ⟩ := hp
  have hz := bo_3 hQ
  clear hQ
  subst hz
  replace hR := RS_fr hR (FrS_B hR.1.hP hF)
  clear hF
  refine x_ldc h ((-1000004)) (by decide +kernel) dL_refused_388 ?_
  refine x_icmp_ne h 476 dL_refused_390 (by decide) (fun c => absurd c (by decide)) (fun _ => ?_)
  exact x_lv (kk _ hR) [0, 1, 2, 3, 4, 5] rfl

set_option maxRecDepth 100000 in
set_option maxHeartbeats 16000000 in
theorem rf_10 {x : Ctx} {g : Geo} {l : Launch} {M0 M : Nat → Nat → Int32} {P : Nat → Nat} {Xc : Nat → Int32} {N K B A s : Nat} (hx : x.1.2.1 = l) (h : Cxk x g cL_refused 7 wsL_refused RL rmL_refused) (hR : RS M0 P Xc N K B A s M) (kk : ∀ M', RS M0 P Xc N K B A s M' → X x 415 [(0, .ref (g.1 144)), (1, .long (prn Xc N K)), (3, .int (nI N)), (4, .int (nI K)), (5, .int (nI s)), (6, .int (nI 1))] [] M' P) : X x 393 [(0, .ref (g.1 144)), (1, .long (prn Xc N K)), (3, .int (nI N)), (4, .int (nI K)), (5, .int (nI s)), (6, .int (nI 1))] [] M P := by
  have hN6 := hR.1.N6
  have hK12 := hR.1.K12
  have hs4 := hR.1.hs4
  have hI : InvC Xc N K B := hR.2.1 ▸ hR.1.hI
  have hap : appl Xc K ≤ K := appl_le
  refine x_aload_n h 0 dL_refused_393 rfl rfl ?_
  refine x_iload h 3 dL_refused_394 rfl ?_
  refine x_iconst h (nI 0) dL_refused_396 (by decide) ?_
  refine x_callV h (As := [.int (nI K), .int (nI 0)]) 2 hx (c_X5_claimOf hR.1.hP hR.1.hI) gL_refused_X5_claimOf rfl ⟨rfl, rfl⟩ (by decide +kernel) rfl (by decide) (by decide) E_144 rfl rfl (Nat.le_of_ble_eq_true rfl) dL_refused_397 (fun a397 M' P' hp => ?_)
  rw [hR.2.1] at hp
  obtain ⟨⟨rfl, rfl⟩, hQ⟩ := hp
  have hz := clm_no (fun z => (InR_not (Nat.le_refl K) (by omega)) z.1) hQ
  clear hQ
  subst hz
  refine x_ldc h ((-1000001)) (by decide +kernel) dL_refused_400 ?_
  refine x_icmp_ne h 476 dL_refused_402 (by decide) (fun c => absurd c (by decide)) (fun _ => ?_)
  refine x_aload_n h 0 dL_refused_405 rfl rfl ?_
  refine x_iconst h ((-1)) dL_refused_406 (by decide) ?_
  refine x_callV h (As := [.int (-1)]) 1 hx (c_X5_docketAt hR.1.hP hR.1.hI) gL_refused_X5_docketAt rfl ⟨rfl, rfl⟩ (by decide +kernel) rfl (by decide) (by decide) E_144 rfl rfl (Nat.le_of_ble_eq_true rfl) dL_refused_407 (fun a407 M' P' hp => ?_)
  rw [hR.2.1] at hp
  obtain ⟨⟨rfl, rfl⟩, hQ⟩ := hp
  have hz := dk_neg (by decide) hQ
  clear hQ
  subst hz
  refine x_ldc h ((-1000001)) (by decide +kernel) dL_refused_410 ?_
  refine x_icmp_ne h 476 dL_refused_412 (by decide) (fun c => absurd c (by decide)) (fun _ => ?_)
  exact x_lv (kk _ hR) [0, 1, 2, 3, 4, 5] rfl

set_option maxRecDepth 100000 in
set_option maxHeartbeats 16000000 in
theorem rf_11 {x : Ctx} {g : Geo} {l : Launch} {M0 M : Nat → Nat → Int32} {P : Nat → Nat} {Xc : Nat → Int32} {N K B A s : Nat} (hx : x.1.2.1 = l) (h : Cxk x g cL_refused 7 wsL_refused RL rmL_refused) (hR : RS M0 P Xc N K B A s M) (kk : ∀ M', RS M0 P Xc N K B A s M' → X x 440 [(0, .ref (g.1 144)), (1, .long (prn Xc N K)), (3, .int (nI N)), (4, .int (nI K)), (5, .int (nI s)), (6, .int (nI 1))] [] M' P) : X x 415 [(0, .ref (g.1 144)), (1, .long (prn Xc N K)), (3, .int (nI N)), (4, .int (nI K)), (5, .int (nI s)), (6, .int (nI 1))] [] M P := by
  have hN6 := hR.1.N6
  have hK12 := hR.1.K12
  have hs4 := hR.1.hs4
  have hI : InvC Xc N K B := hR.2.1 ▸ hR.1.hI
  have hap : appl Xc K ≤ K := appl_le
  refine x_aload_n h 0 dL_refused_415 rfl rfl ?_
  refine x_aload_n h 0 dL_refused_416 rfl rfl ?_
  refine x_iconst h (nI 5) dL_refused_417 (by decide) ?_
  refine x_callV h (As := [.int (nI 5)]) 1 hx (c_X5_count hR.1.hP hR.1.hI hR.1.hs hR.1.hs4 hR.1.hln) gL_refused_X5_count rfl ⟨rfl, rfl⟩ (by decide +kernel) rfl (by decide) (by decide) E_144 rfl rfl (Nat.le_of_ble_eq_true rfl) dL_refused_418 (fun a418 M' P' hp => ?_)
  rw [hR.2.1] at hp
  obtain ⟨⟨rfl, rfl⟩, hQ⟩ := hp
  have hz := cnt_at (j := 5) (by omega) (by omega) (by omega) hQ
  clear hQ
  subst hz
  refine x_callV h (As := [.int (nI (appl Xc K))]) 1 hx (c_X5_docketAt hR.1.hP hR.1.hI) gL_refused_X5_docketAt rfl ⟨rfl, rfl⟩ (by decide +kernel) rfl (by decide) (by decide) E_144 rfl rfl (Nat.le_of_ble_eq_true rfl) dL_refused_421 (fun a421 M' P' hp => ?_)
  rw [hR.2.1] at hp
  obtain ⟨⟨rfl, rfl⟩, hQ⟩ := hp
  have hz := (dk_at (by omega) hQ).trans (by rw [hd1_end hK12])
  clear hQ
  subst hz
  refine x_ldc h ((-1000004)) (by decide +kernel) dL_refused_424 ?_
  refine x_icmp_ne h 476 dL_refused_426 (by decide) (fun c => absurd c (by decide)) (fun _ => ?_)
  refine x_aload_n h 0 dL_refused_429 rfl rfl ?_
  refine x_bipush h (nI 12) dL_refused_430 (by decide) ?_
  refine x_callV h (As := [.int (nI 12)]) 1 hx (c_X5_count hR.1.hP hR.1.hI hR.1.hs hR.1.hs4 hR.1.hln) gL_refused_X5_count rfl ⟨rfl, rfl⟩ (by decide +kernel) rfl (by decide) (by decide) E_144 rfl rfl (Nat.le_of_ble_eq_true rfl) dL_refused_432 (fun a432 M' P' hp => ?_)
  rw [hR.2.1] at hp
  obtain ⟨⟨rfl, rfl⟩, hQ⟩ := hp
  have hz := cnt_no (by decide) (by decide) (fun j hj e => by rw [← (nI_eq (by decide) (by omega)).mp e]; rfl) hQ
  clear hQ
  subst hz
  refine x_ldc h ((-1000001)) (by decide +kernel) dL_refused_435 ?_
  refine x_icmp_ne h 476 dL_refused_437 (by decide) (fun c => absurd c (by decide)) (fun _ => ?_)
  exact x_lv (kk _ hR) [0, 1, 2, 3, 4, 5] rfl

set_option maxRecDepth 100000 in
set_option maxHeartbeats 16000000 in
theorem rf_12 {x : Ctx} {g : Geo} {l : Launch} {M0 M : Nat → Nat → Int32} {P : Nat → Nat} {Xc : Nat → Int32} {N K B A s : Nat} (hx : x.1.2.1 = l) (h : Cxk x g cL_refused 7 wsL_refused RL rmL_refused) (hR : RS M0 P Xc N K B A s M) (kk : ∀ M', RS M0 P Xc N K B A s M' → X x 479 [(0, .ref (g.1 144)), (1, .long (prn Xc N K)), (3, .int (nI N)), (4, .int (nI K)), (5, .int (nI s)), (6, .int (nI 1))] [] M' P) : X x 440 [(0, .ref (g.1 144)), (1, .long (prn Xc N K)), (3, .int (nI N)), (4, .int (nI K)), (5, .int (nI s)), (6, .int (nI 1))] [] M P := by
  have hN6 := hR.1.N6
  have hK12 := hR.1.K12
  have hs4 := hR.1.hs4
  have hI : InvC Xc N K B := hR.2.1 ▸ hR.1.hI
  have hap : appl Xc K ≤ K := appl_le
  refine x_aload_n h 0 dL_refused_440 rfl rfl ?_
  refine x_bipush h (nI 24) dL_refused_441 (by decide) ?_
  refine x_callV h (As := [.int (nI 24)]) 1 hx (c_X5_count hR.1.hP hR.1.hI hR.1.hs hR.1.hs4 hR.1.hln) gL_refused_X5_count rfl ⟨rfl, rfl⟩ (by decide +kernel) rfl (by decide) (by decide) E_144 rfl rfl (Nat.le_of_ble_eq_true rfl) dL_refused_443 (fun a443 M' P' hp => ?_)
  rw [hR.2.1] at hp
  obtain ⟨⟨rfl, rfl⟩, hQ⟩ := hp
  have hz := cnt_no (by decide) (by decide) (fun j hj e => absurd ((nI_eq (by decide) (by omega)).mp e) (by omega)) hQ
  clear hQ
  subst hz
  refine x_ldc h ((-1000001)) (by decide +kernel) dL_refused_446 ?_
  refine x_icmp_ne h 476 dL_refused_448 (by decide) (fun c => absurd c (by decide)) (fun _ => ?_)
  refine x_aload_n h 0 dL_refused_451 rfl rfl ?_
  refine x_bipush h (nI 31) dL_refused_452 (by decide) ?_
  refine x_callV h (As := [.int (nI 31)]) 1 hx (c_X5_type hR.1.hT) gL_refused_X5_type rfl ⟨rfl, rfl⟩ (by decide +kernel) rfl (by decide) (by decide) E_144 rfl rfl (Nat.le_of_ble_eq_true rfl) dL_refused_454 (fun a454 M' P' hp => ?_)
  obtain ⟨rfl, hQ⟩ := hp
  obtain ⟨hz, rfl⟩ := typ_no2 hQ
  clear hQ
  subst hz
  refine x_ldc h ((-1000001)) (by decide +kernel) dL_refused_457 ?_
  refine x_icmp_ne h 476 dL_refused_459 (by decide) (fun c => absurd c (by decide)) (fun _ => ?_)
  refine x_aload_n h 0 dL_refused_462 rfl rfl ?_
  refine x_iconst h (nI 2) dL_refused_463 (by decide) ?_
  refine x_callV h (As := [.int (nI 2)]) 1 hx (c_X5_fault hR.1.hP hR.1.hI hR.1.hNb hR.1.hT) gL_refused_X5_fault rfl ⟨rfl, rfl⟩ (by decide +kernel) rfl (by decide) (by decide) E_144 rfl rfl (Nat.le_of_ble_eq_true rfl) dL_refused_464 (fun a464 M464 P464 hp => ?_)
  obtain ⟨rfl, h1, h2, Y, hY, hQ⟩ := hp
  have hz := flt_no (InR_not (by decide) (by decide)) hQ
  clear hQ hY
  subst hz
  have hp1 := hR.1.hP.1 1 (by decide)
  replace hR := RS_fr hR ⟨fun k a b c d e => h1 k a d (by omega), by rw [h1 144 (by omega) (by omega) (by omega)], h2⟩
  clear h1 h2 hp1
  refine x_ldc h ((-1000001)) (by decide +kernel) dL_refused_467 ?_
  refine x_icmp_ne h 476 dL_refused_469 (by decide) (fun c => absurd c (by decide)) (fun _ => ?_)
  refine x_iconst h (nI 1) dL_refused_472 (by decide) ?_
  refine x_goto h 477 dL_refused_473 (by decide) ?_
  refine x_istore h [(6, .int (nI 1)), (0, .ref (g.1 144)), (1, .long (prn Xc N K)), (3, .int (nI N)), (4, .int (nI K)), (5, .int (nI s))] dL_refused_477 (by decide) rfl ?_
  exact x_lv (kk _ hR) [1, 2, 3, 4, 5, 0] rfl

set_option maxRecDepth 100000 in
set_option maxHeartbeats 16000000 in
theorem rf_end {x : Ctx} {g : Geo} {l : Launch} {M0 M : Nat → Nat → Int32} {P : Nat → Nat} {Xc : Nat → Int32} {N K B A s : Nat} (hx : x.1.2.1 = l) (h : Cxk x g cL_refused 7 wsL_refused RL rmL_refused) (hR : RS M0 P Xc N K B A s M) (hret : RetZ x cL_refused (fun r M' P' => P = P' ∧ FrS P M0 M' ∧ r = nI 1)) : X x 665 [(0, .ref (g.1 144)), (1, .long (prn Xc N K)), (3, .int (nI N)), (4, .int (nI K)), (5, .int (nI s)), (6, .int (nI 1))] [] M P := by
  have hN6 := hR.1.N6
  have hK12 := hR.1.K12
  have hs4 := hR.1.hs4
  have hI : InvC Xc N K B := hR.2.1 ▸ hR.1.hI
  have hap : appl Xc K ≤ K := appl_le
  refine x_iload h 5 dL_refused_665 rfl ?_
  refine x_if_eq h 711 dL_refused_667 (by decide) (fun c => absurd c (by decide)) (fun _ => ?_)
  refine x_aload_n h 0 dL_refused_670 rfl rfl ?_
  refine x_iconst h (nI 5) dL_refused_671 (by decide) ?_
  refine x_callV h (As := [.int (nI 5)]) 1 hx (c_X5_count hR.1.hP hR.1.hI hR.1.hs hR.1.hs4 hR.1.hln) gL_refused_X5_count rfl ⟨rfl, rfl⟩ (by decide +kernel) rfl (by decide) (by decide) E_144 rfl rfl (Nat.le_of_ble_eq_true rfl) dL_refused_672 (fun a672 M' P' hp => ?_)
  rw [hR.2.1] at hp
  obtain ⟨⟨rfl, rfl⟩, hQ⟩ := hp
  have hz := cnt_at (j := 5) (by omega) (by omega) (by omega) hQ
  clear hQ
  subst hz
  refine x_if_gt_n h 687 dL_refused_675 (by decide) (by first | omega | exact jN_lt) (fun c_675 => ?_) (fun c_675 => ?_)
  · -- 675 true
    refine x_aload_n h 0 dL_refused_687 rfl rfl ?_
    refine x_bipush h (nI 10) dL_refused_688 (by decide) ?_
    refine x_callV h (As := [.int (nI 10)]) 1 hx (c_X5_count hR.1.hP hR.1.hI hR.1.hs hR.1.hs4 hR.1.hln) gL_refused_X5_count rfl ⟨rfl, rfl⟩ (by decide +kernel) rfl (by decide) (by decide) E_144 rfl rfl (Nat.le_of_ble_eq_true rfl) dL_refused_690 (fun a690 M' P' hp => ?_)
    rw [hR.2.1] at hp
    obtain ⟨⟨rfl, rfl⟩, hQ⟩ := hp
    have hz := cnt_10 hQ
    clear hQ
    subst hz
    refine x_iload h 4 dL_refused_693 rfl ?_
    refine x_icmp_ne_n h 711 dL_refused_695 (by decide) (by first | omega | exact jN_lt) (by first | omega | exact jN_lt) (fun c_695 => by exfalso; exact absurd rfl c_695) (fun c_695 => ?_)
    refine x_aload_n h 0 dL_refused_698 rfl rfl ?_
    refine x_callSl h (As := [.ref (g.1 144)]) 1 hx (c_L_print hR.1) gL_refused_L_print rfl ⟨rfl, rfl⟩ (by decide +kernel) rfl (by decide) (Nat.le_of_ble_eq_true rfl) dL_refused_699 (fun a699 M' P' hp => ?_)
    rw [hR.2.1] at hp
    obtain ⟨⟨rfl, rfl⟩, rfl⟩ := hp
    refine x_lload_n h 1 rfl rfl dL_refused_702 ?_
    refine x_lcmp h dL_refused_703 ?_
    refine x_top (nI 0) (lg_cmp_0 _) ?_
    refine x_if_ne h 711 dL_refused_704 (by decide) (fun c => absurd c (by decide)) (fun _ => ?_)
    refine x_iconst h (nI 1) dL_refused_707 (by decide) ?_
    refine x_goto h 712 dL_refused_708 (by decide) ?_
    exact hret _ _ _ _ _ dL_refused_712 (by decide) (by exact ⟨rfl, hR.2.2, rfl⟩)
  · -- 675 false
    refine x_aload_n h 0 dL_refused_678 rfl rfl ?_
    refine x_callV h (As := []) 0 hx (c_X5_hear hR.1.hP hR.1.hI hR.1.hs hR.1.hs4) gL_refused_X5_hear rfl ⟨rfl, rfl⟩ (by decide +kernel) rfl (by decide) (by decide) E_144 rfl rfl (Nat.le_of_ble_eq_true rfl) dL_refused_679 (fun a679 M679 P679 hp => ?_)
    rw [hR.2.1] at hp
    obtain ⟨hz1, hz2, hF⟩ := ref_of (Q := fun Y r X' => hearQ bC eC Y N K r X') (-1000002) hR.1.hs hp (by decide) (fun Y hY X' q => hear_no hY c_675 q)
    clear hp
    subst hz1
    subst hz2
    replace hR := RS_fr hR hF
    clear hF
    refine x_ldc h ((-1000002)) (by decide +kernel) dL_refused_682 ?_
    refine x_icmp_ne h 711 dL_refused_684 (by decide) (fun c => absurd c (by decide)) (fun _ => ?_)
    refine x_aload_n h 0 dL_refused_687 rfl rfl ?_
    refine x_bipush h (nI 10) dL_refused_688 (by decide) ?_
    refine x_callV h (As := [.int (nI 10)]) 1 hx (c_X5_count hR.1.hP hR.1.hI hR.1.hs hR.1.hs4 hR.1.hln) gL_refused_X5_count rfl ⟨rfl, rfl⟩ (by decide +kernel) rfl (by decide) (by decide) E_144 rfl rfl (Nat.le_of_ble_eq_true rfl) dL_refused_690 (fun a690_1 M' P' hp => ?_)
    rw [hR.2.1] at hp
    obtain ⟨⟨rfl, rfl⟩, hQ⟩ := hp
    have hz := cnt_10 hQ
    clear hQ
    subst hz
    refine x_iload h 4 dL_refused_693 rfl ?_
    refine x_icmp_ne_n h 711 dL_refused_695 (by decide) (by first | omega | exact jN_lt) (by first | omega | exact jN_lt) (fun c_695 => by exfalso; exact absurd rfl c_695) (fun c_695 => ?_)
    refine x_aload_n h 0 dL_refused_698 rfl rfl ?_
    refine x_callSl h (As := [.ref (g.1 144)]) 1 hx (c_L_print hR.1) gL_refused_L_print rfl ⟨rfl, rfl⟩ (by decide +kernel) rfl (by decide) (Nat.le_of_ble_eq_true rfl) dL_refused_699 (fun a699_1 M' P' hp => ?_)
    rw [hR.2.1] at hp
    obtain ⟨⟨rfl, rfl⟩, rfl⟩ := hp
    refine x_lload_n h 1 rfl rfl dL_refused_702 ?_
    refine x_lcmp h dL_refused_703 ?_
    refine x_top (nI 0) (lg_cmp_0 _) ?_
    refine x_if_ne h 711 dL_refused_704 (by decide) (fun c => absurd c (by decide)) (fun _ => ?_)
    refine x_iconst h (nI 1) dL_refused_707 (by decide) ?_
    refine x_goto h 712 dL_refused_708 (by decide) ?_
    exact hret _ _ _ _ _ dL_refused_712 (by decide) (by exact ⟨rfl, hR.2.2, rfl⟩)

set_option maxRecDepth 100000 in
set_option maxHeartbeats 16000000 in
theorem rf_n0 {x : Ctx} {g : Geo} {l : Launch} {M0 M : Nat → Nat → Int32} {P : Nat → Nat} {Xc : Nat → Int32} {N K B A s : Nat} (hx : x.1.2.1 = l) (h : Cxk x g cL_refused 7 wsL_refused RL rmL_refused) (hR : RS M0 P Xc N K B A s M) (c_480 : 0 < N) (kk : ∀ M', RS M0 P Xc N K B A s M' → X x 522 [(0, .ref (g.1 144)), (1, .long (prn Xc N K)), (3, .int (nI N)), (4, .int (nI K)), (5, .int (nI s)), (6, .int (nI 1))] [] M' P) : X x 488 [(0, .ref (g.1 144)), (1, .long (prn Xc N K)), (3, .int (nI N)), (4, .int (nI K)), (5, .int (nI s)), (6, .int (nI 1))] [] M P := by
  have hN6 := hR.1.N6
  have hK12 := hR.1.K12
  have hs4 := hR.1.hs4
  have hI : InvC Xc N K B := hR.2.1 ▸ hR.1.hI
  have hap : appl Xc K ≤ K := appl_le
  have hG0 := hI.1.1.net (k := 0) (by omega)
  obtain ⟨⟨p0, hp0, ep0, ep0a, -⟩, ⟨p1, hp1, ep1, ep1a, -⟩, -, -, -, hj0, -⟩ := hG0
  have hwir : wir Xc (nI 0) ≤ 162 := cnt_le _ _
  refine x_aload_n h 0 dL_refused_488 rfl rfl ?_
  refine x_iconst h (nI 0) dL_refused_489 (by decide) ?_
  refine x_iconst h (nI 0) dL_refused_490 (by decide) ?_
  refine x_callV h (As := [.int (nI 0), .int (nI 0)]) 2 hx (c_X5_give hR.1.hP hR.1.hI hR.1.hs hR.1.hs4) gL_refused_X5_give rfl ⟨rfl, rfl⟩ (by decide +kernel) rfl (by decide) (by decide) E_144 rfl rfl (Nat.le_of_ble_eq_true rfl) dL_refused_491 (fun a491 M491 P491 hp => ?_)
  rw [hR.2.1] at hp
  obtain ⟨hz1, hz2, hF⟩ := ref_of (Q := fun Y r X' => giveQ Y N (nI 0) (nI 0) r X') (-1000001) hR.1.hs hp (by decide) (fun Y hY X' q => give_bad (fun z => absurd z.2.1 (by decide)) q)
  clear hp
  subst hz1
  subst hz2
  replace hR := RS_fr hR hF
  clear hF
  refine x_ldc h ((-1000001)) (by decide +kernel) dL_refused_494 ?_
  refine x_icmp_ne h 662 dL_refused_496 (by decide) (fun c => absurd c (by decide)) (fun _ => ?_)
  refine x_aload_n h 0 dL_refused_499 rfl rfl ?_
  refine x_iconst h (nI 0) dL_refused_500 (by decide) ?_
  refine x_bipush h (nI 11) dL_refused_501 (by decide) ?_
  refine x_callV h (As := [.int (nI 0), .int (nI 11)]) 2 hx (c_X5_netOf hR.1.hP hR.1.hI) gL_refused_X5_netOf rfl ⟨rfl, rfl⟩ (by decide +kernel) rfl (by decide) (by decide) E_144 rfl rfl (Nat.le_of_ble_eq_true rfl) dL_refused_503 (fun a503 M' P' hp => ?_)
  rw [hR.2.1] at hp
  obtain ⟨⟨rfl, rfl⟩, hQ⟩ := hp
  have hz := net_no (fun z => InR_not (by decide) (by decide) z.2) hQ
  clear hQ
  subst hz
  refine x_ldc h ((-1000001)) (by decide +kernel) dL_refused_506 ?_
  refine x_icmp_ne h 662 dL_refused_508 (by decide) (fun c => absurd c (by decide)) (fun _ => ?_)
  refine x_aload_n h 0 dL_refused_511 rfl rfl ?_
  refine x_iconst h (nI 0) dL_refused_512 (by decide) ?_
  refine x_iconst h ((-1)) dL_refused_513 (by decide) ?_
  refine x_callV h (As := [.int (nI 0), .int (-1)]) 2 hx (c_X5_wireAt hR.1.hP hR.1.hI) gL_refused_X5_wireAt rfl ⟨rfl, rfl⟩ (by decide +kernel) rfl (by decide) (by decide) E_144 rfl rfl (Nat.le_of_ble_eq_true rfl) dL_refused_514 (fun a514 M' P' hp => ?_)
  rw [hR.2.1] at hp
  obtain ⟨⟨rfl, rfl⟩, hQ⟩ := hp
  have hz := wire_no (fun z => absurd (by decide) z.2) hQ
  clear hQ
  subst hz
  refine x_ldc h ((-1000001)) (by decide +kernel) dL_refused_517 ?_
  refine x_icmp_ne h 662 dL_refused_519 (by decide) (fun c => absurd c (by decide)) (fun _ => ?_)
  exact x_lv (kk _ hR) [0, 1, 2, 3, 4, 5] rfl

set_option maxRecDepth 100000 in
set_option maxHeartbeats 16000000 in
theorem rf_n1 {x : Ctx} {g : Geo} {l : Launch} {M0 M : Nat → Nat → Int32} {P : Nat → Nat} {Xc : Nat → Int32} {N K B A s : Nat} (hx : x.1.2.1 = l) (h : Cxk x g cL_refused 7 wsL_refused RL rmL_refused) (hR : RS M0 P Xc N K B A s M) (c_480 : 0 < N) (kk : ∀ M', RS M0 P Xc N K B A s M' → X x 545 [(0, .ref (g.1 144)), (1, .long (prn Xc N K)), (3, .int (nI N)), (4, .int (nI K)), (5, .int (nI s)), (6, .int (nI 1))] [] M' P) : X x 522 [(0, .ref (g.1 144)), (1, .long (prn Xc N K)), (3, .int (nI N)), (4, .int (nI K)), (5, .int (nI s)), (6, .int (nI 1))] [] M P := by
  have hN6 := hR.1.N6
  have hK12 := hR.1.K12
  have hs4 := hR.1.hs4
  have hI : InvC Xc N K B := hR.2.1 ▸ hR.1.hI
  have hap : appl Xc K ≤ K := appl_le
  have hG0 := hI.1.1.net (k := 0) (by omega)
  obtain ⟨⟨p0, hp0, ep0, ep0a, -⟩, ⟨p1, hp1, ep1, ep1a, -⟩, -, -, -, hj0, -⟩ := hG0
  have hwir : wir Xc (nI 0) ≤ 162 := cnt_le _ _
  refine x_aload_n h 0 dL_refused_522 rfl rfl ?_
  refine x_iconst h (nI 0) dL_refused_523 (by decide) ?_
  refine x_iconst h (nI 2) dL_refused_524 (by decide) ?_
  refine x_callV h (As := [.int (nI 0), .int (nI 2)]) 2 hx (c_X5_cost hR.1.hP hR.1.hI hR.1.hNb) gL_refused_X5_cost rfl ⟨rfl, rfl⟩ (by decide +kernel) rfl (by decide) (by decide) E_144 rfl rfl (Nat.le_of_ble_eq_true rfl) dL_refused_525 (fun a525 M525 P525 hp => ?_)
  rw [hR.2.1] at hp
  obtain ⟨rfl, hF, hQ⟩ := hp
  have hz := rt_no (fun z => InR_not (by decide) (by decide) z.2) hQ
  clear hQ
  subst hz
  replace hR := RS_fr hR (FrS_F hF)
  clear hF
  refine x_ldc h ((-1000001)) (by decide +kernel) dL_refused_528 ?_
  refine x_icmp_ne h 662 dL_refused_530 (by decide) (fun c => absurd c (by decide)) (fun _ => ?_)
  refine x_aload_n h 0 dL_refused_533 rfl rfl ?_
  refine x_iconst h (nI 0) dL_refused_534 (by decide) ?_
  refine x_iconst h (nI 0) dL_refused_535 (by decide) ?_
  refine x_iconst h ((-1)) dL_refused_536 (by decide) ?_
  refine x_callV h (As := [.int (nI 0), .int (nI 0), .int (-1)]) 3 hx (c_X5_routeAt hR.1.hP hR.1.hI hR.1.hNb) gL_refused_X5_routeAt rfl ⟨rfl, rfl⟩ (by decide +kernel) rfl (by decide) (by decide) E_144 rfl rfl (Nat.le_of_ble_eq_true rfl) dL_refused_537 (fun a537 M537 P537 hp => ?_)
  rw [hR.2.1] at hp
  obtain ⟨rfl, hF, hQ⟩ := hp
  have hz := ra_neg hQ (fun ⟨j, h1, h2, _⟩ => nI_pos h1 (by rw [← h2]; decide))
  clear hQ
  subst hz
  replace hR := RS_fr hR (FrS_F hF)
  clear hF
  refine x_ldc h ((-1000001)) (by decide +kernel) dL_refused_540 ?_
  refine x_icmp_ne h 662 dL_refused_542 (by decide) (fun c => absurd c (by decide)) (fun _ => ?_)
  exact x_lv (kk _ hR) [0, 1, 2, 3, 4, 5] rfl

set_option maxRecDepth 100000 in
set_option maxHeartbeats 16000000 in
theorem rf_n2 {x : Ctx} {g : Geo} {l : Launch} {M0 M : Nat → Nat → Int32} {P : Nat → Nat} {Xc : Nat → Int32} {N K B A s : Nat} (hx : x.1.2.1 = l) (h : Cxk x g cL_refused 7 wsL_refused RL rmL_refused) (hR : RS M0 P Xc N K B A s M) (c_480 : 0 < N) (kk : ∀ M', RS M0 P Xc N K B A s M' → X x 561 [(0, .ref (g.1 144)), (1, .long (prn Xc N K)), (3, .int (nI N)), (4, .int (nI K)), (5, .int (nI s)), (6, .int (nI 1))] [] M' P) : X x 545 [(0, .ref (g.1 144)), (1, .long (prn Xc N K)), (3, .int (nI N)), (4, .int (nI K)), (5, .int (nI s)), (6, .int (nI 1))] [] M P := by
  have hN6 := hR.1.N6
  have hK12 := hR.1.K12
  have hs4 := hR.1.hs4
  have hI : InvC Xc N K B := hR.2.1 ▸ hR.1.hI
  have hap : appl Xc K ≤ K := appl_le
  have hG0 := hI.1.1.net (k := 0) (by omega)
  obtain ⟨⟨p0, hp0, ep0, ep0a, -⟩, ⟨p1, hp1, ep1, ep1a, -⟩, -, -, -, hj0, -⟩ := hG0
  have hwir : wir Xc (nI 0) ≤ 162 := cnt_le _ _
  refine x_aload_n h 0 dL_refused_545 rfl rfl ?_
  refine x_aload_n h 0 dL_refused_546 rfl rfl ?_
  refine x_iconst h (nI 0) dL_refused_547 (by decide) ?_
  refine x_iconst h (nI 0) dL_refused_548 (by decide) ?_
  refine x_callV h (As := [.int (nI 0), .int (nI 0)]) 2 hx (c_X5_netOf hR.1.hP hR.1.hI) gL_refused_X5_netOf rfl ⟨rfl, rfl⟩ (by decide +kernel) rfl (by decide) (by decide) E_144 rfl rfl (Nat.le_of_ble_eq_true rfl) dL_refused_549 (fun a549 M' P' hp => ?_)
  rw [hR.2.1] at hp
  obtain ⟨⟨rfl, rfl⟩, hQ⟩ := hp
  have hz := net_at (k := 0) (j := 0) hN6 (by omega) (by omega) hQ
  clear hQ
  subst hz
  refine x_top (nI p0) ep0 ?_
  refine x_iconst h (nI 1) dL_refused_552 (by decide) ?_
  refine x_callV h (As := [.int (nI p0), .int (nI 1)]) 2 hx (c_X5_block hR.1.hP hR.1.hI hR.1.hs hR.1.hs4) gL_refused_X5_block rfl ⟨rfl, rfl⟩ (by decide +kernel) rfl (by decide) (by decide) E_144 rfl rfl (Nat.le_of_ble_eq_true rfl) dL_refused_553 (fun a553 M553 P553 hp => ?_)
  rw [hR.2.1] at hp
  obtain ⟨hz1, hz2, hF⟩ := ref_of (Q := fun Y r X' => blkQ eC Y (nI p0) (nI 1) r X') (-1000002) hR.1.hs hp (by decide) (fun Y hY X' q => blk_pos hp0 (by decide) hY (by rw [if_pos rfl, ep0a]; decide) q)
  clear hp
  subst hz1
  subst hz2
  replace hR := RS_fr hR hF
  clear hF
  refine x_ldc h ((-1000002)) (by decide +kernel) dL_refused_556 ?_
  refine x_icmp_ne h 662 dL_refused_558 (by decide) (fun c => absurd c (by decide)) (fun _ => ?_)
  exact x_lv (kk _ hR) [0, 1, 2, 3, 4, 5] rfl

set_option maxRecDepth 100000 in
set_option maxHeartbeats 16000000 in
theorem rf_n3 {x : Ctx} {g : Geo} {l : Launch} {M0 M : Nat → Nat → Int32} {P : Nat → Nat} {Xc : Nat → Int32} {N K B A s : Nat} (hx : x.1.2.1 = l) (h : Cxk x g cL_refused 7 wsL_refused RL rmL_refused) (hR : RS M0 P Xc N K B A s M) (c_480 : 0 < N) (kk : ∀ M', RS M0 P Xc N K B A s M' → X x 577 [(0, .ref (g.1 144)), (1, .long (prn Xc N K)), (3, .int (nI N)), (4, .int (nI K)), (5, .int (nI s)), (6, .int (nI 1))] [] M' P) : X x 561 [(0, .ref (g.1 144)), (1, .long (prn Xc N K)), (3, .int (nI N)), (4, .int (nI K)), (5, .int (nI s)), (6, .int (nI 1))] [] M P := by
  have hN6 := hR.1.N6
  have hK12 := hR.1.K12
  have hs4 := hR.1.hs4
  have hI : InvC Xc N K B := hR.2.1 ▸ hR.1.hI
  have hap : appl Xc K ≤ K := appl_le
  have hG0 := hI.1.1.net (k := 0) (by omega)
  obtain ⟨⟨p0, hp0, ep0, ep0a, -⟩, ⟨p1, hp1, ep1, ep1a, -⟩, -, -, -, hj0, -⟩ := hG0
  have hwir : wir Xc (nI 0) ≤ 162 := cnt_le _ _
  refine x_aload_n h 0 dL_refused_561 rfl rfl ?_
  refine x_aload_n h 0 dL_refused_562 rfl rfl ?_
  refine x_iconst h (nI 0) dL_refused_563 (by decide) ?_
  refine x_iconst h (nI 1) dL_refused_564 (by decide) ?_
  refine x_callV h (As := [.int (nI 0), .int (nI 1)]) 2 hx (c_X5_netOf hR.1.hP hR.1.hI) gL_refused_X5_netOf rfl ⟨rfl, rfl⟩ (by decide +kernel) rfl (by decide) (by decide) E_144 rfl rfl (Nat.le_of_ble_eq_true rfl) dL_refused_565 (fun a565 M' P' hp => ?_)
  rw [hR.2.1] at hp
  obtain ⟨⟨rfl, rfl⟩, hQ⟩ := hp
  have hz := net_at (k := 0) (j := 1) hN6 (by omega) (by omega) hQ
  clear hQ
  subst hz
  refine x_top (nI p1) ep1 ?_
  refine x_iconst h (nI 0) dL_refused_568 (by decide) ?_
  refine x_callV h (As := [.int (nI p1), .int (nI 0)]) 2 hx (c_X5_block hR.1.hP hR.1.hI hR.1.hs hR.1.hs4) gL_refused_X5_block rfl ⟨rfl, rfl⟩ (by decide +kernel) rfl (by decide) (by decide) E_144 rfl rfl (Nat.le_of_ble_eq_true rfl) dL_refused_569 (fun a569 M569 P569 hp => ?_)
  rw [hR.2.1] at hp
  obtain ⟨hz1, hz2, hF⟩ := ref_of (Q := fun Y r X' => blkQ eC Y (nI p1) (nI 0) r X') (-1000002) hR.1.hs hp (by decide) (fun Y hY X' q => blk_pos hp1 (by decide) hY (by rw [if_neg (by decide), ep1a]; decide) q)
  clear hp
  subst hz1
  subst hz2
  replace hR := RS_fr hR hF
  clear hF
  refine x_ldc h ((-1000002)) (by decide +kernel) dL_refused_572 ?_
  refine x_icmp_ne h 662 dL_refused_574 (by decide) (fun c => absurd c (by decide)) (fun _ => ?_)
  exact x_lv (kk _ hR) [0, 1, 2, 3, 4, 5] rfl

set_option maxRecDepth 100000 in
set_option maxHeartbeats 16000000 in
theorem rf_n4 {x : Ctx} {g : Geo} {l : Launch} {M0 M : Nat → Nat → Int32} {P : Nat → Nat} {Xc : Nat → Int32} {N K B A s : Nat} (hx : x.1.2.1 = l) (h : Cxk x g cL_refused 7 wsL_refused RL rmL_refused) (hR : RS M0 P Xc N K B A s M) (c_480 : 0 < N) (kk : ∀ M', RS M0 P Xc N K B A s M' → X x 594 [(0, .ref (g.1 144)), (1, .long (prn Xc N K)), (3, .int (nI N)), (4, .int (nI K)), (5, .int (nI s)), (6, .int (nI 1))] [] M' P) : X x 577 [(0, .ref (g.1 144)), (1, .long (prn Xc N K)), (3, .int (nI N)), (4, .int (nI K)), (5, .int (nI s)), (6, .int (nI 1))] [] M P := by
  have hN6 := hR.1.N6
  have hK12 := hR.1.K12
  have hs4 := hR.1.hs4
  have hI : InvC Xc N K B := hR.2.1 ▸ hR.1.hI
  have hap : appl Xc K ≤ K := appl_le
  have hG0 := hI.1.1.net (k := 0) (by omega)
  obtain ⟨⟨p0, hp0, ep0, ep0a, -⟩, ⟨p1, hp1, ep1, ep1a, -⟩, -, -, -, hj0, -⟩ := hG0
  have hwir : wir Xc (nI 0) ≤ 162 := cnt_le _ _
  refine x_aload_n h 0 dL_refused_577 rfl rfl ?_
  refine x_iconst h (nI 0) dL_refused_578 (by decide) ?_
  refine x_aload_n h 0 dL_refused_579 rfl rfl ?_
  refine x_iconst h (nI 0) dL_refused_580 (by decide) ?_
  refine x_bipush h (nI 6) dL_refused_581 (by decide) ?_
  refine x_callV h (As := [.int (nI 0), .int (nI 6)]) 2 hx (c_X5_netOf hR.1.hP hR.1.hI) gL_refused_X5_netOf rfl ⟨rfl, rfl⟩ (by decide +kernel) rfl (by decide) (by decide) E_144 rfl rfl (Nat.le_of_ble_eq_true rfl) dL_refused_583 (fun a583 M' P' hp => ?_)
  rw [hR.2.1] at hp
  obtain ⟨⟨rfl, rfl⟩, hQ⟩ := hp
  have hz := net_at (k := 0) (j := 6) hN6 (by omega) (by omega) hQ
  clear hQ
  subst hz
  refine x_callV h (As := [.int (nI 0), .int (nI (wir Xc (nI 0)))]) 2 hx (c_X5_wireAt hR.1.hP hR.1.hI) gL_refused_X5_wireAt rfl ⟨rfl, rfl⟩ (by decide +kernel) rfl (by decide) (by decide) E_144 rfl rfl (Nat.le_of_ble_eq_true rfl) dL_refused_586 (fun a586 M' P' hp => ?_)
  rw [hR.2.1] at hp
  obtain ⟨⟨rfl, rfl⟩, hQ⟩ := hp
  have hz := (wire_at hN6 (by omega) (by omega) hQ).trans wire_end
  clear hQ
  subst hz
  refine x_ldc h ((-1000004)) (by decide +kernel) dL_refused_589 ?_
  refine x_icmp_ne h 662 dL_refused_591 (by decide) (fun c => absurd c (by decide)) (fun _ => ?_)
  exact x_lv (kk _ hR) [0, 1, 2, 3, 4, 5] rfl

set_option maxRecDepth 100000 in
set_option maxHeartbeats 16000000 in
theorem rf_n5 {x : Ctx} {g : Geo} {l : Launch} {M0 M : Nat → Nat → Int32} {P : Nat → Nat} {Xc : Nat → Int32} {N K B A s : Nat} (hx : x.1.2.1 = l) (h : Cxk x g cL_refused 7 wsL_refused RL rmL_refused) (hR : RS M0 P Xc N K B A s M) (c_480 : 0 < N) (kk : ∀ M', RS M0 P Xc N K B A s M' → X x 665 [(0, .ref (g.1 144)), (1, .long (prn Xc N K)), (3, .int (nI N)), (4, .int (nI K)), (5, .int (nI s)), (6, .int (nI 1))] [] M' P) : X x 594 [(0, .ref (g.1 144)), (1, .long (prn Xc N K)), (3, .int (nI N)), (4, .int (nI K)), (5, .int (nI s)), (6, .int (nI 1))] [] M P := by
  have hN6 := hR.1.N6
  have hK12 := hR.1.K12
  have hs4 := hR.1.hs4
  have hI : InvC Xc N K B := hR.2.1 ▸ hR.1.hI
  have hap : appl Xc K ≤ K := appl_le
  have hG0 := hI.1.1.net (k := 0) (by omega)
  obtain ⟨⟨p0, hp0, ep0, ep0a, -⟩, ⟨p1, hp1, ep1, ep1a, -⟩, -, -, -, hj0, -⟩ := hG0
  have hwir : wir Xc (nI 0) ≤ 162 := cnt_le _ _
  refine x_aload_n h 0 dL_refused_594 rfl rfl ?_
  refine x_iconst h (nI 0) dL_refused_595 (by decide) ?_
  refine x_iconst h (nI 5) dL_refused_596 (by decide) ?_
  refine x_callV h (As := [.int (nI 0), .int (nI 5)]) 2 hx (c_X5_netOf hR.1.hP hR.1.hI) gL_refused_X5_netOf rfl ⟨rfl, rfl⟩ (by decide +kernel) rfl (by decide) (by decide) E_144 rfl rfl (Nat.le_of_ble_eq_true rfl) dL_refused_597 (fun a597 M' P' hp => ?_)
  rw [hR.2.1] at hp
  obtain ⟨⟨rfl, rfl⟩, hQ⟩ := hp
  have hz := (net_at (k := 0) (j := 5) hN6 (by omega) (by omega) hQ).trans (fNet5 Xc 0)
  clear hQ
  subst hz
  refine x_iconst h (nI 1) dL_refused_600 (by decide) ?_
  refine x_icmp_ne_n h 648 dL_refused_601 (by decide) (by first | omega | exact jN_lt) (by decide) (fun c_601 => ?_) (fun c_601 => ?_)
  · -- 601 true
    refine x_aload_n h 0 dL_refused_648 rfl rfl ?_
    refine x_iconst h (nI 0) dL_refused_649 (by decide) ?_
    refine x_callV h (As := [.int (nI 0)]) 1 hx (c_X5_rip hR.1.hP hR.1.hI hR.1.hs hR.1.hs4) gL_refused_X5_rip rfl ⟨rfl, rfl⟩ (by decide +kernel) rfl (by decide) (by decide) E_144 rfl rfl (Nat.le_of_ble_eq_true rfl) dL_refused_650 (fun a650 M650 P650 hp => ?_)
    rw [hR.2.1] at hp
    obtain ⟨hz1, hz2, hF⟩ := ref_of (Q := fun Y r X' => ripQ eC Y N (nI 0) r X') (-1000002) hR.1.hs hp (by decide) (fun Y hY X' q => rip_pos (k := 0) hN6 (by omega) hY (jN_0 c_601) q)
    clear hp
    subst hz1
    subst hz2
    replace hR := RS_fr hR hF
    clear hF
    refine x_ldc h ((-1000002)) (by decide +kernel) dL_refused_653 ?_
    refine x_icmp_ne h 662 dL_refused_655 (by decide) (fun c => absurd c (by decide)) (fun _ => ?_)
    refine x_iconst h (nI 1) dL_refused_658 (by decide) ?_
    refine x_goto h 663 dL_refused_659 (by decide) ?_
    refine x_istore h [(6, .int (nI 1)), (0, .ref (g.1 144)), (1, .long (prn Xc N K)), (3, .int (nI N)), (4, .int (nI K)), (5, .int (nI s))] dL_refused_663 (by decide) rfl ?_
    exact x_lv (kk _ hR) [1, 2, 3, 4, 5, 0] rfl
  · -- 601 false
    refine x_aload_n h 0 dL_refused_604 rfl rfl ?_
    refine x_iconst h (nI 0) dL_refused_605 (by decide) ?_
    refine x_callV h (As := [.int (nI 0)]) 1 hx (c_X5_lay hR.1.hP hR.1.hI hR.1.hs hR.1.hs4 hR.1.hNb) gL_refused_X5_lay rfl ⟨rfl, rfl⟩ (by decide +kernel) rfl (by decide) (by decide) E_144 rfl rfl (Nat.le_of_ble_eq_true rfl) dL_refused_606 (fun a606 M606 P606 hp => ?_)
    rw [hR.2.1] at hp
    obtain ⟨hz1, hz2, hF⟩ := ref_of (Q := fun Y r X' => layQ eC Y N (nI 0) r X') (-1000002) hR.1.hs hp (by decide) (fun Y hY X' q => lay_pos (k := 0) hN6 (by omega) hY (jN_1 c_601) q)
    clear hp
    subst hz1
    subst hz2
    replace hR := RS_fr hR hF
    clear hF
    refine x_ldc h ((-1000002)) (by decide +kernel) dL_refused_609 ?_
    refine x_icmp_ne h 662 dL_refused_611 (by decide) (fun c => absurd c (by decide)) (fun _ => ?_)
    refine x_aload_n h 0 dL_refused_614 rfl rfl ?_
    refine x_iconst h (nI 0) dL_refused_615 (by decide) ?_
    refine x_callV h (As := [.int (nI 0)]) 1 hx (c_X5_dig hR.1.hP hR.1.hI hR.1.hs hR.1.hs4 hR.1.hNb) gL_refused_X5_dig rfl ⟨rfl, rfl⟩ (by decide +kernel) rfl (by decide) (by decide) E_144 rfl rfl (Nat.le_of_ble_eq_true rfl) dL_refused_616 (fun a616 M616 P616 hp => ?_)
    rw [hR.2.1] at hp
    obtain ⟨hz1, hz2, hF⟩ := ref_of (Q := fun Y r X' => digQ finC eC Y N K (nI 0) r X') (-1000002) hR.1.hs hp (by decide) (fun Y hY X' q => dig_pos (k := 0) hN6 (by omega) hY (jN_1 c_601) q)
    clear hp
    subst hz1
    subst hz2
    replace hR := RS_fr hR hF
    clear hF
    refine x_ldc h ((-1000002)) (by decide +kernel) dL_refused_619 ?_
    refine x_icmp_ne h 662 dL_refused_621 (by decide) (fun c => absurd c (by decide)) (fun _ => ?_)
    refine x_aload_n h 0 dL_refused_624 rfl rfl ?_
    refine x_iconst h (nI 0) dL_refused_625 (by decide) ?_
    refine x_iconst h (nI 1) dL_refused_626 (by decide) ?_
    refine x_callV h (As := [.int (nI 0), .int (nI 1)]) 2 hx (c_X5_cost hR.1.hP hR.1.hI hR.1.hNb) gL_refused_X5_cost rfl ⟨rfl, rfl⟩ (by decide +kernel) rfl (by decide) (by decide) E_144 rfl rfl (Nat.le_of_ble_eq_true rfl) dL_refused_627 (fun a627 M627 P627 hp => ?_)
    rw [hR.2.1] at hp
    obtain ⟨rfl, hF, hQ⟩ := hp
    have hz := rt_joined (k := 0) (b := 1) hN6 (by omega) (by decide) (jN_1 c_601) hQ
    clear hQ
    subst hz
    replace hR := RS_fr hR (FrS_F hF)
    clear hF
    refine x_ldc h ((-1000002)) (by decide +kernel) dL_refused_630 ?_
    refine x_icmp_ne h 662 dL_refused_632 (by decide) (fun c => absurd c (by decide)) (fun _ => ?_)
    refine x_aload_n h 0 dL_refused_635 rfl rfl ?_
    refine x_iconst h (nI 0) dL_refused_636 (by decide) ?_
    refine x_callV h (As := [.int (nI 0)]) 1 hx (c_X5_price hR.1.hP hR.1.hI hR.1.hNb) gL_refused_X5_price rfl ⟨rfl, rfl⟩ (by decide +kernel) rfl (by decide) (by decide) E_144 rfl rfl (Nat.le_of_ble_eq_true rfl) dL_refused_637 (fun a637 M637 P637 hp => ?_)
    rw [hR.2.1] at hp
    obtain ⟨rfl, hF, hQ⟩ := hp
    have hz := rt_joined (k := 0) (b := 1) hN6 (by omega) (by decide) (jN_1 c_601) hQ
    clear hQ
    subst hz
    replace hR := RS_fr hR (FrS_F hF)
    clear hF
    refine x_ldc h ((-1000002)) (by decide +kernel) dL_refused_640 ?_
    refine x_icmp_ne h 662 dL_refused_642 (by decide) (fun c => absurd c (by decide)) (fun _ => ?_)
    refine x_goto h 658 dL_refused_645 (by decide) ?_
    refine x_iconst h (nI 1) dL_refused_658 (by decide) ?_
    refine x_goto h 663 dL_refused_659 (by decide) ?_
    refine x_istore h [(6, .int (nI 1)), (0, .ref (g.1 144)), (1, .long (prn Xc N K)), (3, .int (nI N)), (4, .int (nI K)), (5, .int (nI s))] dL_refused_663 (by decide) rfl ?_
    exact x_lv (kk _ hR) [1, 2, 3, 4, 5, 0] rfl

set_option maxRecDepth 100000 in
theorem c_L_refused {l : Launch} {g : Geo} {M : Nat → Nat → Int32} {P : Nat → Nat} {N K B A s : Nat} (hW : WI M P N K B A s) : Met l yL_refused wsL_refused rmL_refused (cPre g [.ref (g.1 144)] M P) (cQi g (fun r M' P' => P = P' ∧ FrS P M M' ∧ r = nI 1)) 0 0 (gA g) := by
  refine met_z (cc := cL_refused) (maxL := 7) (by decide) rfl ⟨rfl, rfl⟩ (Nat.le_of_ble_eq_true rfl) (fun x hx h hret => ?_)
  replace h : Cxk x g cL_refused 7 wsL_refused RL rmL_refused := h
  show X x 0 [(0, .ref (g.1 144))] [] M P
  have hN6 := hW.N6
  have hK12 := hW.K12
  have hs4 := hW.hs4
  obtain ⟨X, hX⟩ : ∃ X, M (P 0) = X := ⟨_, rfl⟩
  have hR : RS M P X N K B A s M := ⟨hW, hX, FrS_rf⟩
  have hI : InvC X N K B := hX ▸ hW.hI
  have hap : appl X K ≤ K := appl_le
  refine x_aload_n h 0 dL_refused_0 rfl rfl ?_
  refine x_callSl h (As := [.ref (g.1 144)]) 1 hx (c_L_print hR.1) gL_refused_L_print rfl ⟨rfl, rfl⟩ (by decide +kernel) rfl (by decide) (Nat.le_of_ble_eq_true rfl) dL_refused_1 (fun a1 M' P' hp => ?_)
  rw [hR.2.1] at hp
  obtain ⟨⟨rfl, rfl⟩, rfl⟩ := hp
  refine x_lstore_n h rfl [(1, .long (prn X N K)), (0, .ref (g.1 144))] dL_refused_4 (by decide) rfl ?_
  refine x_aload_n h 1 dL_refused_5 rfl rfl ?_
  refine x_iconst h (nI 0) dL_refused_6 (by decide) ?_
  refine x_callV h (As := [.int (nI 0)]) 1 hx (c_X5_count hR.1.hP hR.1.hI hR.1.hs hR.1.hs4 hR.1.hln) gL_refused_X5_count rfl ⟨rfl, rfl⟩ (by decide +kernel) rfl (by decide) (by decide) E_144 rfl rfl (Nat.le_of_ble_eq_true rfl) dL_refused_7 (fun a7 M' P' hp => ?_)
  rw [hR.2.1] at hp
  obtain ⟨⟨rfl, rfl⟩, hQ⟩ := hp
  have hz := cnt_at (j := 0) (by omega) (by omega) (by omega) hQ
  clear hQ
  subst hz
  refine x_istore_n h [(3, .int (nI N)), (1, .long (prn X N K)), (0, .ref (g.1 144))] dL_refused_10 rfl (by decide) rfl ?_
  refine x_aload_n h 2 dL_refused_11 rfl rfl ?_
  refine x_iconst h (nI 4) dL_refused_12 (by decide) ?_
  refine x_callV h (As := [.int (nI 4)]) 1 hx (c_X5_count hR.1.hP hR.1.hI hR.1.hs hR.1.hs4 hR.1.hln) gL_refused_X5_count rfl ⟨rfl, rfl⟩ (by decide +kernel) rfl (by decide) (by decide) E_144 rfl rfl (Nat.le_of_ble_eq_true rfl) dL_refused_13 (fun a13 M' P' hp => ?_)
  rw [hR.2.1] at hp
  obtain ⟨⟨rfl, rfl⟩, hQ⟩ := hp
  have hz := cnt_at (j := 4) (by omega) (by omega) (by omega) hQ
  clear hQ
  subst hz
  refine x_istore h [(4, .int (nI K)), (3, .int (nI N)), (1, .long (prn X N K)), (0, .ref (g.1 144))] dL_refused_16 (by decide) rfl ?_
  refine x_aload_n h 3 dL_refused_18 rfl rfl ?_
  refine x_bipush h (nI 10) dL_refused_19 (by decide) ?_
  refine x_callV h (As := [.int (nI 10)]) 1 hx (c_X5_count hR.1.hP hR.1.hI hR.1.hs hR.1.hs4 hR.1.hln) gL_refused_X5_count rfl ⟨rfl, rfl⟩ (by decide +kernel) rfl (by decide) (by decide) E_144 rfl rfl (Nat.le_of_ble_eq_true rfl) dL_refused_21 (fun a21 M' P' hp => ?_)
  rw [hR.2.1] at hp
  obtain ⟨⟨rfl, rfl⟩, hQ⟩ := hp
  have hz := cnt_10 hQ
  clear hQ
  subst hz
  refine x_istore h [(5, .int (nI s)), (4, .int (nI K)), (3, .int (nI N)), (1, .long (prn X N K)), (0, .ref (g.1 144))] dL_refused_24 (by decide) rfl ?_
  refine x_lv (lv' := [(0, .ref (g.1 144)), (1, .long (prn X N K)), (3, .int (nI N)), (4, .int (nI K)), (5, .int (nI s))]) ?_ [4, 3, 2, 1, 0] rfl
  refine rf_0 hx h hR (fun M1 hR => ?_)
  refine rf_1 hx h hR (fun M1 hR => ?_)
  refine rf_2 hx h hR (fun M1 hR => ?_)
  refine rf_3 hx h hR (fun M1 hR => ?_)
  refine rf_4 hx h hR (fun M1 hR => ?_)
  refine rf_5 hx h hR (fun M1 hR => ?_)
  refine rf_6 hx h hR (fun M1 hR => ?_)
  refine rf_7 hx h hR (fun M1 hR => ?_)
  refine rf_8 hx h hR (fun M1 hR => ?_)
  refine rf_9 hx h hR (fun M1 hR => ?_)
  refine rf_10 hx h hR (fun M1 hR => ?_)
  refine rf_11 hx h hR (fun M1 hR => ?_)
  refine rf_12 hx h hR (fun M1 hR => ?_)
  refine x_iload_n h 2 dL_refused_479 rfl rfl ?_
  refine x_if_le_n h 665 dL_refused_480 (by decide) (by first | omega | exact jN_lt) (fun c_480 => ?_) (fun c_480 => ?_)
  · -- 480 true
    exact x_lv (rf_end hx h hR hret) [0, 1, 2, 3, 4, 5] rfl
  · -- 480 false
    refine x_iload h 5 dL_refused_483 rfl ?_
    refine x_if_eq h 662 dL_refused_485 (by decide) (fun c => absurd c (by decide)) (fun _ => ?_)
    refine x_lv (lv' := [(0, .ref (g.1 144)), (1, .long (prn X N K)), (3, .int (nI N)), (4, .int (nI K)), (5, .int (nI s)), (6, .int (nI 1))]) ?_ [0, 1, 2, 3, 4, 5] rfl
    refine rf_n0 hx h hR c_480 (fun M1 hR => ?_)
    refine rf_n1 hx h hR c_480 (fun M1 hR => ?_)
    refine rf_n2 hx h hR c_480 (fun M1 hR => ?_)
    refine rf_n3 hx h hR c_480 (fun M1 hR => ?_)
    refine rf_n4 hx h hR c_480 (fun M1 hR => ?_)
    refine rf_n5 hx h hR c_480 (fun M1 hR => ?_)
    exact rf_end hx h hR hret
