theorem dL_isSegments_148 : decode cL_isSegments 148 = .ok (.iconst 0, 1) := by decide +kernel
theorem dL_isSegments_149 : decode cL_isSegments 149 = .ok (.iaload, 1) := by decide +kernel
theorem dL_isSegments_150 : decode cL_isSegments 150 = .ok (.ifCond .ne 7, 3) := by decide +kernel
theorem dL_isSegments_153 : decode cL_isSegments 153 = .ok (.iconst 0, 1) := by decide +kernel
theorem dL_isSegments_154 : decode cL_isSegments 154 = .ok (.goto 6, 3) := by decide +kernel
theorem dL_isSegments_157 : decode cL_isSegments 157 = .ok (.aload_n 3, 1) := by decide +kernel
theorem dL_isSegments_158 : decode cL_isSegments 158 = .ok (.iconst 0, 1) := by decide +kernel
theorem dL_isSegments_159 : decode cL_isSegments 159 = .ok (.iaload, 1) := by decide +kernel
theorem dL_isSegments_160 : decode cL_isSegments 160 = .ok (.if_icmp .ne 7, 3) := by decide +kernel
theorem dL_isSegments_163 : decode cL_isSegments 163 = .ok (.iconst 1, 1) := by decide +kernel
theorem dL_isSegments_164 : decode cL_isSegments 164 = .ok (.goto 4, 3) := by decide +kernel
theorem dL_isSegments_167 : decode cL_isSegments 167 = .ok (.iconst 0, 1) := by decide +kernel
theorem dL_isSegments_168 : decode cL_isSegments 168 = .ok (.ireturn, 1) := by decide +kernel
set_option maxRecDepth 20000 in
theorem ggL_isSo_L_seasons : GoodIn wsL_isSo wsL_seasons := goodIn_r _ [4, 5, 6, 3, 7] (by decide +kernel) (by decide +kernel)
set_option maxRecDepth 20000 in
theorem gL_isSo_L_seasons : GoodIn wsL_isSo (va_wsS RL 61 yL_seasons wsL_seasons) := goodIn_app (goodIn_of _ (by decide +kernel)) ggL_isSo_L_seasons
set_option maxRecDepth 20000 in
theorem ggL_isSo_L_division : GoodIn wsL_isSo wsL_division := goodIn_r _ [10, 11, 12, 3, 13, 5, 6, 7] (by decide +kernel) (by decide +kernel)
set_option maxRecDepth 20000 in
theorem gL_isSo_L_division : GoodIn wsL_isSo (va_wsS RL 65 yL_division wsL_division) := goodIn_app (goodIn_of _ (by decide +kernel)) ggL_isSo_L_division
set_option maxRecDepth 20000 in
theorem ggL_isSo_X6_size : GoodIn wsL_isSo wsX6_size := goodIn_r _ [18, 19, 20, 21, 22, 23, 24, 25, 365, 366, 367, 368, 369, 370, 371, 372, 373, 374, 375, 376] (by decide +kernel) (by decide +kernel)
set_option maxRecDepth 20000 in
theorem gL_isSo_X6_size : GoodIn wsL_isSo (wsV RL 69 RX6 yX6_size wsX6_size) := goodIn_app (goodIn_of _ (by decide +kernel)) ggL_isSo_X6_size
set_option maxRecDepth 20000 in
theorem ggL_isSo_X6_base : GoodIn wsL_isSo wsX6_base := goodIn_r _ [29, 30, 31, 32, 33, 17, 34, 35, 36, 37, 38, 39, 40, 41, 42, 43, 44, 45, 46, 47, 48, 49, 50, 51, 52, 53, 54, 55, 56, 57, 58, 21, 22, 23, 24, 25, 59, 60, 61, 62, 63, 64, 65, 66, 67, 68, 69, 70, 71, 72, 73, 74, 75, 76, 77, 78, 79, 80, 81, 82, 83, 84, 85, 86, 87, 88, 89, 90, 91, 92, 93, 94, 95, 96, 97, 98, 99, 100, 101, 102, 103, 365, 366, 367, 368, 369, 370, 371, 372, 373, 377, 378, 379, 380, 381, 382, 383, 384, 385, 374, 375, 376, 386] (by decide +kernel) (by decide +kernel)
set_option maxRecDepth 20000 in
theorem gL_isSo_X6_base : GoodIn wsL_isSo (wsV RL 72 RX6 yX6_base wsX6_base) := goodIn_app (goodIn_of _ (by decide +kernel)) ggL_isSo_X6_base
set_option maxRecDepth 20000 in
theorem ggL_isSo_L_isSegments : GoodIn wsL_isSo wsL_isSegments := goodIn_ca (goodIn_ca (goodIn_r _ [106, 107, 108, 109, 17, 110, 111, 112, 113, 114, 115, 116, 31, 32, 33, 34, 35, 30, 36, 37, 38, 39, 40, 41, 42, 43, 44, 45, 46, 47, 48, 49, 50, 51, 52, 53, 54, 55, 56, 57, 58, 21, 22, 23, 24, 25, 59, 60, 61, 62, 63, 64, 65, 66, 67, 68, 69, 70, 71, 72, 73, 74, 75, 76, 77, 78, 79, 80, 81, 82, 83, 84, 85, 86, 87, 88, 89, 90, 91, 92, 93, 94, 95, 96, 97, 98, 99, 117, 118, 119, 120, 121, 122, 123, 124, 125, 126, 127, 128, 129, 130, 131, 132, 133, 134, 135, 136, 137, 138, 139, 140, 141, 142, 143, 144, 145, 146, 147, 148, 149, 150, 151, 152, 153, 154, 155, 156, 157, 158, 159, 160, 161, 162, 163, 164, 165, 166, 167, 168, 169, 170, 171, 172, 173, 174, 175, 176, 177, 178, 179, 180, 181, 182, 183, 184, 185, 186, 187, 188, 189, 190, 191, 192, 193, 194, 5, 6, 3, 7, 195, 196, 197, 198, 199, 200, 201, 202, 203, 204, 205, 206, 207, 208, 209, 210, 19, 20, 211, 212, 213, 214, 11, 12, 13, 215, 216, 217, 218, 219, 220, 221, 222, 223, 224, 225, 226, 227, 228, 229, 230, 231, 232, 233, 234, 235, 236, 237, 238, 239, 240, 241, 242, 243, 244, 245, 246, 247, 248, 365, 366, 367, 368, 369, 370, 371, 372, 373, 377, 378, 379, 380, 381, 382, 383, 384, 385, 374, 375, 376, 386, 387, 388, 389, 390, 391, 392, 393, 394, 395, 396, 397, 398, 399, 400] (by decide +kernel) (by decide +kernel)) (goodIn_sub (fun _ h => List.mem_cons_of_mem _ (List.mem_append_left _ (List.mem_append_left _ (List.mem_append_right _ h)))) (by decide +kernel))) (goodIn_sub (fun _ h => List.mem_cons_of_mem _ (List.mem_append_left _ (List.mem_append_right _ h))) (by decide +kernel))
set_option maxRecDepth 20000 in
theorem gL_isSo_L_isSegments : GoodIn wsL_isSo (va_wsS RL 75 yL_isSegments wsL_isSegments) := goodIn_app (goodIn_of _ (by decide +kernel)) ggL_isSo_L_isSegments
set_option maxRecDepth 20000 in
theorem ggL_isSo_X6_season : GoodIn wsL_isSo wsX6_season := goodIn_ca (goodIn_r _ [252, 30, 253, 254, 255, 39, 256, 41, 178, 179, 17, 180, 181, 182, 31, 32, 33, 34, 35, 36, 37, 38, 40, 42, 43, 44, 45, 46, 47, 48, 49, 50, 51, 52, 53, 54, 55, 56, 57, 58, 21, 22, 23, 24, 25, 59, 60, 61, 62, 63, 64, 65, 66, 67, 68, 69, 70, 71, 72, 73, 74, 75, 76, 77, 78, 79, 80, 81, 82, 83, 84, 85, 86, 87, 88, 89, 90, 91, 92, 93, 94, 95, 96, 97, 98, 99, 257, 258, 259, 260, 365, 366, 367, 368, 369, 370, 371, 372, 373, 377, 378, 379, 380, 381, 382, 383, 384, 385, 374, 375, 376, 386] (by decide +kernel) (by decide +kernel)) (goodIn_sub (fun _ h => List.mem_cons_of_mem _ (List.mem_append_left _ (List.mem_append_left _ (List.mem_append_right _ h)))) (by decide +kernel))
set_option maxRecDepth 20000 in
theorem gL_isSo_X6_season : GoodIn wsL_isSo (wsV RL 79 RX6 yX6_season wsX6_season) := goodIn_app (goodIn_of _ (by decide +kernel)) ggL_isSo_X6_season
set_option maxRecDepth 20000 in
theorem ggL_isSo_L_median : GoodIn wsL_isSo wsL_median := goodIn_r _ [7] (by decide +kernel) (by decide +kernel)
set_option maxRecDepth 20000 in
theorem gL_isSo_L_median : GoodIn wsL_isSo (va_wsS RL 33 yL_median wsL_median) := goodIn_app (goodIn_of _ (by decide +kernel)) ggL_isSo_L_median
set_option maxRecDepth 20000 in
theorem ggL_isSo_X6_value : GoodIn wsL_isSo wsX6_value := goodIn_ca (goodIn_r _ [264, 19, 265, 266, 267, 17, 268, 20, 21, 22, 23, 24, 25, 178, 179, 180, 181, 182, 269, 69, 70, 71, 72, 64, 65, 66, 67, 365, 366, 367, 368, 369, 370, 371, 372, 373, 374, 375, 376] (by decide +kernel) (by decide +kernel)) (goodIn_sub (fun _ h => List.mem_cons_of_mem _ (List.mem_append_left _ (List.mem_append_left _ (List.mem_append_right _ h)))) (by decide +kernel))
set_option maxRecDepth 20000 in
theorem gL_isSo_X6_value : GoodIn wsL_isSo (wsV RL 82 RX6 yX6_value wsX6_value) := goodIn_app (goodIn_of _ (by decide +kernel)) ggL_isSo_X6_value
set_option maxRecDepth 20000 in
theorem ggL_isSo_X6_adjusted : GoodIn wsL_isSo wsX6_adjusted := goodIn_ca (goodIn_r _ [273, 30, 265, 266, 267, 17, 268, 19, 20, 21, 22, 23, 24, 25, 178, 179, 180, 181, 182, 31, 32, 33, 34, 35, 36, 37, 38, 39, 40, 41, 42, 43, 44, 45, 46, 47, 48, 49, 50, 51, 52, 53, 54, 55, 56, 57, 58, 59, 60, 61, 62, 63, 64, 65, 66, 67, 68, 69, 70, 71, 72, 73, 74, 75, 76, 77, 78, 79, 80, 81, 82, 83, 84, 85, 86, 87, 88, 89, 90, 91, 92, 93, 94, 95, 96, 97, 98, 99, 274, 148, 149, 150, 365, 366, 367, 368, 369, 370, 371, 372, 373, 374, 375, 376, 377, 378, 379, 380, 381, 382, 383, 384, 385, 386] (by decide +kernel) (by decide +kernel)) (goodIn_sub (fun _ h => List.mem_cons_of_mem _ (List.mem_append_left _ (List.mem_append_left _ (List.mem_append_right _ h)))) (by decide +kernel))
set_option maxRecDepth 20000 in
theorem gL_isSo_X6_adjusted : GoodIn wsL_isSo (wsV RL 85 RX6 yX6_adjusted wsX6_adjusted) := goodIn_app (goodIn_of _ (by decide +kernel)) ggL_isSo_X6_adjusted
set_option maxRecDepth 20000 in
theorem ggL_isSo_X6_residual : GoodIn wsL_isSo wsX6_residual := goodIn_ca (goodIn_r _ [278, 265, 266, 267, 17, 268, 19, 20, 21, 22, 23, 24, 25, 178, 179, 180, 181, 182, 112, 113, 114, 115, 116, 111, 31, 32, 33, 34, 35, 30, 36, 37, 38, 39, 40, 41, 42, 43, 44, 45, 46, 47, 48, 49, 50, 51, 52, 53, 54, 55, 56, 57, 58, 59, 60, 61, 62, 63, 64, 65, 66, 67, 68, 69, 70, 71, 72, 73, 74, 75, 76, 77, 78, 79, 80, 81, 82, 83, 84, 85, 86, 87, 88, 89, 90, 91, 92, 93, 94, 95, 96, 97, 98, 99, 117, 118, 119, 120, 121, 122, 123, 124, 125, 126, 127, 128, 129, 130, 131, 132, 133, 134, 135, 136, 137, 138, 139, 140, 141, 142, 143, 144, 145, 146, 147, 148, 149, 150, 151, 152, 153, 154, 155, 156, 157, 158, 159, 160, 161, 162, 163, 164, 165, 166, 167, 168, 169, 170, 171, 172, 173, 279, 280, 281, 282, 274, 283, 284, 285, 286, 365, 366, 367, 368, 369, 370, 371, 372, 373, 374, 375, 376, 377, 378, 379, 380, 381, 382, 383, 384, 385, 386, 387, 388, 389, 390, 391, 392, 393, 394, 395, 396, 397, 398] (by decide +kernel) (by decide +kernel)) (goodIn_sub (fun _ h => List.mem_cons_of_mem _ (List.mem_append_left _ (List.mem_append_left _ (List.mem_append_right _ h)))) (by decide +kernel))
set_option maxRecDepth 20000 in
theorem gL_isSo_X6_residual : GoodIn wsL_isSo (wsV RL 88 RX6 yX6_residual wsX6_residual) := goodIn_app (goodIn_of _ (by decide +kernel)) ggL_isSo_X6_residual
set_option maxRecDepth 20000 in
theorem ggL_isSo_X6_verdict : GoodIn wsL_isSo wsX6_verdict := goodIn_ca (goodIn_r _ [290, 265, 266, 267, 17, 268, 19, 20, 21, 22, 23, 24, 25, 178, 179, 180, 181, 182, 112, 113, 114, 115, 116, 111, 31, 32, 33, 34, 35, 30, 36, 37, 38, 39, 40, 41, 42, 43, 44, 45, 46, 47, 48, 49, 50, 51, 52, 53, 54, 55, 56, 57, 58, 59, 60, 61, 62, 63, 64, 65, 66, 67, 68, 69, 70, 71, 72, 73, 74, 75, 76, 77, 78, 79, 80, 81, 82, 83, 84, 85, 86, 87, 88, 89, 90, 91, 92, 93, 94, 95, 96, 97, 98, 99, 117, 118, 119, 120, 121, 122, 123, 124, 125, 126, 127, 128, 129, 130, 131, 132, 133, 134, 135, 136, 137, 138, 139, 140, 141, 142, 143, 144, 145, 146, 147, 148, 149, 150, 151, 152, 153, 154, 155, 156, 157, 158, 159, 160, 161, 162, 163, 164, 165, 166, 167, 168, 169, 170, 171, 172, 173, 291, 292, 293, 294, 295, 296, 297, 298, 247, 299, 300, 301, 302, 303, 304, 305, 306, 307, 308, 309, 279, 280, 281, 282, 274, 283, 284, 285, 286, 310, 311, 312, 313, 314, 315, 316, 317, 318, 365, 366, 367, 368, 369, 370, 371, 372, 373, 374, 375, 376, 377, 378, 379, 380, 381, 382, 383, 384, 385, 386, 387, 388, 389, 390, 391, 392, 393, 394, 395, 396, 397, 398] (by decide +kernel) (by decide +kernel)) (goodIn_sub (fun _ h => List.mem_cons_of_mem _ (List.mem_append_left _ (List.mem_append_left _ (List.mem_append_right _ h)))) (by decide +kernel))
set_option maxRecDepth 20000 in
theorem gL_isSo_X6_verdict : GoodIn wsL_isSo (wsV RL 91 RX6 yX6_verdict wsX6_verdict) := goodIn_app (goodIn_of _ (by decide +kernel)) ggL_isSo_X6_verdict
set_option maxRecDepth 20000 in
theorem ggL_isSo_L_low : GoodIn wsL_isSo wsL_low := goodIn_r _ [321, 322] (by decide +kernel) (by decide +kernel)
set_option maxRecDepth 20000 in
theorem gL_isSo_L_low : GoodIn wsL_isSo (va_wsS RL 94 yL_low wsL_low) := goodIn_app (goodIn_of _ (by decide +kernel)) ggL_isSo_L_low
set_option maxRecDepth 20000 in
theorem ggL_isSo_L_cost : GoodIn wsL_isSo wsL_cost := goodIn_r _ [13, 5, 6, 3, 7] (by decide +kernel) (by decide +kernel)
set_option maxRecDepth 20000 in
theorem gL_isSo_L_cost : GoodIn wsL_isSo (va_wsS RL 39 yL_cost wsL_cost) := goodIn_app (goodIn_of _ (by decide +kernel)) ggL_isSo_L_cost
set_option maxRecDepth 20000 in
theorem ggL_isSo_X6_deviation : GoodIn wsL_isSo wsX6_deviation := goodIn_r _ [326, 112, 113, 114, 17, 115, 116, 111, 31, 32, 33, 34, 35, 30, 36, 37, 38, 39, 40, 41, 42, 43, 44, 45, 46, 47, 48, 49, 50, 51, 52, 53, 54, 55, 56, 57, 58, 21, 22, 23, 24, 25, 59, 60, 61, 62, 63, 64, 65, 66, 67, 68, 69, 70, 71, 72, 73, 74, 75, 76, 77, 78, 79, 80, 81, 82, 83, 84, 85, 86, 87, 88, 89, 90, 91, 92, 93, 94, 95, 96, 97, 98, 99, 117, 118, 119, 120, 121, 122, 123, 124, 125, 126, 127, 128, 129, 130, 131, 132, 133, 134, 135, 136, 137, 138, 139, 140, 141, 142, 143, 144, 145, 146, 147, 148, 149, 150, 151, 152, 153, 154, 155, 156, 157, 158, 159, 160, 161, 162, 163, 164, 165, 166, 167, 168, 169, 170, 171, 172, 173, 300, 301, 302, 303, 304, 19, 305, 306, 247, 307, 308, 20, 309, 279, 280, 281, 282, 274, 283, 284, 285, 286, 310, 311, 365, 366, 367, 368, 369, 370, 371, 372, 373, 377, 378, 379, 380, 381, 382, 383, 384, 385, 374, 375, 376, 386, 387, 388, 389, 390, 391, 392, 393, 394, 395, 396, 397, 398] (by decide +kernel) (by decide +kernel)
set_option maxRecDepth 20000 in
theorem gL_isSo_X6_deviation : GoodIn wsL_isSo (wsV RL 97 RX6 yX6_deviation wsX6_deviation) := goodIn_app (goodIn_of _ (by decide +kernel)) ggL_isSo_X6_deviation
set_option maxRecDepth 20000 in
theorem ggL_isSo_X6_bound : GoodIn wsL_isSo wsX6_bound := goodIn_r _ [330, 112, 113, 114, 17, 115, 116, 111, 31, 32, 33, 34, 35, 30, 36, 37, 38, 39, 40, 41, 42, 43, 44, 45, 46, 47, 48, 49, 50, 51, 52, 53, 54, 55, 56, 57, 58, 21, 22, 23, 24, 25, 59, 60, 61, 62, 63, 64, 65, 66, 67, 68, 69, 70, 71, 72, 73, 74, 75, 76, 77, 78, 79, 80, 81, 82, 83, 84, 85, 86, 87, 88, 89, 90, 91, 92, 93, 94, 95, 96, 97, 98, 99, 117, 118, 119, 120, 121, 122, 123, 124, 125, 126, 127, 128, 129, 130, 131, 132, 133, 134, 135, 136, 137, 138, 139, 140, 141, 142, 143, 144, 145, 146, 147, 148, 149, 150, 151, 152, 153, 154, 155, 156, 157, 158, 159, 160, 161, 162, 163, 164, 165, 166, 167, 168, 169, 170, 171, 172, 173, 291, 292, 293, 294, 295, 296, 297, 298, 247, 299, 300, 301, 302, 303, 304, 19, 305, 306, 307, 308, 20, 309, 279, 280, 281, 282, 274, 283, 284, 285, 286, 310, 311, 365, 366, 367, 368, 369, 370, 371, 372, 373, 377, 378, 379, 380, 381, 382, 383, 384, 385, 374, 375, 376, 386, 387, 388, 389, 390, 391, 392, 393, 394, 395, 396, 397, 398] (by decide +kernel) (by decide +kernel)
set_option maxRecDepth 20000 in
theorem gL_isSo_X6_bound : GoodIn wsL_isSo (wsV RL 100 RX6 yX6_bound wsX6_bound) := goodIn_app (goodIn_of _ (by decide +kernel)) ggL_isSo_X6_bound
set_option maxRecDepth 20000 in
theorem ggL_isSo_X6_anomalies : GoodIn wsL_isSo wsX6_anomalies := goodIn_r _ [334, 19, 112, 113, 114, 17, 115, 116, 111, 31, 32, 33, 34, 35, 30, 36, 37, 38, 39, 40, 41, 42, 43, 44, 45, 46, 47, 48, 49, 50, 51, 52, 53, 54, 55, 56, 57, 58, 21, 22, 23, 24, 25, 59, 60, 61, 62, 63, 64, 65, 66, 67, 68, 69, 70, 71, 72, 73, 74, 75, 76, 77, 78, 79, 80, 81, 82, 83, 84, 85, 86, 87, 88, 89, 90, 91, 92, 93, 94, 95, 96, 97, 98, 99, 117, 118, 119, 120, 121, 122, 123, 124, 125, 126, 127, 128, 129, 130, 131, 132, 133, 134, 135, 136, 137, 138, 139, 140, 141, 142, 143, 144, 145, 146, 147, 148, 149, 150, 151, 152, 153, 154, 155, 156, 157, 158, 159, 160, 161, 162, 163, 164, 165, 166, 167, 168, 169, 170, 171, 172, 173, 291, 292, 293, 294, 295, 296, 297, 298, 247, 299, 300, 301, 302, 303, 304, 305, 306, 307, 308, 20, 309, 279, 280, 281, 282, 274, 283, 284, 285, 286, 310, 311, 312, 313, 314, 315, 316, 317, 318, 365, 366, 367, 368, 369, 370, 371, 372, 373, 377, 378, 379, 380, 381, 382, 383, 384, 385, 374, 375, 376, 386, 387, 388, 389, 390, 391, 392, 393, 394, 395, 396, 397, 398] (by decide +kernel) (by decide +kernel)
set_option maxRecDepth 20000 in
theorem gL_isSo_X6_anomalies : GoodIn wsL_isSo (wsV RL 103 RX6 yX6_anomalies wsX6_anomalies) := goodIn_app (goodIn_of _ (by decide +kernel)) ggL_isSo_X6_anomalies
set_option maxRecDepth 20000 in
theorem ggL_isSo_X6_expected : GoodIn wsL_isSo wsX6_expected := goodIn_r _ [338, 112, 113, 114, 17, 115, 116, 111, 31, 32, 33, 34, 35, 30, 36, 37, 38, 39, 40, 41, 42, 43, 44, 45, 46, 47, 48, 49, 50, 51, 52, 53, 54, 55, 56, 57, 58, 21, 22, 23, 24, 25, 59, 60, 61, 62, 63, 64, 65, 66, 67, 68, 69, 70, 71, 72, 73, 74, 75, 76, 77, 78, 79, 80, 81, 82, 83, 84, 85, 86, 87, 88, 89, 90, 91, 92, 93, 94, 95, 96, 97, 98, 99, 117, 118, 119, 120, 121, 122, 123, 124, 125, 126, 127, 128, 129, 130, 131, 132, 133, 134, 135, 136, 137, 138, 139, 140, 141, 142, 143, 144, 145, 146, 147, 148, 149, 150, 151, 152, 153, 154, 155, 156, 157, 158, 159, 160, 161, 162, 163, 164, 165, 166, 167, 168, 169, 170, 171, 172, 173, 339, 340, 341, 342, 19, 343, 344, 345, 346, 20, 347, 257, 258, 259, 260, 365, 366, 367, 368, 369, 370, 371, 372, 373, 377, 378, 379, 380, 381, 382, 383, 384, 385, 374, 375, 376, 386, 387, 388, 389, 390, 391, 392, 393, 394, 395, 396, 397, 398] (by decide +kernel) (by decide +kernel)
set_option maxRecDepth 20000 in
theorem gL_isSo_X6_expected : GoodIn wsL_isSo (wsV RL 106 RX6 yX6_expected wsX6_expected) := goodIn_app (goodIn_of _ (by decide +kernel)) ggL_isSo_X6_expected
set_option maxRecDepth 20000 in
theorem ggL_isSo_X6_judge : GoodIn wsL_isSo wsX6_judge := goodIn_r _ [351, 112, 113, 114, 17, 115, 116, 111, 31, 32, 33, 34, 35, 30, 36, 37, 38, 39, 40, 41, 42, 43, 44, 45, 46, 47, 48, 49, 50, 51, 52, 53, 54, 55, 56, 57, 58, 21, 22, 23, 24, 25, 59, 60, 61, 62, 63, 64, 65, 66, 67, 68, 69, 70, 71, 72, 73, 74, 75, 76, 77, 78, 79, 80, 81, 82, 83, 84, 85, 86, 87, 88, 89, 90, 91, 92, 93, 94, 95, 96, 97, 98, 99, 117, 118, 119, 120, 121, 122, 123, 124, 125, 126, 127, 128, 129, 130, 131, 132, 133, 134, 135, 136, 137, 138, 139, 140, 141, 142, 143, 144, 145, 146, 147, 148, 149, 150, 151, 152, 153, 154, 155, 156, 157, 158, 159, 160, 161, 162, 163, 164, 165, 166, 167, 168, 169, 170, 171, 172, 173, 339, 340, 341, 342, 19, 343, 344, 345, 346, 20, 347, 257, 258, 259, 260, 291, 292, 293, 294, 295, 296, 297, 298, 247, 299, 300, 301, 302, 303, 304, 305, 306, 307, 308, 309, 279, 280, 281, 282, 274, 283, 284, 285, 286, 310, 311, 316, 317, 318, 365, 366, 367, 368, 369, 370, 371, 372, 373, 377, 378, 379, 380, 381, 382, 383, 384, 385, 374, 375, 376, 386, 387, 388, 389, 390, 391, 392, 393, 394, 395, 396, 397, 398] (by decide +kernel) (by decide +kernel)
set_option maxRecDepth 20000 in
theorem gL_isSo_X6_judge : GoodIn wsL_isSo (wsV RL 109 RX6 yX6_judge wsX6_judge) := goodIn_app (goodIn_of _ (by decide +kernel)) ggL_isSo_X6_judge
set_option maxRecDepth 20000 in
theorem ggL_isSo_L_cutAt : GoodIn wsL_isSo wsL_cutAt := goodIn_ca (goodIn_ca (goodIn_r _ [354, 355, 356, 357, 358, 359, 17, 360, 361, 362, 19, 111, 20, 21, 22, 23, 24, 25, 178, 179, 180, 181, 182, 363, 235, 236, 120, 237, 130, 31, 32, 33, 34, 35, 30, 36, 37, 38, 39, 40, 41, 42, 43, 44, 45, 46, 47, 48, 49, 50, 51, 52, 53, 54, 55, 56, 57, 58, 59, 60, 61, 62, 63, 64, 65, 66, 67, 68, 69, 70, 71, 72, 73, 74, 75, 76, 77, 78, 79, 80, 81, 82, 83, 84, 85, 86, 87, 88, 89, 90, 91, 92, 93, 94, 95, 96, 97, 98, 99, 211, 212, 213, 214, 128, 169, 170, 171, 172, 134, 141, 142, 143, 144, 122, 145, 146, 147, 148, 149, 150, 151, 152, 153, 154, 155, 364, 239, 240, 241, 131, 365, 366, 367, 368, 369, 370, 371, 372, 373, 374, 375, 376, 387, 388, 389, 390, 391, 392, 393, 394, 395, 396, 397, 398, 377, 378, 379, 380, 381, 382, 383, 384, 385, 386] (by decide +kernel) (by decide +kernel)) (goodIn_sub (fun _ h => List.mem_cons_of_mem _ (List.mem_append_right _ h)) (by decide +kernel))) (goodIn_sub (fun _ h => List.mem_cons_of_mem _ (List.mem_append_left _ (List.mem_append_left _ (List.mem_append_right _ h)))) (by decide +kernel))
set_option maxRecDepth 20000 in
theorem gL_isSo_L_cutAt : GoodIn wsL_isSo (va_wsS RL 112 yL_cutAt wsL_cutAt) := goodIn_app (goodIn_of _ (by decide +kernel)) ggL_isSo_L_cutAt
theorem dL_isSo_0 : decode cL_isSo 0 = .ok (.aload_n 2, 1) := by decide +kernel
theorem dL_isSo_1 : decode cL_isSo 1 = .ok (.aload_n 3, 1) := by decide +kernel
theorem dL_isSo_2 : decode cL_isSo 2 = .ok (.aload 4, 2) := by decide +kernel
theorem dL_isSo_4 : decode cL_isSo 4 = .ok (.aload 5, 2) := by decide +kernel
theorem dL_isSo_6 : decode cL_isSo 6 = .ok (.aload 9, 2) := by decide +kernel
theorem dL_isSo_8 : decode cL_isSo 8 = .ok (.invokestatic 61, 3) := by decide +kernel
theorem dL_isSo_11 : decode cL_isSo 11 = .ok (.istore 12, 2) := by decide +kernel
theorem dL_isSo_13 : decode cL_isSo 13 = .ok (.aload 4, 2) := by decide +kernel
theorem dL_isSo_15 : decode cL_isSo 15 = .ok (.aload_n 3, 1) := by decide +kernel
theorem dL_isSo_16 : decode cL_isSo 16 = .ok (.aload 6, 2) := by decide +kernel
theorem dL_isSo_18 : decode cL_isSo 18 = .ok (.aload 7, 2) := by decide +kernel
theorem dL_isSo_20 : decode cL_isSo 20 = .ok (.aload 8, 2) := by decide +kernel
theorem dL_isSo_22 : decode cL_isSo 22 = .ok (.aload 9, 2) := by decide +kernel
theorem dL_isSo_24 : decode cL_isSo 24 = .ok (.invokestatic 65, 3) := by decide +kernel
theorem dL_isSo_27 : decode cL_isSo 27 = .ok (.aload_n 0, 1) := by decide +kernel
theorem dL_isSo_28 : decode cL_isSo 28 = .ok (.invokevirtual 69, 3) := by decide +kernel
theorem dL_isSo_31 : decode cL_isSo 31 = .ok (.aload 9, 2) := by decide +kernel
theorem dL_isSo_33 : decode cL_isSo 33 = .ok (.iconst 0, 1) := by decide +kernel
theorem dL_isSo_34 : decode cL_isSo 34 = .ok (.iaload, 1) := by decide +kernel
theorem dL_isSo_35 : decode cL_isSo 35 = .ok (.if_icmp .ne 32, 3) := by decide +kernel
theorem dL_isSo_38 : decode cL_isSo 38 = .ok (.aload_n 0, 1) := by decide +kernel
theorem dL_isSo_39 : decode cL_isSo 39 = .ok (.invokevirtual 72, 3) := by decide +kernel
theorem dL_isSo_42 : decode cL_isSo 42 = .ok (.iload 12, 2) := by decide +kernel
theorem dL_isSo_44 : decode cL_isSo 44 = .ok (.if_icmp .ne 23, 3) := by decide +kernel
theorem dL_isSo_47 : decode cL_isSo 47 = .ok (.aload_n 0, 1) := by decide +kernel
theorem dL_isSo_48 : decode cL_isSo 48 = .ok (.aload 4, 2) := by decide +kernel
theorem dL_isSo_50 : decode cL_isSo 50 = .ok (.aload_n 3, 1) := by decide +kernel
theorem dL_isSo_51 : decode cL_isSo 51 = .ok (.aload 6, 2) := by decide +kernel
theorem dL_isSo_53 : decode cL_isSo 53 = .ok (.aload 8, 2) := by decide +kernel
theorem dL_isSo_55 : decode cL_isSo 55 = .ok (.aload 9, 2) := by decide +kernel
theorem dL_isSo_57 : decode cL_isSo 57 = .ok (.invokestatic 75, 3) := by decide +kernel
theorem dL_isSo_60 : decode cL_isSo 60 = .ok (.ifCond .eq 7, 3) := by decide +kernel
theorem dL_isSo_63 : decode cL_isSo 63 = .ok (.iconst 1, 1) := by decide +kernel
theorem dL_isSo_64 : decode cL_isSo 64 = .ok (.goto 4, 3) := by decide +kernel
theorem dL_isSo_67 : decode cL_isSo 67 = .ok (.iconst 0, 1) := by decide +kernel
theorem dL_isSo_68 : decode cL_isSo 68 = .ok (.istore 13, 2) := by decide +kernel
theorem dL_isSo_70 : decode cL_isSo 70 = .ok (.iconst 0, 1) := by decide +kernel
theorem dL_isSo_71 : decode cL_isSo 71 = .ok (.istore 14, 2) := by decide +kernel
theorem dL_isSo_73 : decode cL_isSo 73 = .ok (.iload 14, 2) := by decide +kernel
theorem dL_isSo_75 : decode cL_isSo 75 = .ok (.aload 9, 2) := by decide +kernel
theorem dL_isSo_77 : decode cL_isSo 77 = .ok (.iconst 1, 1) := by decide +kernel
theorem dL_isSo_78 : decode cL_isSo 78 = .ok (.iaload, 1) := by decide +kernel
theorem dL_isSo_79 : decode cL_isSo 79 = .ok (.if_icmp .ge 35, 3) := by decide +kernel
theorem dL_isSo_82 : decode cL_isSo 82 = .ok (.iload 13, 2) := by decide +kernel
theorem dL_isSo_84 : decode cL_isSo 84 = .ok (.ifCond .eq 30, 3) := by decide +kernel
theorem dL_isSo_87 : decode cL_isSo 87 = .ok (.aload_n 0, 1) := by decide +kernel
theorem dL_isSo_88 : decode cL_isSo 88 = .ok (.iload 14, 2) := by decide +kernel
theorem dL_isSo_90 : decode cL_isSo 90 = .ok (.invokevirtual 79, 3) := by decide +kernel
theorem dL_isSo_93 : decode cL_isSo 93 = .ok (.aload 5, 2) := by decide +kernel
theorem dL_isSo_95 : decode cL_isSo 95 = .ok (.iload 14, 2) := by decide +kernel
theorem dL_isSo_97 : decode cL_isSo 97 = .ok (.iaload, 1) := by decide +kernel
theorem dL_isSo_98 : decode cL_isSo 98 = .ok (.if_icmp .ne 7, 3) := by decide +kernel
theorem dL_isSo_101 : decode cL_isSo 101 = .ok (.iconst 1, 1) := by decide +kernel
theorem dL_isSo_102 : decode cL_isSo 102 = .ok (.goto 4, 3) := by decide +kernel
theorem dL_isSo_105 : decode cL_isSo 105 = .ok (.iconst 0, 1) := by decide +kernel
theorem dL_isSo_106 : decode cL_isSo 106 = .ok (.istore 13, 2) := by decide +kernel
theorem dL_isSo_108 : decode cL_isSo 108 = .ok (.iinc 14 1, 3) := by decide +kernel
theorem dL_isSo_111 : decode cL_isSo 111 = .ok (.goto (-38), 3) := by decide +kernel
theorem dL_isSo_114 : decode cL_isSo 114 = .ok (.iconst 0, 1) := by decide +kernel
theorem dL_isSo_115 : decode cL_isSo 115 = .ok (.istore 14, 2) := by decide +kernel
theorem dL_isSo_117 : decode cL_isSo 117 = .ok (.iconst 0, 1) := by decide +kernel
theorem dL_isSo_118 : decode cL_isSo 118 = .ok (.istore 15, 2) := by decide +kernel
theorem dL_isSo_120 : decode cL_isSo 120 = .ok (.iload 15, 2) := by decide +kernel
theorem dL_isSo_122 : decode cL_isSo 122 = .ok (.aload 9, 2) := by decide +kernel
theorem dL_isSo_124 : decode cL_isSo 124 = .ok (.iconst 0, 1) := by decide +kernel
theorem dL_isSo_125 : decode cL_isSo 125 = .ok (.iaload, 1) := by decide +kernel
theorem dL_isSo_126 : decode cL_isSo 126 = .ok (.if_icmp .ge 62, 3) := by decide +kernel
theorem dL_isSo_129 : decode cL_isSo 129 = .ok (.aload 4, 2) := by decide +kernel
theorem dL_isSo_131 : decode cL_isSo 131 = .ok (.aload_n 3, 1) := by decide +kernel
theorem dL_isSo_132 : decode cL_isSo 132 = .ok (.iload 15, 2) := by decide +kernel
theorem dL_isSo_134 : decode cL_isSo 134 = .ok (.aload 8, 2) := by decide +kernel
theorem dL_isSo_136 : decode cL_isSo 136 = .ok (.iload 15, 2) := by decide +kernel
theorem dL_isSo_138 : decode cL_isSo 138 = .ok (.iaload, 1) := by decide +kernel
theorem dL_isSo_139 : decode cL_isSo 139 = .ok (.iconst 1, 1) := by decide +kernel
theorem dL_isSo_140 : decode cL_isSo 140 = .ok (.invokestatic 33, 3) := by decide +kernel
theorem dL_isSo_143 : decode cL_isSo 143 = .ok (.istore 14, 2) := by decide +kernel
theorem dL_isSo_145 : decode cL_isSo 145 = .ok (.iload 15, 2) := by decide +kernel
theorem dL_isSo_147 : decode cL_isSo 147 = .ok (.istore 16, 2) := by decide +kernel
theorem dL_isSo_149 : decode cL_isSo 149 = .ok (.iload 16, 2) := by decide +kernel
theorem dL_isSo_151 : decode cL_isSo 151 = .ok (.aload 8, 2) := by decide +kernel
theorem dL_isSo_153 : decode cL_isSo 153 = .ok (.iload 15, 2) := by decide +kernel
theorem dL_isSo_155 : decode cL_isSo 155 = .ok (.iaload, 1) := by decide +kernel
theorem dL_isSo_156 : decode cL_isSo 156 = .ok (.if_icmp .ge 22, 3) := by decide +kernel
theorem dL_isSo_159 : decode cL_isSo 159 = .ok (.aload 10, 2) := by decide +kernel
theorem dL_isSo_161 : decode cL_isSo 161 = .ok (.iload 16, 2) := by decide +kernel
theorem dL_isSo_163 : decode cL_isSo 163 = .ok (.aload 4, 2) := by decide +kernel
theorem dL_isSo_165 : decode cL_isSo 165 = .ok (.iload 16, 2) := by decide +kernel
theorem dL_isSo_167 : decode cL_isSo 167 = .ok (.iaload, 1) := by decide +kernel
theorem dL_isSo_168 : decode cL_isSo 168 = .ok (.iload 14, 2) := by decide +kernel
theorem dL_isSo_170 : decode cL_isSo 170 = .ok (.isub, 1) := by decide +kernel
theorem dL_isSo_171 : decode cL_isSo 171 = .ok (.iastore, 1) := by decide +kernel
theorem dL_isSo_172 : decode cL_isSo 172 = .ok (.iinc 16 1, 3) := by decide +kernel
theorem dL_isSo_175 : decode cL_isSo 175 = .ok (.goto (-26), 3) := by decide +kernel
theorem dL_isSo_178 : decode cL_isSo 178 = .ok (.aload 8, 2) := by decide +kernel
theorem dL_isSo_180 : decode cL_isSo 180 = .ok (.iload 15, 2) := by decide +kernel
theorem dL_isSo_182 : decode cL_isSo 182 = .ok (.iaload, 1) := by decide +kernel
theorem dL_isSo_183 : decode cL_isSo 183 = .ok (.istore 15, 2) := by decide +kernel
theorem dL_isSo_185 : decode cL_isSo 185 = .ok (.goto (-65), 3) := by decide +kernel
theorem dL_isSo_188 : decode cL_isSo 188 = .ok (.iconst 0, 1) := by decide +kernel
theorem dL_isSo_189 : decode cL_isSo 189 = .ok (.istore 15, 2) := by decide +kernel
theorem dL_isSo_191 : decode cL_isSo 191 = .ok (.iload 15, 2) := by decide +kernel
theorem dL_isSo_193 : decode cL_isSo 193 = .ok (.aload 9, 2) := by decide +kernel
theorem dL_isSo_195 : decode cL_isSo 195 = .ok (.iconst 0, 1) := by decide +kernel
theorem dL_isSo_196 : decode cL_isSo 196 = .ok (.iaload, 1) := by decide +kernel
theorem dL_isSo_197 : decode cL_isSo 197 = .ok (.if_icmp .ge 89, 3) := by decide +kernel
theorem dL_isSo_200 : decode cL_isSo 200 = .ok (.iload 13, 2) := by decide +kernel
theorem dL_isSo_202 : decode cL_isSo 202 = .ok (.ifCond .eq 84, 3) := by decide +kernel
theorem dL_isSo_205 : decode cL_isSo 205 = .ok (.aload_n 0, 1) := by decide +kernel
theorem dL_isSo_206 : decode cL_isSo 206 = .ok (.iload 15, 2) := by decide +kernel
theorem dL_isSo_208 : decode cL_isSo 208 = .ok (.invokevirtual 82, 3) := by decide +kernel
theorem dL_isSo_211 : decode cL_isSo 211 = .ok (.aload_n 2, 1) := by decide +kernel
theorem dL_isSo_212 : decode cL_isSo 212 = .ok (.iload 15, 2) := by decide +kernel
theorem dL_isSo_214 : decode cL_isSo 214 = .ok (.iaload, 1) := by decide +kernel
theorem dL_isSo_215 : decode cL_isSo 215 = .ok (.if_icmp .ne 35, 3) := by decide +kernel
theorem dL_isSo_218 : decode cL_isSo 218 = .ok (.aload_n 0, 1) := by decide +kernel
theorem dL_isSo_219 : decode cL_isSo 219 = .ok (.iload 15, 2) := by decide +kernel
theorem dL_isSo_221 : decode cL_isSo 221 = .ok (.invokevirtual 85, 3) := by decide +kernel
theorem dL_isSo_224 : decode cL_isSo 224 = .ok (.aload 4, 2) := by decide +kernel
theorem dL_isSo_226 : decode cL_isSo 226 = .ok (.iload 15, 2) := by decide +kernel
theorem dL_isSo_228 : decode cL_isSo 228 = .ok (.iaload, 1) := by decide +kernel
theorem dL_isSo_229 : decode cL_isSo 229 = .ok (.if_icmp .ne 21, 3) := by decide +kernel
theorem dL_isSo_232 : decode cL_isSo 232 = .ok (.aload_n 0, 1) := by decide +kernel
theorem dL_isSo_233 : decode cL_isSo 233 = .ok (.iload 15, 2) := by decide +kernel
theorem dL_isSo_235 : decode cL_isSo 235 = .ok (.invokevirtual 88, 3) := by decide +kernel
theorem dL_isSo_238 : decode cL_isSo 238 = .ok (.aload 10, 2) := by decide +kernel
theorem dL_isSo_240 : decode cL_isSo 240 = .ok (.iload 15, 2) := by decide +kernel
theorem dL_isSo_242 : decode cL_isSo 242 = .ok (.iaload, 1) := by decide +kernel
theorem dL_isSo_243 : decode cL_isSo 243 = .ok (.if_icmp .ne 7, 3) := by decide +kernel
theorem dL_isSo_246 : decode cL_isSo 246 = .ok (.iconst 1, 1) := by decide +kernel
theorem dL_isSo_247 : decode cL_isSo 247 = .ok (.goto 4, 3) := by decide +kernel
theorem dL_isSo_250 : decode cL_isSo 250 = .ok (.iconst 0, 1) := by decide +kernel
theorem dL_isSo_251 : decode cL_isSo 251 = .ok (.istore 13, 2) := by decide +kernel
theorem dL_isSo_253 : decode cL_isSo 253 = .ok (.aload 11, 2) := by decide +kernel
theorem dL_isSo_255 : decode cL_isSo 255 = .ok (.iload 15, 2) := by decide +kernel
theorem dL_isSo_257 : decode cL_isSo 257 = .ok (.aload 10, 2) := by decide +kernel
theorem dL_isSo_259 : decode cL_isSo 259 = .ok (.iload 15, 2) := by decide +kernel
theorem dL_isSo_261 : decode cL_isSo 261 = .ok (.iaload, 1) := by decide +kernel
theorem dL_isSo_262 : decode cL_isSo 262 = .ok (.ifCond .ge 12, 3) := by decide +kernel
theorem dL_isSo_265 : decode cL_isSo 265 = .ok (.aload 10, 2) := by decide +kernel
theorem dL_isSo_267 : decode cL_isSo 267 = .ok (.iload 15, 2) := by decide +kernel
theorem dL_isSo_269 : decode cL_isSo 269 = .ok (.iaload, 1) := by decide +kernel
theorem dL_isSo_270 : decode cL_isSo 270 = .ok (.ineg, 1) := by decide +kernel
theorem dL_isSo_271 : decode cL_isSo 271 = .ok (.goto 8, 3) := by decide +kernel
theorem dL_isSo_274 : decode cL_isSo 274 = .ok (.aload 10, 2) := by decide +kernel
theorem dL_isSo_276 : decode cL_isSo 276 = .ok (.iload 15, 2) := by decide +kernel
theorem dL_isSo_278 : decode cL_isSo 278 = .ok (.iaload, 1) := by decide +kernel
theorem dL_isSo_279 : decode cL_isSo 279 = .ok (.iastore, 1) := by decide +kernel
theorem dL_isSo_280 : decode cL_isSo 280 = .ok (.iinc 15 1, 3) := by decide +kernel
theorem dL_isSo_283 : decode cL_isSo 283 = .ok (.goto (-92), 3) := by decide +kernel
theorem dL_isSo_286 : decode cL_isSo 286 = .ok (.aload 11, 2) := by decide +kernel
theorem dL_isSo_288 : decode cL_isSo 288 = .ok (.aload_n 3, 1) := by decide +kernel
theorem dL_isSo_289 : decode cL_isSo 289 = .ok (.iconst 0, 1) := by decide +kernel
theorem dL_isSo_290 : decode cL_isSo 290 = .ok (.aload 9, 2) := by decide +kernel
theorem dL_isSo_292 : decode cL_isSo 292 = .ok (.iconst 0, 1) := by decide +kernel
theorem dL_isSo_293 : decode cL_isSo 293 = .ok (.iaload, 1) := by decide +kernel
theorem dL_isSo_294 : decode cL_isSo 294 = .ok (.iconst 1, 1) := by decide +kernel
theorem dL_isSo_295 : decode cL_isSo 295 = .ok (.invokestatic 33, 3) := by decide +kernel
theorem dL_isSo_298 : decode cL_isSo 298 = .ok (.istore 15, 2) := by decide +kernel
theorem dL_isSo_300 : decode cL_isSo 300 = .ok (.aload 9, 2) := by decide +kernel
theorem dL_isSo_302 : decode cL_isSo 302 = .ok (.iconst 4, 1) := by decide +kernel
theorem dL_isSo_303 : decode cL_isSo 303 = .ok (.iaload, 1) := by decide +kernel
theorem dL_isSo_304 : decode cL_isSo 304 = .ok (.iload 15, 2) := by decide +kernel
theorem dL_isSo_306 : decode cL_isSo 306 = .ok (.imul, 1) := by decide +kernel
theorem dL_isSo_307 : decode cL_isSo 307 = .ok (.bipush 100, 2) := by decide +kernel
theorem dL_isSo_309 : decode cL_isSo 309 = .ok (.idiv, 1) := by decide +kernel
theorem dL_isSo_310 : decode cL_isSo 310 = .ok (.aload 9, 2) := by decide +kernel
theorem dL_isSo_312 : decode cL_isSo 312 = .ok (.iconst 5, 1) := by decide +kernel
theorem dL_isSo_313 : decode cL_isSo 313 = .ok (.iaload, 1) := by decide +kernel
theorem dL_isSo_314 : decode cL_isSo 314 = .ok (.if_icmp .le 16, 3) := by decide +kernel
theorem dL_isSo_317 : decode cL_isSo 317 = .ok (.aload 9, 2) := by decide +kernel
theorem dL_isSo_319 : decode cL_isSo 319 = .ok (.iconst 4, 1) := by decide +kernel
theorem dL_isSo_320 : decode cL_isSo 320 = .ok (.iaload, 1) := by decide +kernel
theorem dL_isSo_321 : decode cL_isSo 321 = .ok (.iload 15, 2) := by decide +kernel
theorem dL_isSo_323 : decode cL_isSo 323 = .ok (.imul, 1) := by decide +kernel
theorem dL_isSo_324 : decode cL_isSo 324 = .ok (.bipush 100, 2) := by decide +kernel
theorem dL_isSo_326 : decode cL_isSo 326 = .ok (.idiv, 1) := by decide +kernel
theorem dL_isSo_327 : decode cL_isSo 327 = .ok (.goto 7, 3) := by decide +kernel
theorem dL_isSo_330 : decode cL_isSo 330 = .ok (.aload 9, 2) := by decide +kernel
theorem dL_isSo_332 : decode cL_isSo 332 = .ok (.iconst 5, 1) := by decide +kernel
theorem dL_isSo_333 : decode cL_isSo 333 = .ok (.iaload, 1) := by decide +kernel
theorem dL_isSo_334 : decode cL_isSo 334 = .ok (.istore 16, 2) := by decide +kernel
theorem dL_isSo_336 : decode cL_isSo 336 = .ok (.iconst 0, 1) := by decide +kernel
theorem dL_isSo_337 : decode cL_isSo 337 = .ok (.istore 17, 2) := by decide +kernel
theorem dL_isSo_339 : decode cL_isSo 339 = .ok (.iconst 0, 1) := by decide +kernel
theorem dL_isSo_340 : decode cL_isSo 340 = .ok (.istore 18, 2) := by decide +kernel
theorem dL_isSo_342 : decode cL_isSo 342 = .ok (.iload 18, 2) := by decide +kernel
theorem dL_isSo_344 : decode cL_isSo 344 = .ok (.aload 9, 2) := by decide +kernel
theorem dL_isSo_346 : decode cL_isSo 346 = .ok (.iconst 0, 1) := by decide +kernel
theorem dL_isSo_347 : decode cL_isSo 347 = .ok (.iaload, 1) := by decide +kernel
theorem dL_isSo_348 : decode cL_isSo 348 = .ok (.if_icmp .ge 98, 3) := by decide +kernel
theorem dL_isSo_351 : decode cL_isSo 351 = .ok (.iload 13, 2) := by decide +kernel
theorem dL_isSo_353 : decode cL_isSo 353 = .ok (.ifCond .eq 93, 3) := by decide +kernel
theorem dL_isSo_356 : decode cL_isSo 356 = .ok (.aload_n 3, 1) := by decide +kernel
theorem dL_isSo_357 : decode cL_isSo 357 = .ok (.iload 18, 2) := by decide +kernel
theorem dL_isSo_359 : decode cL_isSo 359 = .ok (.iaload, 1) := by decide +kernel
theorem dL_isSo_360 : decode cL_isSo 360 = .ok (.iconst 1, 1) := by decide +kernel
theorem dL_isSo_361 : decode cL_isSo 361 = .ok (.if_icmp .ne 7, 3) := by decide +kernel
theorem dL_isSo_364 : decode cL_isSo 364 = .ok (.iconst 3, 1) := by decide +kernel
theorem dL_isSo_365 : decode cL_isSo 365 = .ok (.goto 33, 3) := by decide +kernel
theorem dL_isSo_368 : decode cL_isSo 368 = .ok (.aload 10, 2) := by decide +kernel
theorem dL_isSo_370 : decode cL_isSo 370 = .ok (.iload 18, 2) := by decide +kernel
theorem dL_isSo_372 : decode cL_isSo 372 = .ok (.iaload, 1) := by decide +kernel
theorem dL_isSo_373 : decode cL_isSo 373 = .ok (.iload 16, 2) := by decide +kernel
theorem dL_isSo_375 : decode cL_isSo 375 = .ok (.if_icmp .le 7, 3) := by decide +kernel
theorem dL_isSo_378 : decode cL_isSo 378 = .ok (.iconst 1, 1) := by decide +kernel
theorem dL_isSo_379 : decode cL_isSo 379 = .ok (.goto 19, 3) := by decide +kernel
theorem dL_isSo_382 : decode cL_isSo 382 = .ok (.aload 10, 2) := by decide +kernel
theorem dL_isSo_384 : decode cL_isSo 384 = .ok (.iload 18, 2) := by decide +kernel
theorem dL_isSo_386 : decode cL_isSo 386 = .ok (.iaload, 1) := by decide +kernel
theorem dL_isSo_387 : decode cL_isSo 387 = .ok (.iload 16, 2) := by decide +kernel
theorem dL_isSo_389 : decode cL_isSo 389 = .ok (.ineg, 1) := by decide +kernel
theorem dL_isSo_390 : decode cL_isSo 390 = .ok (.if_icmp .ge 7, 3) := by decide +kernel
theorem dL_isSo_393 : decode cL_isSo 393 = .ok (.iconst 2, 1) := by decide +kernel
theorem dL_isSo_394 : decode cL_isSo 394 = .ok (.goto 4, 3) := by decide +kernel
theorem dL_isSo_397 : decode cL_isSo 397 = .ok (.iconst 0, 1) := by decide +kernel
theorem dL_isSo_398 : decode cL_isSo 398 = .ok (.istore 19, 2) := by decide +kernel
theorem dL_isSo_400 : decode cL_isSo 400 = .ok (.iload 17, 2) := by decide +kernel
theorem dL_isSo_402 : decode cL_isSo 402 = .ok (.iload 19, 2) := by decide +kernel
theorem dL_isSo_404 : decode cL_isSo 404 = .ok (.iconst 1, 1) := by decide +kernel
theorem dL_isSo_405 : decode cL_isSo 405 = .ok (.if_icmp .eq 9, 3) := by decide +kernel
theorem dL_isSo_408 : decode cL_isSo 408 = .ok (.iload 19, 2) := by decide +kernel
theorem dL_isSo_410 : decode cL_isSo 410 = .ok (.iconst 2, 1) := by decide +kernel
theorem dL_isSo_411 : decode cL_isSo 411 = .ok (.if_icmp .ne 7, 3) := by decide +kernel
theorem dL_isSo_414 : decode cL_isSo 414 = .ok (.iconst 1, 1) := by decide +kernel
theorem dL_isSo_415 : decode cL_isSo 415 = .ok (.goto 4, 3) := by decide +kernel
theorem dL_isSo_418 : decode cL_isSo 418 = .ok (.iconst 0, 1) := by decide +kernel
theorem dL_isSo_419 : decode cL_isSo 419 = .ok (.iadd, 1) := by decide +kernel
theorem dL_isSo_420 : decode cL_isSo 420 = .ok (.istore 17, 2) := by decide +kernel
theorem dL_isSo_422 : decode cL_isSo 422 = .ok (.aload_n 0, 1) := by decide +kernel
theorem dL_isSo_423 : decode cL_isSo 423 = .ok (.iload 18, 2) := by decide +kernel
theorem dL_isSo_425 : decode cL_isSo 425 = .ok (.invokevirtual 91, 3) := by decide +kernel
theorem dL_isSo_428 : decode cL_isSo 428 = .ok (.iload 19, 2) := by decide +kernel
theorem dL_isSo_430 : decode cL_isSo 430 = .ok (.if_icmp .ne 7, 3) := by decide +kernel
theorem dL_isSo_433 : decode cL_isSo 433 = .ok (.iconst 1, 1) := by decide +kernel
theorem dL_isSo_434 : decode cL_isSo 434 = .ok (.goto 4, 3) := by decide +kernel
theorem dL_isSo_437 : decode cL_isSo 437 = .ok (.iconst 0, 1) := by decide +kernel
theorem dL_isSo_438 : decode cL_isSo 438 = .ok (.istore 13, 2) := by decide +kernel
theorem dL_isSo_440 : decode cL_isSo 440 = .ok (.iinc 18 1, 3) := by decide +kernel
theorem dL_isSo_443 : decode cL_isSo 443 = .ok (.goto (-101), 3) := by decide +kernel
theorem dL_isSo_446 : decode cL_isSo 446 = .ok (.iload 14, 2) := by decide +kernel
theorem dL_isSo_448 : decode cL_isSo 448 = .ok (.aload 5, 2) := by decide +kernel
theorem dL_isSo_450 : decode cL_isSo 450 = .ok (.aload 9, 2) := by decide +kernel
theorem dL_isSo_452 : decode cL_isSo 452 = .ok (.iconst 0, 1) := by decide +kernel
theorem dL_isSo_453 : decode cL_isSo 453 = .ok (.iaload, 1) := by decide +kernel
theorem dL_isSo_454 : decode cL_isSo 454 = .ok (.aload 9, 2) := by decide +kernel
theorem dL_isSo_456 : decode cL_isSo 456 = .ok (.iconst 1, 1) := by decide +kernel
theorem dL_isSo_457 : decode cL_isSo 457 = .ok (.iaload, 1) := by decide +kernel
theorem dL_isSo_458 : decode cL_isSo 458 = .ok (.irem, 1) := by decide +kernel
theorem dL_isSo_459 : decode cL_isSo 459 = .ok (.iaload, 1) := by decide +kernel
theorem dL_isSo_460 : decode cL_isSo 460 = .ok (.iadd, 1) := by decide +kernel
theorem dL_isSo_461 : decode cL_isSo 461 = .ok (.istore 18, 2) := by decide +kernel
theorem dL_isSo_463 : decode cL_isSo 463 = .ok (.iload 18, 2) := by decide +kernel
theorem dL_isSo_465 : decode cL_isSo 465 = .ok (.iload 16, 2) := by decide +kernel
theorem dL_isSo_467 : decode cL_isSo 467 = .ok (.iadd, 1) := by decide +kernel
theorem dL_isSo_468 : decode cL_isSo 468 = .ok (.iload_n 1, 1) := by decide +kernel
theorem dL_isSo_469 : decode cL_isSo 469 = .ok (.iconst 3, 1) := by decide +kernel
theorem dL_isSo_470 : decode cL_isSo 470 = .ok (.invokestatic 94, 3) := by decide +kernel
theorem dL_isSo_473 : decode cL_isSo 473 = .ok (.iadd, 1) := by decide +kernel
theorem dL_isSo_474 : decode cL_isSo 474 = .ok (.iconst 1, 1) := by decide +kernel
theorem dL_isSo_475 : decode cL_isSo 475 = .ok (.isub, 1) := by decide +kernel
theorem dL_isSo_476 : decode cL_isSo 476 = .ok (.istore 19, 2) := by decide +kernel
theorem dL_isSo_478 : decode cL_isSo 478 = .ok (.iload 18, 2) := by decide +kernel
theorem dL_isSo_480 : decode cL_isSo 480 = .ok (.iload 16, 2) := by decide +kernel
theorem dL_isSo_482 : decode cL_isSo 482 = .ok (.isub, 1) := by decide +kernel
theorem dL_isSo_483 : decode cL_isSo 483 = .ok (.iload_n 1, 1) := by decide +kernel
theorem dL_isSo_484 : decode cL_isSo 484 = .ok (.iconst 2, 1) := by decide +kernel
theorem dL_isSo_485 : decode cL_isSo 485 = .ok (.ishr, 1) := by decide +kernel
theorem dL_isSo_486 : decode cL_isSo 486 = .ok (.iconst 3, 1) := by decide +kernel
theorem dL_isSo_487 : decode cL_isSo 487 = .ok (.invokestatic 94, 3) := by decide +kernel
theorem dL_isSo_490 : decode cL_isSo 490 = .ok (.isub, 1) := by decide +kernel
theorem dL_isSo_491 : decode cL_isSo 491 = .ok (.iconst 1, 1) := by decide +kernel
theorem dL_isSo_492 : decode cL_isSo 492 = .ok (.iadd, 1) := by decide +kernel
theorem dL_isSo_493 : decode cL_isSo 493 = .ok (.istore 20, 2) := by decide +kernel
theorem dL_isSo_495 : decode cL_isSo 495 = .ok (.iload_n 1, 1) := by decide +kernel
theorem dL_isSo_496 : decode cL_isSo 496 = .ok (.iconst 4, 1) := by decide +kernel
theorem dL_isSo_497 : decode cL_isSo 497 = .ok (.ishr, 1) := by decide +kernel
theorem dL_isSo_498 : decode cL_isSo 498 = .ok (.aload 9, 2) := by decide +kernel
theorem dL_isSo_500 : decode cL_isSo 500 = .ok (.iconst 0, 1) := by decide +kernel
theorem dL_isSo_501 : decode cL_isSo 501 = .ok (.iaload, 1) := by decide +kernel
theorem dL_isSo_502 : decode cL_isSo 502 = .ok (.iconst 2, 1) := by decide +kernel
theorem dL_isSo_503 : decode cL_isSo 503 = .ok (.iadd, 1) := by decide +kernel
theorem dL_isSo_504 : decode cL_isSo 504 = .ok (.invokestatic 94, 3) := by decide +kernel
theorem dL_isSo_507 : decode cL_isSo 507 = .ok (.istore 21, 2) := by decide +kernel
theorem dL_isSo_509 : decode cL_isSo 509 = .ok (.iload 21, 2) := by decide +kernel
theorem dL_isSo_511 : decode cL_isSo 511 = .ok (.iconst 1, 1) := by decide +kernel
theorem dL_isSo_512 : decode cL_isSo 512 = .ok (.if_icmp .lt 12, 3) := by decide +kernel
theorem dL_isSo_515 : decode cL_isSo 515 = .ok (.iload 21, 2) := by decide +kernel
theorem dL_isSo_517 : decode cL_isSo 517 = .ok (.aload 9, 2) := by decide +kernel
theorem dL_isSo_519 : decode cL_isSo 519 = .ok (.iconst 0, 1) := by decide +kernel
theorem dL_isSo_520 : decode cL_isSo 520 = .ok (.iaload, 1) := by decide +kernel
theorem dL_isSo_521 : decode cL_isSo 521 = .ok (.if_icmp .lt 7, 3) := by decide +kernel
theorem dL_isSo_524 : decode cL_isSo 524 = .ok (.iconst (-1), 1) := by decide +kernel
theorem dL_isSo_525 : decode cL_isSo 525 = .ok (.goto 58, 3) := by decide +kernel
theorem dL_isSo_528 : decode cL_isSo 528 = .ok (.iload 21, 2) := by decide +kernel
theorem dL_isSo_530 : decode cL_isSo 530 = .ok (.aload 9, 2) := by decide +kernel
theorem dL_isSo_532 : decode cL_isSo 532 = .ok (.iconst 2, 1) := by decide +kernel
theorem dL_isSo_533 : decode cL_isSo 533 = .ok (.iaload, 1) := by decide +kernel
theorem dL_isSo_534 : decode cL_isSo 534 = .ok (.if_icmp .lt 17, 3) := by decide +kernel
theorem dL_isSo_537 : decode cL_isSo 537 = .ok (.aload 9, 2) := by decide +kernel
theorem dL_isSo_539 : decode cL_isSo 539 = .ok (.iconst 0, 1) := by decide +kernel
theorem dL_isSo_540 : decode cL_isSo 540 = .ok (.iaload, 1) := by decide +kernel
theorem dL_isSo_541 : decode cL_isSo 541 = .ok (.iload 21, 2) := by decide +kernel
theorem dL_isSo_543 : decode cL_isSo 543 = .ok (.isub, 1) := by decide +kernel
theorem dL_isSo_544 : decode cL_isSo 544 = .ok (.aload 9, 2) := by decide +kernel
theorem dL_isSo_546 : decode cL_isSo 546 = .ok (.iconst 2, 1) := by decide +kernel
theorem dL_isSo_547 : decode cL_isSo 547 = .ok (.iaload, 1) := by decide +kernel
theorem dL_isSo_548 : decode cL_isSo 548 = .ok (.if_icmp .ge 8, 3) := by decide +kernel
theorem dL_isSo_551 : decode cL_isSo 551 = .ok (.bipush (-2), 2) := by decide +kernel
theorem dL_isSo_553 : decode cL_isSo 553 = .ok (.goto 30, 3) := by decide +kernel
theorem dL_isSo_556 : decode cL_isSo 556 = .ok (.aload 4, 2) := by decide +kernel
theorem dL_isSo_558 : decode cL_isSo 558 = .ok (.aload_n 3, 1) := by decide +kernel
theorem dL_isSo_559 : decode cL_isSo 559 = .ok (.iconst 0, 1) := by decide +kernel
theorem dL_isSo_560 : decode cL_isSo 560 = .ok (.iload 21, 2) := by decide +kernel
theorem dL_isSo_562 : decode cL_isSo 562 = .ok (.invokestatic 39, 3) := by decide +kernel
theorem dL_isSo_565 : decode cL_isSo 565 = .ok (.aload 4, 2) := by decide +kernel
theorem dL_isSo_567 : decode cL_isSo 567 = .ok (.aload_n 3, 1) := by decide +kernel
theorem dL_isSo_568 : decode cL_isSo 568 = .ok (.iload 21, 2) := by decide +kernel
theorem dL_isSo_570 : decode cL_isSo 570 = .ok (.aload 9, 2) := by decide +kernel
theorem dL_isSo_572 : decode cL_isSo 572 = .ok (.iconst 0, 1) := by decide +kernel
theorem dL_isSo_573 : decode cL_isSo 573 = .ok (.iaload, 1) := by decide +kernel
theorem dL_isSo_574 : decode cL_isSo 574 = .ok (.invokestatic 39, 3) := by decide +kernel
theorem dL_isSo_577 : decode cL_isSo 577 = .ok (.iadd, 1) := by decide +kernel
theorem dL_isSo_578 : decode cL_isSo 578 = .ok (.aload 9, 2) := by decide +kernel
theorem dL_isSo_580 : decode cL_isSo 580 = .ok (.iconst 3, 1) := by decide +kernel
theorem dL_isSo_581 : decode cL_isSo 581 = .ok (.iaload, 1) := by decide +kernel
theorem dL_isSo_582 : decode cL_isSo 582 = .ok (.iadd, 1) := by decide +kernel
theorem dL_isSo_583 : decode cL_isSo 583 = .ok (.istore 22, 2) := by decide +kernel
theorem dL_isSo_585 : decode cL_isSo 585 = .ok (.iload 13, 2) := by decide +kernel
theorem dL_isSo_587 : decode cL_isSo 587 = .ok (.ifCond .eq 130, 3) := by decide +kernel
theorem dL_isSo_590 : decode cL_isSo 590 = .ok (.aload_n 0, 1) := by decide +kernel
theorem dL_isSo_591 : decode cL_isSo 591 = .ok (.invokevirtual 97, 3) := by decide +kernel
theorem dL_isSo_594 : decode cL_isSo 594 = .ok (.iload 15, 2) := by decide +kernel
theorem dL_isSo_596 : decode cL_isSo 596 = .ok (.if_icmp .ne 121, 3) := by decide +kernel
theorem dL_isSo_599 : decode cL_isSo 599 = .ok (.aload_n 0, 1) := by decide +kernel
theorem dL_isSo_600 : decode cL_isSo 600 = .ok (.invokevirtual 100, 3) := by decide +kernel
theorem dL_isSo_603 : decode cL_isSo 603 = .ok (.iload 16, 2) := by decide +kernel
theorem dL_isSo_605 : decode cL_isSo 605 = .ok (.if_icmp .ne 112, 3) := by decide +kernel
theorem dL_isSo_608 : decode cL_isSo 608 = .ok (.aload_n 0, 1) := by decide +kernel
theorem dL_isSo_609 : decode cL_isSo 609 = .ok (.invokevirtual 103, 3) := by decide +kernel
theorem dL_isSo_612 : decode cL_isSo 612 = .ok (.iload 17, 2) := by decide +kernel
theorem dL_isSo_614 : decode cL_isSo 614 = .ok (.if_icmp .ne 103, 3) := by decide +kernel
theorem dL_isSo_617 : decode cL_isSo 617 = .ok (.aload_n 0, 1) := by decide +kernel
theorem dL_isSo_618 : decode cL_isSo 618 = .ok (.invokevirtual 106, 3) := by decide +kernel
theorem dL_isSo_621 : decode cL_isSo 621 = .ok (.iload 18, 2) := by decide +kernel
theorem dL_isSo_623 : decode cL_isSo 623 = .ok (.if_icmp .ne 94, 3) := by decide +kernel
theorem dL_isSo_626 : decode cL_isSo 626 = .ok (.aload_n 0, 1) := by decide +kernel
theorem dL_isSo_627 : decode cL_isSo 627 = .ok (.iload 19, 2) := by decide +kernel
theorem dL_isSo_629 : decode cL_isSo 629 = .ok (.invokevirtual 109, 3) := by decide +kernel
theorem dL_isSo_632 : decode cL_isSo 632 = .ok (.iload 19, 2) := by decide +kernel
theorem dL_isSo_634 : decode cL_isSo 634 = .ok (.iload 18, 2) := by decide +kernel
theorem dL_isSo_636 : decode cL_isSo 636 = .ok (.iload 16, 2) := by decide +kernel
theorem dL_isSo_638 : decode cL_isSo 638 = .ok (.iadd, 1) := by decide +kernel
theorem dL_isSo_639 : decode cL_isSo 639 = .ok (.if_icmp .le 7, 3) := by decide +kernel
theorem dL_isSo_642 : decode cL_isSo 642 = .ok (.iconst 1, 1) := by decide +kernel
theorem dL_isSo_643 : decode cL_isSo 643 = .ok (.goto 18, 3) := by decide +kernel
theorem dL_isSo_646 : decode cL_isSo 646 = .ok (.iload 19, 2) := by decide +kernel
theorem dL_isSo_648 : decode cL_isSo 648 = .ok (.iload 18, 2) := by decide +kernel
theorem dL_isSo_650 : decode cL_isSo 650 = .ok (.iload 16, 2) := by decide +kernel
theorem dL_isSo_652 : decode cL_isSo 652 = .ok (.isub, 1) := by decide +kernel
theorem dL_isSo_653 : decode cL_isSo 653 = .ok (.if_icmp .ge 7, 3) := by decide +kernel
theorem dL_isSo_656 : decode cL_isSo 656 = .ok (.iconst 2, 1) := by decide +kernel
theorem dL_isSo_657 : decode cL_isSo 657 = .ok (.goto 4, 3) := by decide +kernel
theorem dL_isSo_660 : decode cL_isSo 660 = .ok (.iconst 0, 1) := by decide +kernel
theorem dL_isSo_661 : decode cL_isSo 661 = .ok (.if_icmp .ne 56, 3) := by decide +kernel
theorem dL_isSo_664 : decode cL_isSo 664 = .ok (.aload_n 0, 1) := by decide +kernel
theorem dL_isSo_665 : decode cL_isSo 665 = .ok (.iload 20, 2) := by decide +kernel
theorem dL_isSo_667 : decode cL_isSo 667 = .ok (.invokevirtual 109, 3) := by decide +kernel
theorem dL_isSo_670 : decode cL_isSo 670 = .ok (.iload 20, 2) := by decide +kernel
theorem dL_isSo_672 : decode cL_isSo 672 = .ok (.iload 18, 2) := by decide +kernel
theorem dL_isSo_674 : decode cL_isSo 674 = .ok (.iload 16, 2) := by decide +kernel
theorem dL_isSo_676 : decode cL_isSo 676 = .ok (.isub, 1) := by decide +kernel
theorem dL_isSo_677 : decode cL_isSo 677 = .ok (.if_icmp .ge 7, 3) := by decide +kernel
theorem dL_isSo_680 : decode cL_isSo 680 = .ok (.iconst 2, 1) := by decide +kernel
theorem dL_isSo_681 : decode cL_isSo 681 = .ok (.goto 18, 3) := by decide +kernel
theorem dL_isSo_684 : decode cL_isSo 684 = .ok (.iload 20, 2) := by decide +kernel
theorem dL_isSo_686 : decode cL_isSo 686 = .ok (.iload 18, 2) := by decide +kernel
theorem dL_isSo_688 : decode cL_isSo 688 = .ok (.iload 16, 2) := by decide +kernel
theorem dL_isSo_690 : decode cL_isSo 690 = .ok (.iadd, 1) := by decide +kernel
theorem dL_isSo_691 : decode cL_isSo 691 = .ok (.if_icmp .le 7, 3) := by decide +kernel
theorem dL_isSo_694 : decode cL_isSo 694 = .ok (.iconst 1, 1) := by decide +kernel
theorem dL_isSo_695 : decode cL_isSo 695 = .ok (.goto 4, 3) := by decide +kernel
theorem dL_isSo_698 : decode cL_isSo 698 = .ok (.iconst 0, 1) := by decide +kernel
theorem dL_isSo_699 : decode cL_isSo 699 = .ok (.if_icmp .ne 18, 3) := by decide +kernel
theorem dL_isSo_702 : decode cL_isSo 702 = .ok (.aload_n 0, 1) := by decide +kernel
theorem dL_isSo_703 : decode cL_isSo 703 = .ok (.iload 21, 2) := by decide +kernel
theorem dL_isSo_705 : decode cL_isSo 705 = .ok (.invokestatic 112, 3) := by decide +kernel
theorem dL_isSo_708 : decode cL_isSo 708 = .ok (.iload 22, 2) := by decide +kernel
theorem dL_isSo_710 : decode cL_isSo 710 = .ok (.if_icmp .ne 7, 3) := by decide +kernel
theorem dL_isSo_713 : decode cL_isSo 713 = .ok (.iconst 1, 1) := by decide +kernel
theorem dL_isSo_714 : decode cL_isSo 714 = .ok (.goto 4, 3) := by decide +kernel
theorem dL_isSo_717 : decode cL_isSo 717 = .ok (.iconst 0, 1) := by decide +kernel
theorem dL_isSo_718 : decode cL_isSo 718 = .ok (.ireturn, 1) := by decide +kernel
set_option maxRecDepth 20000 in
theorem ggL_law_X6_init : GoodIn wsL_law wsX6_init := goodIn_r _ [6, 7, 8, 9, 10, 11, 12, 13, 14, 15, 16, 17, 18, 19, 20, 21, 22, 23, 24, 25, 26, 27, 28, 29, 30, 31, 32, 33, 34, 35, 36, 3, 37, 38, 39, 40, 41, 42, 43, 44, 45, 46, 47, 48, 49, 50, 51, 52, 53, 54, 55, 56, 57, 58, 59, 60, 61, 62, 63, 64, 65, 66, 67, 68, 69, 70, 71, 72, 73, 74, 75, 76, 77, 78, 79, 80, 81, 82, 83, 84, 85, 86, 87, 88, 501, 502, 503, 492, 493, 494, 495, 496, 497, 498, 499, 500, 504, 505, 506, 507, 508, 509, 510, 511, 512, 513, 514, 515, 516, 517, 518, 519, 520, 521, 522, 523, 524, 525, 526, 527] (by decide +kernel) (by decide +kernel)
set_option maxRecDepth 20000 in
theorem gL_law_X6_init : GoodIn wsL_law (wsX6_init) := ggL_law_X6_init
set_option maxRecDepth 20000 in
theorem ggL_law_L_cell : GoodIn wsL_law wsL_cell := goodIn_r _ [92, 93, 94] (by decide +kernel) (by decide +kernel)
set_option maxRecDepth 20000 in
theorem gL_law_L_cell : GoodIn wsL_law (va_wsS RL 117 yL_cell wsL_cell) := goodIn_app (goodIn_of _ (by decide +kernel)) ggL_law_L_cell
set_option maxRecDepth 20000 in
theorem ggL_law_L_low : GoodIn wsL_law wsL_low := goodIn_r _ [97, 98] (by decide +kernel) (by decide +kernel)
set_option maxRecDepth 20000 in
theorem gL_law_L_low : GoodIn wsL_law (va_wsS RL 94 yL_low wsL_low) := goodIn_app (goodIn_of _ (by decide +kernel)) ggL_law_L_low
set_option maxRecDepth 20000 in
theorem ggL_law_L_adds : GoodIn wsL_law wsL_adds := goodIn_ca (goodIn_ca (goodIn_r _ [101, 102, 103, 104, 105, 2, 106, 13, 107, 108, 109, 110, 111, 112, 113, 114, 115, 116, 117, 118, 119, 120, 121, 122, 123, 12, 124, 40, 125, 126, 127, 128, 37, 39, 129, 130, 131, 132, 32, 33, 133, 134, 135, 136, 492, 493, 494, 495, 496, 497, 498, 499, 500, 501, 502, 503] (by decide +kernel) (by decide +kernel)) (goodIn_sub (fun _ h => List.mem_append_left _ (List.mem_append_left _ (List.mem_append_right _ h))) (by decide +kernel))) (goodIn_sub (fun _ h => List.mem_append_left _ (List.mem_append_right _ h)) (by decide +kernel))
set_option maxRecDepth 20000 in
theorem gL_law_L_adds : GoodIn wsL_law (va_wsS RL 121 yL_adds wsL_adds) := goodIn_app (goodIn_of _ (by decide +kernel)) ggL_law_L_adds
set_option maxRecDepth 20000 in
theorem ggL_law_X6_correct : GoodIn wsL_law wsX6_correct := goodIn_ca (goodIn_ca (goodIn_r _ [140, 13, 141, 142, 143, 2, 144, 121, 122, 123, 12, 124, 40, 145, 146, 147, 148, 149, 107, 108, 109, 110, 111, 112, 113, 114, 150, 151, 152, 153, 37, 154, 155, 156, 157, 158, 159, 160, 161, 129, 130, 131, 132, 32, 33, 492, 493, 494, 495, 496, 497, 498, 499, 500, 501, 502, 503] (by decide +kernel) (by decide +kernel)) (goodIn_sub (fun _ h => List.mem_append_right _ h) (by decide +kernel))) (goodIn_sub (fun _ h => List.mem_append_left _ (List.mem_append_left _ (List.mem_append_right _ h))) (by decide +kernel))
set_option maxRecDepth 20000 in
theorem gL_law_X6_correct : GoodIn wsL_law (wsV RL 125 RX6 yX6_correct wsX6_correct) := goodIn_app (goodIn_of _ (by decide +kernel)) ggL_law_X6_correct
set_option maxRecDepth 20000 in
theorem ggL_law_X6_setHoliday : GoodIn wsL_law wsX6_setHoliday := goodIn_ca (goodIn_r _ [165, 13, 141, 142, 143, 2, 144, 121, 122, 123, 12, 124, 40, 145, 146, 147, 148, 149, 166, 167, 168, 169, 39, 154, 155, 156, 157, 170, 171, 172, 173, 129, 130, 131, 132, 32, 33, 492, 493, 494, 495, 496, 497, 498, 499, 500, 501, 502, 503] (by decide +kernel) (by decide +kernel)) (goodIn_sub (fun _ h => List.mem_append_right _ h) (by decide +kernel))
set_option maxRecDepth 20000 in
theorem gL_law_X6_setHoliday : GoodIn wsL_law (wsV RL 128 RX6 yX6_setHoliday wsX6_setHoliday) := goodIn_app (goodIn_of _ (by decide +kernel)) ggL_law_X6_setHoliday
set_option maxRecDepth 20000 in
theorem ggL_law_X6_drop : GoodIn wsL_law wsX6_drop := goodIn_ca (goodIn_r _ [177, 13, 121, 122, 123, 12, 124, 40, 110, 111, 2, 112, 113, 114, 178, 179, 180, 181, 37, 39, 129, 130, 131, 132, 32, 33, 492, 493, 494, 495, 496, 497, 498, 499, 500, 501, 502, 503] (by decide +kernel) (by decide +kernel)) (goodIn_sub (fun _ h => List.mem_append_left _ (List.mem_append_left _ (List.mem_append_right _ h))) (by decide +kernel))
set_option maxRecDepth 20000 in
theorem gL_law_X6_drop : GoodIn wsL_law (wsV RL 132 RX6 yX6_drop wsX6_drop) := goodIn_app (goodIn_of _ (by decide +kernel)) ggL_law_X6_drop
set_option maxRecDepth 20000 in
theorem ggL_law_X6_setSeason : GoodIn wsL_law wsX6_setSeason := goodIn_ca (goodIn_r _ [185, 17, 110, 111, 2, 112, 113, 114, 186, 187, 188, 16, 189, 52, 190, 191, 192, 193, 129, 130, 131, 132, 32, 33, 492, 493, 494, 495, 496, 497, 498, 499, 500, 504, 505, 506, 507, 508, 509] (by decide +kernel) (by decide +kernel)) (goodIn_sub (fun _ h => List.mem_append_left _ (List.mem_append_left _ (List.mem_append_right _ h))) (by decide +kernel))
set_option maxRecDepth 20000 in
theorem gL_law_X6_setSeason : GoodIn wsL_law (wsV RL 135 RX6 yX6_setSeason wsX6_setSeason) := goodIn_app (goodIn_of _ (by decide +kernel)) ggL_law_X6_setSeason
set_option maxRecDepth 20000 in
theorem ggL_law_X6_setCuts : GoodIn wsL_law wsX6_setCuts := goodIn_ca (goodIn_r _ [197, 198, 21, 33, 110, 111, 2, 112, 113, 114, 199, 200, 201, 20, 202, 71, 72, 492, 493, 494, 495, 496, 497, 498, 499, 500, 510, 511, 512, 513, 514, 515, 516, 517, 518, 519, 520, 521] (by decide +kernel) (by decide +kernel)) (goodIn_sub (fun _ h => List.mem_append_left _ (List.mem_append_left _ (List.mem_append_right _ h))) (by decide +kernel))
set_option maxRecDepth 20000 in
theorem gL_law_X6_setCuts : GoodIn wsL_law (wsV RL 138 RX6 yX6_setCuts wsX6_setCuts) := goodIn_app (goodIn_of _ (by decide +kernel)) ggL_law_X6_setCuts
set_option maxRecDepth 20000 in
theorem ggL_law_X6_setBound : GoodIn wsL_law wsX6_setBound := goodIn_ca (goodIn_r _ [206, 30, 31, 110, 111, 2, 112, 113, 114, 492, 493, 494, 495, 496, 497, 498, 499, 500] (by decide +kernel) (by decide +kernel)) (goodIn_sub (fun _ h => List.mem_append_left _ (List.mem_append_left _ (List.mem_append_right _ h))) (by decide +kernel))
set_option maxRecDepth 20000 in
theorem gL_law_X6_setBound : GoodIn wsL_law (wsV RL 142 RX6 yX6_setBound wsX6_setBound) := goodIn_app (goodIn_of _ (by decide +kernel)) ggL_law_X6_setBound
set_option maxRecDepth 20000 in
theorem ggL_law_L_isSo : GoodIn wsL_law wsL_isSo := goodIn_ca (goodIn_ca (goodIn_ca (goodIn_r _ [209, 210, 211, 91, 212, 213, 214, 215, 216, 217, 218, 219, 220, 221, 222, 223, 224, 2, 225, 13, 121, 122, 123, 12, 124, 40, 226, 227, 228, 229, 17, 230, 231, 232, 233, 32, 234, 235, 236, 16, 237, 52, 54, 49, 48, 238, 239, 240, 241, 51, 53, 242, 243, 244, 28, 245, 63, 64, 246, 247, 167, 168, 169, 39, 154, 155, 156, 157, 248, 151, 152, 153, 37, 249, 250, 251, 252, 62, 253, 254, 255, 256, 257, 258, 259, 260, 261, 262, 263, 264, 265, 266, 267, 47, 268, 58, 269, 270, 271, 272, 273, 274, 275, 276, 277, 278, 279, 280, 281, 282, 283, 21, 284, 285, 286, 287, 33, 288, 289, 290, 20, 291, 81, 292, 293, 294, 295, 296, 70, 297, 71, 72, 74, 75, 298, 299, 300, 301, 302, 76, 303, 304, 305, 306, 307, 82, 308, 309, 310, 311, 312, 313, 314, 315, 316, 317, 318, 319, 320, 321, 322, 323, 324, 325, 326, 80, 77, 78, 79, 327, 328, 329, 330, 331, 332, 333, 334, 335, 145, 146, 147, 148, 149, 336, 337, 338, 339, 340, 341, 342, 343, 344, 345, 346, 347, 348, 349, 350, 351, 352, 353, 354, 355, 356, 357, 358, 359, 360, 361, 362, 363, 364, 365, 366, 367, 368, 369, 370, 102, 371, 372, 373, 374, 119, 120, 25, 375, 376, 377, 24, 378, 87, 88, 379, 380, 381, 382, 383, 384, 385, 386, 387, 388, 389, 390, 391, 392, 393, 394, 395, 396, 397, 398, 186, 187, 188, 189, 399, 400, 401, 402, 403, 404, 405, 406, 141, 142, 143, 144, 150, 407, 408, 409, 410, 411, 412, 413, 414, 415, 416, 417, 418, 419, 420, 421, 422, 423, 424, 425, 426, 427, 428, 429, 430, 431, 30, 31, 432, 433, 434, 435, 436, 437, 438, 29, 439, 440, 441, 442, 166, 443, 444, 445, 446, 447, 448, 449, 450, 451, 95, 96, 97, 98, 452, 453, 454, 455, 456, 457, 458, 459, 460, 461, 462, 463, 464, 465, 466, 467, 468, 469, 470, 471, 472, 473, 474, 475, 476, 477, 478, 479, 480, 481, 482, 483, 484, 485, 486, 487, 488, 489, 113, 114, 490, 491, 492, 493, 494, 495, 496, 497, 498, 499, 500, 501, 502, 503, 504, 505, 506, 507, 508, 509, 524, 525, 526, 527, 510, 511, 512, 513, 514, 515, 516, 517, 518, 519, 520, 521, 522, 523] rfl (by decide +kernel)) (goodIn_sub (fun _ h => List.mem_append_right _ h) (by decide +kernel))) (goodIn_sub (fun _ h => List.mem_append_left _ (List.mem_append_right _ h)) (by decide +kernel))) (goodIn_sub (fun _ h => List.mem_append_left _ (List.mem_append_left _ (List.mem_append_right _ h))) (by decide +kernel))
set_option maxRecDepth 20000 in
theorem gL_law_L_isSo : GoodIn wsL_law (va_wsS RL 145 yL_isSo wsL_isSo) := goodIn_app (goodIn_of _ (by decide +kernel)) ggL_law_L_isSo
theorem dL_law_0 : decode cL_law 0 = .ok (.new 11, 3) := by decide +kernel
theorem dL_law_3 : decode cL_law 3 = .ok (.dup, 1) := by decide +kernel
theorem dL_law_4 : decode cL_law 4 = .ok (.invokespecial 116, 3) := by decide +kernel
theorem dL_law_7 : decode cL_law 7 = .ok (.astore_n 1, 1) := by decide +kernel
theorem dL_law_8 : decode cL_law 8 = .ok (.bipush 60, 2) := by decide +kernel
theorem dL_law_10 : decode cL_law 10 = .ok (.newarray .int, 2) := by decide +kernel
theorem dL_law_12 : decode cL_law 12 = .ok (.astore_n 2, 1) := by decide +kernel
theorem dL_law_13 : decode cL_law 13 = .ok (.bipush 60, 2) := by decide +kernel
theorem dL_law_15 : decode cL_law 15 = .ok (.newarray .int, 2) := by decide +kernel
theorem dL_law_17 : decode cL_law 17 = .ok (.astore_n 3, 1) := by decide +kernel
theorem dL_law_18 : decode cL_law 18 = .ok (.bipush 60, 2) := by decide +kernel
theorem dL_law_20 : decode cL_law 20 = .ok (.newarray .int, 2) := by decide +kernel
theorem dL_law_22 : decode cL_law 22 = .ok (.astore 4, 2) := by decide +kernel
theorem dL_law_24 : decode cL_law 24 = .ok (.bipush 12, 2) := by decide +kernel
theorem dL_law_26 : decode cL_law 26 = .ok (.newarray .int, 2) := by decide +kernel
theorem dL_law_28 : decode cL_law 28 = .ok (.astore 5, 2) := by decide +kernel
theorem dL_law_30 : decode cL_law 30 = .ok (.bipush 61, 2) := by decide +kernel
theorem dL_law_32 : decode cL_law 32 = .ok (.newarray .int, 2) := by decide +kernel
theorem dL_law_34 : decode cL_law 34 = .ok (.astore 6, 2) := by decide +kernel
theorem dL_law_36 : decode cL_law 36 = .ok (.bipush 61, 2) := by decide +kernel
theorem dL_law_38 : decode cL_law 38 = .ok (.newarray .int, 2) := by decide +kernel
theorem dL_law_40 : decode cL_law 40 = .ok (.astore 7, 2) := by decide +kernel
theorem dL_law_42 : decode cL_law 42 = .ok (.bipush 61, 2) := by decide +kernel
theorem dL_law_44 : decode cL_law 44 = .ok (.newarray .int, 2) := by decide +kernel
theorem dL_law_46 : decode cL_law 46 = .ok (.astore 8, 2) := by decide +kernel
theorem dL_law_48 : decode cL_law 48 = .ok (.bipush 60, 2) := by decide +kernel
theorem dL_law_50 : decode cL_law 50 = .ok (.newarray .int, 2) := by decide +kernel
theorem dL_law_52 : decode cL_law 52 = .ok (.astore 9, 2) := by decide +kernel
theorem dL_law_54 : decode cL_law 54 = .ok (.bipush 60, 2) := by decide +kernel
theorem dL_law_56 : decode cL_law 56 = .ok (.newarray .int, 2) := by decide +kernel
theorem dL_law_58 : decode cL_law 58 = .ok (.astore 10, 2) := by decide +kernel
theorem dL_law_60 : decode cL_law 60 = .ok (.bipush 6, 2) := by decide +kernel
theorem dL_law_62 : decode cL_law 62 = .ok (.newarray .int, 2) := by decide +kernel
theorem dL_law_64 : decode cL_law 64 = .ok (.astore 11, 2) := by decide +kernel
theorem dL_law_66 : decode cL_law 66 = .ok (.aload 11, 2) := by decide +kernel
theorem dL_law_68 : decode cL_law 68 = .ok (.iconst 1, 1) := by decide +kernel
theorem dL_law_69 : decode cL_law 69 = .ok (.iconst 1, 1) := by decide +kernel
theorem dL_law_70 : decode cL_law 70 = .ok (.iastore, 1) := by decide +kernel
theorem dL_law_71 : decode cL_law 71 = .ok (.aload 11, 2) := by decide +kernel
theorem dL_law_73 : decode cL_law 73 = .ok (.iconst 2, 1) := by decide +kernel
theorem dL_law_74 : decode cL_law 74 = .ok (.iconst 2, 1) := by decide +kernel
theorem dL_law_75 : decode cL_law 75 = .ok (.iastore, 1) := by decide +kernel
theorem dL_law_76 : decode cL_law 76 = .ok (.aload 11, 2) := by decide +kernel
theorem dL_law_78 : decode cL_law 78 = .ok (.iconst 3, 1) := by decide +kernel
theorem dL_law_79 : decode cL_law 79 = .ok (.bipush 100, 2) := by decide +kernel
theorem dL_law_81 : decode cL_law 81 = .ok (.iastore, 1) := by decide +kernel
theorem dL_law_82 : decode cL_law 82 = .ok (.aload 11, 2) := by decide +kernel
theorem dL_law_84 : decode cL_law 84 = .ok (.iconst 4, 1) := by decide +kernel
theorem dL_law_85 : decode cL_law 85 = .ok (.sipush 300, 3) := by decide +kernel
theorem dL_law_88 : decode cL_law 88 = .ok (.iastore, 1) := by decide +kernel
theorem dL_law_89 : decode cL_law 89 = .ok (.aload 11, 2) := by decide +kernel
theorem dL_law_91 : decode cL_law 91 = .ok (.iconst 5, 1) := by decide +kernel
theorem dL_law_92 : decode cL_law 92 = .ok (.iconst 1, 1) := by decide +kernel
theorem dL_law_93 : decode cL_law 93 = .ok (.iastore, 1) := by decide +kernel
theorem dL_law_94 : decode cL_law 94 = .ok (.iconst 0, 1) := by decide +kernel
theorem dL_law_95 : decode cL_law 95 = .ok (.istore 12, 2) := by decide +kernel
theorem dL_law_97 : decode cL_law 97 = .ok (.iload 12, 2) := by decide +kernel
theorem dL_law_99 : decode cL_law 99 = .ok (.bipush 70, 2) := by decide +kernel
theorem dL_law_101 : decode cL_law 101 = .ok (.if_icmp .ge 681, 3) := by decide +kernel
theorem dL_law_104 : decode cL_law 104 = .ok (.aload_n 0, 1) := by decide +kernel
theorem dL_law_105 : decode cL_law 105 = .ok (.iload 12, 2) := by decide +kernel
theorem dL_law_107 : decode cL_law 107 = .ok (.invokestatic 117, 3) := by decide +kernel
theorem dL_law_110 : decode cL_law 110 = .ok (.istore 13, 2) := by decide +kernel
theorem dL_law_112 : decode cL_law 112 = .ok (.iload 13, 2) := by decide +kernel
theorem dL_law_114 : decode cL_law 114 = .ok (.bipush 16, 2) := by decide +kernel
theorem dL_law_116 : decode cL_law 116 = .ok (.invokestatic 94, 3) := by decide +kernel
theorem dL_law_119 : decode cL_law 119 = .ok (.bipush 8, 2) := by decide +kernel
theorem dL_law_121 : decode cL_law 121 = .ok (.if_icmp .ge 17, 3) := by decide +kernel
theorem dL_law_124 : decode cL_law 124 = .ok (.aload 11, 2) := by decide +kernel
theorem dL_law_126 : decode cL_law 126 = .ok (.iconst 0, 1) := by decide +kernel
theorem dL_law_127 : decode cL_law 127 = .ok (.iaload, 1) := by decide +kernel
theorem dL_law_128 : decode cL_law 128 = .ok (.bipush 21, 2) := by decide +kernel
theorem dL_law_130 : decode cL_law 130 = .ok (.if_icmp .le 8, 3) := by decide +kernel
theorem dL_law_133 : decode cL_law 133 = .ok (.bipush 11, 2) := by decide +kernel
theorem dL_law_135 : decode cL_law 135 = .ok (.goto 10, 3) := by decide +kernel
