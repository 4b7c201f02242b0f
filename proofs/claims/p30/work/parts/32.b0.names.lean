theorem dL_cell_0 : decode cL_cell 0 = .ok (.iload_n 1, 1) := by decide +kernel
theorem dL_cell_1 : decode cL_cell 1 = .ok (.aload_n 0, 1) := by decide +kernel
theorem dL_cell_2 : decode cL_cell 2 = .ok (.arraylength, 1) := by decide +kernel
theorem dL_cell_3 : decode cL_cell 3 = .ok (.if_icmp .ge 9, 3) := by decide +kernel
theorem dL_cell_6 : decode cL_cell 6 = .ok (.aload_n 0, 1) := by decide +kernel
theorem dL_cell_7 : decode cL_cell 7 = .ok (.iload_n 1, 1) := by decide +kernel
theorem dL_cell_8 : decode cL_cell 8 = .ok (.iaload, 1) := by decide +kernel
theorem dL_cell_9 : decode cL_cell 9 = .ok (.goto 13, 3) := by decide +kernel
theorem dL_cell_12 : decode cL_cell 12 = .ok (.ldc 7, 2) := by decide +kernel
theorem dL_cell_14 : decode cL_cell 14 = .ok (.iload_n 1, 1) := by decide +kernel
theorem dL_cell_15 : decode cL_cell 15 = .ok (.bipush 27, 2) := by decide +kernel
theorem dL_cell_17 : decode cL_cell 17 = .ok (.iadd, 1) := by decide +kernel
theorem dL_cell_18 : decode cL_cell 18 = .ok (.imul, 1) := by decide +kernel
theorem dL_cell_19 : decode cL_cell 19 = .ok (.ldc 8, 2) := by decide +kernel
theorem dL_cell_21 : decode cL_cell 21 = .ok (.iadd, 1) := by decide +kernel
theorem dL_cell_22 : decode cL_cell 22 = .ok (.ireturn, 1) := by decide +kernel
theorem dL_low_0 : decode cL_low 0 = .ok (.iload_n 0, 1) := by decide +kernel
theorem dL_low_1 : decode cL_low 1 = .ok (.ldc 9, 2) := by decide +kernel
theorem dL_low_3 : decode cL_low 3 = .ok (.iand, 1) := by decide +kernel
theorem dL_low_4 : decode cL_low 4 = .ok (.iload_n 1, 1) := by decide +kernel
theorem dL_low_5 : decode cL_low 5 = .ok (.irem, 1) := by decide +kernel
theorem dL_low_6 : decode cL_low 6 = .ok (.ireturn, 1) := by decide +kernel
set_option maxRecDepth 20000 in
theorem ggL_adds_X6_add : GoodIn wsL_adds wsX6_add := goodIn_ca (goodIn_ca (goodIn_r _ [6, 7, 8, 9, 5, 10, 11, 12, 13, 14, 15, 16, 17, 18, 19, 20, 21, 22, 23, 24, 25, 26, 27, 28, 29, 30, 31, 32, 33, 34, 35, 36, 37, 38, 39, 44, 45, 46, 47, 48, 49, 50, 51, 52, 53, 54, 55] (by decide +kernel) (by decide +kernel)) (goodIn_sub (fun _ h => List.mem_cons_of_mem _ (List.mem_append_left _ (List.mem_append_right _ h))) (by decide +kernel))) (goodIn_sub (fun _ h => List.mem_cons_of_mem _ (List.mem_append_right _ h)) (by decide +kernel))
set_option maxRecDepth 20000 in
theorem gL_adds_X6_add : GoodIn wsL_adds (wsV RL 10 RX6 yX6_add wsX6_add) := goodIn_app (goodIn_of _ (by decide +kernel)) ggL_adds_X6_add
set_option maxRecDepth 20000 in
theorem ggL_adds_X6_addMany : GoodIn wsL_adds wsX6_addMany := goodIn_ca (goodIn_ca (goodIn_r _ [43, 7, 8, 9, 5, 10, 11, 12, 13, 14, 15, 16, 17, 18, 19, 20, 21, 22, 23, 24, 25, 26, 27, 28, 29, 30, 31, 32, 33, 34, 35, 36, 37, 38, 39, 44, 45, 46, 47, 48, 49, 50, 51, 52, 53, 54, 55] (by decide +kernel) (by decide +kernel)) (goodIn_sub (fun _ h => List.mem_cons_of_mem _ (List.mem_append_left _ (List.mem_append_right _ h))) (by decide +kernel))) (goodIn_sub (fun _ h => List.mem_cons_of_mem _ (List.mem_append_right _ h)) (by decide +kernel))
set_option maxRecDepth 20000 in
theorem gL_adds_X6_addMany : GoodIn wsL_adds (wsV RL 16 RX6 yX6_addMany wsX6_addMany) := goodIn_app (goodIn_of _ (by decide +kernel)) ggL_adds_X6_addMany
theorem dL_adds_0 : decode cL_adds 0 = .ok (.iload_n 2, 1) := by decide +kernel
theorem dL_adds_1 : decode cL_adds 1 = .ok (.ifCond .ne 11, 3) := by decide +kernel
theorem dL_adds_4 : decode cL_adds 4 = .ok (.aload_n 0, 1) := by decide +kernel
theorem dL_adds_5 : decode cL_adds 5 = .ok (.iload_n 1, 1) := by decide +kernel
theorem dL_adds_6 : decode cL_adds 6 = .ok (.invokevirtual 10, 3) := by decide +kernel
theorem dL_adds_9 : decode cL_adds 9 = .ok (.goto 9, 3) := by decide +kernel
theorem dL_adds_12 : decode cL_adds 12 = .ok (.aload_n 0, 1) := by decide +kernel
theorem dL_adds_13 : decode cL_adds 13 = .ok (.iload_n 1, 1) := by decide +kernel
theorem dL_adds_14 : decode cL_adds 14 = .ok (.iload_n 2, 1) := by decide +kernel
theorem dL_adds_15 : decode cL_adds 15 = .ok (.invokevirtual 16, 3) := by decide +kernel
theorem dL_adds_18 : decode cL_adds 18 = .ok (.ireturn, 1) := by decide +kernel
theorem dL_adds_19 : decode cL_adds 19 = .ok (.astore_n 3, 1) := by decide +kernel
theorem dL_adds_20 : decode cL_adds 20 = .ok (.bipush (-3), 2) := by decide +kernel
theorem dL_adds_22 : decode cL_adds 22 = .ok (.ireturn, 1) := by decide +kernel
set_option maxRecDepth 20000 in
theorem ggL_cutAt_X6_costCutAt : GoodIn wsL_cutAt wsX6_costCutAt := goodIn_ca (goodIn_ca (goodIn_r _ [7, 8, 9, 10, 11, 12, 13, 14, 15, 16, 17, 18, 19, 6, 20, 21, 22, 23, 24, 25, 26, 27, 28, 29, 30, 31, 32, 33, 34, 35, 36, 37, 38, 39, 40, 41, 42, 43, 44, 45, 46, 47, 48, 49, 50, 51, 52, 53, 54, 55, 56, 57, 58, 59, 60, 61, 62, 63, 64, 65, 66, 67, 68, 69, 70, 71, 72, 73, 74, 75, 76, 77, 78, 79, 80, 81, 82, 83, 84, 85, 86, 87, 88, 89, 90, 91, 92, 93, 94, 95, 96, 97, 98, 99, 100, 101, 102, 103, 104, 105, 106, 107, 108, 109, 110, 111, 112, 113, 114, 115, 116, 117, 118, 119, 120, 121, 122, 123, 124, 125, 126, 127, 128, 129, 130, 131, 132, 133, 134, 135, 136, 137, 138, 139, 140, 141, 142, 143, 144, 145, 146, 147, 148, 149, 150, 151, 152, 153, 154, 155, 156, 157, 158, 159, 160, 161, 162, 163] (by decide +kernel) (by decide +kernel)) (goodIn_sub (fun _ h => List.mem_cons_of_mem _ (List.mem_append_left _ (List.mem_append_right _ h))) (by decide +kernel))) (goodIn_sub (fun _ h => List.mem_cons_of_mem _ (List.mem_append_right _ h)) (by decide +kernel))
set_option maxRecDepth 20000 in
theorem gL_cutAt_X6_costCutAt : GoodIn wsL_cutAt (wsV RL 22 RX6 yX6_costCutAt wsX6_costCutAt) := goodIn_app (goodIn_of _ (by decide +kernel)) ggL_cutAt_X6_costCutAt
theorem dL_cutAt_0 : decode cL_cutAt 0 = .ok (.aload_n 0, 1) := by decide +kernel
theorem dL_cutAt_1 : decode cL_cutAt 1 = .ok (.iload_n 1, 1) := by decide +kernel
theorem dL_cutAt_2 : decode cL_cutAt 2 = .ok (.invokevirtual 22, 3) := by decide +kernel
theorem dL_cutAt_5 : decode cL_cutAt 5 = .ok (.ireturn, 1) := by decide +kernel
theorem dL_cutAt_6 : decode cL_cutAt 6 = .ok (.astore_n 2, 1) := by decide +kernel
theorem dL_cutAt_7 : decode cL_cutAt 7 = .ok (.iconst (-1), 1) := by decide +kernel
theorem dL_cutAt_8 : decode cL_cutAt 8 = .ok (.ireturn, 1) := by decide +kernel
theorem dL_cutAt_9 : decode cL_cutAt 9 = .ok (.astore_n 2, 1) := by decide +kernel
theorem dL_cutAt_10 : decode cL_cutAt 10 = .ok (.bipush (-2), 2) := by decide +kernel
theorem dL_cutAt_12 : decode cL_cutAt 12 = .ok (.ireturn, 1) := by decide +kernel
set_option maxRecDepth 20000 in
theorem ggL_least_X6_leastCost : GoodIn wsL_least wsX6_leastCost := goodIn_ca (goodIn_r _ [6, 7, 8, 9, 10, 11, 12, 13, 14, 15, 16, 17, 18, 19, 5, 20, 21, 22, 23, 24, 25, 26, 27, 28, 29, 30, 31, 32, 33, 34, 35, 36, 37, 38, 39, 40, 41, 42, 43, 44, 45, 46, 47, 48, 49, 50, 51, 52, 53, 54, 55, 56, 57, 58, 59, 60, 61, 62, 63, 64, 65, 66, 67, 68, 69, 70, 71, 72, 73, 74, 75, 76, 77, 78, 79, 80, 81, 82, 83, 84, 85, 86, 87, 88, 89, 90, 91, 92, 93, 94, 95, 96, 97, 98, 99, 100, 101, 102, 103, 104, 105, 106, 107, 108, 109, 110, 111, 112, 113, 114, 115, 116, 117, 118, 119, 120, 121, 122, 123, 124, 125, 126, 127, 128, 129, 130, 131, 132, 133, 134, 135, 136, 137, 138, 139, 140, 141, 142, 143, 144, 145, 146, 147, 148, 149, 150, 151, 152, 153, 154, 155, 156, 157, 158, 159, 160, 161, 162, 163, 164, 165, 166, 167, 168, 169, 170, 171, 172, 173] (by decide +kernel) (by decide +kernel)) (goodIn_sub (fun _ h => List.mem_cons_of_mem _ (List.mem_append_right _ h)) (by decide +kernel))
set_option maxRecDepth 20000 in
theorem gL_least_X6_leastCost : GoodIn wsL_least (wsV RL 29 RX6 yX6_leastCost wsX6_leastCost) := goodIn_app (goodIn_of _ (by decide +kernel)) ggL_least_X6_leastCost
theorem dL_least_0 : decode cL_least 0 = .ok (.aload_n 0, 1) := by decide +kernel
theorem dL_least_1 : decode cL_least 1 = .ok (.invokevirtual 29, 3) := by decide +kernel
theorem dL_least_4 : decode cL_least 4 = .ok (.ireturn, 1) := by decide +kernel
theorem dL_least_5 : decode cL_least 5 = .ok (.astore_n 1, 1) := by decide +kernel
theorem dL_least_6 : decode cL_least 6 = .ok (.bipush (-3), 2) := by decide +kernel
theorem dL_least_8 : decode cL_least 8 = .ok (.ireturn, 1) := by decide +kernel
theorem dL_median_0 : decode cL_median 0 = .ok (.iconst 0, 1) := by decide +kernel
theorem dL_median_1 : decode cL_median 1 = .ok (.istore 5, 2) := by decide +kernel
theorem dL_median_3 : decode cL_median 3 = .ok (.iload_n 2, 1) := by decide +kernel
theorem dL_median_4 : decode cL_median 4 = .ok (.istore 6, 2) := by decide +kernel
theorem dL_median_6 : decode cL_median 6 = .ok (.iload 6, 2) := by decide +kernel
theorem dL_median_8 : decode cL_median 8 = .ok (.iload_n 3, 1) := by decide +kernel
theorem dL_median_9 : decode cL_median 9 = .ok (.if_icmp .ge 24, 3) := by decide +kernel
theorem dL_median_12 : decode cL_median 12 = .ok (.iload 5, 2) := by decide +kernel
theorem dL_median_14 : decode cL_median 14 = .ok (.iconst 1, 1) := by decide +kernel
theorem dL_median_15 : decode cL_median 15 = .ok (.aload_n 1, 1) := by decide +kernel
theorem dL_median_16 : decode cL_median 16 = .ok (.iload 6, 2) := by decide +kernel
theorem dL_median_18 : decode cL_median 18 = .ok (.iaload, 1) := by decide +kernel
theorem dL_median_19 : decode cL_median 19 = .ok (.isub, 1) := by decide +kernel
theorem dL_median_20 : decode cL_median 20 = .ok (.iadd, 1) := by decide +kernel
theorem dL_median_21 : decode cL_median 21 = .ok (.istore 5, 2) := by decide +kernel
theorem dL_median_23 : decode cL_median 23 = .ok (.iload 6, 2) := by decide +kernel
theorem dL_median_25 : decode cL_median 25 = .ok (.iload 4, 2) := by decide +kernel
theorem dL_median_27 : decode cL_median 27 = .ok (.iadd, 1) := by decide +kernel
theorem dL_median_28 : decode cL_median 28 = .ok (.istore 6, 2) := by decide +kernel
theorem dL_median_30 : decode cL_median 30 = .ok (.goto (-24), 3) := by decide +kernel
theorem dL_median_33 : decode cL_median 33 = .ok (.iload_n 2, 1) := by decide +kernel
theorem dL_median_34 : decode cL_median 34 = .ok (.istore 6, 2) := by decide +kernel
theorem dL_median_36 : decode cL_median 36 = .ok (.iload 6, 2) := by decide +kernel
theorem dL_median_38 : decode cL_median 38 = .ok (.iload_n 3, 1) := by decide +kernel
theorem dL_median_39 : decode cL_median 39 = .ok (.if_icmp .ge 131, 3) := by decide +kernel
theorem dL_median_42 : decode cL_median 42 = .ok (.iconst 0, 1) := by decide +kernel
theorem dL_median_43 : decode cL_median 43 = .ok (.istore 7, 2) := by decide +kernel
theorem dL_median_45 : decode cL_median 45 = .ok (.iconst 0, 1) := by decide +kernel
theorem dL_median_46 : decode cL_median 46 = .ok (.istore 8, 2) := by decide +kernel
theorem dL_median_48 : decode cL_median 48 = .ok (.iload_n 2, 1) := by decide +kernel
theorem dL_median_49 : decode cL_median 49 = .ok (.istore 9, 2) := by decide +kernel
theorem dL_median_51 : decode cL_median 51 = .ok (.iload 9, 2) := by decide +kernel
theorem dL_median_53 : decode cL_median 53 = .ok (.iload_n 3, 1) := by decide +kernel
theorem dL_median_54 : decode cL_median 54 = .ok (.if_icmp .ge 69, 3) := by decide +kernel
theorem dL_median_57 : decode cL_median 57 = .ok (.iload 7, 2) := by decide +kernel
theorem dL_median_59 : decode cL_median 59 = .ok (.aload_n 1, 1) := by decide +kernel
theorem dL_median_60 : decode cL_median 60 = .ok (.iload 9, 2) := by decide +kernel
theorem dL_median_62 : decode cL_median 62 = .ok (.iaload, 1) := by decide +kernel
theorem dL_median_63 : decode cL_median 63 = .ok (.ifCond .ne 18, 3) := by decide +kernel
theorem dL_median_66 : decode cL_median 66 = .ok (.aload_n 0, 1) := by decide +kernel
theorem dL_median_67 : decode cL_median 67 = .ok (.iload 9, 2) := by decide +kernel
theorem dL_median_69 : decode cL_median 69 = .ok (.iaload, 1) := by decide +kernel
theorem dL_median_70 : decode cL_median 70 = .ok (.aload_n 0, 1) := by decide +kernel
theorem dL_median_71 : decode cL_median 71 = .ok (.iload 6, 2) := by decide +kernel
theorem dL_median_73 : decode cL_median 73 = .ok (.iaload, 1) := by decide +kernel
theorem dL_median_74 : decode cL_median 74 = .ok (.if_icmp .ge 7, 3) := by decide +kernel
theorem dL_median_77 : decode cL_median 77 = .ok (.iconst 1, 1) := by decide +kernel
theorem dL_median_78 : decode cL_median 78 = .ok (.goto 4, 3) := by decide +kernel
theorem dL_median_81 : decode cL_median 81 = .ok (.iconst 0, 1) := by decide +kernel
theorem dL_median_82 : decode cL_median 82 = .ok (.iadd, 1) := by decide +kernel
theorem dL_median_83 : decode cL_median 83 = .ok (.istore 7, 2) := by decide +kernel
theorem dL_median_85 : decode cL_median 85 = .ok (.iload 8, 2) := by decide +kernel
theorem dL_median_87 : decode cL_median 87 = .ok (.aload_n 1, 1) := by decide +kernel
theorem dL_median_88 : decode cL_median 88 = .ok (.iload 9, 2) := by decide +kernel
theorem dL_median_90 : decode cL_median 90 = .ok (.iaload, 1) := by decide +kernel
theorem dL_median_91 : decode cL_median 91 = .ok (.ifCond .ne 18, 3) := by decide +kernel
theorem dL_median_94 : decode cL_median 94 = .ok (.aload_n 0, 1) := by decide +kernel
theorem dL_median_95 : decode cL_median 95 = .ok (.iload 9, 2) := by decide +kernel
theorem dL_median_97 : decode cL_median 97 = .ok (.iaload, 1) := by decide +kernel
theorem dL_median_98 : decode cL_median 98 = .ok (.aload_n 0, 1) := by decide +kernel
theorem dL_median_99 : decode cL_median 99 = .ok (.iload 6, 2) := by decide +kernel
theorem dL_median_101 : decode cL_median 101 = .ok (.iaload, 1) := by decide +kernel
theorem dL_median_102 : decode cL_median 102 = .ok (.if_icmp .ne 7, 3) := by decide +kernel
theorem dL_median_105 : decode cL_median 105 = .ok (.iconst 1, 1) := by decide +kernel
theorem dL_median_106 : decode cL_median 106 = .ok (.goto 4, 3) := by decide +kernel
theorem dL_median_109 : decode cL_median 109 = .ok (.iconst 0, 1) := by decide +kernel
theorem dL_median_110 : decode cL_median 110 = .ok (.iadd, 1) := by decide +kernel
theorem dL_median_111 : decode cL_median 111 = .ok (.istore 8, 2) := by decide +kernel
theorem dL_median_113 : decode cL_median 113 = .ok (.iload 9, 2) := by decide +kernel
theorem dL_median_115 : decode cL_median 115 = .ok (.iload 4, 2) := by decide +kernel
theorem dL_median_117 : decode cL_median 117 = .ok (.iadd, 1) := by decide +kernel
theorem dL_median_118 : decode cL_median 118 = .ok (.istore 9, 2) := by decide +kernel
theorem dL_median_120 : decode cL_median 120 = .ok (.goto (-69), 3) := by decide +kernel
theorem dL_median_123 : decode cL_median 123 = .ok (.aload_n 1, 1) := by decide +kernel
theorem dL_median_124 : decode cL_median 124 = .ok (.iload 6, 2) := by decide +kernel
theorem dL_median_126 : decode cL_median 126 = .ok (.iaload, 1) := by decide +kernel
theorem dL_median_127 : decode cL_median 127 = .ok (.ifCond .ne 33, 3) := by decide +kernel
theorem dL_median_130 : decode cL_median 130 = .ok (.iload 7, 2) := by decide +kernel
theorem dL_median_132 : decode cL_median 132 = .ok (.iload 5, 2) := by decide +kernel
theorem dL_median_134 : decode cL_median 134 = .ok (.iconst 1, 1) := by decide +kernel
theorem dL_median_135 : decode cL_median 135 = .ok (.isub, 1) := by decide +kernel
theorem dL_median_136 : decode cL_median 136 = .ok (.iconst 2, 1) := by decide +kernel
theorem dL_median_137 : decode cL_median 137 = .ok (.idiv, 1) := by decide +kernel
theorem dL_median_138 : decode cL_median 138 = .ok (.if_icmp .gt 22, 3) := by decide +kernel
theorem dL_median_141 : decode cL_median 141 = .ok (.iload 5, 2) := by decide +kernel
theorem dL_median_143 : decode cL_median 143 = .ok (.iconst 1, 1) := by decide +kernel
theorem dL_median_144 : decode cL_median 144 = .ok (.isub, 1) := by decide +kernel
theorem dL_median_145 : decode cL_median 145 = .ok (.iconst 2, 1) := by decide +kernel
theorem dL_median_146 : decode cL_median 146 = .ok (.idiv, 1) := by decide +kernel
theorem dL_median_147 : decode cL_median 147 = .ok (.iload 7, 2) := by decide +kernel
theorem dL_median_149 : decode cL_median 149 = .ok (.iload 8, 2) := by decide +kernel
theorem dL_median_151 : decode cL_median 151 = .ok (.iadd, 1) := by decide +kernel
theorem dL_median_152 : decode cL_median 152 = .ok (.if_icmp .ge 8, 3) := by decide +kernel
theorem dL_median_155 : decode cL_median 155 = .ok (.aload_n 0, 1) := by decide +kernel
theorem dL_median_156 : decode cL_median 156 = .ok (.iload 6, 2) := by decide +kernel
theorem dL_median_158 : decode cL_median 158 = .ok (.iaload, 1) := by decide +kernel
theorem dL_median_159 : decode cL_median 159 = .ok (.ireturn, 1) := by decide +kernel
theorem dL_median_160 : decode cL_median 160 = .ok (.iload 6, 2) := by decide +kernel
theorem dL_median_162 : decode cL_median 162 = .ok (.iload 4, 2) := by decide +kernel
theorem dL_median_164 : decode cL_median 164 = .ok (.iadd, 1) := by decide +kernel
theorem dL_median_165 : decode cL_median 165 = .ok (.istore 6, 2) := by decide +kernel
theorem dL_median_167 : decode cL_median 167 = .ok (.goto (-131), 3) := by decide +kernel
theorem dL_median_170 : decode cL_median 170 = .ok (.iconst 0, 1) := by decide +kernel
theorem dL_median_171 : decode cL_median 171 = .ok (.ireturn, 1) := by decide +kernel
set_option maxRecDepth 20000 in
theorem ggL_cost_L_median : GoodIn wsL_cost wsL_median := goodIn_r _ [4] (by decide +kernel) (by decide +kernel)
set_option maxRecDepth 20000 in
theorem gL_cost_L_median : GoodIn wsL_cost (va_wsS RL 33 yL_median wsL_median) := goodIn_app (goodIn_of _ (by decide +kernel)) ggL_cost_L_median
theorem dL_cost_0 : decode cL_cost 0 = .ok (.aload_n 0, 1) := by decide +kernel
theorem dL_cost_1 : decode cL_cost 1 = .ok (.aload_n 1, 1) := by decide +kernel
theorem dL_cost_2 : decode cL_cost 2 = .ok (.iload_n 2, 1) := by decide +kernel
theorem dL_cost_3 : decode cL_cost 3 = .ok (.iload_n 3, 1) := by decide +kernel
theorem dL_cost_4 : decode cL_cost 4 = .ok (.iconst 1, 1) := by decide +kernel
theorem dL_cost_5 : decode cL_cost 5 = .ok (.invokestatic 33, 3) := by decide +kernel
theorem dL_cost_8 : decode cL_cost 8 = .ok (.istore 4, 2) := by decide +kernel
theorem dL_cost_10 : decode cL_cost 10 = .ok (.iconst 0, 1) := by decide +kernel
theorem dL_cost_11 : decode cL_cost 11 = .ok (.istore 5, 2) := by decide +kernel
theorem dL_cost_13 : decode cL_cost 13 = .ok (.iload_n 2, 1) := by decide +kernel
theorem dL_cost_14 : decode cL_cost 14 = .ok (.istore 6, 2) := by decide +kernel
theorem dL_cost_16 : decode cL_cost 16 = .ok (.iload 6, 2) := by decide +kernel
theorem dL_cost_18 : decode cL_cost 18 = .ok (.iload_n 3, 1) := by decide +kernel
theorem dL_cost_19 : decode cL_cost 19 = .ok (.if_icmp .ge 52, 3) := by decide +kernel
theorem dL_cost_22 : decode cL_cost 22 = .ok (.iload 5, 2) := by decide +kernel
theorem dL_cost_24 : decode cL_cost 24 = .ok (.aload_n 1, 1) := by decide +kernel
theorem dL_cost_25 : decode cL_cost 25 = .ok (.iload 6, 2) := by decide +kernel
theorem dL_cost_27 : decode cL_cost 27 = .ok (.iaload, 1) := by decide +kernel
theorem dL_cost_28 : decode cL_cost 28 = .ok (.iconst 1, 1) := by decide +kernel
theorem dL_cost_29 : decode cL_cost 29 = .ok (.if_icmp .ne 7, 3) := by decide +kernel
theorem dL_cost_32 : decode cL_cost 32 = .ok (.iconst 0, 1) := by decide +kernel
theorem dL_cost_33 : decode cL_cost 33 = .ok (.goto 29, 3) := by decide +kernel
theorem dL_cost_36 : decode cL_cost 36 = .ok (.aload_n 0, 1) := by decide +kernel
theorem dL_cost_37 : decode cL_cost 37 = .ok (.iload 6, 2) := by decide +kernel
theorem dL_cost_39 : decode cL_cost 39 = .ok (.iaload, 1) := by decide +kernel
theorem dL_cost_40 : decode cL_cost 40 = .ok (.iload 4, 2) := by decide +kernel
theorem dL_cost_42 : decode cL_cost 42 = .ok (.if_icmp .ge 13, 3) := by decide +kernel
theorem dL_cost_45 : decode cL_cost 45 = .ok (.iload 4, 2) := by decide +kernel
theorem dL_cost_47 : decode cL_cost 47 = .ok (.aload_n 0, 1) := by decide +kernel
theorem dL_cost_48 : decode cL_cost 48 = .ok (.iload 6, 2) := by decide +kernel
theorem dL_cost_50 : decode cL_cost 50 = .ok (.iaload, 1) := by decide +kernel
theorem dL_cost_51 : decode cL_cost 51 = .ok (.isub, 1) := by decide +kernel
theorem dL_cost_52 : decode cL_cost 52 = .ok (.goto 10, 3) := by decide +kernel
theorem dL_cost_55 : decode cL_cost 55 = .ok (.aload_n 0, 1) := by decide +kernel
theorem dL_cost_56 : decode cL_cost 56 = .ok (.iload 6, 2) := by decide +kernel
theorem dL_cost_58 : decode cL_cost 58 = .ok (.iaload, 1) := by decide +kernel
theorem dL_cost_59 : decode cL_cost 59 = .ok (.iload 4, 2) := by decide +kernel
theorem dL_cost_61 : decode cL_cost 61 = .ok (.isub, 1) := by decide +kernel
theorem dL_cost_62 : decode cL_cost 62 = .ok (.iadd, 1) := by decide +kernel
theorem dL_cost_63 : decode cL_cost 63 = .ok (.istore 5, 2) := by decide +kernel
theorem dL_cost_65 : decode cL_cost 65 = .ok (.iinc 6 1, 3) := by decide +kernel
theorem dL_cost_68 : decode cL_cost 68 = .ok (.goto (-52), 3) := by decide +kernel
theorem dL_cost_71 : decode cL_cost 71 = .ok (.iload 5, 2) := by decide +kernel
theorem dL_cost_73 : decode cL_cost 73 = .ok (.ireturn, 1) := by decide +kernel
set_option maxRecDepth 20000 in
theorem ggL_seasons_L_median : GoodIn wsL_seasons wsL_median := goodIn_r _ [4] (by decide +kernel) (by decide +kernel)
set_option maxRecDepth 20000 in
theorem gL_seasons_L_median : GoodIn wsL_seasons (va_wsS RL 33 yL_median wsL_median) := goodIn_app (goodIn_of _ (by decide +kernel)) ggL_seasons_L_median
theorem dL_seasons_0 : decode cL_seasons 0 = .ok (.aload_n 0, 1) := by decide +kernel
theorem dL_seasons_1 : decode cL_seasons 1 = .ok (.aload_n 1, 1) := by decide +kernel
theorem dL_seasons_2 : decode cL_seasons 2 = .ok (.iconst 0, 1) := by decide +kernel
theorem dL_seasons_3 : decode cL_seasons 3 = .ok (.aload 4, 2) := by decide +kernel
theorem dL_seasons_5 : decode cL_seasons 5 = .ok (.iconst 0, 1) := by decide +kernel
theorem dL_seasons_6 : decode cL_seasons 6 = .ok (.iaload, 1) := by decide +kernel
theorem dL_seasons_7 : decode cL_seasons 7 = .ok (.iconst 1, 1) := by decide +kernel
theorem dL_seasons_8 : decode cL_seasons 8 = .ok (.invokestatic 33, 3) := by decide +kernel
theorem dL_seasons_11 : decode cL_seasons 11 = .ok (.istore 5, 2) := by decide +kernel
theorem dL_seasons_13 : decode cL_seasons 13 = .ok (.iconst 0, 1) := by decide +kernel
theorem dL_seasons_14 : decode cL_seasons 14 = .ok (.istore 6, 2) := by decide +kernel
theorem dL_seasons_16 : decode cL_seasons 16 = .ok (.iload 6, 2) := by decide +kernel
theorem dL_seasons_18 : decode cL_seasons 18 = .ok (.aload 4, 2) := by decide +kernel
theorem dL_seasons_20 : decode cL_seasons 20 = .ok (.iconst 1, 1) := by decide +kernel
theorem dL_seasons_21 : decode cL_seasons 21 = .ok (.iaload, 1) := by decide +kernel
theorem dL_seasons_22 : decode cL_seasons 22 = .ok (.if_icmp .ge 44, 3) := by decide +kernel
theorem dL_seasons_25 : decode cL_seasons 25 = .ok (.aload_n 3, 1) := by decide +kernel
theorem dL_seasons_26 : decode cL_seasons 26 = .ok (.iload 6, 2) := by decide +kernel
theorem dL_seasons_28 : decode cL_seasons 28 = .ok (.iload 6, 2) := by decide +kernel
theorem dL_seasons_30 : decode cL_seasons 30 = .ok (.aload 4, 2) := by decide +kernel
theorem dL_seasons_32 : decode cL_seasons 32 = .ok (.iconst 0, 1) := by decide +kernel
theorem dL_seasons_33 : decode cL_seasons 33 = .ok (.iaload, 1) := by decide +kernel
theorem dL_seasons_34 : decode cL_seasons 34 = .ok (.if_icmp .ge 24, 3) := by decide +kernel
theorem dL_seasons_37 : decode cL_seasons 37 = .ok (.aload_n 0, 1) := by decide +kernel
theorem dL_seasons_38 : decode cL_seasons 38 = .ok (.aload_n 1, 1) := by decide +kernel
theorem dL_seasons_39 : decode cL_seasons 39 = .ok (.iload 6, 2) := by decide +kernel
theorem dL_seasons_41 : decode cL_seasons 41 = .ok (.aload 4, 2) := by decide +kernel
theorem dL_seasons_43 : decode cL_seasons 43 = .ok (.iconst 0, 1) := by decide +kernel
theorem dL_seasons_44 : decode cL_seasons 44 = .ok (.iaload, 1) := by decide +kernel
theorem dL_seasons_45 : decode cL_seasons 45 = .ok (.aload 4, 2) := by decide +kernel
theorem dL_seasons_47 : decode cL_seasons 47 = .ok (.iconst 1, 1) := by decide +kernel
theorem dL_seasons_48 : decode cL_seasons 48 = .ok (.iaload, 1) := by decide +kernel
theorem dL_seasons_49 : decode cL_seasons 49 = .ok (.invokestatic 33, 3) := by decide +kernel
theorem dL_seasons_52 : decode cL_seasons 52 = .ok (.iload 5, 2) := by decide +kernel
theorem dL_seasons_54 : decode cL_seasons 54 = .ok (.isub, 1) := by decide +kernel
theorem dL_seasons_55 : decode cL_seasons 55 = .ok (.goto 4, 3) := by decide +kernel
theorem dL_seasons_58 : decode cL_seasons 58 = .ok (.iconst 0, 1) := by decide +kernel
theorem dL_seasons_59 : decode cL_seasons 59 = .ok (.iastore, 1) := by decide +kernel
theorem dL_seasons_60 : decode cL_seasons 60 = .ok (.iinc 6 1, 3) := by decide +kernel
theorem dL_seasons_63 : decode cL_seasons 63 = .ok (.goto (-47), 3) := by decide +kernel
theorem dL_seasons_66 : decode cL_seasons 66 = .ok (.iconst 0, 1) := by decide +kernel
theorem dL_seasons_67 : decode cL_seasons 67 = .ok (.istore 6, 2) := by decide +kernel
theorem dL_seasons_69 : decode cL_seasons 69 = .ok (.iload 6, 2) := by decide +kernel
theorem dL_seasons_71 : decode cL_seasons 71 = .ok (.aload 4, 2) := by decide +kernel
theorem dL_seasons_73 : decode cL_seasons 73 = .ok (.iconst 1, 1) := by decide +kernel
theorem dL_seasons_74 : decode cL_seasons 74 = .ok (.iaload, 1) := by decide +kernel
theorem dL_seasons_75 : decode cL_seasons 75 = .ok (.if_icmp .ge 74, 3) := by decide +kernel
theorem dL_seasons_78 : decode cL_seasons 78 = .ok (.iload 6, 2) := by decide +kernel
theorem dL_seasons_80 : decode cL_seasons 80 = .ok (.aload 4, 2) := by decide +kernel
theorem dL_seasons_82 : decode cL_seasons 82 = .ok (.iconst 0, 1) := by decide +kernel
theorem dL_seasons_83 : decode cL_seasons 83 = .ok (.iaload, 1) := by decide +kernel
theorem dL_seasons_84 : decode cL_seasons 84 = .ok (.if_icmp .ge 65, 3) := by decide +kernel
theorem dL_seasons_87 : decode cL_seasons 87 = .ok (.iconst 0, 1) := by decide +kernel
theorem dL_seasons_88 : decode cL_seasons 88 = .ok (.istore 7, 2) := by decide +kernel
theorem dL_seasons_90 : decode cL_seasons 90 = .ok (.iload 6, 2) := by decide +kernel
theorem dL_seasons_92 : decode cL_seasons 92 = .ok (.istore 8, 2) := by decide +kernel
theorem dL_seasons_94 : decode cL_seasons 94 = .ok (.iload 8, 2) := by decide +kernel
theorem dL_seasons_96 : decode cL_seasons 96 = .ok (.aload 4, 2) := by decide +kernel
theorem dL_seasons_98 : decode cL_seasons 98 = .ok (.iconst 0, 1) := by decide +kernel
theorem dL_seasons_99 : decode cL_seasons 99 = .ok (.iaload, 1) := by decide +kernel
theorem dL_seasons_100 : decode cL_seasons 100 = .ok (.if_icmp .ge 26, 3) := by decide +kernel
theorem dL_seasons_103 : decode cL_seasons 103 = .ok (.iload 7, 2) := by decide +kernel
theorem dL_seasons_105 : decode cL_seasons 105 = .ok (.iconst 1, 1) := by decide +kernel
theorem dL_seasons_106 : decode cL_seasons 106 = .ok (.aload_n 1, 1) := by decide +kernel
theorem dL_seasons_107 : decode cL_seasons 107 = .ok (.iload 8, 2) := by decide +kernel
theorem dL_seasons_109 : decode cL_seasons 109 = .ok (.iaload, 1) := by decide +kernel
theorem dL_seasons_110 : decode cL_seasons 110 = .ok (.isub, 1) := by decide +kernel
theorem dL_seasons_111 : decode cL_seasons 111 = .ok (.iadd, 1) := by decide +kernel
theorem dL_seasons_112 : decode cL_seasons 112 = .ok (.istore 7, 2) := by decide +kernel
theorem dL_seasons_114 : decode cL_seasons 114 = .ok (.iload 8, 2) := by decide +kernel
theorem dL_seasons_116 : decode cL_seasons 116 = .ok (.aload 4, 2) := by decide +kernel
theorem dL_seasons_118 : decode cL_seasons 118 = .ok (.iconst 1, 1) := by decide +kernel
theorem dL_seasons_119 : decode cL_seasons 119 = .ok (.iaload, 1) := by decide +kernel
theorem dL_seasons_120 : decode cL_seasons 120 = .ok (.iadd, 1) := by decide +kernel
theorem dL_seasons_121 : decode cL_seasons 121 = .ok (.istore 8, 2) := by decide +kernel
theorem dL_seasons_123 : decode cL_seasons 123 = .ok (.goto (-29), 3) := by decide +kernel
theorem dL_seasons_126 : decode cL_seasons 126 = .ok (.aload_n 3, 1) := by decide +kernel
theorem dL_seasons_127 : decode cL_seasons 127 = .ok (.iload 6, 2) := by decide +kernel
theorem dL_seasons_129 : decode cL_seasons 129 = .ok (.iload 7, 2) := by decide +kernel
theorem dL_seasons_131 : decode cL_seasons 131 = .ok (.ifCond .ne 7, 3) := by decide +kernel
theorem dL_seasons_134 : decode cL_seasons 134 = .ok (.iconst 0, 1) := by decide +kernel
theorem dL_seasons_135 : decode cL_seasons 135 = .ok (.goto 7, 3) := by decide +kernel
theorem dL_seasons_138 : decode cL_seasons 138 = .ok (.aload_n 3, 1) := by decide +kernel
theorem dL_seasons_139 : decode cL_seasons 139 = .ok (.iload 6, 2) := by decide +kernel
theorem dL_seasons_141 : decode cL_seasons 141 = .ok (.iaload, 1) := by decide +kernel
theorem dL_seasons_142 : decode cL_seasons 142 = .ok (.iastore, 1) := by decide +kernel
theorem dL_seasons_143 : decode cL_seasons 143 = .ok (.iinc 6 1, 3) := by decide +kernel
theorem dL_seasons_146 : decode cL_seasons 146 = .ok (.goto (-77), 3) := by decide +kernel
theorem dL_seasons_149 : decode cL_seasons 149 = .ok (.iconst 0, 1) := by decide +kernel
theorem dL_seasons_150 : decode cL_seasons 150 = .ok (.istore 6, 2) := by decide +kernel
theorem dL_seasons_152 : decode cL_seasons 152 = .ok (.iload 6, 2) := by decide +kernel
theorem dL_seasons_154 : decode cL_seasons 154 = .ok (.aload 4, 2) := by decide +kernel
theorem dL_seasons_156 : decode cL_seasons 156 = .ok (.iconst 0, 1) := by decide +kernel
theorem dL_seasons_157 : decode cL_seasons 157 = .ok (.iaload, 1) := by decide +kernel
theorem dL_seasons_158 : decode cL_seasons 158 = .ok (.if_icmp .ge 27, 3) := by decide +kernel
theorem dL_seasons_161 : decode cL_seasons 161 = .ok (.aload_n 2, 1) := by decide +kernel
theorem dL_seasons_162 : decode cL_seasons 162 = .ok (.iload 6, 2) := by decide +kernel
theorem dL_seasons_164 : decode cL_seasons 164 = .ok (.aload_n 0, 1) := by decide +kernel
theorem dL_seasons_165 : decode cL_seasons 165 = .ok (.iload 6, 2) := by decide +kernel
theorem dL_seasons_167 : decode cL_seasons 167 = .ok (.iaload, 1) := by decide +kernel
theorem dL_seasons_168 : decode cL_seasons 168 = .ok (.aload_n 3, 1) := by decide +kernel
theorem dL_seasons_169 : decode cL_seasons 169 = .ok (.iload 6, 2) := by decide +kernel
theorem dL_seasons_171 : decode cL_seasons 171 = .ok (.aload 4, 2) := by decide +kernel
theorem dL_seasons_173 : decode cL_seasons 173 = .ok (.iconst 1, 1) := by decide +kernel
theorem dL_seasons_174 : decode cL_seasons 174 = .ok (.iaload, 1) := by decide +kernel
theorem dL_seasons_175 : decode cL_seasons 175 = .ok (.irem, 1) := by decide +kernel
theorem dL_seasons_176 : decode cL_seasons 176 = .ok (.iaload, 1) := by decide +kernel
theorem dL_seasons_177 : decode cL_seasons 177 = .ok (.isub, 1) := by decide +kernel
theorem dL_seasons_178 : decode cL_seasons 178 = .ok (.iastore, 1) := by decide +kernel
theorem dL_seasons_179 : decode cL_seasons 179 = .ok (.iinc 6 1, 3) := by decide +kernel
theorem dL_seasons_182 : decode cL_seasons 182 = .ok (.goto (-30), 3) := by decide +kernel
theorem dL_seasons_185 : decode cL_seasons 185 = .ok (.iload 5, 2) := by decide +kernel
theorem dL_seasons_187 : decode cL_seasons 187 = .ok (.ireturn, 1) := by decide +kernel
set_option maxRecDepth 20000 in
theorem ggL_division_L_cost : GoodIn wsL_division wsL_cost := goodIn_r _ [4, 5, 6, 3, 7] (by decide +kernel) (by decide +kernel)
set_option maxRecDepth 20000 in
theorem gL_division_L_cost : GoodIn wsL_division (va_wsS RL 39 yL_cost wsL_cost) := goodIn_app (goodIn_of _ (by decide +kernel)) ggL_division_L_cost
theorem dL_division_0 : decode cL_division 0 = .ok (.aload 5, 2) := by decide +kernel
theorem dL_division_2 : decode cL_division 2 = .ok (.iconst 0, 1) := by decide +kernel
theorem dL_division_3 : decode cL_division 3 = .ok (.iaload, 1) := by decide +kernel
theorem dL_division_4 : decode cL_division 4 = .ok (.istore 6, 2) := by decide +kernel
theorem dL_division_6 : decode cL_division 6 = .ok (.iload 6, 2) := by decide +kernel
theorem dL_division_8 : decode cL_division 8 = .ok (.iconst 1, 1) := by decide +kernel
theorem dL_division_9 : decode cL_division 9 = .ok (.isub, 1) := by decide +kernel
theorem dL_division_10 : decode cL_division 10 = .ok (.istore 7, 2) := by decide +kernel
theorem dL_division_12 : decode cL_division 12 = .ok (.iload 7, 2) := by decide +kernel
theorem dL_division_14 : decode cL_division 14 = .ok (.ifCond .lt 240, 3) := by decide +kernel
theorem dL_division_17 : decode cL_division 17 = .ok (.iload 6, 2) := by decide +kernel
theorem dL_division_19 : decode cL_division 19 = .ok (.iload 7, 2) := by decide +kernel
theorem dL_division_21 : decode cL_division 21 = .ok (.isub, 1) := by decide +kernel
theorem dL_division_22 : decode cL_division 22 = .ok (.aload 5, 2) := by decide +kernel
theorem dL_division_24 : decode cL_division 24 = .ok (.iconst 2, 1) := by decide +kernel
theorem dL_division_25 : decode cL_division 25 = .ok (.iaload, 1) := by decide +kernel
theorem dL_division_26 : decode cL_division 26 = .ok (.if_icmp .ge 8, 3) := by decide +kernel
theorem dL_division_29 : decode cL_division 29 = .ok (.iload 7, 2) := by decide +kernel
theorem dL_division_31 : decode cL_division 31 = .ok (.ifCond .ne 7, 3) := by decide +kernel
theorem dL_division_34 : decode cL_division 34 = .ok (.iconst 1, 1) := by decide +kernel
theorem dL_division_35 : decode cL_division 35 = .ok (.goto 4, 3) := by decide +kernel
theorem dL_division_38 : decode cL_division 38 = .ok (.iconst 0, 1) := by decide +kernel
theorem dL_division_39 : decode cL_division 39 = .ok (.istore 8, 2) := by decide +kernel
theorem dL_division_41 : decode cL_division 41 = .ok (.aload_n 2, 1) := by decide +kernel
theorem dL_division_42 : decode cL_division 42 = .ok (.iload 7, 2) := by decide +kernel
theorem dL_division_44 : decode cL_division 44 = .ok (.iload 8, 2) := by decide +kernel
theorem dL_division_46 : decode cL_division 46 = .ok (.ifCond .eq 15, 3) := by decide +kernel
theorem dL_division_49 : decode cL_division 49 = .ok (.aload_n 0, 1) := by decide +kernel
theorem dL_division_50 : decode cL_division 50 = .ok (.aload_n 1, 1) := by decide +kernel
theorem dL_division_51 : decode cL_division 51 = .ok (.iload 7, 2) := by decide +kernel
theorem dL_division_53 : decode cL_division 53 = .ok (.iload 6, 2) := by decide +kernel
theorem dL_division_55 : decode cL_division 55 = .ok (.invokestatic 39, 3) := by decide +kernel
theorem dL_division_58 : decode cL_division 58 = .ok (.goto 4, 3) := by decide +kernel
theorem dL_division_61 : decode cL_division 61 = .ok (.iconst (-1), 1) := by decide +kernel
theorem dL_division_62 : decode cL_division 62 = .ok (.iastore, 1) := by decide +kernel
theorem dL_division_63 : decode cL_division 63 = .ok (.aload_n 3, 1) := by decide +kernel
theorem dL_division_64 : decode cL_division 64 = .ok (.iload 7, 2) := by decide +kernel
theorem dL_division_66 : decode cL_division 66 = .ok (.iconst 0, 1) := by decide +kernel
theorem dL_division_67 : decode cL_division 67 = .ok (.iastore, 1) := by decide +kernel
theorem dL_division_68 : decode cL_division 68 = .ok (.aload 4, 2) := by decide +kernel
theorem dL_division_70 : decode cL_division 70 = .ok (.iload 7, 2) := by decide +kernel
theorem dL_division_72 : decode cL_division 72 = .ok (.iload 6, 2) := by decide +kernel
theorem dL_division_74 : decode cL_division 74 = .ok (.iastore, 1) := by decide +kernel
theorem dL_division_75 : decode cL_division 75 = .ok (.iload 6, 2) := by decide +kernel
theorem dL_division_77 : decode cL_division 77 = .ok (.aload 5, 2) := by decide +kernel
theorem dL_division_79 : decode cL_division 79 = .ok (.iconst 2, 1) := by decide +kernel
theorem dL_division_80 : decode cL_division 80 = .ok (.iaload, 1) := by decide +kernel
theorem dL_division_81 : decode cL_division 81 = .ok (.isub, 1) := by decide +kernel
theorem dL_division_82 : decode cL_division 82 = .ok (.istore 9, 2) := by decide +kernel
theorem dL_division_84 : decode cL_division 84 = .ok (.iload 9, 2) := by decide +kernel
theorem dL_division_86 : decode cL_division 86 = .ok (.iload 7, 2) := by decide +kernel
theorem dL_division_88 : decode cL_division 88 = .ok (.aload 5, 2) := by decide +kernel
theorem dL_division_90 : decode cL_division 90 = .ok (.iconst 2, 1) := by decide +kernel
theorem dL_division_91 : decode cL_division 91 = .ok (.iaload, 1) := by decide +kernel
theorem dL_division_92 : decode cL_division 92 = .ok (.iadd, 1) := by decide +kernel
theorem dL_division_93 : decode cL_division 93 = .ok (.if_icmp .lt 155, 3) := by decide +kernel
theorem dL_division_96 : decode cL_division 96 = .ok (.aload_n 2, 1) := by decide +kernel
theorem dL_division_97 : decode cL_division 97 = .ok (.iload 9, 2) := by decide +kernel
theorem dL_division_99 : decode cL_division 99 = .ok (.iaload, 1) := by decide +kernel
theorem dL_division_100 : decode cL_division 100 = .ok (.ifCond .lt 142, 3) := by decide +kernel
theorem dL_division_103 : decode cL_division 103 = .ok (.aload_n 0, 1) := by decide +kernel
theorem dL_division_104 : decode cL_division 104 = .ok (.aload_n 1, 1) := by decide +kernel
theorem dL_division_105 : decode cL_division 105 = .ok (.iload 7, 2) := by decide +kernel
theorem dL_division_107 : decode cL_division 107 = .ok (.iload 9, 2) := by decide +kernel
theorem dL_division_109 : decode cL_division 109 = .ok (.invokestatic 39, 3) := by decide +kernel
theorem dL_division_112 : decode cL_division 112 = .ok (.aload 5, 2) := by decide +kernel
theorem dL_division_114 : decode cL_division 114 = .ok (.iconst 3, 1) := by decide +kernel
theorem dL_division_115 : decode cL_division 115 = .ok (.iaload, 1) := by decide +kernel
theorem dL_division_116 : decode cL_division 116 = .ok (.iadd, 1) := by decide +kernel
theorem dL_division_117 : decode cL_division 117 = .ok (.aload_n 2, 1) := by decide +kernel
theorem dL_division_118 : decode cL_division 118 = .ok (.iload 9, 2) := by decide +kernel
theorem dL_division_120 : decode cL_division 120 = .ok (.iaload, 1) := by decide +kernel
theorem dL_division_121 : decode cL_division 121 = .ok (.iadd, 1) := by decide +kernel
theorem dL_division_122 : decode cL_division 122 = .ok (.istore 10, 2) := by decide +kernel
theorem dL_division_124 : decode cL_division 124 = .ok (.aload_n 2, 1) := by decide +kernel
theorem dL_division_125 : decode cL_division 125 = .ok (.iload 7, 2) := by decide +kernel
theorem dL_division_127 : decode cL_division 127 = .ok (.iaload, 1) := by decide +kernel
theorem dL_division_128 : decode cL_division 128 = .ok (.ifCond .lt 47, 3) := by decide +kernel
theorem dL_division_131 : decode cL_division 131 = .ok (.iload 10, 2) := by decide +kernel
theorem dL_division_133 : decode cL_division 133 = .ok (.aload_n 2, 1) := by decide +kernel
theorem dL_division_134 : decode cL_division 134 = .ok (.iload 7, 2) := by decide +kernel
theorem dL_division_136 : decode cL_division 136 = .ok (.iaload, 1) := by decide +kernel
theorem dL_division_137 : decode cL_division 137 = .ok (.if_icmp .lt 38, 3) := by decide +kernel
theorem dL_division_140 : decode cL_division 140 = .ok (.iload 10, 2) := by decide +kernel
theorem dL_division_142 : decode cL_division 142 = .ok (.aload_n 2, 1) := by decide +kernel
theorem dL_division_143 : decode cL_division 143 = .ok (.iload 7, 2) := by decide +kernel
theorem dL_division_145 : decode cL_division 145 = .ok (.iaload, 1) := by decide +kernel
theorem dL_division_146 : decode cL_division 146 = .ok (.if_icmp .ne 33, 3) := by decide +kernel
theorem dL_division_149 : decode cL_division 149 = .ok (.aload_n 3, 1) := by decide +kernel
theorem dL_division_150 : decode cL_division 150 = .ok (.iload 9, 2) := by decide +kernel
theorem dL_division_152 : decode cL_division 152 = .ok (.iaload, 1) := by decide +kernel
theorem dL_division_153 : decode cL_division 153 = .ok (.iconst 1, 1) := by decide +kernel
theorem dL_division_154 : decode cL_division 154 = .ok (.iadd, 1) := by decide +kernel
theorem dL_division_155 : decode cL_division 155 = .ok (.aload_n 3, 1) := by decide +kernel
theorem dL_division_156 : decode cL_division 156 = .ok (.iload 7, 2) := by decide +kernel
theorem dL_division_158 : decode cL_division 158 = .ok (.iaload, 1) := by decide +kernel
theorem dL_division_159 : decode cL_division 159 = .ok (.if_icmp .lt 16, 3) := by decide +kernel
theorem dL_division_162 : decode cL_division 162 = .ok (.aload_n 3, 1) := by decide +kernel
theorem dL_division_163 : decode cL_division 163 = .ok (.iload 9, 2) := by decide +kernel
theorem dL_division_165 : decode cL_division 165 = .ok (.iaload, 1) := by decide +kernel
theorem dL_division_166 : decode cL_division 166 = .ok (.iconst 1, 1) := by decide +kernel
theorem dL_division_167 : decode cL_division 167 = .ok (.iadd, 1) := by decide +kernel
theorem dL_division_168 : decode cL_division 168 = .ok (.aload_n 3, 1) := by decide +kernel
theorem dL_division_169 : decode cL_division 169 = .ok (.iload 7, 2) := by decide +kernel
theorem dL_division_171 : decode cL_division 171 = .ok (.iaload, 1) := by decide +kernel
theorem dL_division_172 : decode cL_division 172 = .ok (.if_icmp .ne 7, 3) := by decide +kernel
theorem dL_division_175 : decode cL_division 175 = .ok (.iconst 1, 1) := by decide +kernel
theorem dL_division_176 : decode cL_division 176 = .ok (.goto 4, 3) := by decide +kernel
theorem dL_division_179 : decode cL_division 179 = .ok (.iconst 0, 1) := by decide +kernel
theorem dL_division_180 : decode cL_division 180 = .ok (.istore 11, 2) := by decide +kernel
theorem dL_division_182 : decode cL_division 182 = .ok (.aload_n 2, 1) := by decide +kernel
theorem dL_division_183 : decode cL_division 183 = .ok (.iload 7, 2) := by decide +kernel
theorem dL_division_185 : decode cL_division 185 = .ok (.iload 11, 2) := by decide +kernel
theorem dL_division_187 : decode cL_division 187 = .ok (.ifCond .eq 8, 3) := by decide +kernel
theorem dL_division_190 : decode cL_division 190 = .ok (.iload 10, 2) := by decide +kernel
theorem dL_division_192 : decode cL_division 192 = .ok (.goto 7, 3) := by decide +kernel
theorem dL_division_195 : decode cL_division 195 = .ok (.aload_n 2, 1) := by decide +kernel
theorem dL_division_196 : decode cL_division 196 = .ok (.iload 7, 2) := by decide +kernel
theorem dL_division_198 : decode cL_division 198 = .ok (.iaload, 1) := by decide +kernel
theorem dL_division_199 : decode cL_division 199 = .ok (.iastore, 1) := by decide +kernel
theorem dL_division_200 : decode cL_division 200 = .ok (.aload_n 3, 1) := by decide +kernel
theorem dL_division_201 : decode cL_division 201 = .ok (.iload 7, 2) := by decide +kernel
theorem dL_division_203 : decode cL_division 203 = .ok (.iload 11, 2) := by decide +kernel
theorem dL_division_205 : decode cL_division 205 = .ok (.ifCond .eq 12, 3) := by decide +kernel
theorem dL_division_208 : decode cL_division 208 = .ok (.aload_n 3, 1) := by decide +kernel
theorem dL_division_209 : decode cL_division 209 = .ok (.iload 9, 2) := by decide +kernel
theorem dL_division_211 : decode cL_division 211 = .ok (.iaload, 1) := by decide +kernel
theorem dL_division_212 : decode cL_division 212 = .ok (.iconst 1, 1) := by decide +kernel
theorem dL_division_213 : decode cL_division 213 = .ok (.iadd, 1) := by decide +kernel
theorem dL_division_214 : decode cL_division 214 = .ok (.goto 7, 3) := by decide +kernel
theorem dL_division_217 : decode cL_division 217 = .ok (.aload_n 3, 1) := by decide +kernel
theorem dL_division_218 : decode cL_division 218 = .ok (.iload 7, 2) := by decide +kernel
theorem dL_division_220 : decode cL_division 220 = .ok (.iaload, 1) := by decide +kernel
theorem dL_division_221 : decode cL_division 221 = .ok (.iastore, 1) := by decide +kernel
theorem dL_division_222 : decode cL_division 222 = .ok (.aload 4, 2) := by decide +kernel
theorem dL_division_224 : decode cL_division 224 = .ok (.iload 7, 2) := by decide +kernel
theorem dL_division_226 : decode cL_division 226 = .ok (.iload 11, 2) := by decide +kernel
theorem dL_division_228 : decode cL_division 228 = .ok (.ifCond .eq 8, 3) := by decide +kernel
theorem dL_division_231 : decode cL_division 231 = .ok (.iload 9, 2) := by decide +kernel
theorem dL_division_233 : decode cL_division 233 = .ok (.goto 8, 3) := by decide +kernel
theorem dL_division_236 : decode cL_division 236 = .ok (.aload 4, 2) := by decide +kernel
theorem dL_division_238 : decode cL_division 238 = .ok (.iload 7, 2) := by decide +kernel
theorem dL_division_240 : decode cL_division 240 = .ok (.iaload, 1) := by decide +kernel
theorem dL_division_241 : decode cL_division 241 = .ok (.iastore, 1) := by decide +kernel
theorem dL_division_242 : decode cL_division 242 = .ok (.iinc 9 (-1), 3) := by decide +kernel
theorem dL_division_245 : decode cL_division 245 = .ok (.goto (-161), 3) := by decide +kernel
theorem dL_division_248 : decode cL_division 248 = .ok (.iinc 7 (-1), 3) := by decide +kernel
theorem dL_division_251 : decode cL_division 251 = .ok (.goto (-239), 3) := by decide +kernel
theorem dL_division_254 : decode cL_division 254 = .ok (.return_, 1) := by decide +kernel
set_option maxRecDepth 20000 in
theorem ggL_isSegments_X6_startOf : GoodIn wsL_isSegments wsX6_startOf := goodIn_ca (goodIn_r _ [5, 6, 7, 8, 9, 4, 10, 11, 12, 13, 14, 15, 16, 17, 18, 19, 20, 21, 22, 23, 24, 25, 26, 27, 28, 29, 30, 31, 32, 33, 34, 35, 36, 37, 38, 39, 40, 41, 42, 43, 44, 45, 46, 47, 48, 49, 50, 51, 52, 53, 54, 55, 56, 57, 58, 59, 60, 61, 62, 63, 64, 65, 66, 67, 68, 69, 70, 71, 72, 73, 74, 75, 76, 77, 78, 79, 80, 81, 82, 83, 84, 85, 86, 87, 88, 89, 90, 91, 92, 93, 94, 95, 96, 97, 98, 99, 100, 101, 102, 103, 104, 105, 106, 107, 108, 109, 110, 111, 112, 113, 114, 115, 116, 117, 118, 119, 120, 121, 122, 123, 124, 125, 126, 127, 128, 129, 130, 131, 132, 133, 134, 135, 136, 137, 138, 139, 140, 141, 142, 143, 144, 145, 146, 147, 148, 149, 150, 151, 152, 153, 154, 155, 156, 228, 229, 230, 231, 232, 233, 234, 235, 236, 237, 238, 239, 240, 241, 242, 243, 244, 245, 246, 247, 248, 249, 250, 251, 252, 253, 254, 255, 256, 257, 258, 259, 260, 261] (by decide +kernel) (by decide +kernel)) (goodIn_sub (fun _ h => List.mem_cons_of_mem _ (List.mem_append_left _ (List.mem_append_right _ h))) (by decide +kernel))
set_option maxRecDepth 20000 in
theorem gL_isSegments_X6_startOf : GoodIn wsL_isSegments (wsV RL 43 RX6 yX6_startOf wsX6_startOf) := goodIn_app (goodIn_of _ (by decide +kernel)) ggL_isSegments_X6_startOf
set_option maxRecDepth 20000 in
theorem ggL_isSegments_X6_levelOf : GoodIn wsL_isSegments wsX6_levelOf := goodIn_ca (goodIn_r _ [160, 6, 7, 8, 9, 4, 10, 11, 12, 13, 14, 15, 16, 17, 18, 19, 20, 21, 22, 23, 24, 25, 26, 27, 28, 29, 30, 31, 32, 33, 34, 35, 36, 37, 38, 39, 40, 41, 42, 43, 44, 45, 46, 47, 48, 49, 50, 51, 52, 53, 54, 55, 56, 57, 58, 59, 60, 61, 62, 63, 64, 65, 66, 67, 68, 69, 70, 71, 72, 73, 74, 75, 76, 77, 78, 79, 80, 81, 82, 83, 84, 85, 86, 87, 88, 89, 90, 91, 92, 93, 94, 95, 96, 97, 98, 99, 100, 101, 102, 103, 104, 105, 106, 107, 108, 109, 110, 111, 112, 113, 114, 115, 116, 117, 118, 119, 120, 121, 122, 123, 124, 125, 126, 127, 128, 129, 130, 131, 132, 133, 134, 135, 136, 137, 138, 139, 140, 141, 142, 143, 144, 145, 146, 147, 148, 149, 150, 151, 152, 161, 162, 163, 164, 228, 229, 230, 231, 232, 233, 234, 235, 236, 237, 238, 239, 240, 241, 242, 243, 244, 245, 246, 247, 248, 249, 250, 251, 252, 253, 254, 255, 256, 257, 258, 259, 260, 261] (by decide +kernel) (by decide +kernel)) (goodIn_sub (fun _ h => List.mem_cons_of_mem _ (List.mem_append_left _ (List.mem_append_right _ h))) (by decide +kernel))
set_option maxRecDepth 20000 in
theorem gL_isSegments_X6_levelOf : GoodIn wsL_isSegments (wsV RL 46 RX6 yX6_levelOf wsX6_levelOf) := goodIn_app (goodIn_of _ (by decide +kernel)) ggL_isSegments_X6_levelOf
set_option maxRecDepth 20000 in
theorem ggL_isSegments_L_median : GoodIn wsL_isSegments wsL_median := goodIn_r _ [168] (by decide +kernel) (by decide +kernel)
set_option maxRecDepth 20000 in
theorem gL_isSegments_L_median : GoodIn wsL_isSegments (va_wsS RL 33 yL_median wsL_median) := goodIn_app (goodIn_of _ (by decide +kernel)) ggL_isSegments_L_median
set_option maxRecDepth 20000 in
theorem ggL_isSegments_X6_segments : GoodIn wsL_isSegments wsX6_segments := goodIn_r _ [172, 6, 7, 8, 9, 4, 10, 11, 12, 13, 14, 15, 16, 17, 18, 19, 20, 21, 22, 23, 24, 25, 26, 27, 28, 29, 30, 31, 32, 33, 34, 35, 36, 37, 38, 39, 40, 41, 42, 43, 44, 45, 46, 47, 48, 49, 50, 51, 52, 53, 54, 55, 56, 57, 58, 59, 60, 61, 62, 63, 64, 65, 66, 67, 68, 69, 70, 71, 72, 73, 74, 75, 76, 77, 78, 79, 80, 81, 82, 83, 84, 85, 86, 87, 88, 89, 90, 91, 92, 93, 94, 95, 96, 97, 98, 99, 100, 101, 102, 103, 104, 105, 106, 107, 108, 109, 110, 111, 112, 113, 114, 115, 116, 117, 118, 119, 120, 121, 122, 123, 124, 125, 126, 127, 128, 129, 130, 131, 132, 133, 134, 135, 136, 137, 138, 139, 140, 141, 142, 143, 144, 145, 146, 147, 228, 229, 230, 231, 232, 233, 234, 235, 236, 237, 238, 239, 240, 241, 242, 243, 244, 245, 246, 247, 248, 249, 250, 251, 252, 253, 254, 255, 256, 257, 258, 259, 260, 261] (by decide +kernel) (by decide +kernel)
set_option maxRecDepth 20000 in
theorem gL_isSegments_X6_segments : GoodIn wsL_isSegments (wsV RL 49 RX6 yX6_segments wsX6_segments) := goodIn_app (goodIn_of _ (by decide +kernel)) ggL_isSegments_X6_segments
set_option maxRecDepth 20000 in
theorem ggL_isSegments_X6_cost : GoodIn wsL_isSegments wsX6_cost := goodIn_r _ [176, 6, 7, 8, 9, 4, 10, 11, 12, 13, 14, 15, 16, 17, 18, 19, 20, 21, 22, 23, 24, 25, 26, 27, 28, 29, 30, 31, 32, 33, 34, 35, 36, 37, 38, 39, 40, 41, 42, 43, 44, 45, 46, 47, 48, 49, 50, 51, 52, 53, 54, 55, 56, 57, 58, 59, 60, 61, 62, 63, 64, 65, 66, 67, 68, 69, 70, 71, 72, 73, 74, 75, 76, 77, 78, 79, 80, 81, 82, 83, 84, 85, 86, 87, 88, 89, 90, 91, 92, 93, 94, 95, 96, 97, 98, 99, 100, 101, 102, 103, 104, 105, 106, 107, 108, 109, 110, 111, 112, 113, 114, 115, 116, 117, 118, 119, 120, 121, 122, 123, 124, 125, 126, 127, 128, 129, 130, 131, 132, 133, 134, 135, 136, 137, 138, 139, 140, 141, 142, 143, 177, 178, 179, 180, 228, 229, 230, 231, 232, 233, 234, 235, 236, 237, 238, 239, 240, 241, 242, 243, 244, 245, 246, 247, 248, 249, 250, 251, 252, 253, 254, 255, 256, 257, 258, 259, 260, 261] (by decide +kernel) (by decide +kernel)
set_option maxRecDepth 20000 in
theorem gL_isSegments_X6_cost : GoodIn wsL_isSegments (wsV RL 52 RX6 yX6_cost wsX6_cost) := goodIn_app (goodIn_of _ (by decide +kernel)) ggL_isSegments_X6_cost
set_option maxRecDepth 20000 in
theorem ggL_isSegments_X6_costUncut : GoodIn wsL_isSegments wsX6_costUncut := goodIn_r _ [184, 6, 185, 12, 13, 14, 4, 15, 16, 17, 18, 19, 20, 21, 22, 23, 24, 25, 26, 27, 28, 29, 30, 31, 32, 33, 34, 35, 36, 37, 38, 39, 40, 41, 42, 43, 44, 45, 46, 47, 48, 49, 50, 51, 52, 53, 54, 55, 56, 57, 58, 59, 60, 61, 62, 63, 64, 65, 66, 67, 68, 69, 70, 71, 72, 73, 74, 75, 76, 77, 78, 79, 80, 81, 82, 83, 84, 85, 86, 186, 187, 188, 189, 90, 190, 98, 139, 140, 141, 142, 104, 111, 112, 113, 114, 92, 115, 116, 117, 118, 119, 120, 121, 122, 123, 124, 125, 228, 229, 230, 231, 232, 233, 234, 235, 236, 237, 238, 239, 240, 241, 242, 243, 244, 245, 246, 247, 248, 249, 250, 251, 252, 253, 254, 255, 256, 257, 258, 259, 260, 261] (by decide +kernel) (by decide +kernel)
set_option maxRecDepth 20000 in
theorem gL_isSegments_X6_costUncut : GoodIn wsL_isSegments (wsV RL 54 RX6 yX6_costUncut wsX6_costUncut) := goodIn_app (goodIn_of _ (by decide +kernel)) ggL_isSegments_X6_costUncut
set_option maxRecDepth 20000 in
theorem ggL_isSegments_L_cost : GoodIn wsL_isSegments wsL_cost := goodIn_r _ [193, 165, 166, 167, 168] (by decide +kernel) (by decide +kernel)
set_option maxRecDepth 20000 in
theorem gL_isSegments_L_cost : GoodIn wsL_isSegments (va_wsS RL 39 yL_cost wsL_cost) := goodIn_app (goodIn_of _ (by decide +kernel)) ggL_isSegments_L_cost
set_option maxRecDepth 20000 in
theorem ggL_isSegments_L_least : GoodIn wsL_isSegments wsL_least := goodIn_ca (goodIn_r _ [196, 197, 198, 199, 200, 4, 201, 202, 203, 185, 204, 186, 41, 42, 43, 44, 45, 12, 13, 14, 15, 16, 17, 18, 19, 20, 21, 22, 23, 24, 25, 26, 27, 28, 29, 30, 31, 32, 33, 34, 35, 36, 37, 38, 39, 40, 46, 47, 48, 49, 50, 51, 52, 53, 54, 55, 56, 57, 58, 59, 60, 61, 62, 63, 64, 65, 66, 67, 68, 69, 70, 71, 72, 73, 74, 75, 76, 77, 78, 79, 80, 81, 82, 83, 84, 85, 86, 205, 206, 207, 208, 209, 210, 211, 212, 188, 189, 90, 190, 98, 139, 140, 141, 142, 104, 111, 112, 113, 114, 92, 115, 116, 117, 118, 119, 120, 121, 122, 123, 124, 125, 213, 214, 215, 216, 100, 217, 218, 219, 220, 101, 221, 222, 223, 224, 225, 226, 227, 228, 229, 230, 231, 232, 233, 234, 235, 236, 246, 247, 248, 237, 238, 239, 240, 241, 242, 243, 244, 245, 249, 262, 263, 250, 251, 252, 253, 254, 255, 256, 257, 258, 259, 260, 261] (by decide +kernel) (by decide +kernel)) (goodIn_sub (fun _ h => List.mem_cons_of_mem _ (List.mem_append_right _ h)) (by decide +kernel))
set_option maxRecDepth 20000 in
theorem gL_isSegments_L_least : GoodIn wsL_isSegments (va_wsS RL 57 yL_least wsL_least) := goodIn_app (goodIn_of _ (by decide +kernel)) ggL_isSegments_L_least
theorem dL_isSegments_0 : decode cL_isSegments 0 = .ok (.iconst 0, 1) := by decide +kernel
theorem dL_isSegments_1 : decode cL_isSegments 1 = .ok (.istore 6, 2) := by decide +kernel
theorem dL_isSegments_3 : decode cL_isSegments 3 = .ok (.iconst 1, 1) := by decide +kernel
theorem dL_isSegments_4 : decode cL_isSegments 4 = .ok (.istore 7, 2) := by decide +kernel
theorem dL_isSegments_6 : decode cL_isSegments 6 = .ok (.iconst 0, 1) := by decide +kernel
theorem dL_isSegments_7 : decode cL_isSegments 7 = .ok (.istore 8, 2) := by decide +kernel
theorem dL_isSegments_9 : decode cL_isSegments 9 = .ok (.iload 8, 2) := by decide +kernel
theorem dL_isSegments_11 : decode cL_isSegments 11 = .ok (.aload 5, 2) := by decide +kernel
theorem dL_isSegments_13 : decode cL_isSegments 13 = .ok (.iconst 0, 1) := by decide +kernel
theorem dL_isSegments_14 : decode cL_isSegments 14 = .ok (.iaload, 1) := by decide +kernel
theorem dL_isSegments_15 : decode cL_isSegments 15 = .ok (.if_icmp .ge 61, 3) := by decide +kernel
theorem dL_isSegments_18 : decode cL_isSegments 18 = .ok (.iload 7, 2) := by decide +kernel
theorem dL_isSegments_20 : decode cL_isSegments 20 = .ok (.ifCond .eq 56, 3) := by decide +kernel
theorem dL_isSegments_23 : decode cL_isSegments 23 = .ok (.aload_n 0, 1) := by decide +kernel
theorem dL_isSegments_24 : decode cL_isSegments 24 = .ok (.iload 6, 2) := by decide +kernel
theorem dL_isSegments_26 : decode cL_isSegments 26 = .ok (.invokevirtual 43, 3) := by decide +kernel
theorem dL_isSegments_29 : decode cL_isSegments 29 = .ok (.iload 8, 2) := by decide +kernel
theorem dL_isSegments_31 : decode cL_isSegments 31 = .ok (.if_icmp .ne 29, 3) := by decide +kernel
theorem dL_isSegments_34 : decode cL_isSegments 34 = .ok (.aload_n 0, 1) := by decide +kernel
theorem dL_isSegments_35 : decode cL_isSegments 35 = .ok (.iload 6, 2) := by decide +kernel
theorem dL_isSegments_37 : decode cL_isSegments 37 = .ok (.invokevirtual 46, 3) := by decide +kernel
theorem dL_isSegments_40 : decode cL_isSegments 40 = .ok (.aload_n 1, 1) := by decide +kernel
theorem dL_isSegments_41 : decode cL_isSegments 41 = .ok (.aload_n 2, 1) := by decide +kernel
theorem dL_isSegments_42 : decode cL_isSegments 42 = .ok (.iload 8, 2) := by decide +kernel
theorem dL_isSegments_44 : decode cL_isSegments 44 = .ok (.aload 4, 2) := by decide +kernel
theorem dL_isSegments_46 : decode cL_isSegments 46 = .ok (.iload 8, 2) := by decide +kernel
theorem dL_isSegments_48 : decode cL_isSegments 48 = .ok (.iaload, 1) := by decide +kernel
theorem dL_isSegments_49 : decode cL_isSegments 49 = .ok (.iconst 1, 1) := by decide +kernel
theorem dL_isSegments_50 : decode cL_isSegments 50 = .ok (.invokestatic 33, 3) := by decide +kernel
theorem dL_isSegments_53 : decode cL_isSegments 53 = .ok (.if_icmp .ne 7, 3) := by decide +kernel
theorem dL_isSegments_56 : decode cL_isSegments 56 = .ok (.iconst 1, 1) := by decide +kernel
theorem dL_isSegments_57 : decode cL_isSegments 57 = .ok (.goto 4, 3) := by decide +kernel
theorem dL_isSegments_60 : decode cL_isSegments 60 = .ok (.iconst 0, 1) := by decide +kernel
theorem dL_isSegments_61 : decode cL_isSegments 61 = .ok (.istore 7, 2) := by decide +kernel
theorem dL_isSegments_63 : decode cL_isSegments 63 = .ok (.iinc 6 1, 3) := by decide +kernel
theorem dL_isSegments_66 : decode cL_isSegments 66 = .ok (.aload 4, 2) := by decide +kernel
theorem dL_isSegments_68 : decode cL_isSegments 68 = .ok (.iload 8, 2) := by decide +kernel
theorem dL_isSegments_70 : decode cL_isSegments 70 = .ok (.iaload, 1) := by decide +kernel
theorem dL_isSegments_71 : decode cL_isSegments 71 = .ok (.istore 8, 2) := by decide +kernel
theorem dL_isSegments_73 : decode cL_isSegments 73 = .ok (.goto (-64), 3) := by decide +kernel
theorem dL_isSegments_76 : decode cL_isSegments 76 = .ok (.iload 7, 2) := by decide +kernel
theorem dL_isSegments_78 : decode cL_isSegments 78 = .ok (.ifCond .eq 89, 3) := by decide +kernel
theorem dL_isSegments_81 : decode cL_isSegments 81 = .ok (.aload_n 0, 1) := by decide +kernel
theorem dL_isSegments_82 : decode cL_isSegments 82 = .ok (.invokevirtual 49, 3) := by decide +kernel
theorem dL_isSegments_85 : decode cL_isSegments 85 = .ok (.iload 6, 2) := by decide +kernel
theorem dL_isSegments_87 : decode cL_isSegments 87 = .ok (.if_icmp .ne 80, 3) := by decide +kernel
theorem dL_isSegments_90 : decode cL_isSegments 90 = .ok (.aload_n 0, 1) := by decide +kernel
theorem dL_isSegments_91 : decode cL_isSegments 91 = .ok (.invokevirtual 52, 3) := by decide +kernel
theorem dL_isSegments_94 : decode cL_isSegments 94 = .ok (.aload 5, 2) := by decide +kernel
theorem dL_isSegments_96 : decode cL_isSegments 96 = .ok (.iconst 0, 1) := by decide +kernel
theorem dL_isSegments_97 : decode cL_isSegments 97 = .ok (.iaload, 1) := by decide +kernel
theorem dL_isSegments_98 : decode cL_isSegments 98 = .ok (.ifCond .ne 7, 3) := by decide +kernel
theorem dL_isSegments_101 : decode cL_isSegments 101 = .ok (.iconst 0, 1) := by decide +kernel
theorem dL_isSegments_102 : decode cL_isSegments 102 = .ok (.goto 6, 3) := by decide +kernel
theorem dL_isSegments_105 : decode cL_isSegments 105 = .ok (.aload_n 3, 1) := by decide +kernel
theorem dL_isSegments_106 : decode cL_isSegments 106 = .ok (.iconst 0, 1) := by decide +kernel
theorem dL_isSegments_107 : decode cL_isSegments 107 = .ok (.iaload, 1) := by decide +kernel
theorem dL_isSegments_108 : decode cL_isSegments 108 = .ok (.if_icmp .ne 59, 3) := by decide +kernel
theorem dL_isSegments_111 : decode cL_isSegments 111 = .ok (.aload_n 0, 1) := by decide +kernel
theorem dL_isSegments_112 : decode cL_isSegments 112 = .ok (.invokevirtual 54, 3) := by decide +kernel
theorem dL_isSegments_115 : decode cL_isSegments 115 = .ok (.aload_n 1, 1) := by decide +kernel
theorem dL_isSegments_116 : decode cL_isSegments 116 = .ok (.aload_n 2, 1) := by decide +kernel
theorem dL_isSegments_117 : decode cL_isSegments 117 = .ok (.iconst 0, 1) := by decide +kernel
theorem dL_isSegments_118 : decode cL_isSegments 118 = .ok (.aload 5, 2) := by decide +kernel
theorem dL_isSegments_120 : decode cL_isSegments 120 = .ok (.iconst 0, 1) := by decide +kernel
theorem dL_isSegments_121 : decode cL_isSegments 121 = .ok (.iaload, 1) := by decide +kernel
theorem dL_isSegments_122 : decode cL_isSegments 122 = .ok (.invokestatic 39, 3) := by decide +kernel
theorem dL_isSegments_125 : decode cL_isSegments 125 = .ok (.if_icmp .ne 42, 3) := by decide +kernel
theorem dL_isSegments_128 : decode cL_isSegments 128 = .ok (.aload_n 0, 1) := by decide +kernel
theorem dL_isSegments_129 : decode cL_isSegments 129 = .ok (.invokestatic 57, 3) := by decide +kernel
theorem dL_isSegments_132 : decode cL_isSegments 132 = .ok (.aload 5, 2) := by decide +kernel
theorem dL_isSegments_134 : decode cL_isSegments 134 = .ok (.iconst 0, 1) := by decide +kernel
theorem dL_isSegments_135 : decode cL_isSegments 135 = .ok (.iaload, 1) := by decide +kernel
theorem dL_isSegments_136 : decode cL_isSegments 136 = .ok (.bipush 14, 2) := by decide +kernel
theorem dL_isSegments_138 : decode cL_isSegments 138 = .ok (.if_icmp .le 8, 3) := by decide +kernel
theorem dL_isSegments_141 : decode cL_isSegments 141 = .ok (.bipush (-3), 2) := by decide +kernel
theorem dL_isSegments_143 : decode cL_isSegments 143 = .ok (.goto 17, 3) := by decide +kernel
theorem dL_isSegments_146 : decode cL_isSegments 146 = .ok (.aload 5, 2) := by decide +kernel
