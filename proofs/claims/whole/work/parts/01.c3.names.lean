theorem dX6_startOf_24 : decode cX6_startOf 24 = .ok (.ireturn, 1) := by decide +kernel
set_option maxRecDepth 20000 in
theorem ggX6_levelOf_X6_findSegments : GoodIn wsX6_levelOf wsX6_findSegments := goodIn_r _ [6, 7, 1, 8, 9, 10, 5, 11, 12, 13, 14, 15, 16, 17, 18, 19, 20, 21, 22, 23, 24, 25, 26, 27, 28, 29, 30, 31, 32, 33, 34, 35, 36, 37, 38, 39, 40, 41, 42, 43, 44, 45, 46, 47, 48, 49, 50, 51, 52, 53, 54, 55, 56, 57, 58, 59, 60, 61, 62, 63, 64, 65, 66, 67, 68, 69, 70, 71, 72, 73, 74, 75, 76, 77, 78, 79, 80, 81, 82, 83, 84, 85, 86, 87, 88, 89, 90, 91, 92, 93, 94, 95, 96, 97, 98, 99, 100, 101, 102, 103, 104, 105, 106, 107, 108, 109, 110, 111, 112, 113, 114, 115, 116, 117, 118, 119, 120, 121, 122, 123, 124, 125, 126, 127, 128, 129, 130, 131, 132, 133, 134, 135, 136, 137, 138, 139, 153, 154, 155, 156, 157, 158, 159, 160, 161, 162, 163, 164, 165, 166, 167, 168, 169, 170, 171, 172, 173, 174, 175, 176, 177, 178, 179, 180, 181, 182, 183, 184, 185, 186] (by decide +kernel) (by decide +kernel)
set_option maxRecDepth 20000 in
theorem gX6_levelOf_X6_findSegments : GoodIn wsX6_levelOf (wsV RX6 132 RX6 yX6_findSegments wsX6_findSegments) := goodIn_app (goodIn_of _ (by decide +kernel)) ggX6_levelOf_X6_findSegments
set_option maxRecDepth 20000 in
theorem ggX6_levelOf_X2_howMany : GoodIn wsX6_levelOf wsX2_howMany := goodIn_r _ [143, 131, 175, 176, 177, 178, 179, 180, 181, 182, 183, 184, 185, 186] (by decide +kernel) (by decide +kernel)
set_option maxRecDepth 20000 in
theorem gX6_levelOf_X2_howMany : GoodIn wsX6_levelOf (wsV RX6 135 RX2 yX2_howMany wsX2_howMany) := goodIn_app (goodIn_of _ (by decide +kernel)) ggX6_levelOf_X2_howMany
set_option maxRecDepth 20000 in
theorem ggX6_levelOf_X6_requireIndex : GoodIn wsX6_levelOf wsX6_requireIndex := goodIn_ca (goodIn_r _ [146, 147, 148] (by decide +kernel) (by decide +kernel)) (goodIn_sub (fun _ h => List.mem_cons_of_mem _ (List.mem_append_right _ h)) (by decide +kernel))
set_option maxRecDepth 20000 in
theorem gX6_levelOf_X6_requireIndex : GoodIn wsX6_levelOf (va_wsS RX6 123 yX6_requireIndex wsX6_requireIndex) := goodIn_app (goodIn_of _ (by decide +kernel)) ggX6_levelOf_X6_requireIndex
set_option maxRecDepth 20000 in
theorem ggX6_levelOf_X2_levelAt : GoodIn wsX6_levelOf wsX2_levelAt := goodIn_r _ [152, 133, 122, 80, 81, 76, 82, 78, 175, 176, 177, 178, 179, 180, 181, 182, 183, 184, 185, 186, 174] (by decide +kernel) (by decide +kernel)
set_option maxRecDepth 20000 in
theorem gX6_levelOf_X2_levelAt : GoodIn wsX6_levelOf (wsV RX6 141 RX2 yX2_levelAt wsX2_levelAt) := goodIn_app (goodIn_of _ (by decide +kernel)) ggX6_levelOf_X2_levelAt
theorem dX6_levelOf_0 : decode cX6_levelOf 0 = .ok (.aload_n 0, 1) := by decide +kernel
theorem dX6_levelOf_1 : decode cX6_levelOf 1 = .ok (.invokevirtual 132, 3) := by decide +kernel
theorem dX6_levelOf_4 : decode cX6_levelOf 4 = .ok (.iload_n 1, 1) := by decide +kernel
theorem dX6_levelOf_5 : decode cX6_levelOf 5 = .ok (.iconst 0, 1) := by decide +kernel
theorem dX6_levelOf_6 : decode cX6_levelOf 6 = .ok (.aload_n 0, 1) := by decide +kernel
theorem dX6_levelOf_7 : decode cX6_levelOf 7 = .ok (.getfield 30, 3) := by decide +kernel
theorem dX6_levelOf_10 : decode cX6_levelOf 10 = .ok (.invokevirtual 135, 3) := by decide +kernel
theorem dX6_levelOf_13 : decode cX6_levelOf 13 = .ok (.invokestatic 123, 3) := by decide +kernel
theorem dX6_levelOf_16 : decode cX6_levelOf 16 = .ok (.aload_n 0, 1) := by decide +kernel
theorem dX6_levelOf_17 : decode cX6_levelOf 17 = .ok (.getfield 30, 3) := by decide +kernel
theorem dX6_levelOf_20 : decode cX6_levelOf 20 = .ok (.iload_n 1, 1) := by decide +kernel
theorem dX6_levelOf_21 : decode cX6_levelOf 21 = .ok (.invokevirtual 141, 3) := by decide +kernel
theorem dX6_levelOf_24 : decode cX6_levelOf 24 = .ok (.ireturn, 1) := by decide +kernel
set_option maxRecDepth 20000 in
theorem ggX6_cost_X6_findSegments : GoodIn wsX6_cost wsX6_findSegments := goodIn_r _ [6, 7, 1, 8, 9, 10, 5, 11, 12, 13, 14, 15, 16, 17, 18, 19, 20, 21, 22, 23, 24, 25, 26, 27, 28, 29, 30, 31, 32, 33, 34, 35, 36, 37, 38, 39, 40, 41, 42, 43, 44, 45, 46, 47, 48, 49, 50, 51, 52, 53, 54, 55, 56, 57, 58, 59, 60, 61, 62, 63, 64, 65, 66, 67, 68, 69, 70, 71, 72, 73, 74, 75, 76, 77, 78, 79, 80, 81, 82, 83, 84, 85, 86, 87, 88, 89, 90, 91, 92, 93, 94, 95, 96, 97, 98, 99, 100, 101, 102, 103, 104, 105, 106, 107, 108, 109, 110, 111, 112, 113, 114, 115, 116, 117, 118, 119, 120, 121, 122, 123, 124, 125, 126, 127, 128, 129, 130, 131, 132, 133, 134, 135, 136, 137, 138, 139, 144, 145, 146, 147, 148, 149, 150, 151, 152, 153, 154, 155, 156, 157, 158, 159, 160, 161, 162, 163, 164, 165, 166, 167, 168, 169, 170, 171, 172, 173, 174, 175, 176, 177] (by decide +kernel) (by decide +kernel)
set_option maxRecDepth 20000 in
theorem gX6_cost_X6_findSegments : GoodIn wsX6_cost (wsV RX6 132 RX6 yX6_findSegments wsX6_findSegments) := goodIn_app (goodIn_of _ (by decide +kernel)) ggX6_cost_X6_findSegments
set_option maxRecDepth 20000 in
theorem ggX6_cost_X2_wholeCost : GoodIn wsX6_cost wsX2_wholeCost := goodIn_r _ [143, 131, 98, 122, 80, 81, 76, 82, 78, 166, 167, 168, 169, 170, 171, 172, 173, 174, 175, 176, 177, 165] (by decide +kernel) (by decide +kernel)
set_option maxRecDepth 20000 in
theorem gX6_cost_X2_wholeCost : GoodIn wsX6_cost (wsV RX6 144 RX2 yX2_wholeCost wsX2_wholeCost) := goodIn_app (goodIn_of _ (by decide +kernel)) ggX6_cost_X2_wholeCost
theorem dX6_cost_0 : decode cX6_cost 0 = .ok (.aload_n 0, 1) := by decide +kernel
theorem dX6_cost_1 : decode cX6_cost 1 = .ok (.invokevirtual 132, 3) := by decide +kernel
theorem dX6_cost_4 : decode cX6_cost 4 = .ok (.aload_n 0, 1) := by decide +kernel
theorem dX6_cost_5 : decode cX6_cost 5 = .ok (.getfield 30, 3) := by decide +kernel
theorem dX6_cost_8 : decode cX6_cost 8 = .ok (.invokevirtual 144, 3) := by decide +kernel
theorem dX6_cost_11 : decode cX6_cost 11 = .ok (.ireturn, 1) := by decide +kernel
set_option maxRecDepth 20000 in
theorem ggX6_costUncut_X6_findSeasons : GoodIn wsX6_costUncut wsX6_findSeasons := goodIn_r _ [7, 8, 9, 10, 11, 12, 13, 14, 15, 16, 17, 18, 19, 20, 21, 22, 23, 24, 25, 26, 27, 28, 29, 30, 31, 32, 33, 34, 35, 36, 37, 38, 39, 40, 41, 42, 43, 44, 45, 46, 47, 48, 49, 50, 51, 52, 53, 54, 55, 56, 57, 58, 59, 60, 61, 62, 63, 64, 65, 66, 67, 68, 69, 70, 71, 72, 73, 74, 75, 76, 77, 78, 107, 108, 109, 110, 111, 112, 113, 114, 115, 116, 117, 118, 119, 120, 121, 122, 123, 124, 125, 126, 127, 128] (by decide +kernel) (by decide +kernel)
set_option maxRecDepth 20000 in
theorem gX6_costUncut_X6_findSeasons : GoodIn wsX6_costUncut (wsV RX6 117 RX6 yX6_findSeasons wsX6_findSeasons) := goodIn_app (goodIn_of _ (by decide +kernel)) ggX6_costUncut_X6_findSeasons
set_option maxRecDepth 20000 in
theorem ggX6_costUncut_X3_count : GoodIn wsX6_costUncut wsX3_count := goodIn_r _ [36, 37, 125, 126, 127] (by decide +kernel) (by decide +kernel)
set_option maxRecDepth 20000 in
theorem gX6_costUncut_X3_count : GoodIn wsX6_costUncut (wsV RX6 71 RX3 yX3_count wsX3_count) := goodIn_app (goodIn_of _ (by decide +kernel)) ggX6_costUncut_X3_count
set_option maxRecDepth 20000 in
theorem ggX6_costUncut_X2_costBetween : GoodIn wsX6_costUncut wsX2_costBetween := goodIn_r _ [84, 85, 86, 87, 88, 83, 89, 90, 26, 27, 28, 29, 30, 31, 91, 92, 93, 94, 95, 96, 97, 39, 40, 35, 41, 42, 43, 44, 45, 46, 37, 98, 99, 100, 13, 101, 17, 75, 76, 77, 72, 78, 74, 102, 53, 54, 55, 56, 103, 104, 105, 106, 129, 130, 131, 132, 133, 134, 135, 136, 137, 138, 139, 140, 122, 123, 124, 125, 126, 127, 116, 117, 118, 119, 120, 121, 128] (by decide +kernel) (by decide +kernel)
set_option maxRecDepth 20000 in
theorem gX6_costUncut_X2_costBetween : GoodIn wsX6_costUncut (wsV RX6 147 RX2 yX2_costBetween wsX2_costBetween) := goodIn_app (goodIn_of _ (by decide +kernel)) ggX6_costUncut_X2_costBetween
theorem dX6_costUncut_0 : decode cX6_costUncut 0 = .ok (.aload_n 0, 1) := by decide +kernel
theorem dX6_costUncut_1 : decode cX6_costUncut 1 = .ok (.invokevirtual 117, 3) := by decide +kernel
theorem dX6_costUncut_4 : decode cX6_costUncut 4 = .ok (.aload_n 0, 1) := by decide +kernel
theorem dX6_costUncut_5 : decode cX6_costUncut 5 = .ok (.getfield 30, 3) := by decide +kernel
theorem dX6_costUncut_8 : decode cX6_costUncut 8 = .ok (.iconst 0, 1) := by decide +kernel
theorem dX6_costUncut_9 : decode cX6_costUncut 9 = .ok (.aload_n 0, 1) := by decide +kernel
theorem dX6_costUncut_10 : decode cX6_costUncut 10 = .ok (.getfield 10, 3) := by decide +kernel
theorem dX6_costUncut_13 : decode cX6_costUncut 13 = .ok (.invokevirtual 71, 3) := by decide +kernel
theorem dX6_costUncut_16 : decode cX6_costUncut 16 = .ok (.invokevirtual 147, 3) := by decide +kernel
theorem dX6_costUncut_19 : decode cX6_costUncut 19 = .ok (.ireturn, 1) := by decide +kernel
set_option maxRecDepth 20000 in
theorem ggX6_costCutAt_X3_count : GoodIn wsX6_costCutAt wsX3_count := goodIn_r _ [9, 10, 133, 134, 135] (by decide +kernel) (by decide +kernel)
set_option maxRecDepth 20000 in
theorem gX6_costCutAt_X3_count : GoodIn wsX6_costCutAt (wsV RX6 71 RX3 yX3_count wsX3_count) := goodIn_app (goodIn_of _ (by decide +kernel)) ggX6_costCutAt_X3_count
set_option maxRecDepth 20000 in
theorem ggX6_costCutAt_X6_requireIndex : GoodIn wsX6_costCutAt wsX6_requireIndex := goodIn_ca (goodIn_r _ [14, 15, 16] (by decide +kernel) (by decide +kernel)) (goodIn_sub (fun _ h => List.mem_cons_of_mem _ (List.mem_append_right _ h)) (by decide +kernel))
set_option maxRecDepth 20000 in
theorem gX6_costCutAt_X6_requireIndex : GoodIn wsX6_costCutAt (va_wsS RX6 123 yX6_requireIndex wsX6_requireIndex) := goodIn_app (goodIn_of _ (by decide +kernel)) ggX6_costCutAt_X6_requireIndex
set_option maxRecDepth 20000 in
theorem ggX6_costCutAt_X2_leastLength : GoodIn wsX6_costCutAt wsX2_leastLength := goodIn_r _ [21, 22, 136, 137, 138, 139, 140, 141, 142, 143, 144, 145, 146, 147] (by decide +kernel) (by decide +kernel)
set_option maxRecDepth 20000 in
theorem gX6_costCutAt_X2_leastLength : GoodIn wsX6_costCutAt (wsV RX6 151 RX2 yX2_leastLength wsX2_leastLength) := goodIn_app (goodIn_of _ (by decide +kernel)) ggX6_costCutAt_X2_leastLength
set_option maxRecDepth 20000 in
theorem ggX6_costCutAt_X6_findSeasons : GoodIn wsX6_costCutAt wsX6_findSeasons := goodIn_r _ [26, 27, 28, 29, 30, 31, 32, 33, 34, 35, 36, 37, 38, 39, 40, 41, 42, 43, 44, 45, 46, 47, 48, 49, 50, 51, 6, 7, 8, 9, 10, 52, 53, 54, 55, 56, 57, 58, 59, 60, 61, 62, 63, 64, 65, 66, 67, 68, 69, 70, 71, 72, 73, 74, 75, 76, 77, 78, 79, 80, 81, 82, 83, 84, 85, 86, 87, 88, 89, 90, 91, 92, 124, 125, 126, 127, 128, 129, 130, 131, 132, 148, 149, 150, 151, 152, 153, 154, 155, 156, 133, 134, 135, 157] (by decide +kernel) (by decide +kernel)
set_option maxRecDepth 20000 in
theorem gX6_costCutAt_X6_findSeasons : GoodIn wsX6_costCutAt (wsV RX6 117 RX6 yX6_findSeasons wsX6_findSeasons) := goodIn_app (goodIn_of _ (by decide +kernel)) ggX6_costCutAt_X6_findSeasons
set_option maxRecDepth 20000 in
theorem ggX6_costCutAt_X2_costBetween : GoodIn wsX6_costCutAt wsX2_costBetween := goodIn_r _ [96, 97, 98, 99, 100, 20, 101, 102, 45, 46, 47, 48, 49, 50, 103, 104, 105, 106, 107, 108, 109, 53, 54, 8, 55, 56, 57, 58, 59, 60, 10, 110, 111, 112, 32, 113, 36, 89, 90, 91, 86, 92, 88, 114, 67, 68, 69, 70, 115, 116, 117, 118, 136, 137, 138, 139, 140, 141, 142, 143, 144, 145, 146, 147, 154, 155, 156, 133, 134, 135, 148, 149, 150, 151, 152, 153, 157] (by decide +kernel) (by decide +kernel)
set_option maxRecDepth 20000 in
theorem gX6_costCutAt_X2_costBetween : GoodIn wsX6_costCutAt (wsV RX6 147 RX2 yX2_costBetween wsX2_costBetween) := goodIn_app (goodIn_of _ (by decide +kernel)) ggX6_costCutAt_X2_costBetween
set_option maxRecDepth 20000 in
theorem ggX6_costCutAt_X2_penaltyOfCut : GoodIn wsX6_costCutAt wsX2_penaltyOfCut := goodIn_r _ [122, 123, 136, 137, 138, 139, 140, 141, 142, 143, 144, 145, 146, 147] (by decide +kernel) (by decide +kernel)
set_option maxRecDepth 20000 in
theorem gX6_costCutAt_X2_penaltyOfCut : GoodIn wsX6_costCutAt (wsV RX6 161 RX2 yX2_penaltyOfCut wsX2_penaltyOfCut) := goodIn_app (goodIn_of _ (by decide +kernel)) ggX6_costCutAt_X2_penaltyOfCut
theorem dX6_costCutAt_0 : decode cX6_costCutAt 0 = .ok (.aload_n 0, 1) := by decide +kernel
theorem dX6_costCutAt_1 : decode cX6_costCutAt 1 = .ok (.getfield 10, 3) := by decide +kernel
theorem dX6_costCutAt_4 : decode cX6_costCutAt 4 = .ok (.invokevirtual 71, 3) := by decide +kernel
theorem dX6_costCutAt_7 : decode cX6_costCutAt 7 = .ok (.istore_n 2, 1) := by decide +kernel
theorem dX6_costCutAt_8 : decode cX6_costCutAt 8 = .ok (.iload_n 1, 1) := by decide +kernel
theorem dX6_costCutAt_9 : decode cX6_costCutAt 9 = .ok (.iconst 1, 1) := by decide +kernel
theorem dX6_costCutAt_10 : decode cX6_costCutAt 10 = .ok (.iload_n 2, 1) := by decide +kernel
theorem dX6_costCutAt_11 : decode cX6_costCutAt 11 = .ok (.invokestatic 123, 3) := by decide +kernel
theorem dX6_costCutAt_14 : decode cX6_costCutAt 14 = .ok (.iload_n 1, 1) := by decide +kernel
theorem dX6_costCutAt_15 : decode cX6_costCutAt 15 = .ok (.aload_n 0, 1) := by decide +kernel
theorem dX6_costCutAt_16 : decode cX6_costCutAt 16 = .ok (.getfield 30, 3) := by decide +kernel
theorem dX6_costCutAt_19 : decode cX6_costCutAt 19 = .ok (.invokevirtual 151, 3) := by decide +kernel
theorem dX6_costCutAt_22 : decode cX6_costCutAt 22 = .ok (.if_icmp .lt 16, 3) := by decide +kernel
theorem dX6_costCutAt_25 : decode cX6_costCutAt 25 = .ok (.iload_n 2, 1) := by decide +kernel
theorem dX6_costCutAt_26 : decode cX6_costCutAt 26 = .ok (.iload_n 1, 1) := by decide +kernel
theorem dX6_costCutAt_27 : decode cX6_costCutAt 27 = .ok (.isub, 1) := by decide +kernel
theorem dX6_costCutAt_28 : decode cX6_costCutAt 28 = .ok (.aload_n 0, 1) := by decide +kernel
theorem dX6_costCutAt_29 : decode cX6_costCutAt 29 = .ok (.getfield 30, 3) := by decide +kernel
theorem dX6_costCutAt_32 : decode cX6_costCutAt 32 = .ok (.invokevirtual 151, 3) := by decide +kernel
theorem dX6_costCutAt_35 : decode cX6_costCutAt 35 = .ok (.if_icmp .ge 13, 3) := by decide +kernel
theorem dX6_costCutAt_38 : decode cX6_costCutAt 38 = .ok (.new 154, 3) := by decide +kernel
theorem dX6_costCutAt_41 : decode cX6_costCutAt 41 = .ok (.dup, 1) := by decide +kernel
theorem dX6_costCutAt_42 : decode cX6_costCutAt 42 = .ok (.ldc 156, 2) := by decide +kernel
theorem dX6_costCutAt_44 : decode cX6_costCutAt 44 = .ok (.invokespecial 158, 3) := by decide +kernel
theorem dX6_costCutAt_47 : decode cX6_costCutAt 47 = .ok (.athrow, 1) := by decide +kernel
theorem dX6_costCutAt_48 : decode cX6_costCutAt 48 = .ok (.aload_n 0, 1) := by decide +kernel
theorem dX6_costCutAt_49 : decode cX6_costCutAt 49 = .ok (.invokevirtual 117, 3) := by decide +kernel
theorem dX6_costCutAt_52 : decode cX6_costCutAt 52 = .ok (.aload_n 0, 1) := by decide +kernel
theorem dX6_costCutAt_53 : decode cX6_costCutAt 53 = .ok (.getfield 30, 3) := by decide +kernel
theorem dX6_costCutAt_56 : decode cX6_costCutAt 56 = .ok (.iconst 0, 1) := by decide +kernel
theorem dX6_costCutAt_57 : decode cX6_costCutAt 57 = .ok (.iload_n 1, 1) := by decide +kernel
theorem dX6_costCutAt_58 : decode cX6_costCutAt 58 = .ok (.invokevirtual 147, 3) := by decide +kernel
theorem dX6_costCutAt_61 : decode cX6_costCutAt 61 = .ok (.aload_n 0, 1) := by decide +kernel
theorem dX6_costCutAt_62 : decode cX6_costCutAt 62 = .ok (.getfield 30, 3) := by decide +kernel
theorem dX6_costCutAt_65 : decode cX6_costCutAt 65 = .ok (.iload_n 1, 1) := by decide +kernel
theorem dX6_costCutAt_66 : decode cX6_costCutAt 66 = .ok (.iload_n 2, 1) := by decide +kernel
theorem dX6_costCutAt_67 : decode cX6_costCutAt 67 = .ok (.invokevirtual 147, 3) := by decide +kernel
theorem dX6_costCutAt_70 : decode cX6_costCutAt 70 = .ok (.iadd, 1) := by decide +kernel
theorem dX6_costCutAt_71 : decode cX6_costCutAt 71 = .ok (.aload_n 0, 1) := by decide +kernel
theorem dX6_costCutAt_72 : decode cX6_costCutAt 72 = .ok (.getfield 30, 3) := by decide +kernel
theorem dX6_costCutAt_75 : decode cX6_costCutAt 75 = .ok (.invokevirtual 161, 3) := by decide +kernel
theorem dX6_costCutAt_78 : decode cX6_costCutAt 78 = .ok (.iadd, 1) := by decide +kernel
theorem dX6_costCutAt_79 : decode cX6_costCutAt 79 = .ok (.ireturn, 1) := by decide +kernel
set_option maxRecDepth 20000 in
theorem ggX6_leastCost_X3_count : GoodIn wsX6_leastCost wsX3_count := goodIn_r _ [9, 10, 142, 143, 144] (by decide +kernel) (by decide +kernel)
set_option maxRecDepth 20000 in
theorem gX6_leastCost_X3_count : GoodIn wsX6_leastCost (wsV RX6 71 RX3 yX3_count wsX3_count) := goodIn_app (goodIn_of _ (by decide +kernel)) ggX6_leastCost_X3_count
set_option maxRecDepth 20000 in
theorem ggX6_leastCost_X6_findSeasons : GoodIn wsX6_leastCost wsX6_findSeasons := goodIn_r _ [15, 16, 17, 18, 19, 20, 21, 22, 23, 24, 25, 26, 27, 28, 29, 30, 31, 32, 33, 34, 35, 36, 37, 38, 39, 40, 6, 7, 8, 9, 10, 41, 42, 43, 44, 45, 46, 47, 48, 49, 50, 51, 52, 53, 54, 55, 56, 57, 58, 59, 60, 61, 62, 63, 64, 65, 66, 67, 68, 69, 70, 71, 72, 73, 74, 75, 76, 77, 78, 79, 80, 81, 133, 134, 135, 136, 137, 138, 139, 140, 141, 145, 146, 147, 148, 149, 150, 151, 152, 153, 142, 143, 144, 154] (by decide +kernel) (by decide +kernel)
set_option maxRecDepth 20000 in
theorem gX6_leastCost_X6_findSeasons : GoodIn wsX6_leastCost (wsV RX6 117 RX6 yX6_findSeasons wsX6_findSeasons) := goodIn_app (goodIn_of _ (by decide +kernel)) ggX6_leastCost_X6_findSeasons
set_option maxRecDepth 20000 in
theorem ggX6_leastCost_X5_leastOfAll : GoodIn wsX6_leastCost wsX5_leastOfAll := goodIn_r _ [86, 87, 88, 89, 90, 91, 92, 93, 94, 95, 96, 97, 98, 99, 34, 35, 36, 37, 38, 39, 100, 101, 102, 103, 104, 105, 106, 42, 43, 8, 44, 45, 46, 47, 48, 49, 10, 107, 108, 109, 21, 110, 25, 78, 79, 80, 75, 81, 77, 111, 56, 57, 58, 59, 112, 113, 114, 115, 116, 117, 118, 119, 120, 121, 122, 123, 124, 125, 126, 127, 85, 128, 129, 130, 131, 132, 155, 156, 157, 158, 159, 160, 161, 162, 163, 164, 165, 166, 167, 168, 151, 152, 153, 142, 143, 144, 145, 146, 147, 148, 149, 150, 154] (by decide +kernel) (by decide +kernel)
set_option maxRecDepth 20000 in
theorem gX6_leastCost_X5_leastOfAll : GoodIn wsX6_leastCost (wsV RX6 169 RX5 yX5_leastOfAll wsX5_leastOfAll) := goodIn_app (goodIn_of _ (by decide +kernel)) ggX6_leastCost_X5_leastOfAll
theorem dX6_leastCost_0 : decode cX6_leastCost 0 = .ok (.aload_n 0, 1) := by decide +kernel
theorem dX6_leastCost_1 : decode cX6_leastCost 1 = .ok (.getfield 10, 3) := by decide +kernel
theorem dX6_leastCost_4 : decode cX6_leastCost 4 = .ok (.invokevirtual 71, 3) := by decide +kernel
theorem dX6_leastCost_7 : decode cX6_leastCost 7 = .ok (.bipush 14, 2) := by decide +kernel
theorem dX6_leastCost_9 : decode cX6_leastCost 9 = .ok (.if_icmp .le 13, 3) := by decide +kernel
theorem dX6_leastCost_12 : decode cX6_leastCost 12 = .ok (.new 164, 3) := by decide +kernel
theorem dX6_leastCost_15 : decode cX6_leastCost 15 = .ok (.dup, 1) := by decide +kernel
theorem dX6_leastCost_16 : decode cX6_leastCost 16 = .ok (.ldc 166, 2) := by decide +kernel
theorem dX6_leastCost_18 : decode cX6_leastCost 18 = .ok (.invokespecial 168, 3) := by decide +kernel
theorem dX6_leastCost_21 : decode cX6_leastCost 21 = .ok (.athrow, 1) := by decide +kernel
theorem dX6_leastCost_22 : decode cX6_leastCost 22 = .ok (.aload_n 0, 1) := by decide +kernel
theorem dX6_leastCost_23 : decode cX6_leastCost 23 = .ok (.invokevirtual 117, 3) := by decide +kernel
theorem dX6_leastCost_26 : decode cX6_leastCost 26 = .ok (.aload_n 0, 1) := by decide +kernel
theorem dX6_leastCost_27 : decode cX6_leastCost 27 = .ok (.getfield 39, 3) := by decide +kernel
theorem dX6_leastCost_30 : decode cX6_leastCost 30 = .ok (.aload_n 0, 1) := by decide +kernel
theorem dX6_leastCost_31 : decode cX6_leastCost 31 = .ok (.getfield 10, 3) := by decide +kernel
theorem dX6_leastCost_34 : decode cX6_leastCost 34 = .ok (.invokevirtual 71, 3) := by decide +kernel
theorem dX6_leastCost_37 : decode cX6_leastCost 37 = .ok (.invokevirtual 169, 3) := by decide +kernel
theorem dX6_leastCost_40 : decode cX6_leastCost 40 = .ok (.ireturn, 1) := by decide +kernel
set_option maxRecDepth 20000 in
theorem ggX6_residual_X6_requireNumber : GoodIn wsX6_residual wsX6_requireNumber := goodIn_ca (goodIn_r _ [5, 6, 7, 8, 9, 10, 11, 12, 13, 14, 4, 15, 16, 17, 160, 161, 162, 163, 164, 165, 166, 167, 168, 169, 170, 171] (by decide +kernel) (by decide +kernel)) (goodIn_sub (fun _ h => List.mem_cons_of_mem _ (List.mem_append_right _ h)) (by decide +kernel))
set_option maxRecDepth 20000 in
theorem gX6_residual_X6_requireNumber : GoodIn wsX6_residual (wsV RX6 85 RX6 yX6_requireNumber wsX6_requireNumber) := goodIn_app (goodIn_of _ (by decide +kernel)) ggX6_residual_X6_requireNumber
set_option maxRecDepth 20000 in
theorem ggX6_residual_X6_findSegments : GoodIn wsX6_residual wsX6_findSegments := goodIn_r _ [21, 22, 23, 24, 25, 26, 4, 27, 28, 29, 30, 31, 32, 33, 34, 35, 36, 37, 38, 39, 40, 41, 42, 43, 44, 45, 46, 47, 48, 49, 50, 51, 52, 8, 9, 10, 11, 12, 53, 54, 55, 56, 57, 58, 59, 60, 61, 62, 63, 64, 65, 66, 67, 68, 69, 70, 71, 72, 73, 74, 75, 76, 77, 78, 79, 80, 81, 82, 83, 84, 85, 86, 87, 88, 89, 90, 91, 92, 93, 94, 95, 96, 97, 98, 99, 100, 101, 102, 103, 104, 105, 106, 107, 108, 109, 110, 111, 112, 113, 114, 115, 116, 117, 118, 119, 120, 121, 122, 123, 124, 125, 126, 127, 128, 129, 130, 131, 132, 133, 134, 135, 136, 137, 138, 139, 140, 141, 142, 143, 144, 145, 146, 147, 148, 149, 150, 160, 161, 162, 163, 164, 165, 166, 167, 168, 172, 173, 174, 175, 176, 177, 178, 179, 180, 169, 170, 171, 181, 182, 183, 184, 185, 186, 187, 188, 189, 190, 191, 192, 193] (by decide +kernel) (by decide +kernel)
set_option maxRecDepth 20000 in
theorem gX6_residual_X6_findSegments : GoodIn wsX6_residual (wsV RX6 132 RX6 yX6_findSegments wsX6_findSegments) := goodIn_app (goodIn_of _ (by decide +kernel)) ggX6_residual_X6_findSegments
set_option maxRecDepth 20000 in
theorem ggX6_residual_X6_residualAt : GoodIn wsX6_residual wsX6_residualAt := goodIn_r _ [154, 29, 23, 155, 125, 126, 33, 127, 37, 90, 91, 92, 87, 93, 89, 156, 157, 158, 97, 159, 145, 133, 160, 161, 162, 163, 164, 165, 166, 167, 168, 172, 173, 174, 175, 176, 177, 181, 182, 183, 184, 185, 186, 187, 188, 189, 190, 191, 192, 193] (by decide +kernel) (by decide +kernel)
set_option maxRecDepth 20000 in
theorem gX6_residual_X6_residualAt : GoodIn wsX6_residual (wsV RX6 172 RX6 yX6_residualAt wsX6_residualAt) := goodIn_app (goodIn_of _ (by decide +kernel)) ggX6_residual_X6_residualAt
theorem dX6_residual_0 : decode cX6_residual 0 = .ok (.aload_n 0, 1) := by decide +kernel
theorem dX6_residual_1 : decode cX6_residual 1 = .ok (.iload_n 1, 1) := by decide +kernel
theorem dX6_residual_2 : decode cX6_residual 2 = .ok (.invokevirtual 85, 3) := by decide +kernel
theorem dX6_residual_5 : decode cX6_residual 5 = .ok (.aload_n 0, 1) := by decide +kernel
theorem dX6_residual_6 : decode cX6_residual 6 = .ok (.invokevirtual 132, 3) := by decide +kernel
theorem dX6_residual_9 : decode cX6_residual 9 = .ok (.aload_n 0, 1) := by decide +kernel
theorem dX6_residual_10 : decode cX6_residual 10 = .ok (.iload_n 1, 1) := by decide +kernel
theorem dX6_residual_11 : decode cX6_residual 11 = .ok (.invokevirtual 172, 3) := by decide +kernel
theorem dX6_residual_14 : decode cX6_residual 14 = .ok (.ireturn, 1) := by decide +kernel
set_option maxRecDepth 20000 in
theorem ggX6_deviation_X6_findSegments : GoodIn wsX6_deviation wsX6_findSegments := goodIn_r _ [5, 6, 7, 8, 9, 10, 4, 11, 12, 13, 14, 15, 16, 17, 18, 19, 20, 21, 22, 23, 24, 25, 26, 27, 28, 29, 30, 31, 32, 33, 34, 35, 36, 37, 38, 39, 40, 41, 42, 43, 44, 45, 46, 47, 48, 49, 50, 51, 52, 53, 54, 55, 56, 57, 58, 59, 60, 61, 62, 63, 64, 65, 66, 67, 68, 69, 70, 71, 72, 73, 74, 75, 76, 77, 78, 79, 80, 81, 82, 83, 84, 85, 86, 87, 88, 89, 90, 91, 92, 93, 94, 95, 96, 97, 98, 99, 100, 101, 102, 103, 104, 105, 106, 107, 108, 109, 110, 111, 112, 113, 114, 115, 116, 117, 118, 119, 120, 121, 122, 123, 124, 125, 126, 127, 128, 129, 130, 131, 132, 133, 134, 135, 136, 137, 138, 139, 164, 165, 166, 167, 168, 169, 170, 171, 172, 173, 174, 175, 176, 177, 178, 179, 180, 181, 182, 183, 184, 185, 186, 187, 188, 189, 190, 191, 192, 193, 194, 195, 196, 197] (by decide +kernel) (by decide +kernel)
set_option maxRecDepth 20000 in
theorem gX6_deviation_X6_findSegments : GoodIn wsX6_deviation (wsV RX6 132 RX6 yX6_findSegments wsX6_findSegments) := goodIn_app (goodIn_of _ (by decide +kernel)) ggX6_deviation_X6_findSegments
set_option maxRecDepth 20000 in
theorem ggX6_deviation_X6_medianDeviation : GoodIn wsX6_deviation wsX6_medianDeviation := goodIn_r _ [143, 144, 145, 146, 147, 148, 149, 150, 30, 31, 32, 33, 34, 35, 151, 37, 38, 39, 40, 41, 152, 43, 44, 45, 46, 47, 48, 49, 50, 153, 154, 155, 4, 156, 13, 7, 157, 114, 115, 17, 116, 21, 79, 80, 81, 76, 82, 78, 158, 159, 160, 86, 161, 134, 122, 162, 57, 58, 59, 60, 163, 62, 63, 64, 164, 165, 166, 167, 168, 169, 170, 171, 172, 179, 180, 181, 182, 183, 184, 173, 174, 175, 176, 177, 178, 185, 186, 187, 188, 189, 190, 191, 192, 193, 194, 195, 196, 197] (by decide +kernel) (by decide +kernel)
set_option maxRecDepth 20000 in
theorem gX6_deviation_X6_medianDeviation : GoodIn wsX6_deviation (wsV RX6 175 RX6 yX6_medianDeviation wsX6_medianDeviation) := goodIn_app (goodIn_of _ (by decide +kernel)) ggX6_deviation_X6_medianDeviation
theorem dX6_deviation_0 : decode cX6_deviation 0 = .ok (.aload_n 0, 1) := by decide +kernel
theorem dX6_deviation_1 : decode cX6_deviation 1 = .ok (.invokevirtual 132, 3) := by decide +kernel
theorem dX6_deviation_4 : decode cX6_deviation 4 = .ok (.aload_n 0, 1) := by decide +kernel
theorem dX6_deviation_5 : decode cX6_deviation 5 = .ok (.invokevirtual 175, 3) := by decide +kernel
theorem dX6_deviation_8 : decode cX6_deviation 8 = .ok (.ireturn, 1) := by decide +kernel
set_option maxRecDepth 20000 in
theorem ggX6_bound_X6_findSegments : GoodIn wsX6_bound wsX6_findSegments := goodIn_r _ [5, 6, 7, 8, 9, 10, 4, 11, 12, 13, 14, 15, 16, 17, 18, 19, 20, 21, 22, 23, 24, 25, 26, 27, 28, 29, 30, 31, 32, 33, 34, 35, 36, 37, 38, 39, 40, 41, 42, 43, 44, 45, 46, 47, 48, 49, 50, 51, 52, 53, 54, 55, 56, 57, 58, 59, 60, 61, 62, 63, 64, 65, 66, 67, 68, 69, 70, 71, 72, 73, 74, 75, 76, 77, 78, 79, 80, 81, 82, 83, 84, 85, 86, 87, 88, 89, 90, 91, 92, 93, 94, 95, 96, 97, 98, 99, 100, 101, 102, 103, 104, 105, 106, 107, 108, 109, 110, 111, 112, 113, 114, 115, 116, 117, 118, 119, 120, 121, 122, 123, 124, 125, 126, 127, 128, 129, 130, 131, 132, 133, 134, 135, 136, 137, 138, 139, 173, 174, 175, 176, 177, 178, 179, 180, 181, 182, 183, 184, 185, 186, 187, 188, 189, 190, 191, 192, 193, 194, 195, 196, 197, 198, 199, 200, 201, 202, 203, 204, 205, 206] (by decide +kernel) (by decide +kernel)
set_option maxRecDepth 20000 in
theorem gX6_bound_X6_findSegments : GoodIn wsX6_bound (wsV RX6 132 RX6 yX6_findSegments wsX6_findSegments) := goodIn_app (goodIn_of _ (by decide +kernel)) ggX6_bound_X6_findSegments
set_option maxRecDepth 20000 in
theorem ggX6_bound_X6_boundOfNow : GoodIn wsX6_bound wsX6_boundOfNow := goodIn_r _ [143, 144, 145, 146, 147, 148, 149, 150, 151, 152, 4, 153, 154, 155, 156, 157, 158, 159, 30, 31, 32, 33, 34, 35, 160, 37, 38, 39, 40, 41, 161, 43, 44, 45, 46, 47, 48, 49, 50, 162, 163, 164, 165, 13, 7, 166, 114, 115, 17, 116, 21, 79, 80, 81, 76, 82, 78, 167, 168, 169, 86, 170, 134, 122, 171, 57, 58, 59, 60, 172, 62, 63, 64, 173, 174, 175, 176, 177, 178, 179, 180, 181, 188, 189, 190, 191, 192, 193, 182, 183, 184, 185, 186, 187, 194, 195, 196, 197, 198, 199, 200, 201, 202, 203, 204, 205, 206] (by decide +kernel) (by decide +kernel)
set_option maxRecDepth 20000 in
theorem gX6_bound_X6_boundOfNow : GoodIn wsX6_bound (wsV RX6 178 RX6 yX6_boundOfNow wsX6_boundOfNow) := goodIn_app (goodIn_of _ (by decide +kernel)) ggX6_bound_X6_boundOfNow
theorem dX6_bound_0 : decode cX6_bound 0 = .ok (.aload_n 0, 1) := by decide +kernel
theorem dX6_bound_1 : decode cX6_bound 1 = .ok (.invokevirtual 132, 3) := by decide +kernel
theorem dX6_bound_4 : decode cX6_bound 4 = .ok (.aload_n 0, 1) := by decide +kernel
theorem dX6_bound_5 : decode cX6_bound 5 = .ok (.invokevirtual 178, 3) := by decide +kernel
theorem dX6_bound_8 : decode cX6_bound 8 = .ok (.ireturn, 1) := by decide +kernel
set_option maxRecDepth 20000 in
theorem ggX6_verdict_X6_requireNumber : GoodIn wsX6_verdict wsX6_requireNumber := goodIn_ca (goodIn_r _ [5, 6, 7, 8, 9, 10, 11, 12, 13, 14, 4, 15, 16, 17, 189, 190, 191, 192, 193, 194, 195, 196, 197, 198, 199, 200] (by decide +kernel) (by decide +kernel)) (goodIn_sub (fun _ h => List.mem_cons_of_mem _ (List.mem_append_right _ h)) (by decide +kernel))
set_option maxRecDepth 20000 in
theorem gX6_verdict_X6_requireNumber : GoodIn wsX6_verdict (wsV RX6 85 RX6 yX6_requireNumber wsX6_requireNumber) := goodIn_app (goodIn_of _ (by decide +kernel)) ggX6_verdict_X6_requireNumber
set_option maxRecDepth 20000 in
theorem ggX6_verdict_X6_findSegments : GoodIn wsX6_verdict wsX6_findSegments := goodIn_r _ [21, 22, 23, 24, 25, 26, 4, 27, 28, 29, 30, 31, 32, 33, 34, 35, 36, 37, 38, 39, 40, 41, 42, 43, 44, 45, 46, 47, 48, 49, 50, 51, 52, 8, 9, 10, 11, 12, 53, 54, 55, 56, 57, 58, 59, 60, 61, 62, 63, 64, 65, 66, 67, 68, 69, 70, 71, 72, 73, 74, 75, 76, 77, 78, 79, 80, 81, 82, 83, 84, 85, 86, 87, 88, 89, 90, 91, 92, 93, 94, 95, 96, 97, 98, 99, 100, 101, 102, 103, 104, 105, 106, 107, 108, 109, 110, 111, 112, 113, 114, 115, 116, 117, 118, 119, 120, 121, 122, 123, 124, 125, 126, 127, 128, 129, 130, 131, 132, 133, 134, 135, 136, 137, 138, 139, 140, 141, 142, 143, 144, 145, 146, 147, 148, 149, 150, 189, 190, 191, 192, 193, 194, 195, 196, 197, 201, 202, 203, 204, 205, 206, 207, 208, 209, 198, 199, 200, 210, 211, 212, 213, 214, 215, 216, 217, 218, 219, 220, 221, 222] (by decide +kernel) (by decide +kernel)
set_option maxRecDepth 20000 in
theorem gX6_verdict_X6_findSegments : GoodIn wsX6_verdict (wsV RX6 132 RX6 yX6_findSegments wsX6_findSegments) := goodIn_app (goodIn_of _ (by decide +kernel)) ggX6_verdict_X6_findSegments
set_option maxRecDepth 20000 in
theorem ggX6_verdict_X6_boundOfNow : GoodIn wsX6_verdict wsX6_boundOfNow := goodIn_r _ [154, 155, 156, 157, 158, 159, 160, 161, 162, 163, 4, 164, 165, 6, 166, 167, 168, 169, 46, 47, 48, 49, 50, 51, 7, 8, 9, 10, 11, 12, 170, 54, 55, 56, 57, 58, 59, 60, 61, 171, 172, 173, 174, 29, 23, 175, 125, 126, 33, 127, 37, 90, 91, 92, 87, 93, 89, 176, 177, 178, 97, 179, 145, 133, 180, 68, 69, 70, 71, 181, 73, 74, 75, 189, 190, 191, 192, 193, 194, 195, 196, 197, 207, 208, 209, 198, 199, 200, 201, 202, 203, 204, 205, 206, 210, 211, 212, 213, 214, 215, 216, 217, 218, 219, 220, 221, 222] (by decide +kernel) (by decide +kernel)
set_option maxRecDepth 20000 in
theorem gX6_verdict_X6_boundOfNow : GoodIn wsX6_verdict (wsV RX6 178 RX6 yX6_boundOfNow wsX6_boundOfNow) := goodIn_app (goodIn_of _ (by decide +kernel)) ggX6_verdict_X6_boundOfNow
set_option maxRecDepth 20000 in
theorem ggX6_verdict_X6_verdictWithin : GoodIn wsX6_verdict wsX6_verdictWithin := goodIn_r _ [185, 6, 170, 54, 55, 10, 56, 57, 58, 59, 60, 61, 12, 171, 172, 173, 4, 174, 29, 23, 175, 125, 126, 33, 127, 37, 90, 91, 92, 87, 93, 89, 176, 177, 178, 97, 179, 145, 133, 186, 187, 188, 189, 190, 191, 192, 193, 194, 195, 196, 197, 198, 199, 200, 201, 202, 203, 204, 205, 206, 210, 211, 212, 213, 214, 215, 216, 217, 218, 219, 220, 221, 222] (by decide +kernel) (by decide +kernel)
set_option maxRecDepth 20000 in
theorem gX6_verdict_X6_verdictWithin : GoodIn wsX6_verdict (wsV RX6 181 RX6 yX6_verdictWithin wsX6_verdictWithin) := goodIn_app (goodIn_of _ (by decide +kernel)) ggX6_verdict_X6_verdictWithin
theorem dX6_verdict_0 : decode cX6_verdict 0 = .ok (.aload_n 0, 1) := by decide +kernel
theorem dX6_verdict_1 : decode cX6_verdict 1 = .ok (.iload_n 1, 1) := by decide +kernel
theorem dX6_verdict_2 : decode cX6_verdict 2 = .ok (.invokevirtual 85, 3) := by decide +kernel
theorem dX6_verdict_5 : decode cX6_verdict 5 = .ok (.aload_n 0, 1) := by decide +kernel
theorem dX6_verdict_6 : decode cX6_verdict 6 = .ok (.invokevirtual 132, 3) := by decide +kernel
theorem dX6_verdict_9 : decode cX6_verdict 9 = .ok (.aload_n 0, 1) := by decide +kernel
theorem dX6_verdict_10 : decode cX6_verdict 10 = .ok (.iload_n 1, 1) := by decide +kernel
theorem dX6_verdict_11 : decode cX6_verdict 11 = .ok (.aload_n 0, 1) := by decide +kernel
theorem dX6_verdict_12 : decode cX6_verdict 12 = .ok (.invokevirtual 178, 3) := by decide +kernel
theorem dX6_verdict_15 : decode cX6_verdict 15 = .ok (.invokevirtual 181, 3) := by decide +kernel
theorem dX6_verdict_18 : decode cX6_verdict 18 = .ok (.ireturn, 1) := by decide +kernel
set_option maxRecDepth 20000 in
theorem ggX6_anomalies_X6_findSegments : GoodIn wsX6_anomalies wsX6_findSegments := goodIn_r _ [6, 7, 8, 9, 10, 11, 5, 12, 13, 14, 15, 16, 17, 18, 19, 20, 21, 22, 23, 24, 25, 26, 27, 28, 29, 30, 31, 32, 33, 34, 35, 36, 37, 38, 39, 40, 41, 42, 43, 44, 45, 46, 47, 48, 49, 50, 51, 52, 53, 54, 55, 56, 57, 58, 59, 60, 61, 62, 63, 64, 65, 66, 67, 68, 69, 70, 71, 72, 73, 74, 75, 76, 77, 78, 79, 80, 81, 82, 83, 84, 85, 86, 87, 88, 89, 90, 91, 92, 93, 94, 95, 96, 97, 98, 99, 100, 101, 102, 103, 104, 105, 106, 107, 108, 109, 110, 111, 112, 113, 114, 115, 116, 117, 118, 119, 120, 121, 122, 123, 124, 125, 126, 127, 128, 129, 130, 131, 132, 133, 134, 135, 136, 137, 138, 139, 140, 180, 181, 182, 183, 184, 185, 186, 187, 188, 189, 190, 191, 192, 193, 194, 195, 196, 197, 198, 199, 200, 201, 202, 203, 204, 205, 206, 207, 208, 209, 210, 211, 212, 213] (by decide +kernel) (by decide +kernel)
set_option maxRecDepth 20000 in
theorem gX6_anomalies_X6_findSegments : GoodIn wsX6_anomalies (wsV RX6 132 RX6 yX6_findSegments wsX6_findSegments) := goodIn_app (goodIn_of _ (by decide +kernel)) ggX6_anomalies_X6_findSegments
set_option maxRecDepth 20000 in
theorem ggX6_anomalies_X6_boundOfNow : GoodIn wsX6_anomalies wsX6_boundOfNow := goodIn_r _ [144, 145, 146, 147, 148, 149, 150, 151, 152, 153, 5, 154, 155, 1, 156, 157, 158, 159, 31, 32, 33, 34, 35, 36, 160, 38, 39, 40, 41, 42, 161, 44, 45, 46, 47, 48, 49, 50, 51, 162, 163, 164, 165, 14, 8, 166, 115, 116, 18, 117, 22, 80, 81, 82, 77, 83, 79, 167, 168, 169, 87, 170, 135, 123, 171, 58, 59, 60, 61, 172, 63, 64, 65, 180, 181, 182, 183, 184, 185, 186, 187, 188, 195, 196, 197, 198, 199, 200, 189, 190, 191, 192, 193, 194, 201, 202, 203, 204, 205, 206, 207, 208, 209, 210, 211, 212, 213] (by decide +kernel) (by decide +kernel)
set_option maxRecDepth 20000 in
theorem gX6_anomalies_X6_boundOfNow : GoodIn wsX6_anomalies (wsV RX6 178 RX6 yX6_boundOfNow wsX6_boundOfNow) := goodIn_app (goodIn_of _ (by decide +kernel)) ggX6_anomalies_X6_boundOfNow
set_option maxRecDepth 20000 in
theorem ggX6_anomalies_X3_count : GoodIn wsX6_anomalies wsX3_count := goodIn_r _ [41, 42, 198, 199, 200] (by decide +kernel) (by decide +kernel)
set_option maxRecDepth 20000 in
theorem gX6_anomalies_X3_count : GoodIn wsX6_anomalies (wsV RX6 71 RX3 yX3_count wsX3_count) := goodIn_app (goodIn_of _ (by decide +kernel)) ggX6_anomalies_X3_count
set_option maxRecDepth 20000 in
theorem ggX6_anomalies_X6_verdictWithin : GoodIn wsX6_anomalies wsX6_verdictWithin := goodIn_r _ [176, 1, 161, 44, 45, 40, 46, 47, 48, 49, 50, 51, 42, 162, 163, 164, 5, 165, 14, 8, 166, 115, 116, 18, 117, 22, 80, 81, 82, 77, 83, 79, 167, 168, 169, 87, 170, 135, 123, 177, 178, 179, 180, 181, 182, 183, 184, 185, 186, 187, 188, 198, 199, 200, 189, 190, 191, 192, 193, 194, 201, 202, 203, 204, 205, 206, 207, 208, 209, 210, 211, 212, 213] (by decide +kernel) (by decide +kernel)
set_option maxRecDepth 20000 in
theorem gX6_anomalies_X6_verdictWithin : GoodIn wsX6_anomalies (wsV RX6 181 RX6 yX6_verdictWithin wsX6_verdictWithin) := goodIn_app (goodIn_of _ (by decide +kernel)) ggX6_anomalies_X6_verdictWithin
theorem dX6_anomalies_0 : decode cX6_anomalies 0 = .ok (.aload_n 0, 1) := by decide +kernel
theorem dX6_anomalies_1 : decode cX6_anomalies 1 = .ok (.invokevirtual 132, 3) := by decide +kernel
theorem dX6_anomalies_4 : decode cX6_anomalies 4 = .ok (.aload_n 0, 1) := by decide +kernel
theorem dX6_anomalies_5 : decode cX6_anomalies 5 = .ok (.invokevirtual 178, 3) := by decide +kernel
theorem dX6_anomalies_8 : decode cX6_anomalies 8 = .ok (.istore_n 1, 1) := by decide +kernel
theorem dX6_anomalies_9 : decode cX6_anomalies 9 = .ok (.iconst 0, 1) := by decide +kernel
theorem dX6_anomalies_10 : decode cX6_anomalies 10 = .ok (.istore_n 2, 1) := by decide +kernel
theorem dX6_anomalies_11 : decode cX6_anomalies 11 = .ok (.iconst 0, 1) := by decide +kernel
theorem dX6_anomalies_12 : decode cX6_anomalies 12 = .ok (.istore_n 3, 1) := by decide +kernel
theorem dX6_anomalies_13 : decode cX6_anomalies 13 = .ok (.iload_n 3, 1) := by decide +kernel
theorem dX6_anomalies_14 : decode cX6_anomalies 14 = .ok (.aload_n 0, 1) := by decide +kernel
theorem dX6_anomalies_15 : decode cX6_anomalies 15 = .ok (.getfield 10, 3) := by decide +kernel
theorem dX6_anomalies_18 : decode cX6_anomalies 18 = .ok (.invokevirtual 71, 3) := by decide +kernel
theorem dX6_anomalies_21 : decode cX6_anomalies 21 = .ok (.if_icmp .ge 32, 3) := by decide +kernel
theorem dX6_anomalies_24 : decode cX6_anomalies 24 = .ok (.aload_n 0, 1) := by decide +kernel
theorem dX6_anomalies_25 : decode cX6_anomalies 25 = .ok (.iload_n 3, 1) := by decide +kernel
theorem dX6_anomalies_26 : decode cX6_anomalies 26 = .ok (.iload_n 1, 1) := by decide +kernel
theorem dX6_anomalies_27 : decode cX6_anomalies 27 = .ok (.invokevirtual 181, 3) := by decide +kernel
theorem dX6_anomalies_30 : decode cX6_anomalies 30 = .ok (.istore 4, 2) := by decide +kernel
theorem dX6_anomalies_32 : decode cX6_anomalies 32 = .ok (.iload 4, 2) := by decide +kernel
theorem dX6_anomalies_34 : decode cX6_anomalies 34 = .ok (.iconst 1, 1) := by decide +kernel
theorem dX6_anomalies_35 : decode cX6_anomalies 35 = .ok (.if_icmp .eq 9, 3) := by decide +kernel
theorem dX6_anomalies_38 : decode cX6_anomalies 38 = .ok (.iload 4, 2) := by decide +kernel
theorem dX6_anomalies_40 : decode cX6_anomalies 40 = .ok (.iconst 2, 1) := by decide +kernel
theorem dX6_anomalies_41 : decode cX6_anomalies 41 = .ok (.if_icmp .ne 6, 3) := by decide +kernel
theorem dX6_anomalies_44 : decode cX6_anomalies 44 = .ok (.iinc 2 1, 3) := by decide +kernel
theorem dX6_anomalies_47 : decode cX6_anomalies 47 = .ok (.iinc 3 1, 3) := by decide +kernel
theorem dX6_anomalies_50 : decode cX6_anomalies 50 = .ok (.goto (-37), 3) := by decide +kernel
theorem dX6_anomalies_53 : decode cX6_anomalies 53 = .ok (.iload_n 2, 1) := by decide +kernel
theorem dX6_anomalies_54 : decode cX6_anomalies 54 = .ok (.ireturn, 1) := by decide +kernel
set_option maxRecDepth 20000 in
theorem ggX6_expected_X6_findSegments : GoodIn wsX6_expected wsX6_findSegments := goodIn_r _ [5, 6, 7, 8, 9, 10, 4, 11, 12, 13, 14, 15, 16, 17, 18, 19, 20, 21, 22, 23, 24, 25, 26, 27, 28, 29, 30, 31, 32, 33, 34, 35, 36, 37, 38, 39, 40, 41, 42, 43, 44, 45, 46, 47, 48, 49, 50, 51, 52, 53, 54, 55, 56, 57, 58, 59, 60, 61, 62, 63, 64, 65, 66, 67, 68, 69, 70, 71, 72, 73, 74, 75, 76, 77, 78, 79, 80, 81, 82, 83, 84, 85, 86, 87, 88, 89, 90, 91, 92, 93, 94, 95, 96, 97, 98, 99, 100, 101, 102, 103, 104, 105, 106, 107, 108, 109, 110, 111, 112, 113, 114, 115, 116, 117, 118, 119, 120, 121, 122, 123, 124, 125, 126, 127, 128, 129, 130, 131, 132, 133, 134, 135, 136, 137, 138, 139, 155, 156, 157, 158, 159, 160, 161, 162, 163, 164, 165, 166, 167, 168, 169, 170, 171, 172, 173, 174, 175, 176, 177, 178, 179, 180, 181, 182, 183, 184, 185, 186, 187, 188] (by decide +kernel) (by decide +kernel)
set_option maxRecDepth 20000 in
theorem gX6_expected_X6_findSegments : GoodIn wsX6_expected (wsV RX6 132 RX6 yX6_findSegments wsX6_findSegments) := goodIn_app (goodIn_of _ (by decide +kernel)) ggX6_expected_X6_findSegments
set_option maxRecDepth 20000 in
theorem ggX6_expected_X6_expectedNext : GoodIn wsX6_expected wsX6_expectedNext := goodIn_r _ [143, 7, 13, 144, 145, 146, 147, 86, 148, 131, 133, 122, 80, 81, 76, 82, 78, 149, 37, 38, 39, 40, 41, 150, 70, 71, 17, 72, 19, 151, 152, 153, 154, 22, 79, 155, 156, 157, 158, 159, 160, 161, 162, 163, 177, 178, 179, 180, 181, 182, 183, 184, 185, 186, 187, 188, 176, 173, 174, 175, 164, 165, 166, 167, 168, 169] (by decide +kernel) (by decide +kernel)
set_option maxRecDepth 20000 in
theorem gX6_expected_X6_expectedNext : GoodIn wsX6_expected (wsV RX6 184 RX6 yX6_expectedNext wsX6_expectedNext) := goodIn_app (goodIn_of _ (by decide +kernel)) ggX6_expected_X6_expectedNext
theorem dX6_expected_0 : decode cX6_expected 0 = .ok (.aload_n 0, 1) := by decide +kernel
theorem dX6_expected_1 : decode cX6_expected 1 = .ok (.invokevirtual 132, 3) := by decide +kernel
theorem dX6_expected_4 : decode cX6_expected 4 = .ok (.aload_n 0, 1) := by decide +kernel
theorem dX6_expected_5 : decode cX6_expected 5 = .ok (.invokevirtual 184, 3) := by decide +kernel
theorem dX6_expected_8 : decode cX6_expected 8 = .ok (.ireturn, 1) := by decide +kernel
set_option maxRecDepth 20000 in
theorem ggX6_judge_X6_findSegments : GoodIn wsX6_judge wsX6_findSegments := goodIn_r _ [5, 6, 7, 8, 9, 10, 4, 11, 12, 13, 14, 15, 16, 17, 18, 19, 20, 21, 22, 23, 24, 25, 26, 27, 28, 29, 30, 31, 32, 33, 34, 35, 36, 37, 38, 39, 40, 41, 42, 43, 44, 45, 46, 47, 48, 49, 50, 51, 52, 53, 54, 55, 56, 57, 58, 59, 60, 61, 62, 63, 64, 65, 66, 67, 68, 69, 70, 71, 72, 73, 74, 75, 76, 77, 78, 79, 80, 81, 82, 83, 84, 85, 86, 87, 88, 89, 90, 91, 92, 93, 94, 95, 96, 97, 98, 99, 100, 101, 102, 103, 104, 105, 106, 107, 108, 109, 110, 111, 112, 113, 114, 115, 116, 117, 118, 119, 120, 121, 122, 123, 124, 125, 126, 127, 128, 129, 130, 131, 132, 133, 134, 135, 136, 137, 138, 139, 189, 190, 191, 192, 193, 194, 195, 196, 197, 198, 199, 200, 201, 202, 203, 204, 205, 206, 207, 208, 209, 210, 211, 212, 213, 214, 215, 216, 217, 218, 219, 220, 221, 222] (by decide +kernel) (by decide +kernel)
set_option maxRecDepth 20000 in
theorem gX6_judge_X6_findSegments : GoodIn wsX6_judge (wsV RX6 132 RX6 yX6_findSegments wsX6_findSegments) := goodIn_app (goodIn_of _ (by decide +kernel)) ggX6_judge_X6_findSegments
set_option maxRecDepth 20000 in
theorem ggX6_judge_X6_expectedNext : GoodIn wsX6_judge wsX6_expectedNext := goodIn_r _ [143, 7, 13, 144, 145, 146, 147, 86, 148, 131, 133, 122, 80, 81, 76, 82, 78, 149, 37, 38, 39, 40, 41, 150, 70, 71, 17, 72, 19, 151, 152, 153, 154, 22, 79, 189, 190, 191, 192, 193, 194, 195, 196, 197, 211, 212, 213, 214, 215, 216, 217, 218, 219, 220, 221, 222, 210, 207, 208, 209, 198, 199, 200, 201, 202, 203] (by decide +kernel) (by decide +kernel)
set_option maxRecDepth 20000 in
theorem gX6_judge_X6_expectedNext : GoodIn wsX6_judge (wsV RX6 184 RX6 yX6_expectedNext wsX6_expectedNext) := goodIn_app (goodIn_of _ (by decide +kernel)) ggX6_judge_X6_expectedNext
set_option maxRecDepth 20000 in
theorem ggX6_judge_X6_boundOfNow : GoodIn wsX6_judge wsX6_boundOfNow := goodIn_r _ [158, 159, 160, 161, 162, 163, 164, 165, 166, 167, 4, 168, 169, 144, 170, 171, 172, 173, 30, 31, 32, 33, 34, 35, 149, 37, 38, 39, 40, 41, 174, 43, 44, 45, 46, 47, 48, 49, 50, 175, 176, 177, 178, 13, 7, 179, 114, 115, 17, 116, 21, 79, 80, 81, 76, 82, 78, 180, 181, 182, 86, 183, 134, 122, 184, 57, 58, 59, 60, 185, 62, 63, 64, 189, 190, 191, 192, 193, 194, 195, 196, 197, 204, 205, 206, 207, 208, 209, 198, 199, 200, 201, 202, 203, 210, 211, 212, 213, 214, 215, 216, 217, 218, 219, 220, 221, 222] (by decide +kernel) (by decide +kernel)
set_option maxRecDepth 20000 in
theorem gX6_judge_X6_boundOfNow : GoodIn wsX6_judge (wsV RX6 178 RX6 yX6_boundOfNow wsX6_boundOfNow) := goodIn_app (goodIn_of _ (by decide +kernel)) ggX6_judge_X6_boundOfNow
set_option maxRecDepth 20000 in
theorem ggX6_judge_X6_sideOf : GoodIn wsX6_judge wsX6_sideOf := goodIn_r _ [188] (by decide +kernel) (by decide +kernel)
set_option maxRecDepth 20000 in
theorem gX6_judge_X6_sideOf : GoodIn wsX6_judge (va_wsS RX6 187 yX6_sideOf wsX6_sideOf) := goodIn_app (goodIn_of _ (by decide +kernel)) ggX6_judge_X6_sideOf
theorem dX6_judge_0 : decode cX6_judge 0 = .ok (.aload_n 0, 1) := by decide +kernel
theorem dX6_judge_1 : decode cX6_judge 1 = .ok (.invokevirtual 132, 3) := by decide +kernel
theorem dX6_judge_4 : decode cX6_judge 4 = .ok (.iload_n 1, 1) := by decide +kernel
theorem dX6_judge_5 : decode cX6_judge 5 = .ok (.i2l, 1) := by decide +kernel
theorem dX6_judge_6 : decode cX6_judge 6 = .ok (.aload_n 0, 1) := by decide +kernel
theorem dX6_judge_7 : decode cX6_judge 7 = .ok (.invokevirtual 184, 3) := by decide +kernel
theorem dX6_judge_10 : decode cX6_judge 10 = .ok (.i2l, 1) := by decide +kernel
theorem dX6_judge_11 : decode cX6_judge 11 = .ok (.lsub, 1) := by decide +kernel
theorem dX6_judge_12 : decode cX6_judge 12 = .ok (.aload_n 0, 1) := by decide +kernel
theorem dX6_judge_13 : decode cX6_judge 13 = .ok (.invokevirtual 178, 3) := by decide +kernel
theorem dX6_judge_16 : decode cX6_judge 16 = .ok (.invokestatic 187, 3) := by decide +kernel
theorem dX6_judge_19 : decode cX6_judge 19 = .ok (.ireturn, 1) := by decide +kernel
theorem dX6_requireBetween_0 : decode cX6_requireBetween 0 = .ok (.iload_n 0, 1) := by decide +kernel
theorem dX6_requireBetween_1 : decode cX6_requireBetween 1 = .ok (.iload_n 1, 1) := by decide +kernel
theorem dX6_requireBetween_2 : decode cX6_requireBetween 2 = .ok (.if_icmp .lt 8, 3) := by decide +kernel
theorem dX6_requireBetween_5 : decode cX6_requireBetween 5 = .ok (.iload_n 0, 1) := by decide +kernel
theorem dX6_requireBetween_6 : decode cX6_requireBetween 6 = .ok (.iload_n 2, 1) := by decide +kernel
theorem dX6_requireBetween_7 : decode cX6_requireBetween 7 = .ok (.if_icmp .le 13, 3) := by decide +kernel
theorem dX6_requireBetween_10 : decode cX6_requireBetween 10 = .ok (.new 154, 3) := by decide +kernel
theorem dX6_requireBetween_13 : decode cX6_requireBetween 13 = .ok (.dup, 1) := by decide +kernel
theorem dX6_requireBetween_14 : decode cX6_requireBetween 14 = .ok (.ldc 191, 2) := by decide +kernel
theorem dX6_requireBetween_16 : decode cX6_requireBetween 16 = .ok (.invokespecial 158, 3) := by decide +kernel
theorem dX6_requireBetween_19 : decode cX6_requireBetween 19 = .ok (.athrow, 1) := by decide +kernel
theorem dX6_requireBetween_20 : decode cX6_requireBetween 20 = .ok (.return_, 1) := by decide +kernel
set_option maxRecDepth 20000 in
theorem ggX6_requireValue_X6_requireBetween : GoodIn wsX6_requireValue wsX6_requireBetween := goodIn_ca (goodIn_r _ [4, 5, 6] (by decide +kernel) (by decide +kernel)) (goodIn_sub (fun _ h => List.mem_cons_of_mem _ (List.mem_append_right _ h)) (by decide +kernel))
set_option maxRecDepth 20000 in
theorem gX6_requireValue_X6_requireBetween : GoodIn wsX6_requireValue (va_wsS RX6 81 yX6_requireBetween wsX6_requireBetween) := goodIn_app (goodIn_of _ (by decide +kernel)) ggX6_requireValue_X6_requireBetween
theorem dX6_requireValue_0 : decode cX6_requireValue 0 = .ok (.iload_n 0, 1) := by decide +kernel
theorem dX6_requireValue_1 : decode cX6_requireValue 1 = .ok (.sipush (-10000), 3) := by decide +kernel
theorem dX6_requireValue_4 : decode cX6_requireValue 4 = .ok (.sipush 10000, 3) := by decide +kernel
theorem dX6_requireValue_7 : decode cX6_requireValue 7 = .ok (.invokestatic 81, 3) := by decide +kernel
theorem dX6_requireValue_10 : decode cX6_requireValue 10 = .ok (.return_, 1) := by decide +kernel
theorem dX6_requireIndex_0 : decode cX6_requireIndex 0 = .ok (.iload_n 0, 1) := by decide +kernel
theorem dX6_requireIndex_1 : decode cX6_requireIndex 1 = .ok (.iload_n 1, 1) := by decide +kernel
theorem dX6_requireIndex_2 : decode cX6_requireIndex 2 = .ok (.if_icmp .lt 8, 3) := by decide +kernel
theorem dX6_requireIndex_5 : decode cX6_requireIndex 5 = .ok (.iload_n 0, 1) := by decide +kernel
theorem dX6_requireIndex_6 : decode cX6_requireIndex 6 = .ok (.iload_n 2, 1) := by decide +kernel
theorem dX6_requireIndex_7 : decode cX6_requireIndex 7 = .ok (.if_icmp .lt 13, 3) := by decide +kernel
theorem dX6_requireIndex_10 : decode cX6_requireIndex 10 = .ok (.new 193, 3) := by decide +kernel
theorem dX6_requireIndex_13 : decode cX6_requireIndex 13 = .ok (.dup, 1) := by decide +kernel
theorem dX6_requireIndex_14 : decode cX6_requireIndex 14 = .ok (.ldc 195, 2) := by decide +kernel
theorem dX6_requireIndex_16 : decode cX6_requireIndex 16 = .ok (.invokespecial 197, 3) := by decide +kernel
theorem dX6_requireIndex_19 : decode cX6_requireIndex 19 = .ok (.athrow, 1) := by decide +kernel
theorem dX6_requireIndex_20 : decode cX6_requireIndex 20 = .ok (.return_, 1) := by decide +kernel
set_option maxRecDepth 20000 in
theorem ggX6_requireNumber_X3_count : GoodIn wsX6_requireNumber wsX3_count := goodIn_r _ [6, 7, 23, 24, 25] (by decide +kernel) (by decide +kernel)
set_option maxRecDepth 20000 in
theorem gX6_requireNumber_X3_count : GoodIn wsX6_requireNumber (wsV RX6 71 RX3 yX3_count wsX3_count) := goodIn_app (goodIn_of _ (by decide +kernel)) ggX6_requireNumber_X3_count
set_option maxRecDepth 20000 in
theorem ggX6_requireNumber_X6_requireIndex : GoodIn wsX6_requireNumber wsX6_requireIndex := goodIn_ca (goodIn_r _ [11, 12, 13] (by decide +kernel) (by decide +kernel)) (goodIn_sub (fun _ h => List.mem_cons_of_mem _ (List.mem_append_right _ h)) (by decide +kernel))
set_option maxRecDepth 20000 in
theorem gX6_requireNumber_X6_requireIndex : GoodIn wsX6_requireNumber (va_wsS RX6 123 yX6_requireIndex wsX6_requireIndex) := goodIn_app (goodIn_of _ (by decide +kernel)) ggX6_requireNumber_X6_requireIndex
theorem dX6_requireNumber_0 : decode cX6_requireNumber 0 = .ok (.iload_n 1, 1) := by decide +kernel
theorem dX6_requireNumber_1 : decode cX6_requireNumber 1 = .ok (.iconst 0, 1) := by decide +kernel
theorem dX6_requireNumber_2 : decode cX6_requireNumber 2 = .ok (.aload_n 0, 1) := by decide +kernel
theorem dX6_requireNumber_3 : decode cX6_requireNumber 3 = .ok (.getfield 10, 3) := by decide +kernel
theorem dX6_requireNumber_6 : decode cX6_requireNumber 6 = .ok (.invokevirtual 71, 3) := by decide +kernel
theorem dX6_requireNumber_9 : decode cX6_requireNumber 9 = .ok (.invokestatic 123, 3) := by decide +kernel
theorem dX6_requireNumber_12 : decode cX6_requireNumber 12 = .ok (.return_, 1) := by decide +kernel
set_option maxRecDepth 20000 in
theorem ggX6_requireRoomFor_X3_count : GoodIn wsX6_requireRoomFor wsX3_count := goodIn_r _ [8, 9, 19, 20, 21] (by decide +kernel) (by decide +kernel)
set_option maxRecDepth 20000 in
theorem gX6_requireRoomFor_X3_count : GoodIn wsX6_requireRoomFor (wsV RX6 71 RX3 yX3_count wsX3_count) := goodIn_app (goodIn_of _ (by decide +kernel)) ggX6_requireRoomFor_X3_count
theorem dX6_requireRoomFor_0 : decode cX6_requireRoomFor 0 = .ok (.aload_n 0, 1) := by decide +kernel
theorem dX6_requireRoomFor_1 : decode cX6_requireRoomFor 1 = .ok (.getfield 10, 3) := by decide +kernel
theorem dX6_requireRoomFor_4 : decode cX6_requireRoomFor 4 = .ok (.invokevirtual 71, 3) := by decide +kernel
theorem dX6_requireRoomFor_7 : decode cX6_requireRoomFor 7 = .ok (.iload_n 1, 1) := by decide +kernel
theorem dX6_requireRoomFor_8 : decode cX6_requireRoomFor 8 = .ok (.iadd, 1) := by decide +kernel
theorem dX6_requireRoomFor_9 : decode cX6_requireRoomFor 9 = .ok (.bipush 60, 2) := by decide +kernel
theorem dX6_requireRoomFor_11 : decode cX6_requireRoomFor 11 = .ok (.if_icmp .le 13, 3) := by decide +kernel
theorem dX6_requireRoomFor_14 : decode cX6_requireRoomFor 14 = .ok (.new 164, 3) := by decide +kernel
theorem dX6_requireRoomFor_17 : decode cX6_requireRoomFor 17 = .ok (.dup, 1) := by decide +kernel
theorem dX6_requireRoomFor_18 : decode cX6_requireRoomFor 18 = .ok (.ldc 198, 2) := by decide +kernel
theorem dX6_requireRoomFor_20 : decode cX6_requireRoomFor 20 = .ok (.invokespecial 168, 3) := by decide +kernel
theorem dX6_requireRoomFor_23 : decode cX6_requireRoomFor 23 = .ok (.athrow, 1) := by decide +kernel
theorem dX6_requireRoomFor_24 : decode cX6_requireRoomFor 24 = .ok (.return_, 1) := by decide +kernel
theorem dX6_forgetSeasons_0 : decode cX6_forgetSeasons 0 = .ok (.aload_n 0, 1) := by decide +kernel
theorem dX6_forgetSeasons_1 : decode cX6_forgetSeasons 1 = .ok (.iconst 0, 1) := by decide +kernel
theorem dX6_forgetSeasons_2 : decode cX6_forgetSeasons 2 = .ok (.putfield 57, 3) := by decide +kernel
theorem dX6_forgetSeasons_5 : decode cX6_forgetSeasons 5 = .ok (.aload_n 0, 1) := by decide +kernel
theorem dX6_forgetSeasons_6 : decode cX6_forgetSeasons 6 = .ok (.iconst 0, 1) := by decide +kernel
theorem dX6_forgetSeasons_7 : decode cX6_forgetSeasons 7 = .ok (.putfield 61, 3) := by decide +kernel
theorem dX6_forgetSeasons_10 : decode cX6_forgetSeasons 10 = .ok (.return_, 1) := by decide +kernel
set_option maxRecDepth 20000 in
theorem ggX6_findSeasons_X1_find : GoodIn wsX6_findSeasons wsX1_find := goodIn_r _ [7, 8, 9, 10, 11, 12, 13, 14, 6, 15, 16, 17, 18, 19, 20, 21, 22, 23, 24, 25, 26, 27, 28, 29, 30, 31, 32, 33, 34, 35, 36, 37, 38, 39, 40, 41, 42, 43, 44, 45, 46, 47, 48, 49, 50, 51, 52, 53, 54, 55, 56, 57, 58, 59, 60, 61, 62, 63, 64, 65, 66, 67, 68, 69, 70, 71, 81, 82, 83, 84, 85, 86, 87, 88, 89, 90, 91, 92, 93] (by decide +kernel) (by decide +kernel)
set_option maxRecDepth 20000 in
theorem gX6_findSeasons_X1_find : GoodIn wsX6_findSeasons (wsV RX6 200 RX1 yX1_find wsX1_find) := goodIn_app (goodIn_of _ (by decide +kernel)) ggX6_findSeasons_X1_find
theorem dX6_findSeasons_0 : decode cX6_findSeasons 0 = .ok (.aload_n 0, 1) := by decide +kernel
theorem dX6_findSeasons_1 : decode cX6_findSeasons 1 = .ok (.getfield 57, 3) := by decide +kernel
theorem dX6_findSeasons_4 : decode cX6_findSeasons 4 = .ok (.ifCond .ne 15, 3) := by decide +kernel
theorem dX6_findSeasons_7 : decode cX6_findSeasons 7 = .ok (.aload_n 0, 1) := by decide +kernel
theorem dX6_findSeasons_8 : decode cX6_findSeasons 8 = .ok (.getfield 21, 3) := by decide +kernel
theorem dX6_findSeasons_11 : decode cX6_findSeasons 11 = .ok (.invokevirtual 200, 3) := by decide +kernel
theorem dX6_findSeasons_14 : decode cX6_findSeasons 14 = .ok (.aload_n 0, 1) := by decide +kernel
theorem dX6_findSeasons_15 : decode cX6_findSeasons 15 = .ok (.iconst 1, 1) := by decide +kernel
theorem dX6_findSeasons_16 : decode cX6_findSeasons 16 = .ok (.putfield 57, 3) := by decide +kernel
theorem dX6_findSeasons_19 : decode cX6_findSeasons 19 = .ok (.return_, 1) := by decide +kernel
set_option maxRecDepth 20000 in
theorem ggX6_findSegments_X6_findSeasons : GoodIn wsX6_findSegments wsX6_findSeasons := goodIn_r _ [7, 8, 9, 10, 11, 12, 13, 14, 15, 16, 17, 18, 19, 20, 21, 22, 23, 24, 25, 26, 27, 28, 29, 30, 31, 32, 33, 34, 35, 36, 37, 38, 39, 40, 41, 42, 43, 44, 45, 46, 47, 48, 49, 50, 51, 52, 53, 54, 55, 56, 57, 58, 59, 60, 61, 62, 63, 64, 65, 66, 67, 68, 69, 70, 71, 72, 73, 74, 75, 76, 77, 78, 136, 137, 138, 139, 140, 141, 142, 143, 144, 145, 146, 147, 148, 149, 150, 151, 152, 153, 154, 155, 156, 157] (by decide +kernel) (by decide +kernel)
set_option maxRecDepth 20000 in
theorem gX6_findSegments_X6_findSeasons : GoodIn wsX6_findSegments (wsV RX6 117 RX6 yX6_findSeasons wsX6_findSeasons) := goodIn_app (goodIn_of _ (by decide +kernel)) ggX6_findSegments_X6_findSeasons
set_option maxRecDepth 20000 in
theorem ggX6_findSegments_X2_findCuts : GoodIn wsX6_findSegments wsX2_findCuts := goodIn_r _ [83, 84, 85, 33, 34, 35, 36, 37, 86, 87, 88, 82, 89, 90, 91, 92, 93, 94, 95, 96, 26, 27, 28, 29, 30, 31, 97, 98, 99, 100, 101, 102, 70, 71, 72, 73, 74, 103, 104, 105, 106, 107, 108, 39, 40, 41, 42, 43, 44, 45, 46, 109, 110, 111, 13, 112, 17, 75, 76, 77, 78, 113, 53, 54, 55, 56, 114, 115, 116, 117, 118, 119, 120, 121, 122, 158, 159, 160, 161, 162, 163, 164, 165, 166, 167, 168, 169, 154, 155, 156, 151, 152, 153, 157, 145, 146, 147, 148, 149, 150] (by decide +kernel) (by decide +kernel)
set_option maxRecDepth 20000 in
theorem gX6_findSegments_X2_findCuts : GoodIn wsX6_findSegments (wsV RX6 203 RX2 yX2_findCuts wsX2_findCuts) := goodIn_app (goodIn_of _ (by decide +kernel)) ggX6_findSegments_X2_findCuts
set_option maxRecDepth 20000 in
theorem ggX6_findSegments_X2_followCuts : GoodIn wsX6_findSegments wsX2_followCuts := goodIn_r _ [126, 84, 127, 101, 90, 128, 129, 130, 85, 33, 34, 35, 36, 37, 118, 76, 77, 72, 78, 74, 131, 132, 133, 82, 134, 96, 26, 27, 28, 29, 30, 31, 103, 104, 105, 106, 107, 108, 39, 40, 41, 42, 43, 44, 45, 46, 109, 110, 111, 13, 112, 17, 75, 113, 53, 54, 55, 56, 135, 58, 59, 60, 102, 70, 71, 73, 158, 159, 160, 161, 162, 163, 164, 165, 166, 167, 168, 169, 154, 155, 156, 157, 151, 152, 153, 145, 146, 147, 148, 149, 150] (by decide +kernel) (by decide +kernel)
set_option maxRecDepth 20000 in
theorem gX6_findSegments_X2_followCuts : GoodIn wsX6_findSegments (wsV RX6 206 RX2 yX2_followCuts wsX2_followCuts) := goodIn_app (goodIn_of _ (by decide +kernel)) ggX6_findSegments_X2_followCuts
theorem dX6_findSegments_0 : decode cX6_findSegments 0 = .ok (.aload_n 0, 1) := by decide +kernel
theorem dX6_findSegments_1 : decode cX6_findSegments 1 = .ok (.invokevirtual 117, 3) := by decide +kernel
theorem dX6_findSegments_4 : decode cX6_findSegments 4 = .ok (.aload_n 0, 1) := by decide +kernel
theorem dX6_findSegments_5 : decode cX6_findSegments 5 = .ok (.getfield 61, 3) := by decide +kernel
theorem dX6_findSegments_8 : decode cX6_findSegments 8 = .ok (.ifCond .ne 22, 3) := by decide +kernel
theorem dX6_findSegments_11 : decode cX6_findSegments 11 = .ok (.aload_n 0, 1) := by decide +kernel
theorem dX6_findSegments_12 : decode cX6_findSegments 12 = .ok (.getfield 30, 3) := by decide +kernel
theorem dX6_findSegments_15 : decode cX6_findSegments 15 = .ok (.invokevirtual 203, 3) := by decide +kernel
theorem dX6_findSegments_18 : decode cX6_findSegments 18 = .ok (.aload_n 0, 1) := by decide +kernel
theorem dX6_findSegments_19 : decode cX6_findSegments 19 = .ok (.getfield 30, 3) := by decide +kernel
theorem dX6_findSegments_22 : decode cX6_findSegments 22 = .ok (.invokevirtual 206, 3) := by decide +kernel
theorem dX6_findSegments_25 : decode cX6_findSegments 25 = .ok (.aload_n 0, 1) := by decide +kernel
theorem dX6_findSegments_26 : decode cX6_findSegments 26 = .ok (.iconst 1, 1) := by decide +kernel
theorem dX6_findSegments_27 : decode cX6_findSegments 27 = .ok (.putfield 61, 3) := by decide +kernel
theorem dX6_findSegments_30 : decode cX6_findSegments 30 = .ok (.return_, 1) := by decide +kernel
set_option maxRecDepth 20000 in
theorem ggX6_residualAt_X1_adjustedAt : GoodIn wsX6_residualAt wsX1_adjustedAt := goodIn_r _ [7, 8, 9, 10, 11, 12, 13, 14, 31, 32, 33, 34, 35, 36, 37] (by decide +kernel) (by decide +kernel)
set_option maxRecDepth 20000 in
theorem gX6_residualAt_X1_adjustedAt : GoodIn wsX6_residualAt (wsV RX6 129 RX1 yX1_adjustedAt wsX1_adjustedAt) := goodIn_app (goodIn_of _ (by decide +kernel)) ggX6_residualAt_X1_adjustedAt
set_option maxRecDepth 20000 in
theorem ggX6_residualAt_X2_levelAtValue : GoodIn wsX6_residualAt wsX2_levelAtValue := goodIn_r _ [19, 20, 21, 10, 11, 12, 13, 14, 38, 39, 40, 41, 42, 43, 44, 45, 46, 47, 48, 49, 37] (by decide +kernel) (by decide +kernel)
set_option maxRecDepth 20000 in
theorem gX6_residualAt_X2_levelAtValue : GoodIn wsX6_residualAt (wsV RX6 209 RX2 yX2_levelAtValue wsX2_levelAtValue) := goodIn_app (goodIn_of _ (by decide +kernel)) ggX6_residualAt_X2_levelAtValue
theorem dX6_residualAt_0 : decode cX6_residualAt 0 = .ok (.aload_n 0, 1) := by decide +kernel
theorem dX6_residualAt_1 : decode cX6_residualAt 1 = .ok (.getfield 21, 3) := by decide +kernel
theorem dX6_residualAt_4 : decode cX6_residualAt 4 = .ok (.iload_n 1, 1) := by decide +kernel
theorem dX6_residualAt_5 : decode cX6_residualAt 5 = .ok (.invokevirtual 129, 3) := by decide +kernel
theorem dX6_residualAt_8 : decode cX6_residualAt 8 = .ok (.aload_n 0, 1) := by decide +kernel
theorem dX6_residualAt_9 : decode cX6_residualAt 9 = .ok (.getfield 30, 3) := by decide +kernel
theorem dX6_residualAt_12 : decode cX6_residualAt 12 = .ok (.iload_n 1, 1) := by decide +kernel
theorem dX6_residualAt_13 : decode cX6_residualAt 13 = .ok (.invokevirtual 209, 3) := by decide +kernel
theorem dX6_residualAt_16 : decode cX6_residualAt 16 = .ok (.isub, 1) := by decide +kernel
theorem dX6_residualAt_17 : decode cX6_residualAt 17 = .ok (.ireturn, 1) := by decide +kernel
set_option maxRecDepth 20000 in
theorem ggX6_medianDeviation_X4_clear : GoodIn wsX6_medianDeviation wsX4_clear := goodIn_r _ [11, 12, 13, 73, 74, 75] (by decide +kernel) (by decide +kernel)
set_option maxRecDepth 20000 in
theorem gX6_medianDeviation_X4_clear : GoodIn wsX6_medianDeviation (wsV RX6 212 RX4 yX4_clear wsX4_clear) := goodIn_app (goodIn_of _ (by decide +kernel)) ggX6_medianDeviation_X4_clear
set_option maxRecDepth 20000 in
theorem ggX6_medianDeviation_X3_count : GoodIn wsX6_medianDeviation wsX3_count := goodIn_r _ [18, 19, 76, 77, 78] (by decide +kernel) (by decide +kernel)
set_option maxRecDepth 20000 in
theorem gX6_medianDeviation_X3_count : GoodIn wsX6_medianDeviation (wsV RX6 71 RX3 yX3_count wsX3_count) := goodIn_app (goodIn_of _ (by decide +kernel)) ggX6_medianDeviation_X3_count
set_option maxRecDepth 20000 in
theorem ggX6_medianDeviation_X3_isHoliday : GoodIn wsX6_medianDeviation wsX3_isHoliday := goodIn_r _ [23, 24, 25, 26, 27, 17, 28, 19, 76, 77, 78] (by decide +kernel) (by decide +kernel)
set_option maxRecDepth 20000 in
theorem gX6_medianDeviation_X3_isHoliday : GoodIn wsX6_medianDeviation (wsV RX6 96 RX3 yX3_isHoliday wsX3_isHoliday) := goodIn_app (goodIn_of _ (by decide +kernel)) ggX6_medianDeviation_X3_isHoliday
set_option maxRecDepth 20000 in
theorem ggX6_medianDeviation_X6_residualAt : GoodIn wsX6_medianDeviation wsX6_residualAt := goodIn_r _ [33, 34, 35, 36, 37, 38, 39, 40, 41, 42, 43, 44, 45, 46, 47, 48, 49, 50, 51, 52, 53, 54, 64, 65, 66, 67, 68, 69, 70, 71, 72, 79, 80, 81, 82, 83, 84, 85, 86, 87, 88, 89, 90, 91, 92, 93, 94, 95, 96, 97] (by decide +kernel) (by decide +kernel)
set_option maxRecDepth 20000 in
theorem gX6_medianDeviation_X6_residualAt : GoodIn wsX6_medianDeviation (wsV RX6 172 RX6 yX6_residualAt wsX6_residualAt) := goodIn_app (goodIn_of _ (by decide +kernel)) ggX6_medianDeviation_X6_residualAt
set_option maxRecDepth 20000 in
theorem ggX6_medianDeviation_X4_insert : GoodIn wsX6_medianDeviation wsX4_insert := goodIn_r _ [58, 12, 59, 13, 73, 74, 75] (by decide +kernel) (by decide +kernel)
set_option maxRecDepth 20000 in
theorem gX6_medianDeviation_X4_insert : GoodIn wsX6_medianDeviation (wsV RX6 220 RX4 yX4_insert wsX4_insert) := goodIn_app (goodIn_of _ (by decide +kernel)) ggX6_medianDeviation_X4_insert
set_option maxRecDepth 20000 in
theorem ggX6_medianDeviation_X4_median : GoodIn wsX6_medianDeviation wsX4_median := goodIn_r _ [63, 12, 59, 73, 74, 75] (by decide +kernel) (by decide +kernel)
set_option maxRecDepth 20000 in
theorem gX6_medianDeviation_X4_median : GoodIn wsX6_medianDeviation (wsV RX6 223 RX4 yX4_median wsX4_median) := goodIn_app (goodIn_of _ (by decide +kernel)) ggX6_medianDeviation_X4_median
theorem dX6_medianDeviation_0 : decode cX6_medianDeviation 0 = .ok (.aload_n 0, 1) := by decide +kernel
theorem dX6_medianDeviation_1 : decode cX6_medianDeviation 1 = .ok (.getfield 46, 3) := by decide +kernel
theorem dX6_medianDeviation_4 : decode cX6_medianDeviation 4 = .ok (.invokevirtual 212, 3) := by decide +kernel
theorem dX6_medianDeviation_7 : decode cX6_medianDeviation 7 = .ok (.iconst 0, 1) := by decide +kernel
theorem dX6_medianDeviation_8 : decode cX6_medianDeviation 8 = .ok (.istore_n 1, 1) := by decide +kernel
theorem dX6_medianDeviation_9 : decode cX6_medianDeviation 9 = .ok (.iload_n 1, 1) := by decide +kernel
theorem dX6_medianDeviation_10 : decode cX6_medianDeviation 10 = .ok (.aload_n 0, 1) := by decide +kernel
theorem dX6_medianDeviation_11 : decode cX6_medianDeviation 11 = .ok (.getfield 10, 3) := by decide +kernel
theorem dX6_medianDeviation_14 : decode cX6_medianDeviation 14 = .ok (.invokevirtual 71, 3) := by decide +kernel
theorem dX6_medianDeviation_17 : decode cX6_medianDeviation 17 = .ok (.if_icmp .ge 35, 3) := by decide +kernel
theorem dX6_medianDeviation_20 : decode cX6_medianDeviation 20 = .ok (.aload_n 0, 1) := by decide +kernel
theorem dX6_medianDeviation_21 : decode cX6_medianDeviation 21 = .ok (.getfield 10, 3) := by decide +kernel
theorem dX6_medianDeviation_24 : decode cX6_medianDeviation 24 = .ok (.iload_n 1, 1) := by decide +kernel
theorem dX6_medianDeviation_25 : decode cX6_medianDeviation 25 = .ok (.invokevirtual 96, 3) := by decide +kernel
theorem dX6_medianDeviation_28 : decode cX6_medianDeviation 28 = .ok (.ifCond .ne 18, 3) := by decide +kernel
theorem dX6_medianDeviation_31 : decode cX6_medianDeviation 31 = .ok (.aload_n 0, 1) := by decide +kernel
theorem dX6_medianDeviation_32 : decode cX6_medianDeviation 32 = .ok (.getfield 46, 3) := by decide +kernel
theorem dX6_medianDeviation_35 : decode cX6_medianDeviation 35 = .ok (.aload_n 0, 1) := by decide +kernel
theorem dX6_medianDeviation_36 : decode cX6_medianDeviation 36 = .ok (.iload_n 1, 1) := by decide +kernel
theorem dX6_medianDeviation_37 : decode cX6_medianDeviation 37 = .ok (.invokevirtual 172, 3) := by decide +kernel
theorem dX6_medianDeviation_40 : decode cX6_medianDeviation 40 = .ok (.invokestatic 215, 3) := by decide +kernel
theorem dX6_medianDeviation_43 : decode cX6_medianDeviation 43 = .ok (.invokevirtual 220, 3) := by decide +kernel
theorem dX6_medianDeviation_46 : decode cX6_medianDeviation 46 = .ok (.iinc 1 1, 3) := by decide +kernel
theorem dX6_medianDeviation_49 : decode cX6_medianDeviation 49 = .ok (.goto (-40), 3) := by decide +kernel
theorem dX6_medianDeviation_52 : decode cX6_medianDeviation 52 = .ok (.aload_n 0, 1) := by decide +kernel
theorem dX6_medianDeviation_53 : decode cX6_medianDeviation 53 = .ok (.getfield 46, 3) := by decide +kernel
theorem dX6_medianDeviation_56 : decode cX6_medianDeviation 56 = .ok (.invokevirtual 223, 3) := by decide +kernel
theorem dX6_medianDeviation_59 : decode cX6_medianDeviation 59 = .ok (.ireturn, 1) := by decide +kernel
set_option maxRecDepth 20000 in
theorem ggX6_boundOfNow_X6_medianDeviation : GoodIn wsX6_boundOfNow wsX6_medianDeviation := goodIn_r _ [11, 12, 13, 14, 15, 5, 16, 17, 18, 19, 20, 21, 22, 23, 24, 25, 26, 27, 28, 29, 30, 31, 32, 33, 34, 35, 36, 37, 38, 39, 40, 41, 10, 42, 43, 44, 45, 46, 47, 48, 49, 50, 51, 52, 53, 54, 55, 56, 57, 58, 59, 60, 61, 62, 63, 64, 65, 66, 67, 68, 69, 70, 71, 72, 73, 74, 75, 76, 77, 78, 79, 80, 81, 82, 83, 84, 85, 86, 87, 88, 89, 90, 91, 92, 93, 94, 95, 96, 97, 98, 99, 100, 101, 102, 103, 104, 105, 106] (by decide +kernel) (by decide +kernel)
set_option maxRecDepth 20000 in
theorem gX6_boundOfNow_X6_medianDeviation : GoodIn wsX6_boundOfNow (wsV RX6 175 RX6 yX6_medianDeviation wsX6_medianDeviation) := goodIn_app (goodIn_of _ (by decide +kernel)) ggX6_boundOfNow_X6_medianDeviation
theorem dX6_boundOfNow_0 : decode cX6_boundOfNow 0 = .ok (.aload_n 0, 1) := by decide +kernel
theorem dX6_boundOfNow_1 : decode cX6_boundOfNow 1 = .ok (.getfield 50, 3) := by decide +kernel
theorem dX6_boundOfNow_4 : decode cX6_boundOfNow 4 = .ok (.aload_n 0, 1) := by decide +kernel
theorem dX6_boundOfNow_5 : decode cX6_boundOfNow 5 = .ok (.invokevirtual 175, 3) := by decide +kernel
theorem dX6_boundOfNow_8 : decode cX6_boundOfNow 8 = .ok (.imul, 1) := by decide +kernel
theorem dX6_boundOfNow_9 : decode cX6_boundOfNow 9 = .ok (.bipush 100, 2) := by decide +kernel
theorem dX6_boundOfNow_11 : decode cX6_boundOfNow 11 = .ok (.idiv, 1) := by decide +kernel
theorem dX6_boundOfNow_12 : decode cX6_boundOfNow 12 = .ok (.aload_n 0, 1) := by decide +kernel
theorem dX6_boundOfNow_13 : decode cX6_boundOfNow 13 = .ok (.getfield 54, 3) := by decide +kernel
theorem dX6_boundOfNow_16 : decode cX6_boundOfNow 16 = .ok (.invokestatic 226, 3) := by decide +kernel
theorem dX6_boundOfNow_19 : decode cX6_boundOfNow 19 = .ok (.ireturn, 1) := by decide +kernel
set_option maxRecDepth 20000 in
theorem ggX6_expectedNext_X2_lastLevel : GoodIn wsX6_expectedNext wsX2_lastLevel := goodIn_r _ [8, 9, 10, 11, 12, 13, 14, 15, 16, 44, 45, 46, 47, 48, 49, 50, 51, 52, 53, 54, 55, 56] (by decide +kernel) (by decide +kernel)
set_option maxRecDepth 20000 in
theorem gX6_expectedNext_X2_lastLevel : GoodIn wsX6_expectedNext (wsV RX6 229 RX2 yX2_lastLevel wsX2_lastLevel) := goodIn_app (goodIn_of _ (by decide +kernel)) ggX6_expectedNext_X2_lastLevel
set_option maxRecDepth 20000 in
theorem ggX6_expectedNext_X3_count : GoodIn wsX6_expectedNext wsX3_count := goodIn_r _ [21, 22, 57, 58, 59] (by decide +kernel) (by decide +kernel)
set_option maxRecDepth 20000 in
theorem gX6_expectedNext_X3_count : GoodIn wsX6_expectedNext (wsV RX6 71 RX3 yX3_count wsX3_count) := goodIn_app (goodIn_of _ (by decide +kernel)) ggX6_expectedNext_X3_count
set_option maxRecDepth 20000 in
theorem ggX6_expectedNext_X1_phaseOf : GoodIn wsX6_expectedNext wsX1_phaseOf := goodIn_r _ [27, 28, 60, 61, 62, 63, 64, 65] (by decide +kernel) (by decide +kernel)
set_option maxRecDepth 20000 in
theorem gX6_expectedNext_X1_phaseOf : GoodIn wsX6_expectedNext (wsV RX6 232 RX1 yX1_phaseOf wsX1_phaseOf) := goodIn_app (goodIn_of _ (by decide +kernel)) ggX6_expectedNext_X1_phaseOf
set_option maxRecDepth 20000 in
theorem ggX6_expectedNext_X1_ofPhase : GoodIn wsX6_expectedNext wsX1_ofPhase := goodIn_r _ [32, 33, 34, 12, 13, 14, 15, 16, 60, 61, 62, 63, 64, 65, 56] (by decide +kernel) (by decide +kernel)
set_option maxRecDepth 20000 in
theorem gX6_expectedNext_X1_ofPhase : GoodIn wsX6_expectedNext (wsV RX6 126 RX1 yX1_ofPhase wsX1_ofPhase) := goodIn_app (goodIn_of _ (by decide +kernel)) ggX6_expectedNext_X1_ofPhase
theorem dX6_expectedNext_0 : decode cX6_expectedNext 0 = .ok (.aload_n 0, 1) := by decide +kernel
theorem dX6_expectedNext_1 : decode cX6_expectedNext 1 = .ok (.getfield 30, 3) := by decide +kernel
theorem dX6_expectedNext_4 : decode cX6_expectedNext 4 = .ok (.invokevirtual 229, 3) := by decide +kernel
theorem dX6_expectedNext_7 : decode cX6_expectedNext 7 = .ok (.aload_n 0, 1) := by decide +kernel
theorem dX6_expectedNext_8 : decode cX6_expectedNext 8 = .ok (.getfield 21, 3) := by decide +kernel
theorem dX6_expectedNext_11 : decode cX6_expectedNext 11 = .ok (.aload_n 0, 1) := by decide +kernel
theorem dX6_expectedNext_12 : decode cX6_expectedNext 12 = .ok (.getfield 21, 3) := by decide +kernel
theorem dX6_expectedNext_15 : decode cX6_expectedNext 15 = .ok (.aload_n 0, 1) := by decide +kernel
theorem dX6_expectedNext_16 : decode cX6_expectedNext 16 = .ok (.getfield 10, 3) := by decide +kernel
theorem dX6_expectedNext_19 : decode cX6_expectedNext 19 = .ok (.invokevirtual 71, 3) := by decide +kernel
theorem dX6_expectedNext_22 : decode cX6_expectedNext 22 = .ok (.invokevirtual 232, 3) := by decide +kernel
theorem dX6_expectedNext_25 : decode cX6_expectedNext 25 = .ok (.invokevirtual 126, 3) := by decide +kernel
theorem dX6_expectedNext_28 : decode cX6_expectedNext 28 = .ok (.iadd, 1) := by decide +kernel
theorem dX6_expectedNext_29 : decode cX6_expectedNext 29 = .ok (.ireturn, 1) := by decide +kernel
set_option maxRecDepth 20000 in
theorem ggX6_verdictWithin_X3_isHoliday : GoodIn wsX6_verdictWithin wsX3_isHoliday := goodIn_r _ [6, 7, 8, 9, 10, 5, 11, 12, 51, 52, 53] (by decide +kernel) (by decide +kernel)
set_option maxRecDepth 20000 in
theorem gX6_verdictWithin_X3_isHoliday : GoodIn wsX6_verdictWithin (wsV RX6 96 RX3 yX3_isHoliday wsX3_isHoliday) := goodIn_app (goodIn_of _ (by decide +kernel)) ggX6_verdictWithin_X3_isHoliday
set_option maxRecDepth 20000 in
theorem ggX6_verdictWithin_X6_residualAt : GoodIn wsX6_verdictWithin wsX6_residualAt := goodIn_r _ [17, 18, 19, 20, 21, 22, 23, 24, 25, 26, 27, 28, 29, 30, 31, 32, 33, 34, 35, 36, 37, 38, 42, 43, 44, 45, 46, 47, 48, 49, 50, 54, 55, 56, 57, 58, 59, 60, 61, 62, 63, 64, 65, 66, 67, 68, 69, 70, 71, 72] (by decide +kernel) (by decide +kernel)
set_option maxRecDepth 20000 in
theorem gX6_verdictWithin_X6_residualAt : GoodIn wsX6_verdictWithin (wsV RX6 172 RX6 yX6_residualAt wsX6_residualAt) := goodIn_app (goodIn_of _ (by decide +kernel)) ggX6_verdictWithin_X6_residualAt
set_option maxRecDepth 20000 in
theorem ggX6_verdictWithin_X6_sideOf : GoodIn wsX6_verdictWithin wsX6_sideOf := goodIn_r _ [41] (by decide +kernel) (by decide +kernel)
set_option maxRecDepth 20000 in
theorem gX6_verdictWithin_X6_sideOf : GoodIn wsX6_verdictWithin (va_wsS RX6 187 yX6_sideOf wsX6_sideOf) := goodIn_app (goodIn_of _ (by decide +kernel)) ggX6_verdictWithin_X6_sideOf
theorem dX6_verdictWithin_0 : decode cX6_verdictWithin 0 = .ok (.aload_n 0, 1) := by decide +kernel
theorem dX6_verdictWithin_1 : decode cX6_verdictWithin 1 = .ok (.getfield 10, 3) := by decide +kernel
theorem dX6_verdictWithin_4 : decode cX6_verdictWithin 4 = .ok (.iload_n 1, 1) := by decide +kernel
theorem dX6_verdictWithin_5 : decode cX6_verdictWithin 5 = .ok (.invokevirtual 96, 3) := by decide +kernel
theorem dX6_verdictWithin_8 : decode cX6_verdictWithin 8 = .ok (.ifCond .eq 7, 3) := by decide +kernel
theorem dX6_verdictWithin_11 : decode cX6_verdictWithin 11 = .ok (.iconst 3, 1) := by decide +kernel
theorem dX6_verdictWithin_12 : decode cX6_verdictWithin 12 = .ok (.goto 13, 3) := by decide +kernel
theorem dX6_verdictWithin_15 : decode cX6_verdictWithin 15 = .ok (.aload_n 0, 1) := by decide +kernel
theorem dX6_verdictWithin_16 : decode cX6_verdictWithin 16 = .ok (.iload_n 1, 1) := by decide +kernel
theorem dX6_verdictWithin_17 : decode cX6_verdictWithin 17 = .ok (.invokevirtual 172, 3) := by decide +kernel
theorem dX6_verdictWithin_20 : decode cX6_verdictWithin 20 = .ok (.i2l, 1) := by decide +kernel
theorem dX6_verdictWithin_21 : decode cX6_verdictWithin 21 = .ok (.iload_n 2, 1) := by decide +kernel
theorem dX6_verdictWithin_22 : decode cX6_verdictWithin 22 = .ok (.invokestatic 187, 3) := by decide +kernel
theorem dX6_verdictWithin_25 : decode cX6_verdictWithin 25 = .ok (.ireturn, 1) := by decide +kernel
theorem dX6_sideOf_0 : decode cX6_sideOf 0 = .ok (.lload_n 0, 1) := by decide +kernel
theorem dX6_sideOf_1 : decode cX6_sideOf 1 = .ok (.iload_n 2, 1) := by decide +kernel
theorem dX6_sideOf_2 : decode cX6_sideOf 2 = .ok (.i2l, 1) := by decide +kernel
theorem dX6_sideOf_3 : decode cX6_sideOf 3 = .ok (.lcmp, 1) := by decide +kernel
theorem dX6_sideOf_4 : decode cX6_sideOf 4 = .ok (.ifCond .le 5, 3) := by decide +kernel
theorem dX6_sideOf_7 : decode cX6_sideOf 7 = .ok (.iconst 1, 1) := by decide +kernel
theorem dX6_sideOf_8 : decode cX6_sideOf 8 = .ok (.ireturn, 1) := by decide +kernel
theorem dX6_sideOf_9 : decode cX6_sideOf 9 = .ok (.lload_n 0, 1) := by decide +kernel
theorem dX6_sideOf_10 : decode cX6_sideOf 10 = .ok (.iload_n 2, 1) := by decide +kernel
theorem dX6_sideOf_11 : decode cX6_sideOf 11 = .ok (.ineg, 1) := by decide +kernel
theorem dX6_sideOf_12 : decode cX6_sideOf 12 = .ok (.i2l, 1) := by decide +kernel
theorem dX6_sideOf_13 : decode cX6_sideOf 13 = .ok (.lcmp, 1) := by decide +kernel
theorem dX6_sideOf_14 : decode cX6_sideOf 14 = .ok (.ifCond .ge 7, 3) := by decide +kernel
theorem dX6_sideOf_17 : decode cX6_sideOf 17 = .ok (.iconst 2, 1) := by decide +kernel
theorem dX6_sideOf_18 : decode cX6_sideOf 18 = .ok (.goto 4, 3) := by decide +kernel
theorem dX6_sideOf_21 : decode cX6_sideOf 21 = .ok (.iconst 0, 1) := by decide +kernel
theorem dX6_sideOf_22 : decode cX6_sideOf 22 = .ok (.ireturn, 1) := by decide +kernel
theorem dX7_init_0 : decode cX7_init 0 = .ok (.aload_n 0, 1) := by decide +kernel
theorem dX7_init_1 : decode cX7_init 1 = .ok (.invokespecial 1, 3) := by decide +kernel
theorem dX7_init_4 : decode cX7_init 4 = .ok (.aload_n 0, 1) := by decide +kernel
theorem dX7_init_5 : decode cX7_init 5 = .ok (.bipush 60, 2) := by decide +kernel
theorem dX7_init_7 : decode cX7_init 7 = .ok (.newarray .int, 2) := by decide +kernel
theorem dX7_init_9 : decode cX7_init 9 = .ok (.putfield 7, 3) := by decide +kernel
theorem dX7_init_12 : decode cX7_init 12 = .ok (.aload_n 0, 1) := by decide +kernel
theorem dX7_init_13 : decode cX7_init 13 = .ok (.bipush 60, 2) := by decide +kernel
theorem dX7_init_15 : decode cX7_init 15 = .ok (.newarray .boolean, 2) := by decide +kernel
theorem dX7_init_17 : decode cX7_init 17 = .ok (.putfield 13, 3) := by decide +kernel
theorem dX7_init_20 : decode cX7_init 20 = .ok (.aload_n 0, 1) := by decide +kernel
theorem dX7_init_21 : decode cX7_init 21 = .ok (.iconst 1, 1) := by decide +kernel
theorem dX7_init_22 : decode cX7_init 22 = .ok (.putfield 17, 3) := by decide +kernel
theorem dX7_init_25 : decode cX7_init 25 = .ok (.aload_n 0, 1) := by decide +kernel
theorem dX7_init_26 : decode cX7_init 26 = .ok (.iconst 2, 1) := by decide +kernel
theorem dX7_init_27 : decode cX7_init 27 = .ok (.putfield 21, 3) := by decide +kernel
theorem dX7_init_30 : decode cX7_init 30 = .ok (.aload_n 0, 1) := by decide +kernel
theorem dX7_init_31 : decode cX7_init 31 = .ok (.bipush 100, 2) := by decide +kernel
theorem dX7_init_33 : decode cX7_init 33 = .ok (.putfield 24, 3) := by decide +kernel
theorem dX7_init_36 : decode cX7_init 36 = .ok (.aload_n 0, 1) := by decide +kernel
theorem dX7_init_37 : decode cX7_init 37 = .ok (.sipush 300, 3) := by decide +kernel
theorem dX7_init_40 : decode cX7_init 40 = .ok (.putfield 27, 3) := by decide +kernel
theorem dX7_init_43 : decode cX7_init 43 = .ok (.aload_n 0, 1) := by decide +kernel
theorem dX7_init_44 : decode cX7_init 44 = .ok (.iconst 1, 1) := by decide +kernel
theorem dX7_init_45 : decode cX7_init 45 = .ok (.putfield 30, 3) := by decide +kernel
theorem dX7_init_48 : decode cX7_init 48 = .ok (.aload_n 0, 1) := by decide +kernel
theorem dX7_init_49 : decode cX7_init 49 = .ok (.bipush 60, 2) := by decide +kernel
theorem dX7_init_51 : decode cX7_init 51 = .ok (.newarray .int, 2) := by decide +kernel
theorem dX7_init_53 : decode cX7_init 53 = .ok (.putfield 33, 3) := by decide +kernel
theorem dX7_init_56 : decode cX7_init 56 = .ok (.aload_n 0, 1) := by decide +kernel
theorem dX7_init_57 : decode cX7_init 57 = .ok (.bipush 12, 2) := by decide +kernel
theorem dX7_init_59 : decode cX7_init 59 = .ok (.newarray .int, 2) := by decide +kernel
theorem dX7_init_61 : decode cX7_init 61 = .ok (.putfield 36, 3) := by decide +kernel
theorem dX7_init_64 : decode cX7_init 64 = .ok (.aload_n 0, 1) := by decide +kernel
theorem dX7_init_65 : decode cX7_init 65 = .ok (.bipush 60, 2) := by decide +kernel
theorem dX7_init_67 : decode cX7_init 67 = .ok (.newarray .int, 2) := by decide +kernel
theorem dX7_init_69 : decode cX7_init 69 = .ok (.putfield 39, 3) := by decide +kernel
theorem dX7_init_72 : decode cX7_init 72 = .ok (.aload_n 0, 1) := by decide +kernel
theorem dX7_init_73 : decode cX7_init 73 = .ok (.sipush 3721, 3) := by decide +kernel
theorem dX7_init_76 : decode cX7_init 76 = .ok (.newarray .int, 2) := by decide +kernel
theorem dX7_init_78 : decode cX7_init 78 = .ok (.putfield 42, 3) := by decide +kernel
theorem dX7_init_81 : decode cX7_init 81 = .ok (.aload_n 0, 1) := by decide +kernel
theorem dX7_init_82 : decode cX7_init 82 = .ok (.sipush 3721, 3) := by decide +kernel
theorem dX7_init_85 : decode cX7_init 85 = .ok (.newarray .int, 2) := by decide +kernel
theorem dX7_init_87 : decode cX7_init 87 = .ok (.putfield 45, 3) := by decide +kernel
theorem dX7_init_90 : decode cX7_init 90 = .ok (.aload_n 0, 1) := by decide +kernel
theorem dX7_init_91 : decode cX7_init 91 = .ok (.bipush 61, 2) := by decide +kernel
theorem dX7_init_93 : decode cX7_init 93 = .ok (.newarray .int, 2) := by decide +kernel
theorem dX7_init_95 : decode cX7_init 95 = .ok (.putfield 48, 3) := by decide +kernel
theorem dX7_init_98 : decode cX7_init 98 = .ok (.aload_n 0, 1) := by decide +kernel
theorem dX7_init_99 : decode cX7_init 99 = .ok (.bipush 61, 2) := by decide +kernel
theorem dX7_init_101 : decode cX7_init 101 = .ok (.newarray .int, 2) := by decide +kernel
theorem dX7_init_103 : decode cX7_init 103 = .ok (.putfield 51, 3) := by decide +kernel
theorem dX7_init_106 : decode cX7_init 106 = .ok (.aload_n 0, 1) := by decide +kernel
theorem dX7_init_107 : decode cX7_init 107 = .ok (.bipush 60, 2) := by decide +kernel
theorem dX7_init_109 : decode cX7_init 109 = .ok (.newarray .int, 2) := by decide +kernel
theorem dX7_init_111 : decode cX7_init 111 = .ok (.putfield 54, 3) := by decide +kernel
theorem dX7_init_114 : decode cX7_init 114 = .ok (.return_, 1) := by decide +kernel
theorem dX7_thrown_0 : decode cX7_thrown 0 = .ok (.aload_n 0, 1) := by decide +kernel
theorem dX7_thrown_1 : decode cX7_thrown 1 = .ok (.getfield 57, 3) := by decide +kernel
theorem dX7_thrown_4 : decode cX7_thrown 4 = .ok (.ireturn, 1) := by decide +kernel
theorem dX7_fails_0 : decode cX7_fails 0 = .ok (.aload_n 0, 1) := by decide +kernel
theorem dX7_fails_1 : decode cX7_fails 1 = .ok (.iload_n 1, 1) := by decide +kernel
theorem dX7_fails_2 : decode cX7_fails 2 = .ok (.putfield 57, 3) := by decide +kernel
theorem dX7_fails_5 : decode cX7_fails 5 = .ok (.iconst 0, 1) := by decide +kernel
theorem dX7_fails_6 : decode cX7_fails 6 = .ok (.ireturn, 1) := by decide +kernel
theorem dX7_in_0 : decode cX7_in 0 = .ok (.iload_n 0, 1) := by decide +kernel
theorem dX7_in_1 : decode cX7_in 1 = .ok (.iload_n 1, 1) := by decide +kernel
theorem dX7_in_2 : decode cX7_in 2 = .ok (.if_icmp .lt 12, 3) := by decide +kernel
theorem dX7_in_5 : decode cX7_in 5 = .ok (.iload_n 0, 1) := by decide +kernel
theorem dX7_in_6 : decode cX7_in 6 = .ok (.iload_n 2, 1) := by decide +kernel
theorem dX7_in_7 : decode cX7_in 7 = .ok (.if_icmp .gt 7, 3) := by decide +kernel
theorem dX7_in_10 : decode cX7_in 10 = .ok (.iconst 1, 1) := by decide +kernel
theorem dX7_in_11 : decode cX7_in 11 = .ok (.goto 4, 3) := by decide +kernel
theorem dX7_in_14 : decode cX7_in 14 = .ok (.iconst 0, 1) := by decide +kernel
theorem dX7_in_15 : decode cX7_in 15 = .ok (.ireturn, 1) := by decide +kernel
set_option maxRecDepth 20000 in
theorem ggX7_isValue_X7_in : GoodIn wsX7_isValue wsX7_in := goodIn_r _ [5] (by decide +kernel) (by decide +kernel)
set_option maxRecDepth 20000 in
theorem gX7_isValue_X7_in : GoodIn wsX7_isValue (va_wsS RX7 63 yX7_in wsX7_in) := goodIn_app (goodIn_of _ (by decide +kernel)) ggX7_isValue_X7_in
theorem dX7_isValue_0 : decode cX7_isValue 0 = .ok (.iload_n 1, 1) := by decide +kernel
theorem dX7_isValue_1 : decode cX7_isValue 1 = .ok (.iconst 0, 1) := by decide +kernel
theorem dX7_isValue_2 : decode cX7_isValue 2 = .ok (.aload_n 0, 1) := by decide +kernel
theorem dX7_isValue_3 : decode cX7_isValue 3 = .ok (.getfield 60, 3) := by decide +kernel
theorem dX7_isValue_6 : decode cX7_isValue 6 = .ok (.iconst 1, 1) := by decide +kernel
theorem dX7_isValue_7 : decode cX7_isValue 7 = .ok (.isub, 1) := by decide +kernel
theorem dX7_isValue_8 : decode cX7_isValue 8 = .ok (.invokestatic 63, 3) := by decide +kernel
theorem dX7_isValue_11 : decode cX7_isValue 11 = .ok (.ireturn, 1) := by decide +kernel
set_option maxRecDepth 20000 in
theorem ggX7_isGiven_X7_in : GoodIn wsX7_isGiven wsX7_in := goodIn_r _ [4] (by decide +kernel) (by decide +kernel)
set_option maxRecDepth 20000 in
theorem gX7_isGiven_X7_in : GoodIn wsX7_isGiven (va_wsS RX7 63 yX7_in wsX7_in) := goodIn_app (goodIn_of _ (by decide +kernel)) ggX7_isGiven_X7_in
theorem dX7_isGiven_0 : decode cX7_isGiven 0 = .ok (.iload_n 0, 1) := by decide +kernel
theorem dX7_isGiven_1 : decode cX7_isGiven 1 = .ok (.sipush (-10000), 3) := by decide +kernel
theorem dX7_isGiven_4 : decode cX7_isGiven 4 = .ok (.sipush 10000, 3) := by decide +kernel
theorem dX7_isGiven_7 : decode cX7_isGiven 7 = .ok (.invokestatic 63, 3) := by decide +kernel
theorem dX7_isGiven_10 : decode cX7_isGiven 10 = .ok (.ireturn, 1) := by decide +kernel
theorem dX7_sizeOf_0 : decode cX7_sizeOf 0 = .ok (.iload_n 0, 1) := by decide +kernel
theorem dX7_sizeOf_1 : decode cX7_sizeOf 1 = .ok (.ifCond .ge 8, 3) := by decide +kernel
theorem dX7_sizeOf_4 : decode cX7_sizeOf 4 = .ok (.iload_n 0, 1) := by decide +kernel
theorem dX7_sizeOf_5 : decode cX7_sizeOf 5 = .ok (.ineg, 1) := by decide +kernel
theorem dX7_sizeOf_6 : decode cX7_sizeOf 6 = .ok (.goto 4, 3) := by decide +kernel
theorem dX7_sizeOf_9 : decode cX7_sizeOf 9 = .ok (.iload_n 0, 1) := by decide +kernel
theorem dX7_sizeOf_10 : decode cX7_sizeOf 10 = .ok (.ireturn, 1) := by decide +kernel
theorem dX7_count_0 : decode cX7_count 0 = .ok (.aload_n 0, 1) := by decide +kernel
theorem dX7_count_1 : decode cX7_count 1 = .ok (.getfield 67, 3) := by decide +kernel
theorem dX7_count_4 : decode cX7_count 4 = .ok (.istore_n 2, 1) := by decide +kernel
theorem dX7_count_5 : decode cX7_count 5 = .ok (.iload_n 2, 1) := by decide +kernel
theorem dX7_count_6 : decode cX7_count 6 = .ok (.ifCond .le 35, 3) := by decide +kernel
theorem dX7_count_9 : decode cX7_count 9 = .ok (.aload_n 0, 1) := by decide +kernel
theorem dX7_count_10 : decode cX7_count 10 = .ok (.getfield 33, 3) := by decide +kernel
theorem dX7_count_13 : decode cX7_count 13 = .ok (.iload_n 2, 1) := by decide +kernel
theorem dX7_count_14 : decode cX7_count 14 = .ok (.iconst 1, 1) := by decide +kernel
theorem dX7_count_15 : decode cX7_count 15 = .ok (.isub, 1) := by decide +kernel
theorem dX7_count_16 : decode cX7_count 16 = .ok (.iaload, 1) := by decide +kernel
theorem dX7_count_17 : decode cX7_count 17 = .ok (.iload_n 1, 1) := by decide +kernel
theorem dX7_count_18 : decode cX7_count 18 = .ok (.if_icmp .le 23, 3) := by decide +kernel
theorem dX7_count_21 : decode cX7_count 21 = .ok (.aload_n 0, 1) := by decide +kernel
theorem dX7_count_22 : decode cX7_count 22 = .ok (.getfield 33, 3) := by decide +kernel
theorem dX7_count_25 : decode cX7_count 25 = .ok (.iload_n 2, 1) := by decide +kernel
theorem dX7_count_26 : decode cX7_count 26 = .ok (.aload_n 0, 1) := by decide +kernel
theorem dX7_count_27 : decode cX7_count 27 = .ok (.getfield 33, 3) := by decide +kernel
theorem dX7_count_30 : decode cX7_count 30 = .ok (.iload_n 2, 1) := by decide +kernel
theorem dX7_count_31 : decode cX7_count 31 = .ok (.iconst 1, 1) := by decide +kernel
theorem dX7_count_32 : decode cX7_count 32 = .ok (.isub, 1) := by decide +kernel
theorem dX7_count_33 : decode cX7_count 33 = .ok (.iaload, 1) := by decide +kernel
theorem dX7_count_34 : decode cX7_count 34 = .ok (.iastore, 1) := by decide +kernel
theorem dX7_count_35 : decode cX7_count 35 = .ok (.iinc 2 (-1), 3) := by decide +kernel
theorem dX7_count_38 : decode cX7_count 38 = .ok (.goto (-33), 3) := by decide +kernel
theorem dX7_count_41 : decode cX7_count 41 = .ok (.aload_n 0, 1) := by decide +kernel
theorem dX7_count_42 : decode cX7_count 42 = .ok (.getfield 33, 3) := by decide +kernel
theorem dX7_count_45 : decode cX7_count 45 = .ok (.iload_n 2, 1) := by decide +kernel
theorem dX7_count_46 : decode cX7_count 46 = .ok (.iload_n 1, 1) := by decide +kernel
theorem dX7_count_47 : decode cX7_count 47 = .ok (.iastore, 1) := by decide +kernel
theorem dX7_count_48 : decode cX7_count 48 = .ok (.aload_n 0, 1) := by decide +kernel
theorem dX7_count_49 : decode cX7_count 49 = .ok (.dup, 1) := by decide +kernel
theorem dX7_count_50 : decode cX7_count 50 = .ok (.getfield 67, 3) := by decide +kernel
theorem dX7_count_53 : decode cX7_count 53 = .ok (.iconst 1, 1) := by decide +kernel
theorem dX7_count_54 : decode cX7_count 54 = .ok (.iadd, 1) := by decide +kernel
theorem dX7_count_55 : decode cX7_count 55 = .ok (.putfield 67, 3) := by decide +kernel
theorem dX7_count_58 : decode cX7_count 58 = .ok (.return_, 1) := by decide +kernel
theorem dX7_median_0 : decode cX7_median 0 = .ok (.aload_n 0, 1) := by decide +kernel
theorem dX7_median_1 : decode cX7_median 1 = .ok (.getfield 67, 3) := by decide +kernel
theorem dX7_median_4 : decode cX7_median 4 = .ok (.ifCond .ne 7, 3) := by decide +kernel
theorem dX7_median_7 : decode cX7_median 7 = .ok (.iconst 0, 1) := by decide +kernel
theorem dX7_median_8 : decode cX7_median 8 = .ok (.goto 16, 3) := by decide +kernel
theorem dX7_median_11 : decode cX7_median 11 = .ok (.aload_n 0, 1) := by decide +kernel
theorem dX7_median_12 : decode cX7_median 12 = .ok (.getfield 33, 3) := by decide +kernel
theorem dX7_median_15 : decode cX7_median 15 = .ok (.aload_n 0, 1) := by decide +kernel
theorem dX7_median_16 : decode cX7_median 16 = .ok (.getfield 67, 3) := by decide +kernel
theorem dX7_median_19 : decode cX7_median 19 = .ok (.iconst 1, 1) := by decide +kernel
theorem dX7_median_20 : decode cX7_median 20 = .ok (.isub, 1) := by decide +kernel
theorem dX7_median_21 : decode cX7_median 21 = .ok (.iconst 2, 1) := by decide +kernel
theorem dX7_median_22 : decode cX7_median 22 = .ok (.idiv, 1) := by decide +kernel
theorem dX7_median_23 : decode cX7_median 23 = .ok (.iaload, 1) := by decide +kernel
theorem dX7_median_24 : decode cX7_median 24 = .ok (.ireturn, 1) := by decide +kernel
set_option maxRecDepth 20000 in
theorem ggX7_laySeasons_X7_count : GoodIn wsX7_laySeasons wsX7_count := goodIn_r _ [13, 1, 14, 19, 20, 21, 22, 23, 24, 25, 26, 27, 28, 29, 30, 31, 32, 33, 34, 35, 36, 37, 38] (by decide +kernel) (by decide +kernel)
set_option maxRecDepth 20000 in
theorem gX7_laySeasons_X7_count : GoodIn wsX7_laySeasons (wsV RX7 70 RX7 yX7_count wsX7_count) := goodIn_app (goodIn_of _ (by decide +kernel)) ggX7_laySeasons_X7_count
set_option maxRecDepth 20000 in
theorem ggX7_laySeasons_X7_median : GoodIn wsX7_laySeasons wsX7_median := goodIn_r _ [18, 1, 14, 19, 20, 21, 22, 23, 24, 25, 26, 27, 28, 29, 30, 31, 32, 33, 34, 35, 36, 37, 38] (by decide +kernel) (by decide +kernel)
set_option maxRecDepth 20000 in
theorem gX7_laySeasons_X7_median : GoodIn wsX7_laySeasons (wsV RX7 74 RX7 yX7_median wsX7_median) := goodIn_app (goodIn_of _ (by decide +kernel)) ggX7_laySeasons_X7_median
theorem dX7_laySeasons_0 : decode cX7_laySeasons 0 = .ok (.aload_n 0, 1) := by decide +kernel
theorem dX7_laySeasons_1 : decode cX7_laySeasons 1 = .ok (.iconst 0, 1) := by decide +kernel
theorem dX7_laySeasons_2 : decode cX7_laySeasons 2 = .ok (.putfield 67, 3) := by decide +kernel
theorem dX7_laySeasons_5 : decode cX7_laySeasons 5 = .ok (.iconst 0, 1) := by decide +kernel
theorem dX7_laySeasons_6 : decode cX7_laySeasons 6 = .ok (.istore_n 1, 1) := by decide +kernel
theorem dX7_laySeasons_7 : decode cX7_laySeasons 7 = .ok (.iload_n 1, 1) := by decide +kernel
theorem dX7_laySeasons_8 : decode cX7_laySeasons 8 = .ok (.aload_n 0, 1) := by decide +kernel
theorem dX7_laySeasons_9 : decode cX7_laySeasons 9 = .ok (.getfield 60, 3) := by decide +kernel
theorem dX7_laySeasons_12 : decode cX7_laySeasons 12 = .ok (.if_icmp .ge 28, 3) := by decide +kernel
theorem dX7_laySeasons_15 : decode cX7_laySeasons 15 = .ok (.aload_n 0, 1) := by decide +kernel
theorem dX7_laySeasons_16 : decode cX7_laySeasons 16 = .ok (.getfield 13, 3) := by decide +kernel
theorem dX7_laySeasons_19 : decode cX7_laySeasons 19 = .ok (.iload_n 1, 1) := by decide +kernel
theorem dX7_laySeasons_20 : decode cX7_laySeasons 20 = .ok (.baload, 1) := by decide +kernel
theorem dX7_laySeasons_21 : decode cX7_laySeasons 21 = .ok (.ifCond .ne 13, 3) := by decide +kernel
theorem dX7_laySeasons_24 : decode cX7_laySeasons 24 = .ok (.aload_n 0, 1) := by decide +kernel
theorem dX7_laySeasons_25 : decode cX7_laySeasons 25 = .ok (.aload_n 0, 1) := by decide +kernel
theorem dX7_laySeasons_26 : decode cX7_laySeasons 26 = .ok (.getfield 7, 3) := by decide +kernel
theorem dX7_laySeasons_29 : decode cX7_laySeasons 29 = .ok (.iload_n 1, 1) := by decide +kernel
theorem dX7_laySeasons_30 : decode cX7_laySeasons 30 = .ok (.iaload, 1) := by decide +kernel
theorem dX7_laySeasons_31 : decode cX7_laySeasons 31 = .ok (.invokevirtual 70, 3) := by decide +kernel
theorem dX7_laySeasons_34 : decode cX7_laySeasons 34 = .ok (.iinc 1 1, 3) := by decide +kernel
theorem dX7_laySeasons_37 : decode cX7_laySeasons 37 = .ok (.goto (-30), 3) := by decide +kernel
theorem dX7_laySeasons_40 : decode cX7_laySeasons 40 = .ok (.aload_n 0, 1) := by decide +kernel
theorem dX7_laySeasons_41 : decode cX7_laySeasons 41 = .ok (.aload_n 0, 1) := by decide +kernel
theorem dX7_laySeasons_42 : decode cX7_laySeasons 42 = .ok (.invokevirtual 74, 3) := by decide +kernel
theorem dX7_laySeasons_45 : decode cX7_laySeasons 45 = .ok (.putfield 78, 3) := by decide +kernel
theorem dX7_laySeasons_48 : decode cX7_laySeasons 48 = .ok (.iconst 0, 1) := by decide +kernel
theorem dX7_laySeasons_49 : decode cX7_laySeasons 49 = .ok (.istore_n 1, 1) := by decide +kernel
theorem dX7_laySeasons_50 : decode cX7_laySeasons 50 = .ok (.iload_n 1, 1) := by decide +kernel
theorem dX7_laySeasons_51 : decode cX7_laySeasons 51 = .ok (.aload_n 0, 1) := by decide +kernel
theorem dX7_laySeasons_52 : decode cX7_laySeasons 52 = .ok (.getfield 17, 3) := by decide +kernel
theorem dX7_laySeasons_55 : decode cX7_laySeasons 55 = .ok (.if_icmp .ge 68, 3) := by decide +kernel
theorem dX7_laySeasons_58 : decode cX7_laySeasons 58 = .ok (.aload_n 0, 1) := by decide +kernel
theorem dX7_laySeasons_59 : decode cX7_laySeasons 59 = .ok (.iconst 0, 1) := by decide +kernel
theorem dX7_laySeasons_60 : decode cX7_laySeasons 60 = .ok (.putfield 67, 3) := by decide +kernel
theorem dX7_laySeasons_63 : decode cX7_laySeasons 63 = .ok (.iload_n 1, 1) := by decide +kernel
theorem dX7_laySeasons_64 : decode cX7_laySeasons 64 = .ok (.istore_n 2, 1) := by decide +kernel
theorem dX7_laySeasons_65 : decode cX7_laySeasons 65 = .ok (.iload_n 2, 1) := by decide +kernel
theorem dX7_laySeasons_66 : decode cX7_laySeasons 66 = .ok (.aload_n 0, 1) := by decide +kernel
theorem dX7_laySeasons_67 : decode cX7_laySeasons 67 = .ok (.getfield 60, 3) := by decide +kernel
theorem dX7_laySeasons_70 : decode cX7_laySeasons 70 = .ok (.if_icmp .ge 37, 3) := by decide +kernel
theorem dX7_laySeasons_73 : decode cX7_laySeasons 73 = .ok (.aload_n 0, 1) := by decide +kernel
theorem dX7_laySeasons_74 : decode cX7_laySeasons 74 = .ok (.getfield 13, 3) := by decide +kernel
theorem dX7_laySeasons_77 : decode cX7_laySeasons 77 = .ok (.iload_n 2, 1) := by decide +kernel
theorem dX7_laySeasons_78 : decode cX7_laySeasons 78 = .ok (.baload, 1) := by decide +kernel
theorem dX7_laySeasons_79 : decode cX7_laySeasons 79 = .ok (.ifCond .ne 18, 3) := by decide +kernel
theorem dX7_laySeasons_82 : decode cX7_laySeasons 82 = .ok (.aload_n 0, 1) := by decide +kernel
theorem dX7_laySeasons_83 : decode cX7_laySeasons 83 = .ok (.aload_n 0, 1) := by decide +kernel
theorem dX7_laySeasons_84 : decode cX7_laySeasons 84 = .ok (.getfield 7, 3) := by decide +kernel
theorem dX7_laySeasons_87 : decode cX7_laySeasons 87 = .ok (.iload_n 2, 1) := by decide +kernel
theorem dX7_laySeasons_88 : decode cX7_laySeasons 88 = .ok (.iaload, 1) := by decide +kernel
theorem dX7_laySeasons_89 : decode cX7_laySeasons 89 = .ok (.aload_n 0, 1) := by decide +kernel
theorem dX7_laySeasons_90 : decode cX7_laySeasons 90 = .ok (.getfield 78, 3) := by decide +kernel
theorem dX7_laySeasons_93 : decode cX7_laySeasons 93 = .ok (.isub, 1) := by decide +kernel
theorem dX7_laySeasons_94 : decode cX7_laySeasons 94 = .ok (.invokevirtual 70, 3) := by decide +kernel
theorem dX7_laySeasons_97 : decode cX7_laySeasons 97 = .ok (.iload_n 2, 1) := by decide +kernel
theorem dX7_laySeasons_98 : decode cX7_laySeasons 98 = .ok (.aload_n 0, 1) := by decide +kernel
theorem dX7_laySeasons_99 : decode cX7_laySeasons 99 = .ok (.getfield 17, 3) := by decide +kernel
theorem dX7_laySeasons_102 : decode cX7_laySeasons 102 = .ok (.iadd, 1) := by decide +kernel
theorem dX7_laySeasons_103 : decode cX7_laySeasons 103 = .ok (.istore_n 2, 1) := by decide +kernel
theorem dX7_laySeasons_104 : decode cX7_laySeasons 104 = .ok (.goto (-39), 3) := by decide +kernel
theorem dX7_laySeasons_107 : decode cX7_laySeasons 107 = .ok (.aload_n 0, 1) := by decide +kernel
theorem dX7_laySeasons_108 : decode cX7_laySeasons 108 = .ok (.getfield 36, 3) := by decide +kernel
theorem dX7_laySeasons_111 : decode cX7_laySeasons 111 = .ok (.iload_n 1, 1) := by decide +kernel
theorem dX7_laySeasons_112 : decode cX7_laySeasons 112 = .ok (.aload_n 0, 1) := by decide +kernel
theorem dX7_laySeasons_113 : decode cX7_laySeasons 113 = .ok (.invokevirtual 74, 3) := by decide +kernel
theorem dX7_laySeasons_116 : decode cX7_laySeasons 116 = .ok (.iastore, 1) := by decide +kernel
theorem dX7_laySeasons_117 : decode cX7_laySeasons 117 = .ok (.iinc 1 1, 3) := by decide +kernel
theorem dX7_laySeasons_120 : decode cX7_laySeasons 120 = .ok (.goto (-70), 3) := by decide +kernel
theorem dX7_laySeasons_123 : decode cX7_laySeasons 123 = .ok (.iconst 0, 1) := by decide +kernel
theorem dX7_laySeasons_124 : decode cX7_laySeasons 124 = .ok (.istore_n 1, 1) := by decide +kernel
theorem dX7_laySeasons_125 : decode cX7_laySeasons 125 = .ok (.iload_n 1, 1) := by decide +kernel
theorem dX7_laySeasons_126 : decode cX7_laySeasons 126 = .ok (.aload_n 0, 1) := by decide +kernel
theorem dX7_laySeasons_127 : decode cX7_laySeasons 127 = .ok (.getfield 60, 3) := by decide +kernel
theorem dX7_laySeasons_130 : decode cX7_laySeasons 130 = .ok (.if_icmp .ge 33, 3) := by decide +kernel
theorem dX7_laySeasons_133 : decode cX7_laySeasons 133 = .ok (.aload_n 0, 1) := by decide +kernel
theorem dX7_laySeasons_134 : decode cX7_laySeasons 134 = .ok (.getfield 39, 3) := by decide +kernel
theorem dX7_laySeasons_137 : decode cX7_laySeasons 137 = .ok (.iload_n 1, 1) := by decide +kernel
theorem dX7_laySeasons_138 : decode cX7_laySeasons 138 = .ok (.aload_n 0, 1) := by decide +kernel
theorem dX7_laySeasons_139 : decode cX7_laySeasons 139 = .ok (.getfield 7, 3) := by decide +kernel
theorem dX7_laySeasons_142 : decode cX7_laySeasons 142 = .ok (.iload_n 1, 1) := by decide +kernel
theorem dX7_laySeasons_143 : decode cX7_laySeasons 143 = .ok (.iaload, 1) := by decide +kernel
theorem dX7_laySeasons_144 : decode cX7_laySeasons 144 = .ok (.aload_n 0, 1) := by decide +kernel
theorem dX7_laySeasons_145 : decode cX7_laySeasons 145 = .ok (.getfield 36, 3) := by decide +kernel
theorem dX7_laySeasons_148 : decode cX7_laySeasons 148 = .ok (.iload_n 1, 1) := by decide +kernel
theorem dX7_laySeasons_149 : decode cX7_laySeasons 149 = .ok (.aload_n 0, 1) := by decide +kernel
theorem dX7_laySeasons_150 : decode cX7_laySeasons 150 = .ok (.getfield 17, 3) := by decide +kernel
theorem dX7_laySeasons_153 : decode cX7_laySeasons 153 = .ok (.irem, 1) := by decide +kernel
theorem dX7_laySeasons_154 : decode cX7_laySeasons 154 = .ok (.iaload, 1) := by decide +kernel
theorem dX7_laySeasons_155 : decode cX7_laySeasons 155 = .ok (.isub, 1) := by decide +kernel
theorem dX7_laySeasons_156 : decode cX7_laySeasons 156 = .ok (.iastore, 1) := by decide +kernel
theorem dX7_laySeasons_157 : decode cX7_laySeasons 157 = .ok (.iinc 1 1, 3) := by decide +kernel
theorem dX7_laySeasons_160 : decode cX7_laySeasons 160 = .ok (.goto (-35), 3) := by decide +kernel
theorem dX7_laySeasons_163 : decode cX7_laySeasons 163 = .ok (.return_, 1) := by decide +kernel
set_option maxRecDepth 20000 in
theorem ggX7_costNow_X7_sizeOf : GoodIn wsX7_costNow wsX7_sizeOf := goodIn_r _ [6] (by decide +kernel) (by decide +kernel)
set_option maxRecDepth 20000 in
theorem gX7_costNow_X7_sizeOf : GoodIn wsX7_costNow (va_wsS RX7 81 yX7_sizeOf wsX7_sizeOf) := goodIn_app (goodIn_of _ (by decide +kernel)) ggX7_costNow_X7_sizeOf
theorem dX7_costNow_0 : decode cX7_costNow 0 = .ok (.iconst 0, 1) := by decide +kernel
theorem dX7_costNow_1 : decode cX7_costNow 1 = .ok (.istore_n 2, 1) := by decide +kernel
theorem dX7_costNow_2 : decode cX7_costNow 2 = .ok (.iconst 0, 1) := by decide +kernel
theorem dX7_costNow_3 : decode cX7_costNow 3 = .ok (.istore_n 3, 1) := by decide +kernel
theorem dX7_costNow_4 : decode cX7_costNow 4 = .ok (.iload_n 3, 1) := by decide +kernel
theorem dX7_costNow_5 : decode cX7_costNow 5 = .ok (.aload_n 0, 1) := by decide +kernel
theorem dX7_costNow_6 : decode cX7_costNow 6 = .ok (.getfield 67, 3) := by decide +kernel
theorem dX7_costNow_9 : decode cX7_costNow 9 = .ok (.if_icmp .ge 23, 3) := by decide +kernel
theorem dX7_costNow_12 : decode cX7_costNow 12 = .ok (.iload_n 2, 1) := by decide +kernel
theorem dX7_costNow_13 : decode cX7_costNow 13 = .ok (.aload_n 0, 1) := by decide +kernel
theorem dX7_costNow_14 : decode cX7_costNow 14 = .ok (.getfield 33, 3) := by decide +kernel
theorem dX7_costNow_17 : decode cX7_costNow 17 = .ok (.iload_n 3, 1) := by decide +kernel
theorem dX7_costNow_18 : decode cX7_costNow 18 = .ok (.iaload, 1) := by decide +kernel
theorem dX7_costNow_19 : decode cX7_costNow 19 = .ok (.iload_n 1, 1) := by decide +kernel
theorem dX7_costNow_20 : decode cX7_costNow 20 = .ok (.isub, 1) := by decide +kernel
theorem dX7_costNow_21 : decode cX7_costNow 21 = .ok (.invokestatic 81, 3) := by decide +kernel
theorem dX7_costNow_24 : decode cX7_costNow 24 = .ok (.iadd, 1) := by decide +kernel
theorem dX7_costNow_25 : decode cX7_costNow 25 = .ok (.istore_n 2, 1) := by decide +kernel
theorem dX7_costNow_26 : decode cX7_costNow 26 = .ok (.iinc 3 1, 3) := by decide +kernel
theorem dX7_costNow_29 : decode cX7_costNow 29 = .ok (.goto (-25), 3) := by decide +kernel
theorem dX7_costNow_32 : decode cX7_costNow 32 = .ok (.iload_n 2, 1) := by decide +kernel
theorem dX7_costNow_33 : decode cX7_costNow 33 = .ok (.ireturn, 1) := by decide +kernel
set_option maxRecDepth 20000 in
theorem ggX7_laySegments_X7_count : GoodIn wsX7_laySegments wsX7_count := goodIn_r _ [11, 2, 12, 24, 25, 26, 27, 28, 29, 30, 31, 32, 33, 34, 35, 36, 37, 38, 39, 40, 41, 42, 43] (by decide +kernel) (by decide +kernel)
set_option maxRecDepth 20000 in
theorem gX7_laySegments_X7_count : GoodIn wsX7_laySegments (wsV RX7 70 RX7 yX7_count wsX7_count) := goodIn_app (goodIn_of _ (by decide +kernel)) ggX7_laySegments_X7_count
set_option maxRecDepth 20000 in
theorem ggX7_laySegments_X7_median : GoodIn wsX7_laySegments wsX7_median := goodIn_r _ [16, 2, 12, 24, 25, 26, 27, 28, 29, 30, 31, 32, 33, 34, 35, 36, 37, 38, 39, 40, 41, 42, 43] (by decide +kernel) (by decide +kernel)
set_option maxRecDepth 20000 in
theorem gX7_laySegments_X7_median : GoodIn wsX7_laySegments (wsV RX7 74 RX7 yX7_median wsX7_median) := goodIn_app (goodIn_of _ (by decide +kernel)) ggX7_laySegments_X7_median
set_option maxRecDepth 20000 in
theorem ggX7_laySegments_X7_costNow : GoodIn wsX7_laySegments wsX7_costNow := goodIn_r _ [20, 2, 12, 21, 22, 10, 23, 24, 25, 26, 27, 28, 29, 30, 31, 32, 33, 34, 35, 36, 37, 38, 39, 40, 41, 42, 43] (by decide +kernel) (by decide +kernel)
set_option maxRecDepth 20000 in
theorem gX7_laySegments_X7_costNow : GoodIn wsX7_laySegments (wsV RX7 85 RX7 yX7_costNow wsX7_costNow) := goodIn_app (goodIn_of _ (by decide +kernel)) ggX7_laySegments_X7_costNow
theorem dX7_laySegments_0 : decode cX7_laySegments 0 = .ok (.iconst 0, 1) := by decide +kernel
theorem dX7_laySegments_1 : decode cX7_laySegments 1 = .ok (.istore_n 1, 1) := by decide +kernel
theorem dX7_laySegments_2 : decode cX7_laySegments 2 = .ok (.iload_n 1, 1) := by decide +kernel
theorem dX7_laySegments_3 : decode cX7_laySegments 3 = .ok (.aload_n 0, 1) := by decide +kernel
theorem dX7_laySegments_4 : decode cX7_laySegments 4 = .ok (.getfield 60, 3) := by decide +kernel
theorem dX7_laySegments_7 : decode cX7_laySegments 7 = .ok (.if_icmp .ge 89, 3) := by decide +kernel
theorem dX7_laySegments_10 : decode cX7_laySegments 10 = .ok (.aload_n 0, 1) := by decide +kernel
theorem dX7_laySegments_11 : decode cX7_laySegments 11 = .ok (.iconst 0, 1) := by decide +kernel
