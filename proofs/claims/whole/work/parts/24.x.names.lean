theorem dX7_costUncut_24 : decode cX7_costUncut 24 = .ok (.aload_n 0, 1) := by decide +kernel
theorem dX7_costUncut_25 : decode cX7_costUncut 25 = .ok (.getfield 60, 3) := by decide +kernel
theorem dX7_costUncut_28 : decode cX7_costUncut 28 = .ok (.iaload, 1) := by decide +kernel
theorem dX7_costUncut_29 : decode cX7_costUncut 29 = .ok (.ireturn, 1) := by decide +kernel
set_option maxRecDepth 20000 in
theorem ggX7_costCutAt_X7_in : GoodIn wsX7_costCutAt wsX7_in := goodIn_r _ [9] (by decide +kernel) (by decide +kernel)
set_option maxRecDepth 20000 in
theorem gX7_costCutAt_X7_in : GoodIn wsX7_costCutAt (va_wsS RX7 63 yX7_in wsX7_in) := goodIn_app (goodIn_of _ (by decide +kernel)) ggX7_costCutAt_X7_in
set_option maxRecDepth 20000 in
theorem ggX7_costCutAt_X7_fails : GoodIn wsX7_costCutAt wsX7_fails := goodIn_r _ [13, 1, 53, 54, 55, 56, 57, 58, 59, 60, 61, 62, 63, 64, 65, 66, 67, 68, 69, 70, 71, 72] (by decide +kernel) (by decide +kernel)
set_option maxRecDepth 20000 in
theorem gX7_costCutAt_X7_fails : GoodIn wsX7_costCutAt (wsV RX7 108 RX7 yX7_fails wsX7_fails) := goodIn_app (goodIn_of _ (by decide +kernel)) ggX7_costCutAt_X7_fails
set_option maxRecDepth 20000 in
theorem ggX7_costCutAt_X7_layDivision : GoodIn wsX7_costCutAt wsX7_layDivision := goodIn_r _ [17, 18, 2, 19, 20, 3, 4, 5, 21, 22, 23, 8, 24, 25, 26, 27, 28, 29, 30, 31, 32, 33, 34, 35, 36, 37, 38, 39, 40, 41, 42, 43, 44, 45, 46, 47, 48, 49, 50, 51, 52, 53, 54, 55, 56, 57, 58, 59, 60, 61, 62, 63, 64, 65, 66, 67, 68, 69, 70, 71, 72] (by decide +kernel) (by decide +kernel)
set_option maxRecDepth 20000 in
theorem gX7_costCutAt_X7_layDivision : GoodIn wsX7_costCutAt (wsV RX7 95 RX7 yX7_layDivision wsX7_layDivision) := goodIn_app (goodIn_of _ (by decide +kernel)) ggX7_costCutAt_X7_layDivision
theorem dX7_costCutAt_0 : decode cX7_costCutAt 0 = .ok (.aload_n 0, 1) := by decide +kernel
theorem dX7_costCutAt_1 : decode cX7_costCutAt 1 = .ok (.iconst 0, 1) := by decide +kernel
theorem dX7_costCutAt_2 : decode cX7_costCutAt 2 = .ok (.putfield 57, 3) := by decide +kernel
theorem dX7_costCutAt_5 : decode cX7_costCutAt 5 = .ok (.iload_n 1, 1) := by decide +kernel
theorem dX7_costCutAt_6 : decode cX7_costCutAt 6 = .ok (.iconst 1, 1) := by decide +kernel
theorem dX7_costCutAt_7 : decode cX7_costCutAt 7 = .ok (.aload_n 0, 1) := by decide +kernel
theorem dX7_costCutAt_8 : decode cX7_costCutAt 8 = .ok (.getfield 60, 3) := by decide +kernel
theorem dX7_costCutAt_11 : decode cX7_costCutAt 11 = .ok (.iconst 1, 1) := by decide +kernel
theorem dX7_costCutAt_12 : decode cX7_costCutAt 12 = .ok (.isub, 1) := by decide +kernel
theorem dX7_costCutAt_13 : decode cX7_costCutAt 13 = .ok (.invokestatic 63, 3) := by decide +kernel
theorem dX7_costCutAt_16 : decode cX7_costCutAt 16 = .ok (.ifCond .ne 9, 3) := by decide +kernel
theorem dX7_costCutAt_19 : decode cX7_costCutAt 19 = .ok (.aload_n 0, 1) := by decide +kernel
theorem dX7_costCutAt_20 : decode cX7_costCutAt 20 = .ok (.iconst 1, 1) := by decide +kernel
theorem dX7_costCutAt_21 : decode cX7_costCutAt 21 = .ok (.invokevirtual 108, 3) := by decide +kernel
theorem dX7_costCutAt_24 : decode cX7_costCutAt 24 = .ok (.ireturn, 1) := by decide +kernel
theorem dX7_costCutAt_25 : decode cX7_costCutAt 25 = .ok (.iload_n 1, 1) := by decide +kernel
theorem dX7_costCutAt_26 : decode cX7_costCutAt 26 = .ok (.aload_n 0, 1) := by decide +kernel
theorem dX7_costCutAt_27 : decode cX7_costCutAt 27 = .ok (.getfield 21, 3) := by decide +kernel
theorem dX7_costCutAt_30 : decode cX7_costCutAt 30 = .ok (.if_icmp .lt 16, 3) := by decide +kernel
theorem dX7_costCutAt_33 : decode cX7_costCutAt 33 = .ok (.aload_n 0, 1) := by decide +kernel
theorem dX7_costCutAt_34 : decode cX7_costCutAt 34 = .ok (.getfield 60, 3) := by decide +kernel
theorem dX7_costCutAt_37 : decode cX7_costCutAt 37 = .ok (.iload_n 1, 1) := by decide +kernel
theorem dX7_costCutAt_38 : decode cX7_costCutAt 38 = .ok (.isub, 1) := by decide +kernel
theorem dX7_costCutAt_39 : decode cX7_costCutAt 39 = .ok (.aload_n 0, 1) := by decide +kernel
theorem dX7_costCutAt_40 : decode cX7_costCutAt 40 = .ok (.getfield 21, 3) := by decide +kernel
theorem dX7_costCutAt_43 : decode cX7_costCutAt 43 = .ok (.if_icmp .ge 9, 3) := by decide +kernel
theorem dX7_costCutAt_46 : decode cX7_costCutAt 46 = .ok (.aload_n 0, 1) := by decide +kernel
theorem dX7_costCutAt_47 : decode cX7_costCutAt 47 = .ok (.iconst 2, 1) := by decide +kernel
theorem dX7_costCutAt_48 : decode cX7_costCutAt 48 = .ok (.invokevirtual 108, 3) := by decide +kernel
theorem dX7_costCutAt_51 : decode cX7_costCutAt 51 = .ok (.ireturn, 1) := by decide +kernel
theorem dX7_costCutAt_52 : decode cX7_costCutAt 52 = .ok (.aload_n 0, 1) := by decide +kernel
theorem dX7_costCutAt_53 : decode cX7_costCutAt 53 = .ok (.invokevirtual 95, 3) := by decide +kernel
theorem dX7_costCutAt_56 : decode cX7_costCutAt 56 = .ok (.aload_n 0, 1) := by decide +kernel
theorem dX7_costCutAt_57 : decode cX7_costCutAt 57 = .ok (.getfield 42, 3) := by decide +kernel
theorem dX7_costCutAt_60 : decode cX7_costCutAt 60 = .ok (.iload_n 1, 1) := by decide +kernel
theorem dX7_costCutAt_61 : decode cX7_costCutAt 61 = .ok (.iaload, 1) := by decide +kernel
theorem dX7_costCutAt_62 : decode cX7_costCutAt 62 = .ok (.aload_n 0, 1) := by decide +kernel
theorem dX7_costCutAt_63 : decode cX7_costCutAt 63 = .ok (.getfield 42, 3) := by decide +kernel
theorem dX7_costCutAt_66 : decode cX7_costCutAt 66 = .ok (.bipush 61, 2) := by decide +kernel
theorem dX7_costCutAt_68 : decode cX7_costCutAt 68 = .ok (.iload_n 1, 1) := by decide +kernel
theorem dX7_costCutAt_69 : decode cX7_costCutAt 69 = .ok (.imul, 1) := by decide +kernel
theorem dX7_costCutAt_70 : decode cX7_costCutAt 70 = .ok (.aload_n 0, 1) := by decide +kernel
theorem dX7_costCutAt_71 : decode cX7_costCutAt 71 = .ok (.getfield 60, 3) := by decide +kernel
theorem dX7_costCutAt_74 : decode cX7_costCutAt 74 = .ok (.iadd, 1) := by decide +kernel
theorem dX7_costCutAt_75 : decode cX7_costCutAt 75 = .ok (.iaload, 1) := by decide +kernel
theorem dX7_costCutAt_76 : decode cX7_costCutAt 76 = .ok (.iadd, 1) := by decide +kernel
theorem dX7_costCutAt_77 : decode cX7_costCutAt 77 = .ok (.aload_n 0, 1) := by decide +kernel
theorem dX7_costCutAt_78 : decode cX7_costCutAt 78 = .ok (.getfield 24, 3) := by decide +kernel
theorem dX7_costCutAt_81 : decode cX7_costCutAt 81 = .ok (.iadd, 1) := by decide +kernel
theorem dX7_costCutAt_82 : decode cX7_costCutAt 82 = .ok (.ireturn, 1) := by decide +kernel
set_option maxRecDepth 20000 in
theorem ggX7_leastCost_X7_fails : GoodIn wsX7_leastCost wsX7_fails := goodIn_r _ [8, 1, 50, 51, 52, 53, 54, 55, 56, 57, 58, 59, 60, 61, 62, 63, 64, 65, 66, 67, 68, 69] (by decide +kernel) (by decide +kernel)
set_option maxRecDepth 20000 in
theorem gX7_leastCost_X7_fails : GoodIn wsX7_leastCost (wsV RX7 108 RX7 yX7_fails wsX7_fails) := goodIn_app (goodIn_of _ (by decide +kernel)) ggX7_leastCost_X7_fails
set_option maxRecDepth 20000 in
theorem ggX7_leastCost_X7_layDivision : GoodIn wsX7_leastCost wsX7_layDivision := goodIn_r _ [12, 3, 2, 13, 14, 15, 16, 17, 18, 19, 20, 7, 21, 22, 23, 24, 25, 26, 27, 28, 29, 30, 31, 32, 33, 34, 35, 36, 37, 38, 39, 40, 41, 42, 43, 44, 45, 46, 47, 48, 49, 50, 51, 52, 53, 54, 55, 56, 57, 58, 59, 60, 61, 62, 63, 64, 65, 66, 67, 68, 69] (by decide +kernel) (by decide +kernel)
set_option maxRecDepth 20000 in
theorem gX7_leastCost_X7_layDivision : GoodIn wsX7_leastCost (wsV RX7 95 RX7 yX7_layDivision wsX7_layDivision) := goodIn_app (goodIn_of _ (by decide +kernel)) ggX7_leastCost_X7_layDivision
theorem dX7_leastCost_0 : decode cX7_leastCost 0 = .ok (.aload_n 0, 1) := by decide +kernel
theorem dX7_leastCost_1 : decode cX7_leastCost 1 = .ok (.iconst 0, 1) := by decide +kernel
theorem dX7_leastCost_2 : decode cX7_leastCost 2 = .ok (.putfield 57, 3) := by decide +kernel
theorem dX7_leastCost_5 : decode cX7_leastCost 5 = .ok (.aload_n 0, 1) := by decide +kernel
theorem dX7_leastCost_6 : decode cX7_leastCost 6 = .ok (.getfield 60, 3) := by decide +kernel
theorem dX7_leastCost_9 : decode cX7_leastCost 9 = .ok (.bipush 14, 2) := by decide +kernel
theorem dX7_leastCost_11 : decode cX7_leastCost 11 = .ok (.if_icmp .le 9, 3) := by decide +kernel
theorem dX7_leastCost_14 : decode cX7_leastCost 14 = .ok (.aload_n 0, 1) := by decide +kernel
theorem dX7_leastCost_15 : decode cX7_leastCost 15 = .ok (.iconst 1, 1) := by decide +kernel
theorem dX7_leastCost_16 : decode cX7_leastCost 16 = .ok (.invokevirtual 108, 3) := by decide +kernel
theorem dX7_leastCost_19 : decode cX7_leastCost 19 = .ok (.ireturn, 1) := by decide +kernel
theorem dX7_leastCost_20 : decode cX7_leastCost 20 = .ok (.aload_n 0, 1) := by decide +kernel
theorem dX7_leastCost_21 : decode cX7_leastCost 21 = .ok (.invokevirtual 95, 3) := by decide +kernel
theorem dX7_leastCost_24 : decode cX7_leastCost 24 = .ok (.aload_n 0, 1) := by decide +kernel
theorem dX7_leastCost_25 : decode cX7_leastCost 25 = .ok (.getfield 48, 3) := by decide +kernel
theorem dX7_leastCost_28 : decode cX7_leastCost 28 = .ok (.iconst 0, 1) := by decide +kernel
theorem dX7_leastCost_29 : decode cX7_leastCost 29 = .ok (.iaload, 1) := by decide +kernel
theorem dX7_leastCost_30 : decode cX7_leastCost 30 = .ok (.bipush 64, 2) := by decide +kernel
theorem dX7_leastCost_32 : decode cX7_leastCost 32 = .ok (.idiv, 1) := by decide +kernel
theorem dX7_leastCost_33 : decode cX7_leastCost 33 = .ok (.ireturn, 1) := by decide +kernel
set_option maxRecDepth 20000 in
theorem ggX7_residual_X7_isValue : GoodIn wsX7_residual wsX7_isValue := goodIn_r _ [7, 8, 9, 10, 6, 11, 67, 68, 69, 70, 71, 72, 73, 74, 75, 76, 77, 78, 79, 80, 81, 82, 83, 84, 85, 86] (by decide +kernel) (by decide +kernel)
set_option maxRecDepth 20000 in
theorem gX7_residual_X7_isValue : GoodIn wsX7_residual (wsV RX7 111 RX7 yX7_isValue wsX7_isValue) := goodIn_app (goodIn_of _ (by decide +kernel)) ggX7_residual_X7_isValue
set_option maxRecDepth 20000 in
theorem ggX7_residual_X7_fails : GoodIn wsX7_residual wsX7_fails := goodIn_r _ [15, 1, 67, 68, 69, 70, 71, 72, 73, 74, 75, 76, 77, 78, 79, 80, 81, 82, 83, 84, 85, 86] (by decide +kernel) (by decide +kernel)
set_option maxRecDepth 20000 in
theorem gX7_residual_X7_fails : GoodIn wsX7_residual (wsV RX7 108 RX7 yX7_fails wsX7_fails) := goodIn_app (goodIn_of _ (by decide +kernel)) ggX7_residual_X7_fails
set_option maxRecDepth 20000 in
theorem ggX7_residual_X7_layAll : GoodIn wsX7_residual wsX7_layAll := goodIn_r _ [19, 8, 2, 20, 21, 22, 23, 24, 25, 26, 27, 28, 6, 29, 30, 31, 32, 33, 34, 35, 36, 37, 38, 39, 40, 41, 42, 43, 44, 45, 46, 47, 48, 49, 50, 51, 52, 53, 54, 55, 56, 57, 58, 59, 60, 61, 62, 63, 64, 65, 66, 67, 68, 69, 70, 71, 72, 73, 74, 75, 76, 77, 78, 79, 80, 81, 82, 83, 84, 85, 86] (by decide +kernel) (by decide +kernel)
set_option maxRecDepth 20000 in
theorem gX7_residual_X7_layAll : GoodIn wsX7_residual (wsV RX7 121 RX7 yX7_layAll wsX7_layAll) := goodIn_app (goodIn_of _ (by decide +kernel)) ggX7_residual_X7_layAll
theorem dX7_residual_0 : decode cX7_residual 0 = .ok (.aload_n 0, 1) := by decide +kernel
theorem dX7_residual_1 : decode cX7_residual 1 = .ok (.iconst 0, 1) := by decide +kernel
theorem dX7_residual_2 : decode cX7_residual 2 = .ok (.putfield 57, 3) := by decide +kernel
theorem dX7_residual_5 : decode cX7_residual 5 = .ok (.aload_n 0, 1) := by decide +kernel
theorem dX7_residual_6 : decode cX7_residual 6 = .ok (.iload_n 1, 1) := by decide +kernel
theorem dX7_residual_7 : decode cX7_residual 7 = .ok (.invokevirtual 111, 3) := by decide +kernel
theorem dX7_residual_10 : decode cX7_residual 10 = .ok (.ifCond .ne 9, 3) := by decide +kernel
theorem dX7_residual_13 : decode cX7_residual 13 = .ok (.aload_n 0, 1) := by decide +kernel
theorem dX7_residual_14 : decode cX7_residual 14 = .ok (.iconst 1, 1) := by decide +kernel
theorem dX7_residual_15 : decode cX7_residual 15 = .ok (.invokevirtual 108, 3) := by decide +kernel
theorem dX7_residual_18 : decode cX7_residual 18 = .ok (.ireturn, 1) := by decide +kernel
theorem dX7_residual_19 : decode cX7_residual 19 = .ok (.aload_n 0, 1) := by decide +kernel
theorem dX7_residual_20 : decode cX7_residual 20 = .ok (.invokevirtual 121, 3) := by decide +kernel
theorem dX7_residual_23 : decode cX7_residual 23 = .ok (.aload_n 0, 1) := by decide +kernel
theorem dX7_residual_24 : decode cX7_residual 24 = .ok (.getfield 54, 3) := by decide +kernel
theorem dX7_residual_27 : decode cX7_residual 27 = .ok (.iload_n 1, 1) := by decide +kernel
theorem dX7_residual_28 : decode cX7_residual 28 = .ok (.iaload, 1) := by decide +kernel
theorem dX7_residual_29 : decode cX7_residual 29 = .ok (.ireturn, 1) := by decide +kernel
set_option maxRecDepth 20000 in
theorem ggX7_deviation_X7_layAll : GoodIn wsX7_deviation wsX7_layAll := goodIn_r _ [7, 8, 9, 10, 11, 12, 13, 14, 2, 15, 16, 17, 6, 18, 19, 20, 21, 22, 23, 24, 25, 26, 27, 28, 29, 30, 31, 32, 33, 34, 35, 36, 37, 38, 39, 40, 41, 42, 43, 44, 45, 46, 47, 48, 49, 50, 51, 52, 53, 54, 55, 56, 57, 58, 59, 60, 61, 62, 63, 64, 65, 66, 67, 68, 69, 70, 71, 72, 73, 74, 75] (by decide +kernel) (by decide +kernel)
set_option maxRecDepth 20000 in
theorem gX7_deviation_X7_layAll : GoodIn wsX7_deviation (wsV RX7 121 RX7 yX7_layAll wsX7_layAll) := goodIn_app (goodIn_of _ (by decide +kernel)) ggX7_deviation_X7_layAll
theorem dX7_deviation_0 : decode cX7_deviation 0 = .ok (.aload_n 0, 1) := by decide +kernel
theorem dX7_deviation_1 : decode cX7_deviation 1 = .ok (.iconst 0, 1) := by decide +kernel
theorem dX7_deviation_2 : decode cX7_deviation 2 = .ok (.putfield 57, 3) := by decide +kernel
theorem dX7_deviation_5 : decode cX7_deviation 5 = .ok (.aload_n 0, 1) := by decide +kernel
theorem dX7_deviation_6 : decode cX7_deviation 6 = .ok (.invokevirtual 121, 3) := by decide +kernel
theorem dX7_deviation_9 : decode cX7_deviation 9 = .ok (.aload_n 0, 1) := by decide +kernel
theorem dX7_deviation_10 : decode cX7_deviation 10 = .ok (.getfield 101, 3) := by decide +kernel
theorem dX7_deviation_13 : decode cX7_deviation 13 = .ok (.ireturn, 1) := by decide +kernel
set_option maxRecDepth 20000 in
theorem ggX7_bound_X7_layAll : GoodIn wsX7_bound wsX7_layAll := goodIn_r _ [6, 7, 8, 9, 10, 11, 12, 13, 14, 15, 16, 17, 5, 18, 19, 20, 21, 22, 23, 24, 25, 26, 27, 28, 29, 30, 31, 32, 33, 34, 35, 36, 37, 38, 39, 40, 41, 42, 43, 44, 45, 46, 47, 48, 49, 50, 51, 52, 53, 54, 55, 62, 63, 64, 65, 66, 67, 68, 69, 70, 71, 72, 73, 74, 75, 76, 77, 78, 79, 80, 81] (by decide +kernel) (by decide +kernel)
set_option maxRecDepth 20000 in
theorem gX7_bound_X7_layAll : GoodIn wsX7_bound (wsV RX7 121 RX7 yX7_layAll wsX7_layAll) := goodIn_app (goodIn_of _ (by decide +kernel)) ggX7_bound_X7_layAll
set_option maxRecDepth 20000 in
theorem ggX7_bound_X7_boundNow : GoodIn wsX7_bound wsX7_boundNow := goodIn_r _ [59, 60, 14, 61, 62, 63, 64, 65, 66, 67, 68, 69, 70, 71, 72, 73, 74, 75, 76, 77, 78, 79, 80, 81] (by decide +kernel) (by decide +kernel)
set_option maxRecDepth 20000 in
theorem gX7_bound_X7_boundNow : GoodIn wsX7_bound (wsV RX7 124 RX7 yX7_boundNow wsX7_boundNow) := goodIn_app (goodIn_of _ (by decide +kernel)) ggX7_bound_X7_boundNow
theorem dX7_bound_0 : decode cX7_bound 0 = .ok (.aload_n 0, 1) := by decide +kernel
theorem dX7_bound_1 : decode cX7_bound 1 = .ok (.iconst 0, 1) := by decide +kernel
theorem dX7_bound_2 : decode cX7_bound 2 = .ok (.putfield 57, 3) := by decide +kernel
theorem dX7_bound_5 : decode cX7_bound 5 = .ok (.aload_n 0, 1) := by decide +kernel
theorem dX7_bound_6 : decode cX7_bound 6 = .ok (.invokevirtual 121, 3) := by decide +kernel
theorem dX7_bound_9 : decode cX7_bound 9 = .ok (.aload_n 0, 1) := by decide +kernel
theorem dX7_bound_10 : decode cX7_bound 10 = .ok (.invokevirtual 124, 3) := by decide +kernel
theorem dX7_bound_13 : decode cX7_bound 13 = .ok (.ireturn, 1) := by decide +kernel
set_option maxRecDepth 20000 in
theorem ggX7_verdictOf_X7_boundNow : GoodIn wsX7_verdictOf wsX7_boundNow := goodIn_r _ [7, 8, 9, 10, 11, 12, 13, 14, 15, 16, 17, 18, 19, 20, 21, 22, 23, 24, 25, 26, 27, 28, 29, 30] (by decide +kernel) (by decide +kernel)
set_option maxRecDepth 20000 in
theorem gX7_verdictOf_X7_boundNow : GoodIn wsX7_verdictOf (wsV RX7 124 RX7 yX7_boundNow wsX7_boundNow) := goodIn_app (goodIn_of _ (by decide +kernel)) ggX7_verdictOf_X7_boundNow
theorem dX7_verdictOf_0 : decode cX7_verdictOf 0 = .ok (.aload_n 0, 1) := by decide +kernel
theorem dX7_verdictOf_1 : decode cX7_verdictOf 1 = .ok (.invokevirtual 124, 3) := by decide +kernel
theorem dX7_verdictOf_4 : decode cX7_verdictOf 4 = .ok (.istore_n 2, 1) := by decide +kernel
theorem dX7_verdictOf_5 : decode cX7_verdictOf 5 = .ok (.aload_n 0, 1) := by decide +kernel
theorem dX7_verdictOf_6 : decode cX7_verdictOf 6 = .ok (.getfield 13, 3) := by decide +kernel
theorem dX7_verdictOf_9 : decode cX7_verdictOf 9 = .ok (.iload_n 1, 1) := by decide +kernel
theorem dX7_verdictOf_10 : decode cX7_verdictOf 10 = .ok (.baload, 1) := by decide +kernel
theorem dX7_verdictOf_11 : decode cX7_verdictOf 11 = .ok (.ifCond .eq 7, 3) := by decide +kernel
theorem dX7_verdictOf_14 : decode cX7_verdictOf 14 = .ok (.iconst 3, 1) := by decide +kernel
theorem dX7_verdictOf_15 : decode cX7_verdictOf 15 = .ok (.goto 33, 3) := by decide +kernel
theorem dX7_verdictOf_18 : decode cX7_verdictOf 18 = .ok (.aload_n 0, 1) := by decide +kernel
theorem dX7_verdictOf_19 : decode cX7_verdictOf 19 = .ok (.getfield 54, 3) := by decide +kernel
theorem dX7_verdictOf_22 : decode cX7_verdictOf 22 = .ok (.iload_n 1, 1) := by decide +kernel
theorem dX7_verdictOf_23 : decode cX7_verdictOf 23 = .ok (.iaload, 1) := by decide +kernel
theorem dX7_verdictOf_24 : decode cX7_verdictOf 24 = .ok (.iload_n 2, 1) := by decide +kernel
theorem dX7_verdictOf_25 : decode cX7_verdictOf 25 = .ok (.if_icmp .le 7, 3) := by decide +kernel
theorem dX7_verdictOf_28 : decode cX7_verdictOf 28 = .ok (.iconst 1, 1) := by decide +kernel
theorem dX7_verdictOf_29 : decode cX7_verdictOf 29 = .ok (.goto 19, 3) := by decide +kernel
theorem dX7_verdictOf_32 : decode cX7_verdictOf 32 = .ok (.aload_n 0, 1) := by decide +kernel
theorem dX7_verdictOf_33 : decode cX7_verdictOf 33 = .ok (.getfield 54, 3) := by decide +kernel
theorem dX7_verdictOf_36 : decode cX7_verdictOf 36 = .ok (.iload_n 1, 1) := by decide +kernel
theorem dX7_verdictOf_37 : decode cX7_verdictOf 37 = .ok (.iaload, 1) := by decide +kernel
theorem dX7_verdictOf_38 : decode cX7_verdictOf 38 = .ok (.iload_n 2, 1) := by decide +kernel
theorem dX7_verdictOf_39 : decode cX7_verdictOf 39 = .ok (.ineg, 1) := by decide +kernel
theorem dX7_verdictOf_40 : decode cX7_verdictOf 40 = .ok (.if_icmp .ge 7, 3) := by decide +kernel
theorem dX7_verdictOf_43 : decode cX7_verdictOf 43 = .ok (.iconst 2, 1) := by decide +kernel
theorem dX7_verdictOf_44 : decode cX7_verdictOf 44 = .ok (.goto 4, 3) := by decide +kernel
theorem dX7_verdictOf_47 : decode cX7_verdictOf 47 = .ok (.iconst 0, 1) := by decide +kernel
theorem dX7_verdictOf_48 : decode cX7_verdictOf 48 = .ok (.ireturn, 1) := by decide +kernel
set_option maxRecDepth 20000 in
theorem ggX7_verdict_X7_isValue : GoodIn wsX7_verdict wsX7_isValue := goodIn_r _ [6, 7, 8, 9, 5, 10, 77, 78, 79, 80, 81, 82, 83, 84, 85, 86, 87, 88, 89, 90, 91, 92, 93, 94, 95, 96] (by decide +kernel) (by decide +kernel)
set_option maxRecDepth 20000 in
theorem gX7_verdict_X7_isValue : GoodIn wsX7_verdict (wsV RX7 111 RX7 yX7_isValue wsX7_isValue) := goodIn_app (goodIn_of _ (by decide +kernel)) ggX7_verdict_X7_isValue
set_option maxRecDepth 20000 in
theorem ggX7_verdict_X7_fails : GoodIn wsX7_verdict wsX7_fails := goodIn_r _ [14, 1, 77, 78, 79, 80, 81, 82, 83, 84, 85, 86, 87, 88, 89, 90, 91, 92, 93, 94, 95, 96] (by decide +kernel) (by decide +kernel)
set_option maxRecDepth 20000 in
theorem gX7_verdict_X7_fails : GoodIn wsX7_verdict (wsV RX7 108 RX7 yX7_fails wsX7_fails) := goodIn_app (goodIn_of _ (by decide +kernel)) ggX7_verdict_X7_fails
set_option maxRecDepth 20000 in
theorem ggX7_verdict_X7_layAll : GoodIn wsX7_verdict wsX7_layAll := goodIn_r _ [18, 7, 19, 20, 21, 22, 23, 24, 25, 26, 27, 28, 5, 29, 30, 31, 32, 33, 34, 35, 36, 37, 38, 39, 40, 41, 42, 43, 44, 45, 46, 47, 48, 49, 50, 51, 52, 53, 54, 55, 56, 57, 58, 59, 60, 61, 62, 63, 64, 65, 66, 77, 78, 79, 80, 81, 82, 83, 84, 85, 86, 87, 88, 89, 90, 91, 92, 93, 94, 95, 96] (by decide +kernel) (by decide +kernel)
set_option maxRecDepth 20000 in
theorem gX7_verdict_X7_layAll : GoodIn wsX7_verdict (wsV RX7 121 RX7 yX7_layAll wsX7_layAll) := goodIn_app (goodIn_of _ (by decide +kernel)) ggX7_verdict_X7_layAll
set_option maxRecDepth 20000 in
theorem ggX7_verdict_X7_verdictOf : GoodIn wsX7_verdict wsX7_verdictOf := goodIn_r _ [70, 24, 19, 71, 72, 73, 5, 74, 75, 25, 76, 77, 78, 79, 80, 81, 82, 83, 84, 85, 86, 87, 88, 89, 90, 91, 92, 93, 94, 95, 96] (by decide +kernel) (by decide +kernel)
set_option maxRecDepth 20000 in
theorem gX7_verdict_X7_verdictOf : GoodIn wsX7_verdict (wsV RX7 127 RX7 yX7_verdictOf wsX7_verdictOf) := goodIn_app (goodIn_of _ (by decide +kernel)) ggX7_verdict_X7_verdictOf
theorem dX7_verdict_0 : decode cX7_verdict 0 = .ok (.aload_n 0, 1) := by decide +kernel
theorem dX7_verdict_1 : decode cX7_verdict 1 = .ok (.iconst 0, 1) := by decide +kernel
theorem dX7_verdict_2 : decode cX7_verdict 2 = .ok (.putfield 57, 3) := by decide +kernel
theorem dX7_verdict_5 : decode cX7_verdict 5 = .ok (.aload_n 0, 1) := by decide +kernel
theorem dX7_verdict_6 : decode cX7_verdict 6 = .ok (.iload_n 1, 1) := by decide +kernel
theorem dX7_verdict_7 : decode cX7_verdict 7 = .ok (.invokevirtual 111, 3) := by decide +kernel
theorem dX7_verdict_10 : decode cX7_verdict 10 = .ok (.ifCond .ne 9, 3) := by decide +kernel
theorem dX7_verdict_13 : decode cX7_verdict 13 = .ok (.aload_n 0, 1) := by decide +kernel
theorem dX7_verdict_14 : decode cX7_verdict 14 = .ok (.iconst 1, 1) := by decide +kernel
theorem dX7_verdict_15 : decode cX7_verdict 15 = .ok (.invokevirtual 108, 3) := by decide +kernel
theorem dX7_verdict_18 : decode cX7_verdict 18 = .ok (.ireturn, 1) := by decide +kernel
theorem dX7_verdict_19 : decode cX7_verdict 19 = .ok (.aload_n 0, 1) := by decide +kernel
theorem dX7_verdict_20 : decode cX7_verdict 20 = .ok (.invokevirtual 121, 3) := by decide +kernel
theorem dX7_verdict_23 : decode cX7_verdict 23 = .ok (.aload_n 0, 1) := by decide +kernel
theorem dX7_verdict_24 : decode cX7_verdict 24 = .ok (.iload_n 1, 1) := by decide +kernel
theorem dX7_verdict_25 : decode cX7_verdict 25 = .ok (.invokevirtual 127, 3) := by decide +kernel
theorem dX7_verdict_28 : decode cX7_verdict 28 = .ok (.ireturn, 1) := by decide +kernel
set_option maxRecDepth 20000 in
theorem ggX7_anomalies_X7_layAll : GoodIn wsX7_anomalies wsX7_layAll := goodIn_r _ [7, 2, 8, 9, 10, 11, 12, 13, 14, 15, 16, 17, 6, 18, 19, 20, 21, 22, 23, 24, 25, 26, 27, 28, 29, 30, 31, 32, 33, 34, 35, 36, 37, 38, 39, 40, 41, 42, 43, 44, 45, 46, 47, 48, 49, 50, 51, 52, 53, 54, 55, 66, 67, 68, 69, 70, 71, 72, 73, 74, 75, 76, 77, 78, 79, 80, 81, 82, 83, 84, 85] (by decide +kernel) (by decide +kernel)
set_option maxRecDepth 20000 in
theorem gX7_anomalies_X7_layAll : GoodIn wsX7_anomalies (wsV RX7 121 RX7 yX7_layAll wsX7_layAll) := goodIn_app (goodIn_of _ (by decide +kernel)) ggX7_anomalies_X7_layAll
set_option maxRecDepth 20000 in
theorem ggX7_anomalies_X7_verdictOf : GoodIn wsX7_anomalies wsX7_verdictOf := goodIn_r _ [59, 13, 8, 60, 61, 62, 6, 63, 64, 14, 65, 66, 67, 68, 69, 70, 71, 72, 73, 74, 75, 76, 77, 78, 79, 80, 81, 82, 83, 84, 85] (by decide +kernel) (by decide +kernel)
set_option maxRecDepth 20000 in
theorem gX7_anomalies_X7_verdictOf : GoodIn wsX7_anomalies (wsV RX7 127 RX7 yX7_verdictOf wsX7_verdictOf) := goodIn_app (goodIn_of _ (by decide +kernel)) ggX7_anomalies_X7_verdictOf
theorem dX7_anomalies_0 : decode cX7_anomalies 0 = .ok (.aload_n 0, 1) := by decide +kernel
theorem dX7_anomalies_1 : decode cX7_anomalies 1 = .ok (.iconst 0, 1) := by decide +kernel
theorem dX7_anomalies_2 : decode cX7_anomalies 2 = .ok (.putfield 57, 3) := by decide +kernel
theorem dX7_anomalies_5 : decode cX7_anomalies 5 = .ok (.aload_n 0, 1) := by decide +kernel
theorem dX7_anomalies_6 : decode cX7_anomalies 6 = .ok (.invokevirtual 121, 3) := by decide +kernel
theorem dX7_anomalies_9 : decode cX7_anomalies 9 = .ok (.iconst 0, 1) := by decide +kernel
theorem dX7_anomalies_10 : decode cX7_anomalies 10 = .ok (.istore_n 1, 1) := by decide +kernel
theorem dX7_anomalies_11 : decode cX7_anomalies 11 = .ok (.iconst 0, 1) := by decide +kernel
theorem dX7_anomalies_12 : decode cX7_anomalies 12 = .ok (.istore_n 2, 1) := by decide +kernel
theorem dX7_anomalies_13 : decode cX7_anomalies 13 = .ok (.iload_n 2, 1) := by decide +kernel
theorem dX7_anomalies_14 : decode cX7_anomalies 14 = .ok (.aload_n 0, 1) := by decide +kernel
theorem dX7_anomalies_15 : decode cX7_anomalies 15 = .ok (.getfield 60, 3) := by decide +kernel
theorem dX7_anomalies_18 : decode cX7_anomalies 18 = .ok (.if_icmp .ge 35, 3) := by decide +kernel
theorem dX7_anomalies_21 : decode cX7_anomalies 21 = .ok (.iload_n 1, 1) := by decide +kernel
theorem dX7_anomalies_22 : decode cX7_anomalies 22 = .ok (.aload_n 0, 1) := by decide +kernel
theorem dX7_anomalies_23 : decode cX7_anomalies 23 = .ok (.iload_n 2, 1) := by decide +kernel
theorem dX7_anomalies_24 : decode cX7_anomalies 24 = .ok (.invokevirtual 127, 3) := by decide +kernel
theorem dX7_anomalies_27 : decode cX7_anomalies 27 = .ok (.iconst 1, 1) := by decide +kernel
theorem dX7_anomalies_28 : decode cX7_anomalies 28 = .ok (.if_icmp .eq 12, 3) := by decide +kernel
theorem dX7_anomalies_31 : decode cX7_anomalies 31 = .ok (.aload_n 0, 1) := by decide +kernel
theorem dX7_anomalies_32 : decode cX7_anomalies 32 = .ok (.iload_n 2, 1) := by decide +kernel
theorem dX7_anomalies_33 : decode cX7_anomalies 33 = .ok (.invokevirtual 127, 3) := by decide +kernel
theorem dX7_anomalies_36 : decode cX7_anomalies 36 = .ok (.iconst 2, 1) := by decide +kernel
theorem dX7_anomalies_37 : decode cX7_anomalies 37 = .ok (.if_icmp .ne 7, 3) := by decide +kernel
theorem dX7_anomalies_40 : decode cX7_anomalies 40 = .ok (.iconst 1, 1) := by decide +kernel
theorem dX7_anomalies_41 : decode cX7_anomalies 41 = .ok (.goto 4, 3) := by decide +kernel
theorem dX7_anomalies_44 : decode cX7_anomalies 44 = .ok (.iconst 0, 1) := by decide +kernel
theorem dX7_anomalies_45 : decode cX7_anomalies 45 = .ok (.iadd, 1) := by decide +kernel
theorem dX7_anomalies_46 : decode cX7_anomalies 46 = .ok (.istore_n 1, 1) := by decide +kernel
theorem dX7_anomalies_47 : decode cX7_anomalies 47 = .ok (.iinc 2 1, 3) := by decide +kernel
theorem dX7_anomalies_50 : decode cX7_anomalies 50 = .ok (.goto (-37), 3) := by decide +kernel
theorem dX7_anomalies_53 : decode cX7_anomalies 53 = .ok (.iload_n 1, 1) := by decide +kernel
theorem dX7_anomalies_54 : decode cX7_anomalies 54 = .ok (.ireturn, 1) := by decide +kernel
set_option maxRecDepth 20000 in
theorem ggX7_expectedNow_X7_startFor : GoodIn wsX7_expectedNow wsX7_startFor := goodIn_r _ [9, 10, 11, 12, 13, 14, 15, 16, 17, 18, 19, 20, 21, 22, 23, 24, 25, 26, 27, 28, 29, 30] (by decide +kernel) (by decide +kernel)
set_option maxRecDepth 20000 in
theorem gX7_expectedNow_X7_startFor : GoodIn wsX7_expectedNow (wsV RX7 98 RX7 yX7_startFor wsX7_startFor) := goodIn_app (goodIn_of _ (by decide +kernel)) ggX7_expectedNow_X7_startFor
theorem dX7_expectedNow_0 : decode cX7_expectedNow 0 = .ok (.aload_n 0, 1) := by decide +kernel
theorem dX7_expectedNow_1 : decode cX7_expectedNow 1 = .ok (.getfield 60, 3) := by decide +kernel
theorem dX7_expectedNow_4 : decode cX7_expectedNow 4 = .ok (.ifCond .ne 7, 3) := by decide +kernel
theorem dX7_expectedNow_7 : decode cX7_expectedNow 7 = .ok (.iconst 0, 1) := by decide +kernel
theorem dX7_expectedNow_8 : decode cX7_expectedNow 8 = .ok (.goto 13, 3) := by decide +kernel
theorem dX7_expectedNow_11 : decode cX7_expectedNow 11 = .ok (.aload_n 0, 1) := by decide +kernel
theorem dX7_expectedNow_12 : decode cX7_expectedNow 12 = .ok (.aload_n 0, 1) := by decide +kernel
theorem dX7_expectedNow_13 : decode cX7_expectedNow 13 = .ok (.getfield 60, 3) := by decide +kernel
theorem dX7_expectedNow_16 : decode cX7_expectedNow 16 = .ok (.iconst 1, 1) := by decide +kernel
theorem dX7_expectedNow_17 : decode cX7_expectedNow 17 = .ok (.isub, 1) := by decide +kernel
theorem dX7_expectedNow_18 : decode cX7_expectedNow 18 = .ok (.invokevirtual 98, 3) := by decide +kernel
theorem dX7_expectedNow_21 : decode cX7_expectedNow 21 = .ok (.istore_n 1, 1) := by decide +kernel
theorem dX7_expectedNow_22 : decode cX7_expectedNow 22 = .ok (.aload_n 0, 1) := by decide +kernel
theorem dX7_expectedNow_23 : decode cX7_expectedNow 23 = .ok (.getfield 60, 3) := by decide +kernel
theorem dX7_expectedNow_26 : decode cX7_expectedNow 26 = .ok (.ifCond .ne 7, 3) := by decide +kernel
theorem dX7_expectedNow_29 : decode cX7_expectedNow 29 = .ok (.iconst 0, 1) := by decide +kernel
theorem dX7_expectedNow_30 : decode cX7_expectedNow 30 = .ok (.goto 17, 3) := by decide +kernel
theorem dX7_expectedNow_33 : decode cX7_expectedNow 33 = .ok (.aload_n 0, 1) := by decide +kernel
theorem dX7_expectedNow_34 : decode cX7_expectedNow 34 = .ok (.getfield 45, 3) := by decide +kernel
theorem dX7_expectedNow_37 : decode cX7_expectedNow 37 = .ok (.bipush 61, 2) := by decide +kernel
theorem dX7_expectedNow_39 : decode cX7_expectedNow 39 = .ok (.iload_n 1, 1) := by decide +kernel
theorem dX7_expectedNow_40 : decode cX7_expectedNow 40 = .ok (.imul, 1) := by decide +kernel
theorem dX7_expectedNow_41 : decode cX7_expectedNow 41 = .ok (.aload_n 0, 1) := by decide +kernel
theorem dX7_expectedNow_42 : decode cX7_expectedNow 42 = .ok (.getfield 60, 3) := by decide +kernel
theorem dX7_expectedNow_45 : decode cX7_expectedNow 45 = .ok (.iadd, 1) := by decide +kernel
theorem dX7_expectedNow_46 : decode cX7_expectedNow 46 = .ok (.iaload, 1) := by decide +kernel
theorem dX7_expectedNow_47 : decode cX7_expectedNow 47 = .ok (.aload_n 0, 1) := by decide +kernel
theorem dX7_expectedNow_48 : decode cX7_expectedNow 48 = .ok (.getfield 36, 3) := by decide +kernel
theorem dX7_expectedNow_51 : decode cX7_expectedNow 51 = .ok (.aload_n 0, 1) := by decide +kernel
theorem dX7_expectedNow_52 : decode cX7_expectedNow 52 = .ok (.getfield 60, 3) := by decide +kernel
theorem dX7_expectedNow_55 : decode cX7_expectedNow 55 = .ok (.aload_n 0, 1) := by decide +kernel
theorem dX7_expectedNow_56 : decode cX7_expectedNow 56 = .ok (.getfield 17, 3) := by decide +kernel
theorem dX7_expectedNow_59 : decode cX7_expectedNow 59 = .ok (.irem, 1) := by decide +kernel
theorem dX7_expectedNow_60 : decode cX7_expectedNow 60 = .ok (.iaload, 1) := by decide +kernel
theorem dX7_expectedNow_61 : decode cX7_expectedNow 61 = .ok (.iadd, 1) := by decide +kernel
theorem dX7_expectedNow_62 : decode cX7_expectedNow 62 = .ok (.ireturn, 1) := by decide +kernel
set_option maxRecDepth 20000 in
theorem ggX7_expected_X7_layAll : GoodIn wsX7_expected wsX7_layAll := goodIn_r _ [6, 7, 8, 9, 10, 11, 12, 13, 14, 15, 16, 17, 5, 18, 19, 20, 21, 22, 23, 24, 25, 26, 27, 28, 29, 30, 31, 32, 33, 34, 35, 36, 37, 38, 39, 40, 41, 42, 43, 44, 45, 46, 47, 48, 49, 50, 51, 52, 53, 54, 55, 60, 61, 62, 63, 64, 65, 66, 67, 68, 69, 70, 71, 72, 73, 74, 75, 76, 77, 78, 79] (by decide +kernel) (by decide +kernel)
set_option maxRecDepth 20000 in
theorem gX7_expected_X7_layAll : GoodIn wsX7_expected (wsV RX7 121 RX7 yX7_layAll wsX7_layAll) := goodIn_app (goodIn_of _ (by decide +kernel)) ggX7_expected_X7_layAll
set_option maxRecDepth 20000 in
theorem ggX7_expected_X7_expectedNow : GoodIn wsX7_expected wsX7_expectedNow := goodIn_r _ [59, 7, 10, 31, 30, 52, 53, 54, 5, 55, 11, 60, 61, 62, 63, 64, 65, 66, 67, 68, 69, 70, 71, 72, 73, 74, 75, 76, 77, 78, 79] (by decide +kernel) (by decide +kernel)
set_option maxRecDepth 20000 in
theorem gX7_expected_X7_expectedNow : GoodIn wsX7_expected (wsV RX7 130 RX7 yX7_expectedNow wsX7_expectedNow) := goodIn_app (goodIn_of _ (by decide +kernel)) ggX7_expected_X7_expectedNow
theorem dX7_expected_0 : decode cX7_expected 0 = .ok (.aload_n 0, 1) := by decide +kernel
theorem dX7_expected_1 : decode cX7_expected 1 = .ok (.iconst 0, 1) := by decide +kernel
theorem dX7_expected_2 : decode cX7_expected 2 = .ok (.putfield 57, 3) := by decide +kernel
theorem dX7_expected_5 : decode cX7_expected 5 = .ok (.aload_n 0, 1) := by decide +kernel
theorem dX7_expected_6 : decode cX7_expected 6 = .ok (.invokevirtual 121, 3) := by decide +kernel
theorem dX7_expected_9 : decode cX7_expected 9 = .ok (.aload_n 0, 1) := by decide +kernel
theorem dX7_expected_10 : decode cX7_expected 10 = .ok (.invokevirtual 130, 3) := by decide +kernel
theorem dX7_expected_13 : decode cX7_expected 13 = .ok (.ireturn, 1) := by decide +kernel
set_option maxRecDepth 20000 in
theorem ggX7_judge_X7_layAll : GoodIn wsX7_judge wsX7_layAll := goodIn_r _ [6, 7, 8, 9, 10, 11, 12, 13, 14, 15, 16, 17, 5, 18, 19, 20, 21, 22, 23, 24, 25, 26, 27, 28, 29, 30, 31, 32, 33, 34, 35, 36, 37, 38, 39, 40, 41, 42, 43, 44, 45, 46, 47, 48, 49, 50, 51, 52, 53, 54, 55, 66, 67, 68, 69, 70, 71, 72, 73, 74, 75, 76, 77, 78, 79, 80, 81, 82, 83, 84, 85] (by decide +kernel) (by decide +kernel)
set_option maxRecDepth 20000 in
theorem gX7_judge_X7_layAll : GoodIn wsX7_judge (wsV RX7 121 RX7 yX7_layAll wsX7_layAll) := goodIn_app (goodIn_of _ (by decide +kernel)) ggX7_judge_X7_layAll
set_option maxRecDepth 20000 in
theorem ggX7_judge_X7_expectedNow : GoodIn wsX7_judge wsX7_expectedNow := goodIn_r _ [59, 7, 10, 31, 30, 52, 53, 54, 5, 55, 11, 66, 67, 68, 69, 70, 71, 72, 73, 74, 75, 76, 77, 78, 79, 80, 81, 82, 83, 84, 85] (by decide +kernel) (by decide +kernel)
set_option maxRecDepth 20000 in
theorem gX7_judge_X7_expectedNow : GoodIn wsX7_judge (wsV RX7 130 RX7 yX7_expectedNow wsX7_expectedNow) := goodIn_app (goodIn_of _ (by decide +kernel)) ggX7_judge_X7_expectedNow
set_option maxRecDepth 20000 in
theorem ggX7_judge_X7_boundNow : GoodIn wsX7_judge wsX7_boundNow := goodIn_r _ [63, 64, 14, 65, 66, 67, 68, 69, 70, 71, 72, 73, 74, 75, 76, 77, 78, 79, 80, 81, 82, 83, 84, 85] (by decide +kernel) (by decide +kernel)
set_option maxRecDepth 20000 in
theorem gX7_judge_X7_boundNow : GoodIn wsX7_judge (wsV RX7 124 RX7 yX7_boundNow wsX7_boundNow) := goodIn_app (goodIn_of _ (by decide +kernel)) ggX7_judge_X7_boundNow
theorem dX7_judge_0 : decode cX7_judge 0 = .ok (.aload_n 0, 1) := by decide +kernel
theorem dX7_judge_1 : decode cX7_judge 1 = .ok (.iconst 0, 1) := by decide +kernel
theorem dX7_judge_2 : decode cX7_judge 2 = .ok (.putfield 57, 3) := by decide +kernel
theorem dX7_judge_5 : decode cX7_judge 5 = .ok (.aload_n 0, 1) := by decide +kernel
theorem dX7_judge_6 : decode cX7_judge 6 = .ok (.invokevirtual 121, 3) := by decide +kernel
theorem dX7_judge_9 : decode cX7_judge 9 = .ok (.iload_n 1, 1) := by decide +kernel
theorem dX7_judge_10 : decode cX7_judge 10 = .ok (.i2l, 1) := by decide +kernel
theorem dX7_judge_11 : decode cX7_judge 11 = .ok (.aload_n 0, 1) := by decide +kernel
theorem dX7_judge_12 : decode cX7_judge 12 = .ok (.invokevirtual 130, 3) := by decide +kernel
theorem dX7_judge_15 : decode cX7_judge 15 = .ok (.i2l, 1) := by decide +kernel
theorem dX7_judge_16 : decode cX7_judge 16 = .ok (.lsub, 1) := by decide +kernel
theorem dX7_judge_17 : decode cX7_judge 17 = .ok (.lstore_n 2, 1) := by decide +kernel
theorem dX7_judge_18 : decode cX7_judge 18 = .ok (.lload_n 2, 1) := by decide +kernel
theorem dX7_judge_19 : decode cX7_judge 19 = .ok (.aload_n 0, 1) := by decide +kernel
theorem dX7_judge_20 : decode cX7_judge 20 = .ok (.invokevirtual 124, 3) := by decide +kernel
theorem dX7_judge_23 : decode cX7_judge 23 = .ok (.i2l, 1) := by decide +kernel
theorem dX7_judge_24 : decode cX7_judge 24 = .ok (.lcmp, 1) := by decide +kernel
theorem dX7_judge_25 : decode cX7_judge 25 = .ok (.ifCond .le 7, 3) := by decide +kernel
theorem dX7_judge_28 : decode cX7_judge 28 = .ok (.iconst 1, 1) := by decide +kernel
theorem dX7_judge_29 : decode cX7_judge 29 = .ok (.goto 19, 3) := by decide +kernel
theorem dX7_judge_32 : decode cX7_judge 32 = .ok (.lload_n 2, 1) := by decide +kernel
theorem dX7_judge_33 : decode cX7_judge 33 = .ok (.aload_n 0, 1) := by decide +kernel
theorem dX7_judge_34 : decode cX7_judge 34 = .ok (.invokevirtual 124, 3) := by decide +kernel
theorem dX7_judge_37 : decode cX7_judge 37 = .ok (.ineg, 1) := by decide +kernel
theorem dX7_judge_38 : decode cX7_judge 38 = .ok (.i2l, 1) := by decide +kernel
theorem dX7_judge_39 : decode cX7_judge 39 = .ok (.lcmp, 1) := by decide +kernel
theorem dX7_judge_40 : decode cX7_judge 40 = .ok (.ifCond .ge 7, 3) := by decide +kernel
theorem dX7_judge_43 : decode cX7_judge 43 = .ok (.iconst 2, 1) := by decide +kernel
theorem dX7_judge_44 : decode cX7_judge 44 = .ok (.goto 4, 3) := by decide +kernel
theorem dX7_judge_47 : decode cX7_judge 47 = .ok (.iconst 0, 1) := by decide +kernel
theorem dX7_judge_48 : decode cX7_judge 48 = .ok (.ireturn, 1) := by decide +kernel
theorem dJ9_abs_0f7a4_0 : decode cJ9_abs_0f7a4 0 = .ok (.iload_n 0, 1) := by decide +kernel
theorem dJ9_abs_0f7a4_1 : decode cJ9_abs_0f7a4 1 = .ok (.ifCond .ge 8, 3) := by decide +kernel
theorem dJ9_abs_0f7a4_4 : decode cJ9_abs_0f7a4 4 = .ok (.iload_n 0, 1) := by decide +kernel
theorem dJ9_abs_0f7a4_5 : decode cJ9_abs_0f7a4 5 = .ok (.ineg, 1) := by decide +kernel
theorem dJ9_abs_0f7a4_6 : decode cJ9_abs_0f7a4 6 = .ok (.goto 4, 3) := by decide +kernel
theorem dJ9_abs_0f7a4_9 : decode cJ9_abs_0f7a4 9 = .ok (.iload_n 0, 1) := by decide +kernel
theorem dJ9_abs_0f7a4_10 : decode cJ9_abs_0f7a4 10 = .ok (.ireturn, 1) := by decide +kernel
theorem dJ9_max_7cf53_0 : decode cJ9_max_7cf53 0 = .ok (.iload_n 0, 1) := by decide +kernel
theorem dJ9_max_7cf53_1 : decode cJ9_max_7cf53 1 = .ok (.iload_n 1, 1) := by decide +kernel
theorem dJ9_max_7cf53_2 : decode cJ9_max_7cf53 2 = .ok (.if_icmp .lt 7, 3) := by decide +kernel
theorem dJ9_max_7cf53_5 : decode cJ9_max_7cf53 5 = .ok (.iload_n 0, 1) := by decide +kernel
theorem dJ9_max_7cf53_6 : decode cJ9_max_7cf53 6 = .ok (.goto 4, 3) := by decide +kernel
theorem dJ9_max_7cf53_9 : decode cJ9_max_7cf53 9 = .ok (.iload_n 1, 1) := by decide +kernel
theorem dJ9_max_7cf53_10 : decode cJ9_max_7cf53 10 = .ok (.ireturn, 1) := by decide +kernel
theorem dJ9_min_7cf53_0 : decode cJ9_min_7cf53 0 = .ok (.iload_n 0, 1) := by decide +kernel
theorem dJ9_min_7cf53_1 : decode cJ9_min_7cf53 1 = .ok (.iload_n 1, 1) := by decide +kernel
theorem dJ9_min_7cf53_2 : decode cJ9_min_7cf53 2 = .ok (.if_icmp .gt 7, 3) := by decide +kernel
theorem dJ9_min_7cf53_5 : decode cJ9_min_7cf53 5 = .ok (.iload_n 0, 1) := by decide +kernel
theorem dJ9_min_7cf53_6 : decode cJ9_min_7cf53 6 = .ok (.goto 4, 3) := by decide +kernel
theorem dJ9_min_7cf53_9 : decode cJ9_min_7cf53 9 = .ok (.iload_n 1, 1) := by decide +kernel
theorem dJ9_min_7cf53_10 : decode cJ9_min_7cf53 10 = .ok (.ireturn, 1) := by decide +kernel
