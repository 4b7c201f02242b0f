theorem dX1_findSeason_44 : decode cX1_findSeason 44 = .ok (.aload_n 0, 1) := by decide +kernel
theorem dX1_findSeason_45 : decode cX1_findSeason 45 = .ok (.getfield 33, 3) := by decide +kernel
theorem dX1_findSeason_48 : decode cX1_findSeason 48 = .ok (.iload_n 2, 1) := by decide +kernel
theorem dX1_findSeason_49 : decode cX1_findSeason 49 = .ok (.invokevirtual 50, 3) := by decide +kernel
theorem dX1_findSeason_52 : decode cX1_findSeason 52 = .ok (.aload_n 0, 1) := by decide +kernel
theorem dX1_findSeason_53 : decode cX1_findSeason 53 = .ok (.getfield 30, 3) := by decide +kernel
theorem dX1_findSeason_56 : decode cX1_findSeason 56 = .ok (.isub, 1) := by decide +kernel
theorem dX1_findSeason_57 : decode cX1_findSeason 57 = .ok (.invokevirtual 71, 3) := by decide +kernel
theorem dX1_findSeason_60 : decode cX1_findSeason 60 = .ok (.iinc 2 1, 3) := by decide +kernel
theorem dX1_findSeason_63 : decode cX1_findSeason 63 = .ok (.goto (-54), 3) := by decide +kernel
theorem dX1_findSeason_66 : decode cX1_findSeason 66 = .ok (.aload_n 0, 1) := by decide +kernel
theorem dX1_findSeason_67 : decode cX1_findSeason 67 = .ok (.getfield 10, 3) := by decide +kernel
theorem dX1_findSeason_70 : decode cX1_findSeason 70 = .ok (.iload_n 1, 1) := by decide +kernel
theorem dX1_findSeason_71 : decode cX1_findSeason 71 = .ok (.aload_n 0, 1) := by decide +kernel
theorem dX1_findSeason_72 : decode cX1_findSeason 72 = .ok (.getfield 22, 3) := by decide +kernel
theorem dX1_findSeason_75 : decode cX1_findSeason 75 = .ok (.invokevirtual 74, 3) := by decide +kernel
theorem dX1_findSeason_78 : decode cX1_findSeason 78 = .ok (.invokevirtual 60, 3) := by decide +kernel
theorem dX1_findSeason_81 : decode cX1_findSeason 81 = .ok (.return_, 1) := by decide +kernel
set_option maxRecDepth 20000 in
theorem ggX2_init_X4_init : GoodIn wsX2_init wsX4_init := goodIn_r _ [23, 24, 2, 3, 25, 26, 27, 28, 33, 34, 35] (by decide +kernel) (by decide +kernel)
set_option maxRecDepth 20000 in
theorem gX2_init_X4_init_n11 : GoodIn wsX2_init (wsX4_init) := ggX2_init_X4_init
set_option maxRecDepth 20000 in
theorem ggX2_init_X0_init : GoodIn wsX2_init wsX0_init := goodIn_r _ [30, 31, 2, 3, 25, 32, 48] (by decide +kernel) (by decide +kernel)
set_option maxRecDepth 20000 in
theorem gX2_init_X0_init_n27 : GoodIn wsX2_init (wsX0_init) := ggX2_init_X0_init
theorem dX2_init_0 : decode cX2_init 0 = .ok (.aload_n 0, 1) := by decide +kernel
theorem dX2_init_1 : decode cX2_init 1 = .ok (.invokespecial 3, 3) := by decide +kernel
theorem dX2_init_4 : decode cX2_init 4 = .ok (.aload_n 0, 1) := by decide +kernel
theorem dX2_init_5 : decode cX2_init 5 = .ok (.new 9, 3) := by decide +kernel
theorem dX2_init_8 : decode cX2_init 8 = .ok (.dup, 1) := by decide +kernel
theorem dX2_init_9 : decode cX2_init 9 = .ok (.invokespecial 11, 3) := by decide +kernel
theorem dX2_init_12 : decode cX2_init 12 = .ok (.putfield 12, 3) := by decide +kernel
theorem dX2_init_15 : decode cX2_init 15 = .ok (.aload_n 0, 1) := by decide +kernel
theorem dX2_init_16 : decode cX2_init 16 = .ok (.iconst 2, 1) := by decide +kernel
theorem dX2_init_17 : decode cX2_init 17 = .ok (.putfield 18, 3) := by decide +kernel
theorem dX2_init_20 : decode cX2_init 20 = .ok (.aload_n 0, 1) := by decide +kernel
theorem dX2_init_21 : decode cX2_init 21 = .ok (.bipush 100, 2) := by decide +kernel
theorem dX2_init_23 : decode cX2_init 23 = .ok (.putfield 22, 3) := by decide +kernel
theorem dX2_init_26 : decode cX2_init 26 = .ok (.aload_n 0, 1) := by decide +kernel
theorem dX2_init_27 : decode cX2_init 27 = .ok (.new 25, 3) := by decide +kernel
theorem dX2_init_30 : decode cX2_init 30 = .ok (.dup, 1) := by decide +kernel
theorem dX2_init_31 : decode cX2_init 31 = .ok (.invokespecial 27, 3) := by decide +kernel
theorem dX2_init_34 : decode cX2_init 34 = .ok (.putfield 28, 3) := by decide +kernel
theorem dX2_init_37 : decode cX2_init 37 = .ok (.aload_n 0, 1) := by decide +kernel
theorem dX2_init_38 : decode cX2_init 38 = .ok (.new 25, 3) := by decide +kernel
theorem dX2_init_41 : decode cX2_init 41 = .ok (.dup, 1) := by decide +kernel
theorem dX2_init_42 : decode cX2_init 42 = .ok (.invokespecial 27, 3) := by decide +kernel
theorem dX2_init_45 : decode cX2_init 45 = .ok (.putfield 32, 3) := by decide +kernel
theorem dX2_init_48 : decode cX2_init 48 = .ok (.aload_n 0, 1) := by decide +kernel
theorem dX2_init_49 : decode cX2_init 49 = .ok (.new 25, 3) := by decide +kernel
theorem dX2_init_52 : decode cX2_init 52 = .ok (.dup, 1) := by decide +kernel
theorem dX2_init_53 : decode cX2_init 53 = .ok (.invokespecial 27, 3) := by decide +kernel
theorem dX2_init_56 : decode cX2_init 56 = .ok (.putfield 35, 3) := by decide +kernel
theorem dX2_init_59 : decode cX2_init 59 = .ok (.aload_n 0, 1) := by decide +kernel
theorem dX2_init_60 : decode cX2_init 60 = .ok (.new 25, 3) := by decide +kernel
theorem dX2_init_63 : decode cX2_init 63 = .ok (.dup, 1) := by decide +kernel
theorem dX2_init_64 : decode cX2_init 64 = .ok (.invokespecial 27, 3) := by decide +kernel
theorem dX2_init_67 : decode cX2_init 67 = .ok (.putfield 38, 3) := by decide +kernel
theorem dX2_init_70 : decode cX2_init 70 = .ok (.aload_n 0, 1) := by decide +kernel
theorem dX2_init_71 : decode cX2_init 71 = .ok (.new 25, 3) := by decide +kernel
theorem dX2_init_74 : decode cX2_init 74 = .ok (.dup, 1) := by decide +kernel
theorem dX2_init_75 : decode cX2_init 75 = .ok (.invokespecial 27, 3) := by decide +kernel
theorem dX2_init_78 : decode cX2_init 78 = .ok (.putfield 41, 3) := by decide +kernel
theorem dX2_init_81 : decode cX2_init 81 = .ok (.aload_n 0, 1) := by decide +kernel
theorem dX2_init_82 : decode cX2_init 82 = .ok (.new 25, 3) := by decide +kernel
theorem dX2_init_85 : decode cX2_init 85 = .ok (.dup, 1) := by decide +kernel
theorem dX2_init_86 : decode cX2_init 86 = .ok (.invokespecial 27, 3) := by decide +kernel
theorem dX2_init_89 : decode cX2_init 89 = .ok (.putfield 44, 3) := by decide +kernel
theorem dX2_init_92 : decode cX2_init 92 = .ok (.aload_n 0, 1) := by decide +kernel
theorem dX2_init_93 : decode cX2_init 93 = .ok (.iconst 0, 1) := by decide +kernel
theorem dX2_init_94 : decode cX2_init 94 = .ok (.putfield 47, 3) := by decide +kernel
theorem dX2_init_97 : decode cX2_init 97 = .ok (.aload_n 0, 1) := by decide +kernel
theorem dX2_init_98 : decode cX2_init 98 = .ok (.aload_n 1, 1) := by decide +kernel
theorem dX2_init_99 : decode cX2_init 99 = .ok (.putfield 50, 3) := by decide +kernel
theorem dX2_init_102 : decode cX2_init 102 = .ok (.aload_n 0, 1) := by decide +kernel
theorem dX2_init_103 : decode cX2_init 103 = .ok (.aload_n 2, 1) := by decide +kernel
theorem dX2_init_104 : decode cX2_init 104 = .ok (.putfield 54, 3) := by decide +kernel
theorem dX2_init_107 : decode cX2_init 107 = .ok (.return_, 1) := by decide +kernel
theorem dX2_leastLength_0 : decode cX2_leastLength 0 = .ok (.aload_n 0, 1) := by decide +kernel
theorem dX2_leastLength_1 : decode cX2_leastLength 1 = .ok (.getfield 18, 3) := by decide +kernel
theorem dX2_leastLength_4 : decode cX2_leastLength 4 = .ok (.ireturn, 1) := by decide +kernel
theorem dX2_penaltyOfCut_0 : decode cX2_penaltyOfCut 0 = .ok (.aload_n 0, 1) := by decide +kernel
theorem dX2_penaltyOfCut_1 : decode cX2_penaltyOfCut 1 = .ok (.getfield 22, 3) := by decide +kernel
theorem dX2_penaltyOfCut_4 : decode cX2_penaltyOfCut 4 = .ok (.ireturn, 1) := by decide +kernel
theorem dX2_changeCuts_0 : decode cX2_changeCuts 0 = .ok (.aload_n 0, 1) := by decide +kernel
theorem dX2_changeCuts_1 : decode cX2_changeCuts 1 = .ok (.iload_n 1, 1) := by decide +kernel
theorem dX2_changeCuts_2 : decode cX2_changeCuts 2 = .ok (.putfield 18, 3) := by decide +kernel
theorem dX2_changeCuts_5 : decode cX2_changeCuts 5 = .ok (.aload_n 0, 1) := by decide +kernel
theorem dX2_changeCuts_6 : decode cX2_changeCuts 6 = .ok (.iload_n 2, 1) := by decide +kernel
theorem dX2_changeCuts_7 : decode cX2_changeCuts 7 = .ok (.putfield 22, 3) := by decide +kernel
theorem dX2_changeCuts_10 : decode cX2_changeCuts 10 = .ok (.return_, 1) := by decide +kernel
theorem dX2_howMany_0 : decode cX2_howMany 0 = .ok (.aload_n 0, 1) := by decide +kernel
theorem dX2_howMany_1 : decode cX2_howMany 1 = .ok (.getfield 47, 3) := by decide +kernel
theorem dX2_howMany_4 : decode cX2_howMany 4 = .ok (.ireturn, 1) := by decide +kernel
set_option maxRecDepth 20000 in
theorem ggX2_startAt_X0_at : GoodIn wsX2_startAt wsX0_at := goodIn_r _ [6, 7, 20] (by decide +kernel) (by decide +kernel)
set_option maxRecDepth 20000 in
theorem gX2_startAt_X0_at : GoodIn wsX2_startAt (wsV RX2 58 RX0 yX0_at wsX0_at) := goodIn_app (goodIn_of _ (by decide +kernel)) ggX2_startAt_X0_at
theorem dX2_startAt_0 : decode cX2_startAt 0 = .ok (.aload_n 0, 1) := by decide +kernel
theorem dX2_startAt_1 : decode cX2_startAt 1 = .ok (.getfield 38, 3) := by decide +kernel
theorem dX2_startAt_4 : decode cX2_startAt 4 = .ok (.iload_n 1, 1) := by decide +kernel
theorem dX2_startAt_5 : decode cX2_startAt 5 = .ok (.invokevirtual 58, 3) := by decide +kernel
theorem dX2_startAt_8 : decode cX2_startAt 8 = .ok (.ireturn, 1) := by decide +kernel
set_option maxRecDepth 20000 in
theorem ggX2_levelAt_X0_at : GoodIn wsX2_levelAt wsX0_at := goodIn_r _ [6, 7, 20] (by decide +kernel) (by decide +kernel)
set_option maxRecDepth 20000 in
theorem gX2_levelAt_X0_at : GoodIn wsX2_levelAt (wsV RX2 58 RX0 yX0_at wsX0_at) := goodIn_app (goodIn_of _ (by decide +kernel)) ggX2_levelAt_X0_at
theorem dX2_levelAt_0 : decode cX2_levelAt 0 = .ok (.aload_n 0, 1) := by decide +kernel
theorem dX2_levelAt_1 : decode cX2_levelAt 1 = .ok (.getfield 41, 3) := by decide +kernel
theorem dX2_levelAt_4 : decode cX2_levelAt 4 = .ok (.iload_n 1, 1) := by decide +kernel
theorem dX2_levelAt_5 : decode cX2_levelAt 5 = .ok (.invokevirtual 58, 3) := by decide +kernel
theorem dX2_levelAt_8 : decode cX2_levelAt 8 = .ok (.ireturn, 1) := by decide +kernel
set_option maxRecDepth 20000 in
theorem ggX2_lastLevel_X0_at : GoodIn wsX2_lastLevel wsX0_at := goodIn_r _ [7, 8, 21] (by decide +kernel) (by decide +kernel)
set_option maxRecDepth 20000 in
theorem gX2_lastLevel_X0_at : GoodIn wsX2_lastLevel (wsV RX2 58 RX0 yX0_at wsX0_at) := goodIn_app (goodIn_of _ (by decide +kernel)) ggX2_lastLevel_X0_at
theorem dX2_lastLevel_0 : decode cX2_lastLevel 0 = .ok (.aload_n 0, 1) := by decide +kernel
theorem dX2_lastLevel_1 : decode cX2_lastLevel 1 = .ok (.getfield 47, 3) := by decide +kernel
theorem dX2_lastLevel_4 : decode cX2_lastLevel 4 = .ok (.ifCond .ne 7, 3) := by decide +kernel
theorem dX2_lastLevel_7 : decode cX2_lastLevel 7 = .ok (.iconst 0, 1) := by decide +kernel
theorem dX2_lastLevel_8 : decode cX2_lastLevel 8 = .ok (.goto 16, 3) := by decide +kernel
theorem dX2_lastLevel_11 : decode cX2_lastLevel 11 = .ok (.aload_n 0, 1) := by decide +kernel
theorem dX2_lastLevel_12 : decode cX2_lastLevel 12 = .ok (.getfield 41, 3) := by decide +kernel
theorem dX2_lastLevel_15 : decode cX2_lastLevel 15 = .ok (.aload_n 0, 1) := by decide +kernel
theorem dX2_lastLevel_16 : decode cX2_lastLevel 16 = .ok (.getfield 47, 3) := by decide +kernel
theorem dX2_lastLevel_19 : decode cX2_lastLevel 19 = .ok (.iconst 1, 1) := by decide +kernel
theorem dX2_lastLevel_20 : decode cX2_lastLevel 20 = .ok (.isub, 1) := by decide +kernel
theorem dX2_lastLevel_21 : decode cX2_lastLevel 21 = .ok (.invokevirtual 58, 3) := by decide +kernel
theorem dX2_lastLevel_24 : decode cX2_lastLevel 24 = .ok (.ireturn, 1) := by decide +kernel
set_option maxRecDepth 20000 in
theorem ggX2_levelAtValue_X0_at : GoodIn wsX2_levelAtValue wsX0_at := goodIn_r _ [6, 7, 20] (by decide +kernel) (by decide +kernel)
set_option maxRecDepth 20000 in
theorem gX2_levelAtValue_X0_at : GoodIn wsX2_levelAtValue (wsV RX2 58 RX0 yX0_at wsX0_at) := goodIn_app (goodIn_of _ (by decide +kernel)) ggX2_levelAtValue_X0_at
theorem dX2_levelAtValue_0 : decode cX2_levelAtValue 0 = .ok (.aload_n 0, 1) := by decide +kernel
theorem dX2_levelAtValue_1 : decode cX2_levelAtValue 1 = .ok (.getfield 44, 3) := by decide +kernel
theorem dX2_levelAtValue_4 : decode cX2_levelAtValue 4 = .ok (.iload_n 1, 1) := by decide +kernel
theorem dX2_levelAtValue_5 : decode cX2_levelAtValue 5 = .ok (.invokevirtual 58, 3) := by decide +kernel
theorem dX2_levelAtValue_8 : decode cX2_levelAtValue 8 = .ok (.ireturn, 1) := by decide +kernel
set_option maxRecDepth 20000 in
theorem ggX2_wholeCost_X0_at : GoodIn wsX2_wholeCost wsX0_at := goodIn_r _ [7, 8, 21] (by decide +kernel) (by decide +kernel)
set_option maxRecDepth 20000 in
theorem gX2_wholeCost_X0_at : GoodIn wsX2_wholeCost (wsV RX2 58 RX0 yX0_at wsX0_at) := goodIn_app (goodIn_of _ (by decide +kernel)) ggX2_wholeCost_X0_at
theorem dX2_wholeCost_0 : decode cX2_wholeCost 0 = .ok (.aload_n 0, 1) := by decide +kernel
theorem dX2_wholeCost_1 : decode cX2_wholeCost 1 = .ok (.getfield 47, 3) := by decide +kernel
theorem dX2_wholeCost_4 : decode cX2_wholeCost 4 = .ok (.ifCond .ne 7, 3) := by decide +kernel
theorem dX2_wholeCost_7 : decode cX2_wholeCost 7 = .ok (.iconst 0, 1) := by decide +kernel
theorem dX2_wholeCost_8 : decode cX2_wholeCost 8 = .ok (.goto 11, 3) := by decide +kernel
theorem dX2_wholeCost_11 : decode cX2_wholeCost 11 = .ok (.aload_n 0, 1) := by decide +kernel
theorem dX2_wholeCost_12 : decode cX2_wholeCost 12 = .ok (.getfield 28, 3) := by decide +kernel
theorem dX2_wholeCost_15 : decode cX2_wholeCost 15 = .ok (.iconst 0, 1) := by decide +kernel
theorem dX2_wholeCost_16 : decode cX2_wholeCost 16 = .ok (.invokevirtual 58, 3) := by decide +kernel
theorem dX2_wholeCost_19 : decode cX2_wholeCost 19 = .ok (.ireturn, 1) := by decide +kernel
set_option maxRecDepth 20000 in
theorem ggX2_costBetween_X2_sortBetween : GoodIn wsX2_costBetween wsX2_sortBetween := goodIn_r _ [6, 1, 7, 8, 9, 10, 11, 12, 13, 14, 15, 16, 5, 17, 18, 19, 20, 21, 22, 23, 24, 25, 26, 27, 28, 29, 30, 31, 32, 33, 34, 35, 36, 37, 38, 39, 40, 41, 42, 43, 44, 45, 46, 47, 52, 53, 54, 55, 56, 57, 58, 59, 60, 61, 62, 63, 64, 65, 66, 67, 68, 69, 70, 71, 72, 73, 74, 75, 76] (by decide +kernel) (by decide +kernel)
set_option maxRecDepth 20000 in
theorem gX2_costBetween_X2_sortBetween : GoodIn wsX2_costBetween (wsV RX2 62 RX2 yX2_sortBetween wsX2_sortBetween) := goodIn_app (goodIn_of _ (by decide +kernel)) ggX2_costBetween_X2_sortBetween
set_option maxRecDepth 20000 in
theorem ggX2_costBetween_X4_spreadAroundMedian : GoodIn wsX2_costBetween wsX4_spreadAroundMedian := goodIn_r _ [51, 13, 64, 65, 66] (by decide +kernel) (by decide +kernel)
set_option maxRecDepth 20000 in
theorem gX2_costBetween_X4_spreadAroundMedian : GoodIn wsX2_costBetween (wsV RX2 66 RX4 yX4_spreadAroundMedian wsX4_spreadAroundMedian) := goodIn_app (goodIn_of _ (by decide +kernel)) ggX2_costBetween_X4_spreadAroundMedian
theorem dX2_costBetween_0 : decode cX2_costBetween 0 = .ok (.aload_n 0, 1) := by decide +kernel
theorem dX2_costBetween_1 : decode cX2_costBetween 1 = .ok (.iload_n 1, 1) := by decide +kernel
theorem dX2_costBetween_2 : decode cX2_costBetween 2 = .ok (.iload_n 2, 1) := by decide +kernel
theorem dX2_costBetween_3 : decode cX2_costBetween 3 = .ok (.invokevirtual 62, 3) := by decide +kernel
theorem dX2_costBetween_6 : decode cX2_costBetween 6 = .ok (.aload_n 0, 1) := by decide +kernel
theorem dX2_costBetween_7 : decode cX2_costBetween 7 = .ok (.getfield 12, 3) := by decide +kernel
theorem dX2_costBetween_10 : decode cX2_costBetween 10 = .ok (.invokevirtual 66, 3) := by decide +kernel
theorem dX2_costBetween_13 : decode cX2_costBetween 13 = .ok (.ireturn, 1) := by decide +kernel
set_option maxRecDepth 20000 in
theorem ggX2_findCuts_X3_count : GoodIn wsX2_findCuts wsX3_count := goodIn_r _ [6, 7, 87, 88, 89] (by decide +kernel) (by decide +kernel)
set_option maxRecDepth 20000 in
theorem gX2_findCuts_X3_count : GoodIn wsX2_findCuts (wsV RX2 70 RX3 yX3_count wsX3_count) := goodIn_app (goodIn_of _ (by decide +kernel)) ggX2_findCuts_X3_count
set_option maxRecDepth 20000 in
theorem ggX2_findCuts_X2_findBestFrom : GoodIn wsX2_findCuts wsX2_findBestFrom := goodIn_r _ [12, 13, 14, 15, 16, 17, 18, 19, 20, 21, 22, 23, 24, 25, 26, 27, 28, 11, 29, 30, 31, 32, 33, 34, 35, 36, 37, 38, 39, 40, 1, 41, 42, 43, 44, 5, 45, 46, 47, 48, 49, 50, 7, 51, 52, 53, 54, 55, 56, 57, 58, 59, 60, 61, 62, 63, 64, 65, 66, 67, 68, 69, 70, 71, 72, 73, 74, 75, 76, 77, 78, 79, 80, 81, 82, 83, 84, 85, 86, 90, 91, 92, 93, 87, 88, 89, 94, 95, 96, 97, 98, 99] (by decide +kernel) (by decide +kernel)
set_option maxRecDepth 20000 in
theorem gX2_findCuts_X2_findBestFrom : GoodIn wsX2_findCuts (wsV RX2 75 RX2 yX2_findBestFrom wsX2_findBestFrom) := goodIn_app (goodIn_of _ (by decide +kernel)) ggX2_findCuts_X2_findBestFrom
theorem dX2_findCuts_0 : decode cX2_findCuts 0 = .ok (.aload_n 0, 1) := by decide +kernel
theorem dX2_findCuts_1 : decode cX2_findCuts 1 = .ok (.getfield 50, 3) := by decide +kernel
theorem dX2_findCuts_4 : decode cX2_findCuts 4 = .ok (.invokevirtual 70, 3) := by decide +kernel
theorem dX2_findCuts_7 : decode cX2_findCuts 7 = .ok (.istore_n 1, 1) := by decide +kernel
theorem dX2_findCuts_8 : decode cX2_findCuts 8 = .ok (.iload_n 1, 1) := by decide +kernel
theorem dX2_findCuts_9 : decode cX2_findCuts 9 = .ok (.iconst 1, 1) := by decide +kernel
theorem dX2_findCuts_10 : decode cX2_findCuts 10 = .ok (.isub, 1) := by decide +kernel
theorem dX2_findCuts_11 : decode cX2_findCuts 11 = .ok (.istore_n 2, 1) := by decide +kernel
theorem dX2_findCuts_12 : decode cX2_findCuts 12 = .ok (.iload_n 2, 1) := by decide +kernel
theorem dX2_findCuts_13 : decode cX2_findCuts 13 = .ok (.ifCond .lt 15, 3) := by decide +kernel
theorem dX2_findCuts_16 : decode cX2_findCuts 16 = .ok (.aload_n 0, 1) := by decide +kernel
theorem dX2_findCuts_17 : decode cX2_findCuts 17 = .ok (.iload_n 2, 1) := by decide +kernel
theorem dX2_findCuts_18 : decode cX2_findCuts 18 = .ok (.iload_n 1, 1) := by decide +kernel
theorem dX2_findCuts_19 : decode cX2_findCuts 19 = .ok (.invokevirtual 75, 3) := by decide +kernel
theorem dX2_findCuts_22 : decode cX2_findCuts 22 = .ok (.iinc 2 (-1), 3) := by decide +kernel
theorem dX2_findCuts_25 : decode cX2_findCuts 25 = .ok (.goto (-13), 3) := by decide +kernel
theorem dX2_findCuts_28 : decode cX2_findCuts 28 = .ok (.return_, 1) := by decide +kernel
set_option maxRecDepth 20000 in
theorem ggX2_followCuts_X3_count : GoodIn wsX2_followCuts wsX3_count := goodIn_r _ [12, 13, 78, 79, 80] (by decide +kernel) (by decide +kernel)
set_option maxRecDepth 20000 in
theorem gX2_followCuts_X3_count : GoodIn wsX2_followCuts (wsV RX2 70 RX3 yX3_count wsX3_count) := goodIn_app (goodIn_of _ (by decide +kernel)) ggX2_followCuts_X3_count
set_option maxRecDepth 20000 in
theorem ggX2_followCuts_X0_at : GoodIn wsX2_followCuts wsX0_at := goodIn_r _ [18, 19, 81] (by decide +kernel) (by decide +kernel)
set_option maxRecDepth 20000 in
theorem gX2_followCuts_X0_at : GoodIn wsX2_followCuts (wsV RX2 58 RX0 yX0_at wsX0_at) := goodIn_app (goodIn_of _ (by decide +kernel)) ggX2_followCuts_X0_at
set_option maxRecDepth 20000 in
theorem ggX2_followCuts_X2_sortBetween : GoodIn wsX2_followCuts wsX2_sortBetween := goodIn_r _ [24, 4, 25, 26, 27, 28, 29, 30, 31, 32, 33, 34, 23, 35, 1, 36, 37, 38, 39, 11, 40, 41, 42, 43, 44, 45, 13, 46, 47, 48, 49, 50, 51, 52, 15, 16, 17, 18, 19, 53, 54, 55, 56, 57, 66, 67, 68, 69, 70, 71, 72, 73, 74, 75, 76, 77, 82, 83, 84, 78, 79, 80, 85, 86, 87, 88, 89, 90, 81] (by decide +kernel) (by decide +kernel)
set_option maxRecDepth 20000 in
theorem gX2_followCuts_X2_sortBetween : GoodIn wsX2_followCuts (wsV RX2 62 RX2 yX2_sortBetween wsX2_sortBetween) := goodIn_app (goodIn_of _ (by decide +kernel)) ggX2_followCuts_X2_sortBetween
set_option maxRecDepth 20000 in
theorem ggX2_followCuts_X4_median : GoodIn wsX2_followCuts wsX4_median := goodIn_r _ [61, 30, 57, 82, 83, 84] (by decide +kernel) (by decide +kernel)
set_option maxRecDepth 20000 in
theorem gX2_followCuts_X4_median : GoodIn wsX2_followCuts (wsV RX2 78 RX4 yX4_median wsX4_median) := goodIn_app (goodIn_of _ (by decide +kernel)) ggX2_followCuts_X4_median
set_option maxRecDepth 20000 in
theorem ggX2_followCuts_X0_put : GoodIn wsX2_followCuts wsX0_put := goodIn_r _ [65, 19, 81] (by decide +kernel) (by decide +kernel)
set_option maxRecDepth 20000 in
theorem gX2_followCuts_X0_put : GoodIn wsX2_followCuts (wsV RX2 81 RX0 yX0_put wsX0_put) := goodIn_app (goodIn_of _ (by decide +kernel)) ggX2_followCuts_X0_put
theorem dX2_followCuts_0 : decode cX2_followCuts 0 = .ok (.aload_n 0, 1) := by decide +kernel
theorem dX2_followCuts_1 : decode cX2_followCuts 1 = .ok (.getfield 50, 3) := by decide +kernel
theorem dX2_followCuts_4 : decode cX2_followCuts 4 = .ok (.invokevirtual 70, 3) := by decide +kernel
theorem dX2_followCuts_7 : decode cX2_followCuts 7 = .ok (.istore_n 1, 1) := by decide +kernel
theorem dX2_followCuts_8 : decode cX2_followCuts 8 = .ok (.iconst 0, 1) := by decide +kernel
theorem dX2_followCuts_9 : decode cX2_followCuts 9 = .ok (.istore_n 2, 1) := by decide +kernel
theorem dX2_followCuts_10 : decode cX2_followCuts 10 = .ok (.aload_n 0, 1) := by decide +kernel
theorem dX2_followCuts_11 : decode cX2_followCuts 11 = .ok (.iconst 0, 1) := by decide +kernel
theorem dX2_followCuts_12 : decode cX2_followCuts 12 = .ok (.putfield 47, 3) := by decide +kernel
theorem dX2_followCuts_15 : decode cX2_followCuts 15 = .ok (.iload_n 2, 1) := by decide +kernel
theorem dX2_followCuts_16 : decode cX2_followCuts 16 = .ok (.iload_n 1, 1) := by decide +kernel
theorem dX2_followCuts_17 : decode cX2_followCuts 17 = .ok (.if_icmp .ge 102, 3) := by decide +kernel
theorem dX2_followCuts_20 : decode cX2_followCuts 20 = .ok (.aload_n 0, 1) := by decide +kernel
theorem dX2_followCuts_21 : decode cX2_followCuts 21 = .ok (.getfield 47, 3) := by decide +kernel
theorem dX2_followCuts_24 : decode cX2_followCuts 24 = .ok (.bipush 60, 2) := by decide +kernel
theorem dX2_followCuts_26 : decode cX2_followCuts 26 = .ok (.if_icmp .ge 93, 3) := by decide +kernel
theorem dX2_followCuts_29 : decode cX2_followCuts 29 = .ok (.aload_n 0, 1) := by decide +kernel
theorem dX2_followCuts_30 : decode cX2_followCuts 30 = .ok (.getfield 35, 3) := by decide +kernel
theorem dX2_followCuts_33 : decode cX2_followCuts 33 = .ok (.iload_n 2, 1) := by decide +kernel
theorem dX2_followCuts_34 : decode cX2_followCuts 34 = .ok (.invokevirtual 58, 3) := by decide +kernel
theorem dX2_followCuts_37 : decode cX2_followCuts 37 = .ok (.istore_n 3, 1) := by decide +kernel
theorem dX2_followCuts_38 : decode cX2_followCuts 38 = .ok (.aload_n 0, 1) := by decide +kernel
theorem dX2_followCuts_39 : decode cX2_followCuts 39 = .ok (.iload_n 2, 1) := by decide +kernel
theorem dX2_followCuts_40 : decode cX2_followCuts 40 = .ok (.iload_n 3, 1) := by decide +kernel
theorem dX2_followCuts_41 : decode cX2_followCuts 41 = .ok (.invokevirtual 62, 3) := by decide +kernel
theorem dX2_followCuts_44 : decode cX2_followCuts 44 = .ok (.aload_n 0, 1) := by decide +kernel
theorem dX2_followCuts_45 : decode cX2_followCuts 45 = .ok (.getfield 12, 3) := by decide +kernel
theorem dX2_followCuts_48 : decode cX2_followCuts 48 = .ok (.invokevirtual 78, 3) := by decide +kernel
theorem dX2_followCuts_51 : decode cX2_followCuts 51 = .ok (.istore 4, 2) := by decide +kernel
theorem dX2_followCuts_53 : decode cX2_followCuts 53 = .ok (.aload_n 0, 1) := by decide +kernel
theorem dX2_followCuts_54 : decode cX2_followCuts 54 = .ok (.getfield 38, 3) := by decide +kernel
theorem dX2_followCuts_57 : decode cX2_followCuts 57 = .ok (.aload_n 0, 1) := by decide +kernel
theorem dX2_followCuts_58 : decode cX2_followCuts 58 = .ok (.getfield 47, 3) := by decide +kernel
theorem dX2_followCuts_61 : decode cX2_followCuts 61 = .ok (.iload_n 2, 1) := by decide +kernel
theorem dX2_followCuts_62 : decode cX2_followCuts 62 = .ok (.invokevirtual 81, 3) := by decide +kernel
theorem dX2_followCuts_65 : decode cX2_followCuts 65 = .ok (.aload_n 0, 1) := by decide +kernel
theorem dX2_followCuts_66 : decode cX2_followCuts 66 = .ok (.getfield 41, 3) := by decide +kernel
theorem dX2_followCuts_69 : decode cX2_followCuts 69 = .ok (.aload_n 0, 1) := by decide +kernel
theorem dX2_followCuts_70 : decode cX2_followCuts 70 = .ok (.getfield 47, 3) := by decide +kernel
theorem dX2_followCuts_73 : decode cX2_followCuts 73 = .ok (.iload 4, 2) := by decide +kernel
theorem dX2_followCuts_75 : decode cX2_followCuts 75 = .ok (.invokevirtual 81, 3) := by decide +kernel
theorem dX2_followCuts_78 : decode cX2_followCuts 78 = .ok (.iload_n 2, 1) := by decide +kernel
theorem dX2_followCuts_79 : decode cX2_followCuts 79 = .ok (.istore 5, 2) := by decide +kernel
theorem dX2_followCuts_81 : decode cX2_followCuts 81 = .ok (.iload 5, 2) := by decide +kernel
theorem dX2_followCuts_83 : decode cX2_followCuts 83 = .ok (.iload_n 3, 1) := by decide +kernel
theorem dX2_followCuts_84 : decode cX2_followCuts 84 = .ok (.if_icmp .ge 20, 3) := by decide +kernel
theorem dX2_followCuts_87 : decode cX2_followCuts 87 = .ok (.aload_n 0, 1) := by decide +kernel
theorem dX2_followCuts_88 : decode cX2_followCuts 88 = .ok (.getfield 44, 3) := by decide +kernel
theorem dX2_followCuts_91 : decode cX2_followCuts 91 = .ok (.iload 5, 2) := by decide +kernel
theorem dX2_followCuts_93 : decode cX2_followCuts 93 = .ok (.iload 4, 2) := by decide +kernel
theorem dX2_followCuts_95 : decode cX2_followCuts 95 = .ok (.invokevirtual 81, 3) := by decide +kernel
theorem dX2_followCuts_98 : decode cX2_followCuts 98 = .ok (.iinc 5 1, 3) := by decide +kernel
theorem dX2_followCuts_101 : decode cX2_followCuts 101 = .ok (.goto (-20), 3) := by decide +kernel
theorem dX2_followCuts_104 : decode cX2_followCuts 104 = .ok (.iload_n 3, 1) := by decide +kernel
theorem dX2_followCuts_105 : decode cX2_followCuts 105 = .ok (.istore_n 2, 1) := by decide +kernel
theorem dX2_followCuts_106 : decode cX2_followCuts 106 = .ok (.aload_n 0, 1) := by decide +kernel
theorem dX2_followCuts_107 : decode cX2_followCuts 107 = .ok (.dup, 1) := by decide +kernel
theorem dX2_followCuts_108 : decode cX2_followCuts 108 = .ok (.getfield 47, 3) := by decide +kernel
theorem dX2_followCuts_111 : decode cX2_followCuts 111 = .ok (.iconst 1, 1) := by decide +kernel
theorem dX2_followCuts_112 : decode cX2_followCuts 112 = .ok (.iadd, 1) := by decide +kernel
theorem dX2_followCuts_113 : decode cX2_followCuts 113 = .ok (.putfield 47, 3) := by decide +kernel
theorem dX2_followCuts_116 : decode cX2_followCuts 116 = .ok (.goto (-101), 3) := by decide +kernel
theorem dX2_followCuts_119 : decode cX2_followCuts 119 = .ok (.return_, 1) := by decide +kernel
set_option maxRecDepth 20000 in
theorem ggX2_findBestFrom_X4_clear : GoodIn wsX2_findBestFrom wsX4_clear := goodIn_r _ [11, 12, 13, 79, 80, 81] (by decide +kernel) (by decide +kernel)
set_option maxRecDepth 20000 in
theorem gX2_findBestFrom_X4_clear : GoodIn wsX2_findBestFrom (wsV RX2 84 RX4 yX4_clear wsX4_clear) := goodIn_app (goodIn_of _ (by decide +kernel)) ggX2_findBestFrom_X4_clear
set_option maxRecDepth 20000 in
theorem ggX2_findBestFrom_X2_takeAsBest : GoodIn wsX2_findBestFrom wsX2_takeAsBest := goodIn_r _ [18, 5, 6, 19, 20, 21, 22, 23, 24, 25, 67, 68, 69, 70, 71, 72, 73, 74, 75, 76, 77, 78, 82] (by decide +kernel) (by decide +kernel)
set_option maxRecDepth 20000 in
theorem gX2_findBestFrom_X2_takeAsBest : GoodIn wsX2_findBestFrom (wsV RX2 90 RX2 yX2_takeAsBest wsX2_takeAsBest) := goodIn_app (goodIn_of _ (by decide +kernel)) ggX2_findBestFrom_X2_takeAsBest
set_option maxRecDepth 20000 in
theorem ggX2_findBestFrom_X2_sortIn : GoodIn wsX2_findBestFrom wsX2_sortIn := goodIn_r _ [29, 30, 1, 31, 32, 33, 34, 35, 36, 37, 38, 39, 40, 41, 42, 43, 44, 45, 46, 47, 48, 49, 50, 51, 23, 52, 25, 53, 54, 55, 10, 56, 12, 57, 13, 67, 68, 69, 70, 71, 72, 73, 74, 75, 76, 77, 78, 83, 84, 85, 86, 87, 88, 89, 90, 91, 82, 79, 80, 81] (by decide +kernel) (by decide +kernel)
set_option maxRecDepth 20000 in
theorem gX2_findBestFrom_X2_sortIn : GoodIn wsX2_findBestFrom (wsV RX2 94 RX2 yX2_sortIn wsX2_sortIn) := goodIn_app (goodIn_of _ (by decide +kernel)) ggX2_findBestFrom_X2_sortIn
set_option maxRecDepth 20000 in
theorem ggX2_findBestFrom_X4_spreadAroundMedian : GoodIn wsX2_findBestFrom wsX4_spreadAroundMedian := goodIn_r _ [61, 13, 79, 80, 81] (by decide +kernel) (by decide +kernel)
set_option maxRecDepth 20000 in
theorem gX2_findBestFrom_X4_spreadAroundMedian : GoodIn wsX2_findBestFrom (wsV RX2 66 RX4 yX4_spreadAroundMedian wsX4_spreadAroundMedian) := goodIn_app (goodIn_of _ (by decide +kernel)) ggX2_findBestFrom_X4_spreadAroundMedian
set_option maxRecDepth 20000 in
theorem ggX2_findBestFrom_X0_at : GoodIn wsX2_findBestFrom wsX0_at := goodIn_r _ [52, 25, 82] (by decide +kernel) (by decide +kernel)
set_option maxRecDepth 20000 in
theorem gX2_findBestFrom_X0_at : GoodIn wsX2_findBestFrom (wsV RX2 58 RX0 yX0_at wsX0_at) := goodIn_app (goodIn_of _ (by decide +kernel)) ggX2_findBestFrom_X0_at
set_option maxRecDepth 20000 in
theorem ggX2_findBestFrom_X2_consider : GoodIn wsX2_findBestFrom wsX2_consider := goodIn_r _ [66, 5, 6, 62, 50, 51, 23, 52, 25, 14, 15, 16, 17, 18, 19, 20, 21, 22, 24, 67, 68, 69, 70, 71, 72, 73, 74, 75, 76, 77, 78, 82] (by decide +kernel) (by decide +kernel)
set_option maxRecDepth 20000 in
theorem gX2_findBestFrom_X2_consider : GoodIn wsX2_findBestFrom (wsV RX2 98 RX2 yX2_consider wsX2_consider) := goodIn_app (goodIn_of _ (by decide +kernel)) ggX2_findBestFrom_X2_consider
theorem dX2_findBestFrom_0 : decode cX2_findBestFrom 0 = .ok (.aload_n 0, 1) := by decide +kernel
theorem dX2_findBestFrom_1 : decode cX2_findBestFrom 1 = .ok (.getfield 12, 3) := by decide +kernel
theorem dX2_findBestFrom_4 : decode cX2_findBestFrom 4 = .ok (.invokevirtual 84, 3) := by decide +kernel
theorem dX2_findBestFrom_7 : decode cX2_findBestFrom 7 = .ok (.aload_n 0, 1) := by decide +kernel
theorem dX2_findBestFrom_8 : decode cX2_findBestFrom 8 = .ok (.iload_n 1, 1) := by decide +kernel
theorem dX2_findBestFrom_9 : decode cX2_findBestFrom 9 = .ok (.iload_n 2, 1) := by decide +kernel
theorem dX2_findBestFrom_10 : decode cX2_findBestFrom 10 = .ok (.ldc 89, 2) := by decide +kernel
theorem dX2_findBestFrom_12 : decode cX2_findBestFrom 12 = .ok (.iconst 0, 1) := by decide +kernel
theorem dX2_findBestFrom_13 : decode cX2_findBestFrom 13 = .ok (.invokevirtual 90, 3) := by decide +kernel
theorem dX2_findBestFrom_16 : decode cX2_findBestFrom 16 = .ok (.iload_n 1, 1) := by decide +kernel
theorem dX2_findBestFrom_17 : decode cX2_findBestFrom 17 = .ok (.iconst 1, 1) := by decide +kernel
theorem dX2_findBestFrom_18 : decode cX2_findBestFrom 18 = .ok (.iadd, 1) := by decide +kernel
theorem dX2_findBestFrom_19 : decode cX2_findBestFrom 19 = .ok (.istore_n 3, 1) := by decide +kernel
theorem dX2_findBestFrom_20 : decode cX2_findBestFrom 20 = .ok (.iload_n 3, 1) := by decide +kernel
theorem dX2_findBestFrom_21 : decode cX2_findBestFrom 21 = .ok (.iload_n 2, 1) := by decide +kernel
theorem dX2_findBestFrom_22 : decode cX2_findBestFrom 22 = .ok (.if_icmp .ge 73, 3) := by decide +kernel
theorem dX2_findBestFrom_25 : decode cX2_findBestFrom 25 = .ok (.aload_n 0, 1) := by decide +kernel
theorem dX2_findBestFrom_26 : decode cX2_findBestFrom 26 = .ok (.iload_n 3, 1) := by decide +kernel
theorem dX2_findBestFrom_27 : decode cX2_findBestFrom 27 = .ok (.iconst 1, 1) := by decide +kernel
theorem dX2_findBestFrom_28 : decode cX2_findBestFrom 28 = .ok (.isub, 1) := by decide +kernel
theorem dX2_findBestFrom_29 : decode cX2_findBestFrom 29 = .ok (.invokevirtual 94, 3) := by decide +kernel
theorem dX2_findBestFrom_32 : decode cX2_findBestFrom 32 = .ok (.iload_n 3, 1) := by decide +kernel
theorem dX2_findBestFrom_33 : decode cX2_findBestFrom 33 = .ok (.iload_n 1, 1) := by decide +kernel
theorem dX2_findBestFrom_34 : decode cX2_findBestFrom 34 = .ok (.isub, 1) := by decide +kernel
theorem dX2_findBestFrom_35 : decode cX2_findBestFrom 35 = .ok (.aload_n 0, 1) := by decide +kernel
theorem dX2_findBestFrom_36 : decode cX2_findBestFrom 36 = .ok (.getfield 18, 3) := by decide +kernel
theorem dX2_findBestFrom_39 : decode cX2_findBestFrom 39 = .ok (.if_icmp .lt 50, 3) := by decide +kernel
theorem dX2_findBestFrom_42 : decode cX2_findBestFrom 42 = .ok (.iload_n 2, 1) := by decide +kernel
theorem dX2_findBestFrom_43 : decode cX2_findBestFrom 43 = .ok (.iload_n 3, 1) := by decide +kernel
theorem dX2_findBestFrom_44 : decode cX2_findBestFrom 44 = .ok (.isub, 1) := by decide +kernel
theorem dX2_findBestFrom_45 : decode cX2_findBestFrom 45 = .ok (.aload_n 0, 1) := by decide +kernel
theorem dX2_findBestFrom_46 : decode cX2_findBestFrom 46 = .ok (.getfield 18, 3) := by decide +kernel
theorem dX2_findBestFrom_49 : decode cX2_findBestFrom 49 = .ok (.if_icmp .lt 40, 3) := by decide +kernel
theorem dX2_findBestFrom_52 : decode cX2_findBestFrom 52 = .ok (.aload_n 0, 1) := by decide +kernel
theorem dX2_findBestFrom_53 : decode cX2_findBestFrom 53 = .ok (.iload_n 1, 1) := by decide +kernel
theorem dX2_findBestFrom_54 : decode cX2_findBestFrom 54 = .ok (.iload_n 3, 1) := by decide +kernel
theorem dX2_findBestFrom_55 : decode cX2_findBestFrom 55 = .ok (.aload_n 0, 1) := by decide +kernel
theorem dX2_findBestFrom_56 : decode cX2_findBestFrom 56 = .ok (.getfield 12, 3) := by decide +kernel
theorem dX2_findBestFrom_59 : decode cX2_findBestFrom 59 = .ok (.invokevirtual 66, 3) := by decide +kernel
theorem dX2_findBestFrom_62 : decode cX2_findBestFrom 62 = .ok (.aload_n 0, 1) := by decide +kernel
theorem dX2_findBestFrom_63 : decode cX2_findBestFrom 63 = .ok (.getfield 22, 3) := by decide +kernel
theorem dX2_findBestFrom_66 : decode cX2_findBestFrom 66 = .ok (.iadd, 1) := by decide +kernel
theorem dX2_findBestFrom_67 : decode cX2_findBestFrom 67 = .ok (.aload_n 0, 1) := by decide +kernel
theorem dX2_findBestFrom_68 : decode cX2_findBestFrom 68 = .ok (.getfield 28, 3) := by decide +kernel
theorem dX2_findBestFrom_71 : decode cX2_findBestFrom 71 = .ok (.iload_n 3, 1) := by decide +kernel
theorem dX2_findBestFrom_72 : decode cX2_findBestFrom 72 = .ok (.invokevirtual 58, 3) := by decide +kernel
theorem dX2_findBestFrom_75 : decode cX2_findBestFrom 75 = .ok (.iadd, 1) := by decide +kernel
theorem dX2_findBestFrom_76 : decode cX2_findBestFrom 76 = .ok (.aload_n 0, 1) := by decide +kernel
theorem dX2_findBestFrom_77 : decode cX2_findBestFrom 77 = .ok (.getfield 32, 3) := by decide +kernel
theorem dX2_findBestFrom_80 : decode cX2_findBestFrom 80 = .ok (.iload_n 3, 1) := by decide +kernel
theorem dX2_findBestFrom_81 : decode cX2_findBestFrom 81 = .ok (.invokevirtual 58, 3) := by decide +kernel
theorem dX2_findBestFrom_84 : decode cX2_findBestFrom 84 = .ok (.iconst 1, 1) := by decide +kernel
theorem dX2_findBestFrom_85 : decode cX2_findBestFrom 85 = .ok (.iadd, 1) := by decide +kernel
theorem dX2_findBestFrom_86 : decode cX2_findBestFrom 86 = .ok (.invokevirtual 98, 3) := by decide +kernel
theorem dX2_findBestFrom_89 : decode cX2_findBestFrom 89 = .ok (.iinc 3 1, 3) := by decide +kernel
theorem dX2_findBestFrom_92 : decode cX2_findBestFrom 92 = .ok (.goto (-72), 3) := by decide +kernel
theorem dX2_findBestFrom_95 : decode cX2_findBestFrom 95 = .ok (.aload_n 0, 1) := by decide +kernel
theorem dX2_findBestFrom_96 : decode cX2_findBestFrom 96 = .ok (.iload_n 2, 1) := by decide +kernel
theorem dX2_findBestFrom_97 : decode cX2_findBestFrom 97 = .ok (.iconst 1, 1) := by decide +kernel
theorem dX2_findBestFrom_98 : decode cX2_findBestFrom 98 = .ok (.isub, 1) := by decide +kernel
theorem dX2_findBestFrom_99 : decode cX2_findBestFrom 99 = .ok (.invokevirtual 94, 3) := by decide +kernel
theorem dX2_findBestFrom_102 : decode cX2_findBestFrom 102 = .ok (.aload_n 0, 1) := by decide +kernel
theorem dX2_findBestFrom_103 : decode cX2_findBestFrom 103 = .ok (.iload_n 1, 1) := by decide +kernel
theorem dX2_findBestFrom_104 : decode cX2_findBestFrom 104 = .ok (.iload_n 2, 1) := by decide +kernel
theorem dX2_findBestFrom_105 : decode cX2_findBestFrom 105 = .ok (.aload_n 0, 1) := by decide +kernel
theorem dX2_findBestFrom_106 : decode cX2_findBestFrom 106 = .ok (.getfield 12, 3) := by decide +kernel
theorem dX2_findBestFrom_109 : decode cX2_findBestFrom 109 = .ok (.invokevirtual 66, 3) := by decide +kernel
theorem dX2_findBestFrom_112 : decode cX2_findBestFrom 112 = .ok (.iconst 0, 1) := by decide +kernel
theorem dX2_findBestFrom_113 : decode cX2_findBestFrom 113 = .ok (.invokevirtual 98, 3) := by decide +kernel
theorem dX2_findBestFrom_116 : decode cX2_findBestFrom 116 = .ok (.return_, 1) := by decide +kernel
set_option maxRecDepth 20000 in
theorem ggX2_consider_X0_at : GoodIn wsX2_consider wsX0_at := goodIn_r _ [7, 8, 31] (by decide +kernel) (by decide +kernel)
set_option maxRecDepth 20000 in
theorem gX2_consider_X0_at : GoodIn wsX2_consider (wsV RX2 58 RX0 yX0_at wsX0_at) := goodIn_app (goodIn_of _ (by decide +kernel)) ggX2_consider_X0_at
set_option maxRecDepth 20000 in
theorem ggX2_consider_X2_takeAsBest : GoodIn wsX2_consider wsX2_takeAsBest := goodIn_r _ [13, 1, 2, 14, 15, 16, 17, 6, 18, 8, 19, 20, 21, 22, 23, 24, 25, 26, 27, 28, 29, 30, 31] (by decide +kernel) (by decide +kernel)
set_option maxRecDepth 20000 in
theorem gX2_consider_X2_takeAsBest : GoodIn wsX2_consider (wsV RX2 90 RX2 yX2_takeAsBest wsX2_takeAsBest) := goodIn_app (goodIn_of _ (by decide +kernel)) ggX2_consider_X2_takeAsBest
theorem dX2_consider_0 : decode cX2_consider 0 = .ok (.aload_n 0, 1) := by decide +kernel
theorem dX2_consider_1 : decode cX2_consider 1 = .ok (.getfield 28, 3) := by decide +kernel
theorem dX2_consider_4 : decode cX2_consider 4 = .ok (.iload_n 1, 1) := by decide +kernel
theorem dX2_consider_5 : decode cX2_consider 5 = .ok (.invokevirtual 58, 3) := by decide +kernel
theorem dX2_consider_8 : decode cX2_consider 8 = .ok (.istore 5, 2) := by decide +kernel
theorem dX2_consider_10 : decode cX2_consider 10 = .ok (.iload_n 3, 1) := by decide +kernel
theorem dX2_consider_11 : decode cX2_consider 11 = .ok (.iload 5, 2) := by decide +kernel
theorem dX2_consider_13 : decode cX2_consider 13 = .ok (.if_icmp .lt 22, 3) := by decide +kernel
theorem dX2_consider_16 : decode cX2_consider 16 = .ok (.iload_n 3, 1) := by decide +kernel
theorem dX2_consider_17 : decode cX2_consider 17 = .ok (.iload 5, 2) := by decide +kernel
theorem dX2_consider_19 : decode cX2_consider 19 = .ok (.if_icmp .ne 25, 3) := by decide +kernel
theorem dX2_consider_22 : decode cX2_consider 22 = .ok (.iload 4, 2) := by decide +kernel
theorem dX2_consider_24 : decode cX2_consider 24 = .ok (.aload_n 0, 1) := by decide +kernel
theorem dX2_consider_25 : decode cX2_consider 25 = .ok (.getfield 32, 3) := by decide +kernel
theorem dX2_consider_28 : decode cX2_consider 28 = .ok (.iload_n 1, 1) := by decide +kernel
theorem dX2_consider_29 : decode cX2_consider 29 = .ok (.invokevirtual 58, 3) := by decide +kernel
theorem dX2_consider_32 : decode cX2_consider 32 = .ok (.if_icmp .ge 12, 3) := by decide +kernel
theorem dX2_consider_35 : decode cX2_consider 35 = .ok (.aload_n 0, 1) := by decide +kernel
theorem dX2_consider_36 : decode cX2_consider 36 = .ok (.iload_n 1, 1) := by decide +kernel
theorem dX2_consider_37 : decode cX2_consider 37 = .ok (.iload_n 2, 1) := by decide +kernel
theorem dX2_consider_38 : decode cX2_consider 38 = .ok (.iload_n 3, 1) := by decide +kernel
theorem dX2_consider_39 : decode cX2_consider 39 = .ok (.iload 4, 2) := by decide +kernel
theorem dX2_consider_41 : decode cX2_consider 41 = .ok (.invokevirtual 90, 3) := by decide +kernel
theorem dX2_consider_44 : decode cX2_consider 44 = .ok (.return_, 1) := by decide +kernel
set_option maxRecDepth 20000 in
theorem ggX2_takeAsBest_X0_put : GoodIn wsX2_takeAsBest wsX0_put := goodIn_r _ [8, 9, 22] (by decide +kernel) (by decide +kernel)
set_option maxRecDepth 20000 in
theorem gX2_takeAsBest_X0_put : GoodIn wsX2_takeAsBest (wsV RX2 81 RX0 yX0_put wsX0_put) := goodIn_app (goodIn_of _ (by decide +kernel)) ggX2_takeAsBest_X0_put
theorem dX2_takeAsBest_0 : decode cX2_takeAsBest 0 = .ok (.aload_n 0, 1) := by decide +kernel
theorem dX2_takeAsBest_1 : decode cX2_takeAsBest 1 = .ok (.getfield 28, 3) := by decide +kernel
theorem dX2_takeAsBest_4 : decode cX2_takeAsBest 4 = .ok (.iload_n 1, 1) := by decide +kernel
theorem dX2_takeAsBest_5 : decode cX2_takeAsBest 5 = .ok (.iload_n 3, 1) := by decide +kernel
theorem dX2_takeAsBest_6 : decode cX2_takeAsBest 6 = .ok (.invokevirtual 81, 3) := by decide +kernel
theorem dX2_takeAsBest_9 : decode cX2_takeAsBest 9 = .ok (.aload_n 0, 1) := by decide +kernel
theorem dX2_takeAsBest_10 : decode cX2_takeAsBest 10 = .ok (.getfield 32, 3) := by decide +kernel
theorem dX2_takeAsBest_13 : decode cX2_takeAsBest 13 = .ok (.iload_n 1, 1) := by decide +kernel
theorem dX2_takeAsBest_14 : decode cX2_takeAsBest 14 = .ok (.iload 4, 2) := by decide +kernel
theorem dX2_takeAsBest_16 : decode cX2_takeAsBest 16 = .ok (.invokevirtual 81, 3) := by decide +kernel
theorem dX2_takeAsBest_19 : decode cX2_takeAsBest 19 = .ok (.aload_n 0, 1) := by decide +kernel
theorem dX2_takeAsBest_20 : decode cX2_takeAsBest 20 = .ok (.getfield 35, 3) := by decide +kernel
theorem dX2_takeAsBest_23 : decode cX2_takeAsBest 23 = .ok (.iload_n 1, 1) := by decide +kernel
theorem dX2_takeAsBest_24 : decode cX2_takeAsBest 24 = .ok (.iload_n 2, 1) := by decide +kernel
theorem dX2_takeAsBest_25 : decode cX2_takeAsBest 25 = .ok (.invokevirtual 81, 3) := by decide +kernel
theorem dX2_takeAsBest_28 : decode cX2_takeAsBest 28 = .ok (.return_, 1) := by decide +kernel
set_option maxRecDepth 20000 in
theorem ggX2_sortBetween_X4_clear : GoodIn wsX2_sortBetween wsX4_clear := goodIn_r _ [6, 7, 8, 56, 57, 58] (by decide +kernel) (by decide +kernel)
set_option maxRecDepth 20000 in
theorem gX2_sortBetween_X4_clear : GoodIn wsX2_sortBetween (wsV RX2 84 RX4 yX4_clear wsX4_clear) := goodIn_app (goodIn_of _ (by decide +kernel)) ggX2_sortBetween_X4_clear
set_option maxRecDepth 20000 in
theorem ggX2_sortBetween_X2_sortIn : GoodIn wsX2_sortBetween wsX2_sortIn := goodIn_r _ [13, 14, 1, 15, 16, 17, 18, 19, 20, 21, 22, 23, 24, 25, 26, 27, 28, 29, 30, 31, 32, 33, 34, 35, 36, 37, 38, 39, 40, 41, 5, 42, 7, 43, 8, 44, 45, 46, 47, 48, 49, 50, 51, 52, 53, 54, 55, 59, 60, 61, 62, 63, 64, 65, 66, 67, 68, 56, 57, 58] (by decide +kernel) (by decide +kernel)
set_option maxRecDepth 20000 in
theorem gX2_sortBetween_X2_sortIn : GoodIn wsX2_sortBetween (wsV RX2 94 RX2 yX2_sortIn wsX2_sortIn) := goodIn_app (goodIn_of _ (by decide +kernel)) ggX2_sortBetween_X2_sortIn
theorem dX2_sortBetween_0 : decode cX2_sortBetween 0 = .ok (.aload_n 0, 1) := by decide +kernel
theorem dX2_sortBetween_1 : decode cX2_sortBetween 1 = .ok (.getfield 12, 3) := by decide +kernel
theorem dX2_sortBetween_4 : decode cX2_sortBetween 4 = .ok (.invokevirtual 84, 3) := by decide +kernel
theorem dX2_sortBetween_7 : decode cX2_sortBetween 7 = .ok (.iload_n 1, 1) := by decide +kernel
theorem dX2_sortBetween_8 : decode cX2_sortBetween 8 = .ok (.istore_n 3, 1) := by decide +kernel
theorem dX2_sortBetween_9 : decode cX2_sortBetween 9 = .ok (.iload_n 3, 1) := by decide +kernel
theorem dX2_sortBetween_10 : decode cX2_sortBetween 10 = .ok (.iload_n 2, 1) := by decide +kernel
theorem dX2_sortBetween_11 : decode cX2_sortBetween 11 = .ok (.if_icmp .ge 14, 3) := by decide +kernel
theorem dX2_sortBetween_14 : decode cX2_sortBetween 14 = .ok (.aload_n 0, 1) := by decide +kernel
theorem dX2_sortBetween_15 : decode cX2_sortBetween 15 = .ok (.iload_n 3, 1) := by decide +kernel
theorem dX2_sortBetween_16 : decode cX2_sortBetween 16 = .ok (.invokevirtual 94, 3) := by decide +kernel
theorem dX2_sortBetween_19 : decode cX2_sortBetween 19 = .ok (.iinc 3 1, 3) := by decide +kernel
theorem dX2_sortBetween_22 : decode cX2_sortBetween 22 = .ok (.goto (-13), 3) := by decide +kernel
theorem dX2_sortBetween_25 : decode cX2_sortBetween 25 = .ok (.return_, 1) := by decide +kernel
set_option maxRecDepth 20000 in
theorem ggX2_sortIn_X3_isHoliday : GoodIn wsX2_sortIn wsX3_isHoliday := goodIn_r _ [8, 9, 10, 11, 12, 7, 13, 14, 47, 48, 49] (by decide +kernel) (by decide +kernel)
set_option maxRecDepth 20000 in
theorem gX2_sortIn_X3_isHoliday : GoodIn wsX2_sortIn (wsV RX2 101 RX3 yX3_isHoliday wsX3_isHoliday) := goodIn_app (goodIn_of _ (by decide +kernel)) ggX2_sortIn_X3_isHoliday
set_option maxRecDepth 20000 in
theorem ggX2_sortIn_X1_adjustedAt : GoodIn wsX2_sortIn wsX1_adjustedAt := goodIn_r _ [19, 20, 21, 22, 23, 24, 25, 26, 50, 51, 52, 53, 54, 55, 56] (by decide +kernel) (by decide +kernel)
set_option maxRecDepth 20000 in
theorem gX2_sortIn_X1_adjustedAt : GoodIn wsX2_sortIn (wsV RX2 105 RX1 yX1_adjustedAt wsX1_adjustedAt) := goodIn_app (goodIn_of _ (by decide +kernel)) ggX2_sortIn_X1_adjustedAt
set_option maxRecDepth 20000 in
theorem ggX2_sortIn_X4_insert : GoodIn wsX2_sortIn wsX4_insert := goodIn_r _ [31, 32, 33, 34, 57, 58, 59] (by decide +kernel) (by decide +kernel)
set_option maxRecDepth 20000 in
theorem gX2_sortIn_X4_insert : GoodIn wsX2_sortIn (wsV RX2 110 RX4 yX4_insert wsX4_insert) := goodIn_app (goodIn_of _ (by decide +kernel)) ggX2_sortIn_X4_insert
theorem dX2_sortIn_0 : decode cX2_sortIn 0 = .ok (.aload_n 0, 1) := by decide +kernel
theorem dX2_sortIn_1 : decode cX2_sortIn 1 = .ok (.getfield 50, 3) := by decide +kernel
theorem dX2_sortIn_4 : decode cX2_sortIn 4 = .ok (.iload_n 1, 1) := by decide +kernel
theorem dX2_sortIn_5 : decode cX2_sortIn 5 = .ok (.invokevirtual 101, 3) := by decide +kernel
theorem dX2_sortIn_8 : decode cX2_sortIn 8 = .ok (.ifCond .ne 18, 3) := by decide +kernel
theorem dX2_sortIn_11 : decode cX2_sortIn 11 = .ok (.aload_n 0, 1) := by decide +kernel
theorem dX2_sortIn_12 : decode cX2_sortIn 12 = .ok (.getfield 12, 3) := by decide +kernel
theorem dX2_sortIn_15 : decode cX2_sortIn 15 = .ok (.aload_n 0, 1) := by decide +kernel
theorem dX2_sortIn_16 : decode cX2_sortIn 16 = .ok (.getfield 54, 3) := by decide +kernel
theorem dX2_sortIn_19 : decode cX2_sortIn 19 = .ok (.iload_n 1, 1) := by decide +kernel
theorem dX2_sortIn_20 : decode cX2_sortIn 20 = .ok (.invokevirtual 105, 3) := by decide +kernel
theorem dX2_sortIn_23 : decode cX2_sortIn 23 = .ok (.invokevirtual 110, 3) := by decide +kernel
theorem dX2_sortIn_26 : decode cX2_sortIn 26 = .ok (.return_, 1) := by decide +kernel
theorem dX3_init_0 : decode cX3_init 0 = .ok (.aload_n 0, 1) := by decide +kernel
theorem dX3_init_1 : decode cX3_init 1 = .ok (.invokespecial 3, 3) := by decide +kernel
theorem dX3_init_4 : decode cX3_init 4 = .ok (.aload_n 0, 1) := by decide +kernel
theorem dX3_init_5 : decode cX3_init 5 = .ok (.bipush 60, 2) := by decide +kernel
theorem dX3_init_7 : decode cX3_init 7 = .ok (.newarray .int, 2) := by decide +kernel
theorem dX3_init_9 : decode cX3_init 9 = .ok (.putfield 9, 3) := by decide +kernel
theorem dX3_init_12 : decode cX3_init 12 = .ok (.aload_n 0, 1) := by decide +kernel
theorem dX3_init_13 : decode cX3_init 13 = .ok (.bipush 60, 2) := by decide +kernel
theorem dX3_init_15 : decode cX3_init 15 = .ok (.newarray .boolean, 2) := by decide +kernel
theorem dX3_init_17 : decode cX3_init 17 = .ok (.putfield 15, 3) := by decide +kernel
theorem dX3_init_20 : decode cX3_init 20 = .ok (.aload_n 0, 1) := by decide +kernel
theorem dX3_init_21 : decode cX3_init 21 = .ok (.iconst 0, 1) := by decide +kernel
theorem dX3_init_22 : decode cX3_init 22 = .ok (.putfield 19, 3) := by decide +kernel
theorem dX3_init_25 : decode cX3_init 25 = .ok (.return_, 1) := by decide +kernel
theorem dX3_count_0 : decode cX3_count 0 = .ok (.aload_n 0, 1) := by decide +kernel
theorem dX3_count_1 : decode cX3_count 1 = .ok (.getfield 19, 3) := by decide +kernel
theorem dX3_count_4 : decode cX3_count 4 = .ok (.ireturn, 1) := by decide +kernel
set_option maxRecDepth 20000 in
theorem ggX3_numberAt_X3_has : GoodIn wsX3_numberAt wsX3_has := goodIn_r _ [6, 7, 8, 9, 10] (by decide +kernel) (by decide +kernel)
set_option maxRecDepth 20000 in
theorem gX3_numberAt_X3_has : GoodIn wsX3_numberAt (wsV RX3 23 RX3 yX3_has wsX3_has) := goodIn_app (goodIn_of _ (by decide +kernel)) ggX3_numberAt_X3_has
theorem dX3_numberAt_0 : decode cX3_numberAt 0 = .ok (.aload_n 0, 1) := by decide +kernel
theorem dX3_numberAt_1 : decode cX3_numberAt 1 = .ok (.iload_n 1, 1) := by decide +kernel
theorem dX3_numberAt_2 : decode cX3_numberAt 2 = .ok (.invokevirtual 23, 3) := by decide +kernel
theorem dX3_numberAt_5 : decode cX3_numberAt 5 = .ok (.ifCond .eq 12, 3) := by decide +kernel
theorem dX3_numberAt_8 : decode cX3_numberAt 8 = .ok (.aload_n 0, 1) := by decide +kernel
theorem dX3_numberAt_9 : decode cX3_numberAt 9 = .ok (.getfield 9, 3) := by decide +kernel
theorem dX3_numberAt_12 : decode cX3_numberAt 12 = .ok (.iload_n 1, 1) := by decide +kernel
theorem dX3_numberAt_13 : decode cX3_numberAt 13 = .ok (.iaload, 1) := by decide +kernel
theorem dX3_numberAt_14 : decode cX3_numberAt 14 = .ok (.goto 4, 3) := by decide +kernel
theorem dX3_numberAt_17 : decode cX3_numberAt 17 = .ok (.iconst 0, 1) := by decide +kernel
theorem dX3_numberAt_18 : decode cX3_numberAt 18 = .ok (.ireturn, 1) := by decide +kernel
set_option maxRecDepth 20000 in
theorem ggX3_isHoliday_X3_has : GoodIn wsX3_isHoliday wsX3_has := goodIn_r _ [6, 7, 8, 9, 10] (by decide +kernel) (by decide +kernel)
set_option maxRecDepth 20000 in
theorem gX3_isHoliday_X3_has : GoodIn wsX3_isHoliday (wsV RX3 23 RX3 yX3_has wsX3_has) := goodIn_app (goodIn_of _ (by decide +kernel)) ggX3_isHoliday_X3_has
theorem dX3_isHoliday_0 : decode cX3_isHoliday 0 = .ok (.aload_n 0, 1) := by decide +kernel
theorem dX3_isHoliday_1 : decode cX3_isHoliday 1 = .ok (.iload_n 1, 1) := by decide +kernel
theorem dX3_isHoliday_2 : decode cX3_isHoliday 2 = .ok (.invokevirtual 23, 3) := by decide +kernel
theorem dX3_isHoliday_5 : decode cX3_isHoliday 5 = .ok (.ifCond .eq 16, 3) := by decide +kernel
theorem dX3_isHoliday_8 : decode cX3_isHoliday 8 = .ok (.aload_n 0, 1) := by decide +kernel
theorem dX3_isHoliday_9 : decode cX3_isHoliday 9 = .ok (.getfield 15, 3) := by decide +kernel
theorem dX3_isHoliday_12 : decode cX3_isHoliday 12 = .ok (.iload_n 1, 1) := by decide +kernel
theorem dX3_isHoliday_13 : decode cX3_isHoliday 13 = .ok (.baload, 1) := by decide +kernel
theorem dX3_isHoliday_14 : decode cX3_isHoliday 14 = .ok (.ifCond .eq 7, 3) := by decide +kernel
theorem dX3_isHoliday_17 : decode cX3_isHoliday 17 = .ok (.iconst 1, 1) := by decide +kernel
theorem dX3_isHoliday_18 : decode cX3_isHoliday 18 = .ok (.goto 4, 3) := by decide +kernel
theorem dX3_isHoliday_21 : decode cX3_isHoliday 21 = .ok (.iconst 0, 1) := by decide +kernel
theorem dX3_isHoliday_22 : decode cX3_isHoliday 22 = .ok (.ireturn, 1) := by decide +kernel
theorem dX3_append_0 : decode cX3_append 0 = .ok (.aload_n 0, 1) := by decide +kernel
theorem dX3_append_1 : decode cX3_append 1 = .ok (.getfield 19, 3) := by decide +kernel
theorem dX3_append_4 : decode cX3_append 4 = .ok (.aload_n 0, 1) := by decide +kernel
theorem dX3_append_5 : decode cX3_append 5 = .ok (.getfield 9, 3) := by decide +kernel
theorem dX3_append_8 : decode cX3_append 8 = .ok (.arraylength, 1) := by decide +kernel
theorem dX3_append_9 : decode cX3_append 9 = .ok (.if_icmp .ge 33, 3) := by decide +kernel
theorem dX3_append_12 : decode cX3_append 12 = .ok (.aload_n 0, 1) := by decide +kernel
theorem dX3_append_13 : decode cX3_append 13 = .ok (.getfield 9, 3) := by decide +kernel
theorem dX3_append_16 : decode cX3_append 16 = .ok (.aload_n 0, 1) := by decide +kernel
theorem dX3_append_17 : decode cX3_append 17 = .ok (.getfield 19, 3) := by decide +kernel
theorem dX3_append_20 : decode cX3_append 20 = .ok (.iload_n 1, 1) := by decide +kernel
theorem dX3_append_21 : decode cX3_append 21 = .ok (.iastore, 1) := by decide +kernel
theorem dX3_append_22 : decode cX3_append 22 = .ok (.aload_n 0, 1) := by decide +kernel
theorem dX3_append_23 : decode cX3_append 23 = .ok (.getfield 15, 3) := by decide +kernel
theorem dX3_append_26 : decode cX3_append 26 = .ok (.aload_n 0, 1) := by decide +kernel
theorem dX3_append_27 : decode cX3_append 27 = .ok (.getfield 19, 3) := by decide +kernel
theorem dX3_append_30 : decode cX3_append 30 = .ok (.iconst 0, 1) := by decide +kernel
theorem dX3_append_31 : decode cX3_append 31 = .ok (.bastore, 1) := by decide +kernel
theorem dX3_append_32 : decode cX3_append 32 = .ok (.aload_n 0, 1) := by decide +kernel
theorem dX3_append_33 : decode cX3_append 33 = .ok (.dup, 1) := by decide +kernel
theorem dX3_append_34 : decode cX3_append 34 = .ok (.getfield 19, 3) := by decide +kernel
theorem dX3_append_37 : decode cX3_append 37 = .ok (.iconst 1, 1) := by decide +kernel
theorem dX3_append_38 : decode cX3_append 38 = .ok (.iadd, 1) := by decide +kernel
theorem dX3_append_39 : decode cX3_append 39 = .ok (.putfield 19, 3) := by decide +kernel
theorem dX3_append_42 : decode cX3_append 42 = .ok (.return_, 1) := by decide +kernel
set_option maxRecDepth 20000 in
theorem ggX3_replace_X3_has : GoodIn wsX3_replace wsX3_has := goodIn_r _ [6, 7, 8, 9, 10] (by decide +kernel) (by decide +kernel)
set_option maxRecDepth 20000 in
theorem gX3_replace_X3_has : GoodIn wsX3_replace (wsV RX3 23 RX3 yX3_has wsX3_has) := goodIn_app (goodIn_of _ (by decide +kernel)) ggX3_replace_X3_has
theorem dX3_replace_0 : decode cX3_replace 0 = .ok (.aload_n 0, 1) := by decide +kernel
theorem dX3_replace_1 : decode cX3_replace 1 = .ok (.iload_n 1, 1) := by decide +kernel
theorem dX3_replace_2 : decode cX3_replace 2 = .ok (.invokevirtual 23, 3) := by decide +kernel
theorem dX3_replace_5 : decode cX3_replace 5 = .ok (.ifCond .eq 10, 3) := by decide +kernel
theorem dX3_replace_8 : decode cX3_replace 8 = .ok (.aload_n 0, 1) := by decide +kernel
theorem dX3_replace_9 : decode cX3_replace 9 = .ok (.getfield 9, 3) := by decide +kernel
theorem dX3_replace_12 : decode cX3_replace 12 = .ok (.iload_n 1, 1) := by decide +kernel
theorem dX3_replace_13 : decode cX3_replace 13 = .ok (.iload_n 2, 1) := by decide +kernel
theorem dX3_replace_14 : decode cX3_replace 14 = .ok (.iastore, 1) := by decide +kernel
theorem dX3_replace_15 : decode cX3_replace 15 = .ok (.return_, 1) := by decide +kernel
set_option maxRecDepth 20000 in
theorem ggX3_markHoliday_X3_has : GoodIn wsX3_markHoliday wsX3_has := goodIn_r _ [6, 7, 8, 9, 10] (by decide +kernel) (by decide +kernel)
set_option maxRecDepth 20000 in
theorem gX3_markHoliday_X3_has : GoodIn wsX3_markHoliday (wsV RX3 23 RX3 yX3_has wsX3_has) := goodIn_app (goodIn_of _ (by decide +kernel)) ggX3_markHoliday_X3_has
theorem dX3_markHoliday_0 : decode cX3_markHoliday 0 = .ok (.aload_n 0, 1) := by decide +kernel
theorem dX3_markHoliday_1 : decode cX3_markHoliday 1 = .ok (.iload_n 1, 1) := by decide +kernel
theorem dX3_markHoliday_2 : decode cX3_markHoliday 2 = .ok (.invokevirtual 23, 3) := by decide +kernel
theorem dX3_markHoliday_5 : decode cX3_markHoliday 5 = .ok (.ifCond .eq 10, 3) := by decide +kernel
theorem dX3_markHoliday_8 : decode cX3_markHoliday 8 = .ok (.aload_n 0, 1) := by decide +kernel
theorem dX3_markHoliday_9 : decode cX3_markHoliday 9 = .ok (.getfield 15, 3) := by decide +kernel
theorem dX3_markHoliday_12 : decode cX3_markHoliday 12 = .ok (.iload_n 1, 1) := by decide +kernel
theorem dX3_markHoliday_13 : decode cX3_markHoliday 13 = .ok (.iload_n 2, 1) := by decide +kernel
theorem dX3_markHoliday_14 : decode cX3_markHoliday 14 = .ok (.bastore, 1) := by decide +kernel
theorem dX3_markHoliday_15 : decode cX3_markHoliday 15 = .ok (.return_, 1) := by decide +kernel
theorem dX3_removeOldest_0 : decode cX3_removeOldest 0 = .ok (.iload_n 1, 1) := by decide +kernel
theorem dX3_removeOldest_1 : decode cX3_removeOldest 1 = .ok (.ifCond .lt 11, 3) := by decide +kernel
theorem dX3_removeOldest_4 : decode cX3_removeOldest 4 = .ok (.iload_n 1, 1) := by decide +kernel
theorem dX3_removeOldest_5 : decode cX3_removeOldest 5 = .ok (.aload_n 0, 1) := by decide +kernel
theorem dX3_removeOldest_6 : decode cX3_removeOldest 6 = .ok (.getfield 19, 3) := by decide +kernel
theorem dX3_removeOldest_9 : decode cX3_removeOldest 9 = .ok (.if_icmp .le 4, 3) := by decide +kernel
theorem dX3_removeOldest_12 : decode cX3_removeOldest 12 = .ok (.return_, 1) := by decide +kernel
theorem dX3_removeOldest_13 : decode cX3_removeOldest 13 = .ok (.aload_n 0, 1) := by decide +kernel
theorem dX3_removeOldest_14 : decode cX3_removeOldest 14 = .ok (.dup, 1) := by decide +kernel
theorem dX3_removeOldest_15 : decode cX3_removeOldest 15 = .ok (.getfield 19, 3) := by decide +kernel
theorem dX3_removeOldest_18 : decode cX3_removeOldest 18 = .ok (.iload_n 1, 1) := by decide +kernel
theorem dX3_removeOldest_19 : decode cX3_removeOldest 19 = .ok (.isub, 1) := by decide +kernel
theorem dX3_removeOldest_20 : decode cX3_removeOldest 20 = .ok (.putfield 19, 3) := by decide +kernel
theorem dX3_removeOldest_23 : decode cX3_removeOldest 23 = .ok (.iconst 0, 1) := by decide +kernel
theorem dX3_removeOldest_24 : decode cX3_removeOldest 24 = .ok (.istore_n 2, 1) := by decide +kernel
theorem dX3_removeOldest_25 : decode cX3_removeOldest 25 = .ok (.iload_n 2, 1) := by decide +kernel
theorem dX3_removeOldest_26 : decode cX3_removeOldest 26 = .ok (.aload_n 0, 1) := by decide +kernel
theorem dX3_removeOldest_27 : decode cX3_removeOldest 27 = .ok (.getfield 19, 3) := by decide +kernel
theorem dX3_removeOldest_30 : decode cX3_removeOldest 30 = .ok (.if_icmp .ge 37, 3) := by decide +kernel
theorem dX3_removeOldest_33 : decode cX3_removeOldest 33 = .ok (.aload_n 0, 1) := by decide +kernel
theorem dX3_removeOldest_34 : decode cX3_removeOldest 34 = .ok (.getfield 9, 3) := by decide +kernel
theorem dX3_removeOldest_37 : decode cX3_removeOldest 37 = .ok (.iload_n 2, 1) := by decide +kernel
theorem dX3_removeOldest_38 : decode cX3_removeOldest 38 = .ok (.aload_n 0, 1) := by decide +kernel
theorem dX3_removeOldest_39 : decode cX3_removeOldest 39 = .ok (.getfield 9, 3) := by decide +kernel
theorem dX3_removeOldest_42 : decode cX3_removeOldest 42 = .ok (.iload_n 2, 1) := by decide +kernel
theorem dX3_removeOldest_43 : decode cX3_removeOldest 43 = .ok (.iload_n 1, 1) := by decide +kernel
theorem dX3_removeOldest_44 : decode cX3_removeOldest 44 = .ok (.iadd, 1) := by decide +kernel
theorem dX3_removeOldest_45 : decode cX3_removeOldest 45 = .ok (.iaload, 1) := by decide +kernel
theorem dX3_removeOldest_46 : decode cX3_removeOldest 46 = .ok (.iastore, 1) := by decide +kernel
theorem dX3_removeOldest_47 : decode cX3_removeOldest 47 = .ok (.aload_n 0, 1) := by decide +kernel
theorem dX3_removeOldest_48 : decode cX3_removeOldest 48 = .ok (.getfield 15, 3) := by decide +kernel
theorem dX3_removeOldest_51 : decode cX3_removeOldest 51 = .ok (.iload_n 2, 1) := by decide +kernel
theorem dX3_removeOldest_52 : decode cX3_removeOldest 52 = .ok (.aload_n 0, 1) := by decide +kernel
theorem dX3_removeOldest_53 : decode cX3_removeOldest 53 = .ok (.getfield 15, 3) := by decide +kernel
theorem dX3_removeOldest_56 : decode cX3_removeOldest 56 = .ok (.iload_n 2, 1) := by decide +kernel
theorem dX3_removeOldest_57 : decode cX3_removeOldest 57 = .ok (.iload_n 1, 1) := by decide +kernel
theorem dX3_removeOldest_58 : decode cX3_removeOldest 58 = .ok (.iadd, 1) := by decide +kernel
theorem dX3_removeOldest_59 : decode cX3_removeOldest 59 = .ok (.baload, 1) := by decide +kernel
theorem dX3_removeOldest_60 : decode cX3_removeOldest 60 = .ok (.bastore, 1) := by decide +kernel
theorem dX3_removeOldest_61 : decode cX3_removeOldest 61 = .ok (.iinc 2 1, 3) := by decide +kernel
theorem dX3_removeOldest_64 : decode cX3_removeOldest 64 = .ok (.goto (-39), 3) := by decide +kernel
theorem dX3_removeOldest_67 : decode cX3_removeOldest 67 = .ok (.return_, 1) := by decide +kernel
theorem dX3_has_0 : decode cX3_has 0 = .ok (.iload_n 1, 1) := by decide +kernel
theorem dX3_has_1 : decode cX3_has 1 = .ok (.ifCond .lt 15, 3) := by decide +kernel
theorem dX3_has_4 : decode cX3_has 4 = .ok (.iload_n 1, 1) := by decide +kernel
theorem dX3_has_5 : decode cX3_has 5 = .ok (.aload_n 0, 1) := by decide +kernel
theorem dX3_has_6 : decode cX3_has 6 = .ok (.getfield 19, 3) := by decide +kernel
theorem dX3_has_9 : decode cX3_has 9 = .ok (.if_icmp .ge 7, 3) := by decide +kernel
theorem dX3_has_12 : decode cX3_has 12 = .ok (.iconst 1, 1) := by decide +kernel
theorem dX3_has_13 : decode cX3_has 13 = .ok (.goto 4, 3) := by decide +kernel
theorem dX3_has_16 : decode cX3_has 16 = .ok (.iconst 0, 1) := by decide +kernel
theorem dX3_has_17 : decode cX3_has 17 = .ok (.ireturn, 1) := by decide +kernel
theorem dX4_init_0 : decode cX4_init 0 = .ok (.aload_n 0, 1) := by decide +kernel
theorem dX4_init_1 : decode cX4_init 1 = .ok (.invokespecial 3, 3) := by decide +kernel
theorem dX4_init_4 : decode cX4_init 4 = .ok (.aload_n 0, 1) := by decide +kernel
theorem dX4_init_5 : decode cX4_init 5 = .ok (.bipush 60, 2) := by decide +kernel
theorem dX4_init_7 : decode cX4_init 7 = .ok (.newarray .int, 2) := by decide +kernel
theorem dX4_init_9 : decode cX4_init 9 = .ok (.putfield 9, 3) := by decide +kernel
theorem dX4_init_12 : decode cX4_init 12 = .ok (.aload_n 0, 1) := by decide +kernel
theorem dX4_init_13 : decode cX4_init 13 = .ok (.iconst 0, 1) := by decide +kernel
theorem dX4_init_14 : decode cX4_init 14 = .ok (.putfield 15, 3) := by decide +kernel
theorem dX4_init_17 : decode cX4_init 17 = .ok (.aload_n 0, 1) := by decide +kernel
theorem dX4_init_18 : decode cX4_init 18 = .ok (.iconst 0, 1) := by decide +kernel
theorem dX4_init_19 : decode cX4_init 19 = .ok (.putfield 19, 3) := by decide +kernel
theorem dX4_init_22 : decode cX4_init 22 = .ok (.return_, 1) := by decide +kernel
theorem dX4_clear_0 : decode cX4_clear 0 = .ok (.aload_n 0, 1) := by decide +kernel
theorem dX4_clear_1 : decode cX4_clear 1 = .ok (.iconst 0, 1) := by decide +kernel
theorem dX4_clear_2 : decode cX4_clear 2 = .ok (.putfield 15, 3) := by decide +kernel
theorem dX4_clear_5 : decode cX4_clear 5 = .ok (.aload_n 0, 1) := by decide +kernel
theorem dX4_clear_6 : decode cX4_clear 6 = .ok (.iconst 0, 1) := by decide +kernel
theorem dX4_clear_7 : decode cX4_clear 7 = .ok (.putfield 19, 3) := by decide +kernel
theorem dX4_clear_10 : decode cX4_clear 10 = .ok (.return_, 1) := by decide +kernel
theorem dX4_insert_0 : decode cX4_insert 0 = .ok (.aload_n 0, 1) := by decide +kernel
theorem dX4_insert_1 : decode cX4_insert 1 = .ok (.getfield 15, 3) := by decide +kernel
theorem dX4_insert_4 : decode cX4_insert 4 = .ok (.aload_n 0, 1) := by decide +kernel
theorem dX4_insert_5 : decode cX4_insert 5 = .ok (.getfield 9, 3) := by decide +kernel
theorem dX4_insert_8 : decode cX4_insert 8 = .ok (.arraylength, 1) := by decide +kernel
theorem dX4_insert_9 : decode cX4_insert 9 = .ok (.if_icmp .lt 4, 3) := by decide +kernel
theorem dX4_insert_12 : decode cX4_insert 12 = .ok (.return_, 1) := by decide +kernel
theorem dX4_insert_13 : decode cX4_insert 13 = .ok (.aload_n 0, 1) := by decide +kernel
theorem dX4_insert_14 : decode cX4_insert 14 = .ok (.getfield 15, 3) := by decide +kernel
theorem dX4_insert_17 : decode cX4_insert 17 = .ok (.ifCond .le 61, 3) := by decide +kernel
theorem dX4_insert_20 : decode cX4_insert 20 = .ok (.aload_n 0, 1) := by decide +kernel
theorem dX4_insert_21 : decode cX4_insert 21 = .ok (.getfield 9, 3) := by decide +kernel
theorem dX4_insert_24 : decode cX4_insert 24 = .ok (.aload_n 0, 1) := by decide +kernel
theorem dX4_insert_25 : decode cX4_insert 25 = .ok (.getfield 15, 3) := by decide +kernel
theorem dX4_insert_28 : decode cX4_insert 28 = .ok (.iconst 1, 1) := by decide +kernel
theorem dX4_insert_29 : decode cX4_insert 29 = .ok (.isub, 1) := by decide +kernel
theorem dX4_insert_30 : decode cX4_insert 30 = .ok (.iconst 2, 1) := by decide +kernel
theorem dX4_insert_31 : decode cX4_insert 31 = .ok (.idiv, 1) := by decide +kernel
theorem dX4_insert_32 : decode cX4_insert 32 = .ok (.iaload, 1) := by decide +kernel
theorem dX4_insert_33 : decode cX4_insert 33 = .ok (.istore_n 2, 1) := by decide +kernel
theorem dX4_insert_34 : decode cX4_insert 34 = .ok (.aload_n 0, 1) := by decide +kernel
theorem dX4_insert_35 : decode cX4_insert 35 = .ok (.getfield 9, 3) := by decide +kernel
theorem dX4_insert_38 : decode cX4_insert 38 = .ok (.aload_n 0, 1) := by decide +kernel
theorem dX4_insert_39 : decode cX4_insert 39 = .ok (.getfield 15, 3) := by decide +kernel
theorem dX4_insert_42 : decode cX4_insert 42 = .ok (.iconst 2, 1) := by decide +kernel
theorem dX4_insert_43 : decode cX4_insert 43 = .ok (.idiv, 1) := by decide +kernel
theorem dX4_insert_44 : decode cX4_insert 44 = .ok (.iaload, 1) := by decide +kernel
theorem dX4_insert_45 : decode cX4_insert 45 = .ok (.istore_n 3, 1) := by decide +kernel
theorem dX4_insert_46 : decode cX4_insert 46 = .ok (.aload_n 0, 1) := by decide +kernel
theorem dX4_insert_47 : decode cX4_insert 47 = .ok (.dup, 1) := by decide +kernel
theorem dX4_insert_48 : decode cX4_insert 48 = .ok (.getfield 19, 3) := by decide +kernel
theorem dX4_insert_51 : decode cX4_insert 51 = .ok (.iload_n 1, 1) := by decide +kernel
theorem dX4_insert_52 : decode cX4_insert 52 = .ok (.iload_n 2, 1) := by decide +kernel
theorem dX4_insert_53 : decode cX4_insert 53 = .ok (.if_icmp .ge 9, 3) := by decide +kernel
theorem dX4_insert_56 : decode cX4_insert 56 = .ok (.iload_n 2, 1) := by decide +kernel
theorem dX4_insert_57 : decode cX4_insert 57 = .ok (.iload_n 1, 1) := by decide +kernel
theorem dX4_insert_58 : decode cX4_insert 58 = .ok (.isub, 1) := by decide +kernel
theorem dX4_insert_59 : decode cX4_insert 59 = .ok (.goto 15, 3) := by decide +kernel
theorem dX4_insert_62 : decode cX4_insert 62 = .ok (.iload_n 1, 1) := by decide +kernel
theorem dX4_insert_63 : decode cX4_insert 63 = .ok (.iload_n 3, 1) := by decide +kernel
theorem dX4_insert_64 : decode cX4_insert 64 = .ok (.if_icmp .le 9, 3) := by decide +kernel
theorem dX4_insert_67 : decode cX4_insert 67 = .ok (.iload_n 1, 1) := by decide +kernel
theorem dX4_insert_68 : decode cX4_insert 68 = .ok (.iload_n 3, 1) := by decide +kernel
theorem dX4_insert_69 : decode cX4_insert 69 = .ok (.isub, 1) := by decide +kernel
theorem dX4_insert_70 : decode cX4_insert 70 = .ok (.goto 4, 3) := by decide +kernel
theorem dX4_insert_73 : decode cX4_insert 73 = .ok (.iconst 0, 1) := by decide +kernel
theorem dX4_insert_74 : decode cX4_insert 74 = .ok (.iadd, 1) := by decide +kernel
theorem dX4_insert_75 : decode cX4_insert 75 = .ok (.putfield 19, 3) := by decide +kernel
theorem dX4_insert_78 : decode cX4_insert 78 = .ok (.aload_n 0, 1) := by decide +kernel
theorem dX4_insert_79 : decode cX4_insert 79 = .ok (.getfield 15, 3) := by decide +kernel
theorem dX4_insert_82 : decode cX4_insert 82 = .ok (.istore_n 2, 1) := by decide +kernel
theorem dX4_insert_83 : decode cX4_insert 83 = .ok (.iload_n 2, 1) := by decide +kernel
theorem dX4_insert_84 : decode cX4_insert 84 = .ok (.ifCond .le 35, 3) := by decide +kernel
theorem dX4_insert_87 : decode cX4_insert 87 = .ok (.aload_n 0, 1) := by decide +kernel
theorem dX4_insert_88 : decode cX4_insert 88 = .ok (.getfield 9, 3) := by decide +kernel
theorem dX4_insert_91 : decode cX4_insert 91 = .ok (.iload_n 2, 1) := by decide +kernel
theorem dX4_insert_92 : decode cX4_insert 92 = .ok (.iconst 1, 1) := by decide +kernel
theorem dX4_insert_93 : decode cX4_insert 93 = .ok (.isub, 1) := by decide +kernel
theorem dX4_insert_94 : decode cX4_insert 94 = .ok (.iaload, 1) := by decide +kernel
theorem dX4_insert_95 : decode cX4_insert 95 = .ok (.iload_n 1, 1) := by decide +kernel
theorem dX4_insert_96 : decode cX4_insert 96 = .ok (.if_icmp .le 23, 3) := by decide +kernel
theorem dX4_insert_99 : decode cX4_insert 99 = .ok (.aload_n 0, 1) := by decide +kernel
theorem dX4_insert_100 : decode cX4_insert 100 = .ok (.getfield 9, 3) := by decide +kernel
theorem dX4_insert_103 : decode cX4_insert 103 = .ok (.iload_n 2, 1) := by decide +kernel
theorem dX4_insert_104 : decode cX4_insert 104 = .ok (.aload_n 0, 1) := by decide +kernel
theorem dX4_insert_105 : decode cX4_insert 105 = .ok (.getfield 9, 3) := by decide +kernel
theorem dX4_insert_108 : decode cX4_insert 108 = .ok (.iload_n 2, 1) := by decide +kernel
theorem dX4_insert_109 : decode cX4_insert 109 = .ok (.iconst 1, 1) := by decide +kernel
theorem dX4_insert_110 : decode cX4_insert 110 = .ok (.isub, 1) := by decide +kernel
theorem dX4_insert_111 : decode cX4_insert 111 = .ok (.iaload, 1) := by decide +kernel
theorem dX4_insert_112 : decode cX4_insert 112 = .ok (.iastore, 1) := by decide +kernel
theorem dX4_insert_113 : decode cX4_insert 113 = .ok (.iinc 2 (-1), 3) := by decide +kernel
theorem dX4_insert_116 : decode cX4_insert 116 = .ok (.goto (-33), 3) := by decide +kernel
theorem dX4_insert_119 : decode cX4_insert 119 = .ok (.aload_n 0, 1) := by decide +kernel
theorem dX4_insert_120 : decode cX4_insert 120 = .ok (.getfield 9, 3) := by decide +kernel
theorem dX4_insert_123 : decode cX4_insert 123 = .ok (.iload_n 2, 1) := by decide +kernel
theorem dX4_insert_124 : decode cX4_insert 124 = .ok (.iload_n 1, 1) := by decide +kernel
theorem dX4_insert_125 : decode cX4_insert 125 = .ok (.iastore, 1) := by decide +kernel
theorem dX4_insert_126 : decode cX4_insert 126 = .ok (.aload_n 0, 1) := by decide +kernel
theorem dX4_insert_127 : decode cX4_insert 127 = .ok (.dup, 1) := by decide +kernel
theorem dX4_insert_128 : decode cX4_insert 128 = .ok (.getfield 15, 3) := by decide +kernel
theorem dX4_insert_131 : decode cX4_insert 131 = .ok (.iconst 1, 1) := by decide +kernel
theorem dX4_insert_132 : decode cX4_insert 132 = .ok (.iadd, 1) := by decide +kernel
theorem dX4_insert_133 : decode cX4_insert 133 = .ok (.putfield 15, 3) := by decide +kernel
theorem dX4_insert_136 : decode cX4_insert 136 = .ok (.return_, 1) := by decide +kernel
theorem dX4_median_0 : decode cX4_median 0 = .ok (.aload_n 0, 1) := by decide +kernel
theorem dX4_median_1 : decode cX4_median 1 = .ok (.getfield 15, 3) := by decide +kernel
theorem dX4_median_4 : decode cX4_median 4 = .ok (.ifCond .ne 7, 3) := by decide +kernel
theorem dX4_median_7 : decode cX4_median 7 = .ok (.iconst 0, 1) := by decide +kernel
theorem dX4_median_8 : decode cX4_median 8 = .ok (.goto 16, 3) := by decide +kernel
theorem dX4_median_11 : decode cX4_median 11 = .ok (.aload_n 0, 1) := by decide +kernel
theorem dX4_median_12 : decode cX4_median 12 = .ok (.getfield 9, 3) := by decide +kernel
theorem dX4_median_15 : decode cX4_median 15 = .ok (.aload_n 0, 1) := by decide +kernel
theorem dX4_median_16 : decode cX4_median 16 = .ok (.getfield 15, 3) := by decide +kernel
theorem dX4_median_19 : decode cX4_median 19 = .ok (.iconst 1, 1) := by decide +kernel
theorem dX4_median_20 : decode cX4_median 20 = .ok (.isub, 1) := by decide +kernel
theorem dX4_median_21 : decode cX4_median 21 = .ok (.iconst 2, 1) := by decide +kernel
theorem dX4_median_22 : decode cX4_median 22 = .ok (.idiv, 1) := by decide +kernel
theorem dX4_median_23 : decode cX4_median 23 = .ok (.iaload, 1) := by decide +kernel
theorem dX4_median_24 : decode cX4_median 24 = .ok (.ireturn, 1) := by decide +kernel
theorem dX4_spreadAroundMedian_0 : decode cX4_spreadAroundMedian 0 = .ok (.aload_n 0, 1) := by decide +kernel
theorem dX4_spreadAroundMedian_1 : decode cX4_spreadAroundMedian 1 = .ok (.getfield 19, 3) := by decide +kernel
theorem dX4_spreadAroundMedian_4 : decode cX4_spreadAroundMedian 4 = .ok (.ireturn, 1) := by decide +kernel
theorem dX5_init_0 : decode cX5_init 0 = .ok (.aload_n 0, 1) := by decide +kernel
theorem dX5_init_1 : decode cX5_init 1 = .ok (.invokespecial 3, 3) := by decide +kernel
theorem dX5_init_4 : decode cX5_init 4 = .ok (.aload_n 0, 1) := by decide +kernel
theorem dX5_init_5 : decode cX5_init 5 = .ok (.sipush 210, 3) := by decide +kernel
theorem dX5_init_8 : decode cX5_init 8 = .ok (.newarray .int, 2) := by decide +kernel
theorem dX5_init_10 : decode cX5_init 10 = .ok (.putfield 11, 3) := by decide +kernel
theorem dX5_init_13 : decode cX5_init 13 = .ok (.aload_n 0, 1) := by decide +kernel
theorem dX5_init_14 : decode cX5_init 14 = .ok (.aload_n 1, 1) := by decide +kernel
theorem dX5_init_15 : decode cX5_init 15 = .ok (.putfield 15, 3) := by decide +kernel
theorem dX5_init_18 : decode cX5_init 18 = .ok (.return_, 1) := by decide +kernel
set_option maxRecDepth 20000 in
theorem ggX5_leastOfAll_X2_costBetween : GoodIn wsX5_leastOfAll wsX2_costBetween := goodIn_r _ [7, 8, 9, 10, 11, 6, 12, 13, 14, 15, 16, 17, 18, 19, 20, 21, 22, 23, 24, 25, 26, 27, 28, 29, 30, 31, 32, 33, 34, 35, 36, 37, 38, 39, 40, 41, 42, 43, 44, 45, 46, 47, 48, 49, 50, 51, 52, 53, 54, 55, 56, 57, 78, 79, 80, 81, 82, 83, 84, 85, 86, 87, 88, 89, 90, 91, 92, 93, 94, 95, 96, 97, 98, 99, 100, 101, 102] (by decide +kernel) (by decide +kernel)
set_option maxRecDepth 20000 in
theorem gX5_leastOfAll_X2_costBetween : GoodIn wsX5_leastOfAll (wsV RX5 19 RX2 yX2_costBetween wsX2_costBetween) := goodIn_app (goodIn_of _ (by decide +kernel)) ggX5_leastOfAll_X2_costBetween
set_option maxRecDepth 20000 in
theorem ggX5_leastOfAll_X2_leastLength : GoodIn wsX5_leastOfAll wsX2_leastLength := goodIn_r _ [61, 62, 78, 79, 80, 81, 82, 83, 84, 85, 86, 87, 88, 89] (by decide +kernel) (by decide +kernel)
set_option maxRecDepth 20000 in
theorem gX5_leastOfAll_X2_leastLength : GoodIn wsX5_leastOfAll (wsV RX5 25 RX2 yX2_leastLength wsX2_leastLength) := goodIn_app (goodIn_of _ (by decide +kernel)) ggX5_leastOfAll_X2_leastLength
set_option maxRecDepth 20000 in
theorem ggX5_leastOfAll_X2_penaltyOfCut : GoodIn wsX5_leastOfAll wsX2_penaltyOfCut := goodIn_r _ [66, 67, 78, 79, 80, 81, 82, 83, 84, 85, 86, 87, 88, 89] (by decide +kernel) (by decide +kernel)
set_option maxRecDepth 20000 in
theorem gX5_leastOfAll_X2_penaltyOfCut : GoodIn wsX5_leastOfAll (wsV RX5 29 RX2 yX2_penaltyOfCut wsX2_penaltyOfCut) := goodIn_app (goodIn_of _ (by decide +kernel)) ggX5_leastOfAll_X2_penaltyOfCut
set_option maxRecDepth 20000 in
theorem ggX5_leastOfAll_X5_leastFrom : GoodIn wsX5_leastOfAll wsX5_leastFrom := goodIn_r _ [71, 72, 73, 74, 75, 68, 69, 70] (by decide +kernel) (by decide +kernel)
set_option maxRecDepth 20000 in
theorem gX5_leastOfAll_X5_leastFrom : GoodIn wsX5_leastOfAll (va_wsS RX5 32 yX5_leastFrom wsX5_leastFrom) := goodIn_app (goodIn_of _ (by decide +kernel)) ggX5_leastOfAll_X5_leastFrom
theorem dX5_leastOfAll_0 : decode cX5_leastOfAll 0 = .ok (.iload_n 1, 1) := by decide +kernel
theorem dX5_leastOfAll_1 : decode cX5_leastOfAll 1 = .ok (.iconst 1, 1) := by decide +kernel
theorem dX5_leastOfAll_2 : decode cX5_leastOfAll 2 = .ok (.if_icmp .lt 9, 3) := by decide +kernel
theorem dX5_leastOfAll_5 : decode cX5_leastOfAll 5 = .ok (.iload_n 1, 1) := by decide +kernel
theorem dX5_leastOfAll_6 : decode cX5_leastOfAll 6 = .ok (.bipush 14, 2) := by decide +kernel
theorem dX5_leastOfAll_8 : decode cX5_leastOfAll 8 = .ok (.if_icmp .le 5, 3) := by decide +kernel
theorem dX5_leastOfAll_11 : decode cX5_leastOfAll 11 = .ok (.iconst 0, 1) := by decide +kernel
theorem dX5_leastOfAll_12 : decode cX5_leastOfAll 12 = .ok (.ireturn, 1) := by decide +kernel
theorem dX5_leastOfAll_13 : decode cX5_leastOfAll 13 = .ok (.iconst 0, 1) := by decide +kernel
theorem dX5_leastOfAll_14 : decode cX5_leastOfAll 14 = .ok (.istore_n 2, 1) := by decide +kernel
theorem dX5_leastOfAll_15 : decode cX5_leastOfAll 15 = .ok (.iload_n 2, 1) := by decide +kernel
theorem dX5_leastOfAll_16 : decode cX5_leastOfAll 16 = .ok (.iload_n 1, 1) := by decide +kernel
theorem dX5_leastOfAll_17 : decode cX5_leastOfAll 17 = .ok (.if_icmp .ge 44, 3) := by decide +kernel
theorem dX5_leastOfAll_20 : decode cX5_leastOfAll 20 = .ok (.iload_n 2, 1) := by decide +kernel
theorem dX5_leastOfAll_21 : decode cX5_leastOfAll 21 = .ok (.iconst 1, 1) := by decide +kernel
theorem dX5_leastOfAll_22 : decode cX5_leastOfAll 22 = .ok (.iadd, 1) := by decide +kernel
theorem dX5_leastOfAll_23 : decode cX5_leastOfAll 23 = .ok (.istore_n 3, 1) := by decide +kernel
theorem dX5_leastOfAll_24 : decode cX5_leastOfAll 24 = .ok (.iload_n 3, 1) := by decide +kernel
theorem dX5_leastOfAll_25 : decode cX5_leastOfAll 25 = .ok (.iload_n 1, 1) := by decide +kernel
theorem dX5_leastOfAll_26 : decode cX5_leastOfAll 26 = .ok (.if_icmp .gt 29, 3) := by decide +kernel
theorem dX5_leastOfAll_29 : decode cX5_leastOfAll 29 = .ok (.aload_n 0, 1) := by decide +kernel
theorem dX5_leastOfAll_30 : decode cX5_leastOfAll 30 = .ok (.getfield 11, 3) := by decide +kernel
theorem dX5_leastOfAll_33 : decode cX5_leastOfAll 33 = .ok (.iload_n 2, 1) := by decide +kernel
theorem dX5_leastOfAll_34 : decode cX5_leastOfAll 34 = .ok (.bipush 15, 2) := by decide +kernel
theorem dX5_leastOfAll_36 : decode cX5_leastOfAll 36 = .ok (.imul, 1) := by decide +kernel
theorem dX5_leastOfAll_37 : decode cX5_leastOfAll 37 = .ok (.iload_n 3, 1) := by decide +kernel
theorem dX5_leastOfAll_38 : decode cX5_leastOfAll 38 = .ok (.iadd, 1) := by decide +kernel
theorem dX5_leastOfAll_39 : decode cX5_leastOfAll 39 = .ok (.aload_n 0, 1) := by decide +kernel
theorem dX5_leastOfAll_40 : decode cX5_leastOfAll 40 = .ok (.getfield 15, 3) := by decide +kernel
theorem dX5_leastOfAll_43 : decode cX5_leastOfAll 43 = .ok (.iload_n 2, 1) := by decide +kernel
theorem dX5_leastOfAll_44 : decode cX5_leastOfAll 44 = .ok (.iload_n 3, 1) := by decide +kernel
theorem dX5_leastOfAll_45 : decode cX5_leastOfAll 45 = .ok (.invokevirtual 19, 3) := by decide +kernel
theorem dX5_leastOfAll_48 : decode cX5_leastOfAll 48 = .ok (.iastore, 1) := by decide +kernel
theorem dX5_leastOfAll_49 : decode cX5_leastOfAll 49 = .ok (.iinc 3 1, 3) := by decide +kernel
theorem dX5_leastOfAll_52 : decode cX5_leastOfAll 52 = .ok (.goto (-28), 3) := by decide +kernel
theorem dX5_leastOfAll_55 : decode cX5_leastOfAll 55 = .ok (.iinc 2 1, 3) := by decide +kernel
theorem dX5_leastOfAll_58 : decode cX5_leastOfAll 58 = .ok (.goto (-43), 3) := by decide +kernel
theorem dX5_leastOfAll_61 : decode cX5_leastOfAll 61 = .ok (.aload_n 0, 1) := by decide +kernel
theorem dX5_leastOfAll_62 : decode cX5_leastOfAll 62 = .ok (.getfield 11, 3) := by decide +kernel
theorem dX5_leastOfAll_65 : decode cX5_leastOfAll 65 = .ok (.iload_n 1, 1) := by decide +kernel
theorem dX5_leastOfAll_66 : decode cX5_leastOfAll 66 = .ok (.aload_n 0, 1) := by decide +kernel
theorem dX5_leastOfAll_67 : decode cX5_leastOfAll 67 = .ok (.getfield 15, 3) := by decide +kernel
theorem dX5_leastOfAll_70 : decode cX5_leastOfAll 70 = .ok (.invokevirtual 25, 3) := by decide +kernel
theorem dX5_leastOfAll_73 : decode cX5_leastOfAll 73 = .ok (.aload_n 0, 1) := by decide +kernel
theorem dX5_leastOfAll_74 : decode cX5_leastOfAll 74 = .ok (.getfield 15, 3) := by decide +kernel
theorem dX5_leastOfAll_77 : decode cX5_leastOfAll 77 = .ok (.invokevirtual 29, 3) := by decide +kernel
theorem dX5_leastOfAll_80 : decode cX5_leastOfAll 80 = .ok (.iconst 0, 1) := by decide +kernel
theorem dX5_leastOfAll_81 : decode cX5_leastOfAll 81 = .ok (.iconst 0, 1) := by decide +kernel
theorem dX5_leastOfAll_82 : decode cX5_leastOfAll 82 = .ok (.invokestatic 32, 3) := by decide +kernel
theorem dX5_leastOfAll_85 : decode cX5_leastOfAll 85 = .ok (.ireturn, 1) := by decide +kernel
set_option maxRecDepth 20000 in
theorem ggX5_leastFrom_X5_leastFrom : GoodIn wsX5_leastFrom wsX5_leastFrom := goodIn_r _ [0, 1, 2, 3, 4, 5, 6, 7] (by decide +kernel) (by decide +kernel)
set_option maxRecDepth 20000 in
theorem gX5_leastFrom_X5_leastFrom : GoodIn wsX5_leastFrom (va_wsS RX5 32 yX5_leastFrom wsX5_leastFrom) := goodIn_app (goodIn_of _ (by decide +kernel)) ggX5_leastFrom_X5_leastFrom
theorem dX5_leastFrom_0 : decode cX5_leastFrom 0 = .ok (.iload 4, 2) := by decide +kernel
theorem dX5_leastFrom_2 : decode cX5_leastFrom 2 = .ok (.ifCond .lt 26, 3) := by decide +kernel
theorem dX5_leastFrom_5 : decode cX5_leastFrom 5 = .ok (.iload 4, 2) := by decide +kernel
theorem dX5_leastFrom_7 : decode cX5_leastFrom 7 = .ok (.iload_n 1, 1) := by decide +kernel
theorem dX5_leastFrom_8 : decode cX5_leastFrom 8 = .ok (.if_icmp .ge 20, 3) := by decide +kernel
theorem dX5_leastFrom_11 : decode cX5_leastFrom 11 = .ok (.iload_n 1, 1) := by decide +kernel
theorem dX5_leastFrom_12 : decode cX5_leastFrom 12 = .ok (.bipush 14, 2) := by decide +kernel
theorem dX5_leastFrom_14 : decode cX5_leastFrom 14 = .ok (.if_icmp .gt 14, 3) := by decide +kernel
theorem dX5_leastFrom_17 : decode cX5_leastFrom 17 = .ok (.iload_n 2, 1) := by decide +kernel
theorem dX5_leastFrom_18 : decode cX5_leastFrom 18 = .ok (.iconst 1, 1) := by decide +kernel
theorem dX5_leastFrom_19 : decode cX5_leastFrom 19 = .ok (.if_icmp .lt 9, 3) := by decide +kernel
theorem dX5_leastFrom_22 : decode cX5_leastFrom 22 = .ok (.iload 5, 2) := by decide +kernel
theorem dX5_leastFrom_24 : decode cX5_leastFrom 24 = .ok (.iload_n 1, 1) := by decide +kernel
theorem dX5_leastFrom_25 : decode cX5_leastFrom 25 = .ok (.if_icmp .le 5, 3) := by decide +kernel
theorem dX5_leastFrom_28 : decode cX5_leastFrom 28 = .ok (.iconst 0, 1) := by decide +kernel
theorem dX5_leastFrom_29 : decode cX5_leastFrom 29 = .ok (.ireturn, 1) := by decide +kernel
theorem dX5_leastFrom_30 : decode cX5_leastFrom 30 = .ok (.iload 4, 2) := by decide +kernel
theorem dX5_leastFrom_32 : decode cX5_leastFrom 32 = .ok (.bipush 15, 2) := by decide +kernel
theorem dX5_leastFrom_34 : decode cX5_leastFrom 34 = .ok (.imul, 1) := by decide +kernel
theorem dX5_leastFrom_35 : decode cX5_leastFrom 35 = .ok (.istore 6, 2) := by decide +kernel
theorem dX5_leastFrom_37 : decode cX5_leastFrom 37 = .ok (.aload_n 0, 1) := by decide +kernel
theorem dX5_leastFrom_38 : decode cX5_leastFrom 38 = .ok (.iload 6, 2) := by decide +kernel
theorem dX5_leastFrom_40 : decode cX5_leastFrom 40 = .ok (.iload_n 1, 1) := by decide +kernel
theorem dX5_leastFrom_41 : decode cX5_leastFrom 41 = .ok (.iadd, 1) := by decide +kernel
theorem dX5_leastFrom_42 : decode cX5_leastFrom 42 = .ok (.iaload, 1) := by decide +kernel
theorem dX5_leastFrom_43 : decode cX5_leastFrom 43 = .ok (.istore 7, 2) := by decide +kernel
theorem dX5_leastFrom_45 : decode cX5_leastFrom 45 = .ok (.iload 4, 2) := by decide +kernel
theorem dX5_leastFrom_47 : decode cX5_leastFrom 47 = .ok (.iload_n 2, 1) := by decide +kernel
theorem dX5_leastFrom_48 : decode cX5_leastFrom 48 = .ok (.iadd, 1) := by decide +kernel
theorem dX5_leastFrom_49 : decode cX5_leastFrom 49 = .ok (.istore 8, 2) := by decide +kernel
theorem dX5_leastFrom_51 : decode cX5_leastFrom 51 = .ok (.iload 8, 2) := by decide +kernel
theorem dX5_leastFrom_53 : decode cX5_leastFrom 53 = .ok (.iload_n 1, 1) := by decide +kernel
theorem dX5_leastFrom_54 : decode cX5_leastFrom 54 = .ok (.iload_n 2, 1) := by decide +kernel
theorem dX5_leastFrom_55 : decode cX5_leastFrom 55 = .ok (.isub, 1) := by decide +kernel
theorem dX5_leastFrom_56 : decode cX5_leastFrom 56 = .ok (.if_icmp .gt 43, 3) := by decide +kernel
theorem dX5_leastFrom_59 : decode cX5_leastFrom 59 = .ok (.aload_n 0, 1) := by decide +kernel
theorem dX5_leastFrom_60 : decode cX5_leastFrom 60 = .ok (.iload 6, 2) := by decide +kernel
theorem dX5_leastFrom_62 : decode cX5_leastFrom 62 = .ok (.iload 8, 2) := by decide +kernel
theorem dX5_leastFrom_64 : decode cX5_leastFrom 64 = .ok (.iadd, 1) := by decide +kernel
theorem dX5_leastFrom_65 : decode cX5_leastFrom 65 = .ok (.iaload, 1) := by decide +kernel
theorem dX5_leastFrom_66 : decode cX5_leastFrom 66 = .ok (.iload_n 3, 1) := by decide +kernel
theorem dX5_leastFrom_67 : decode cX5_leastFrom 67 = .ok (.iadd, 1) := by decide +kernel
theorem dX5_leastFrom_68 : decode cX5_leastFrom 68 = .ok (.aload_n 0, 1) := by decide +kernel
theorem dX5_leastFrom_69 : decode cX5_leastFrom 69 = .ok (.iload_n 1, 1) := by decide +kernel
theorem dX5_leastFrom_70 : decode cX5_leastFrom 70 = .ok (.iload_n 2, 1) := by decide +kernel
theorem dX5_leastFrom_71 : decode cX5_leastFrom 71 = .ok (.iload_n 3, 1) := by decide +kernel
theorem dX5_leastFrom_72 : decode cX5_leastFrom 72 = .ok (.iload 8, 2) := by decide +kernel
theorem dX5_leastFrom_74 : decode cX5_leastFrom 74 = .ok (.iload 5, 2) := by decide +kernel
theorem dX5_leastFrom_76 : decode cX5_leastFrom 76 = .ok (.iconst 1, 1) := by decide +kernel
theorem dX5_leastFrom_77 : decode cX5_leastFrom 77 = .ok (.iadd, 1) := by decide +kernel
theorem dX5_leastFrom_78 : decode cX5_leastFrom 78 = .ok (.invokestatic 32, 3) := by decide +kernel
theorem dX5_leastFrom_81 : decode cX5_leastFrom 81 = .ok (.iadd, 1) := by decide +kernel
theorem dX5_leastFrom_82 : decode cX5_leastFrom 82 = .ok (.istore 9, 2) := by decide +kernel
theorem dX5_leastFrom_84 : decode cX5_leastFrom 84 = .ok (.iload 7, 2) := by decide +kernel
theorem dX5_leastFrom_86 : decode cX5_leastFrom 86 = .ok (.iload 9, 2) := by decide +kernel
theorem dX5_leastFrom_88 : decode cX5_leastFrom 88 = .ok (.invokestatic 36, 3) := by decide +kernel
theorem dX5_leastFrom_91 : decode cX5_leastFrom 91 = .ok (.istore 7, 2) := by decide +kernel
theorem dX5_leastFrom_93 : decode cX5_leastFrom 93 = .ok (.iinc 8 1, 3) := by decide +kernel
theorem dX5_leastFrom_96 : decode cX5_leastFrom 96 = .ok (.goto (-45), 3) := by decide +kernel
theorem dX5_leastFrom_99 : decode cX5_leastFrom 99 = .ok (.iload 7, 2) := by decide +kernel
theorem dX5_leastFrom_101 : decode cX5_leastFrom 101 = .ok (.ireturn, 1) := by decide +kernel
set_option maxRecDepth 20000 in
theorem ggX6_init_X3_init : GoodIn wsX6_init wsX3_init := goodIn_r _ [29, 30, 2, 3, 31, 32, 33, 34, 35, 84, 85, 86] (by decide +kernel) (by decide +kernel)
set_option maxRecDepth 20000 in
theorem gX6_init_X3_init_n9 : GoodIn wsX6_init (wsX3_init) := ggX6_init_X3_init
set_option maxRecDepth 20000 in
theorem ggX6_init_X1_init : GoodIn wsX6_init wsX1_init := goodIn_r _ [38, 39, 2, 3, 40, 41, 42, 43, 44, 45, 21, 22, 46, 47, 48, 49, 50, 51, 52, 31, 53, 54, 55, 56, 57, 58, 59, 119, 96, 97, 98, 99, 100, 101, 116, 117, 118] (by decide +kernel) (by decide +kernel)
set_option maxRecDepth 20000 in
theorem gX6_init_X1_init : GoodIn wsX6_init (wsX1_init) := ggX6_init_X1_init
set_option maxRecDepth 20000 in
theorem ggX6_init_X2_init : GoodIn wsX6_init wsX2_init := goodIn_r _ [62, 63, 2, 3, 64, 21, 22, 65, 66, 67, 68, 41, 42, 69, 70, 71, 72, 73, 74, 75, 76, 77, 54, 55, 56, 31, 57, 58, 59, 50, 51, 52, 53, 116, 117, 118, 102, 103, 104, 105, 106, 107, 108, 109, 110, 111, 112, 113, 119] (by decide +kernel) (by decide +kernel)
set_option maxRecDepth 20000 in
theorem gX6_init_X2_init : GoodIn wsX6_init (wsX2_init) := ggX6_init_X2_init
