theorem dX6_residualAt_0 : decode cX6_residualAt 0 = .ok (.aload_n 0, 1) := by decide +kernel
theorem dX6_residualAt_1 : decode cX6_residualAt 1 = .ok (.getfield 21, 3) := by decide +kernel
theorem dX6_residualAt_4 : decode cX6_residualAt 4 = .ok (.iload_n 1, 1) := by decide +kernel
theorem dX6_residualAt_5 : decode cX6_residualAt 5 = .ok (.invokevirtual 129, 3) := by decide +kernel
theorem dX6_residualAt_8 : decode cX6_residualAt 8 = .ok (.aload_n 0, 1) := by decide +kernel
theorem dX6_residualAt_9 : decode cX6_residualAt 9 = .ok (.getfield 30, 3) := by decide +kernel
theorem dX6_residualAt_12 : decode cX6_residualAt 12 = .ok (.iload_n 1, 1) := by decide +kernel
theorem dX6_residualAt_13 : decode cX6_residualAt 13 = .ok (.invokevirtual 209, 3) := by decide +kernel
theorem dX6_residualAt_16 : decode cX6_residualAt 16 = .ok (.isub, 1) := by decide +kernel
theorem dX6_residualAt_17 : decode cX6_residualAt 17 = .ok (.ireturn, 1) := by decide +kernel
set_option maxRecDepth 20000 in
theorem ggX6_medianDeviation_X4_clear : GoodIn wsX6_medianDeviation wsX4_clear := goodIn_r _ [11, 12, 13, 73, 74, 75] (by decide +kernel) (by decide +kernel)
set_option maxRecDepth 20000 in
theorem gX6_medianDeviation_X4_clear : GoodIn wsX6_medianDeviation (wsV RX6 212 RX4 yX4_clear wsX4_clear) := goodIn_app (goodIn_of _ (by decide +kernel)) ggX6_medianDeviation_X4_clear
set_option maxRecDepth 20000 in
theorem ggX6_medianDeviation_X3_count : GoodIn wsX6_medianDeviation wsX3_count := goodIn_r _ [18, 19, 76, 77, 78] (by decide +kernel) (by decide +kernel)
set_option maxRecDepth 20000 in
theorem gX6_medianDeviation_X3_count : GoodIn wsX6_medianDeviation (wsV RX6 71 RX3 yX3_count wsX3_count) := goodIn_app (goodIn_of _ (by decide +kernel)) ggX6_medianDeviation_X3_count
set_option maxRecDepth 20000 in
theorem ggX6_medianDeviation_X3_isHoliday : GoodIn wsX6_medianDeviation wsX3_isHoliday := goodIn_r _ [23, 24, 25, 26, 27, 17, 28, 19, 76, 77, 78] (by decide +kernel) (by decide +kernel)
set_option maxRecDepth 20000 in
theorem gX6_medianDeviation_X3_isHoliday : GoodIn wsX6_medianDeviation (wsV RX6 96 RX3 yX3_isHoliday wsX3_isHoliday) := goodIn_app (goodIn_of _ (by decide +kernel)) ggX6_medianDeviation_X3_isHoliday
set_option maxRecDepth 20000 in
theorem ggX6_medianDeviation_X6_residualAt : GoodIn wsX6_medianDeviation wsX6_residualAt := goodIn_r _ [33, 34, 35, 36, 37, 38, 39, 40, 41, 42, 43, 44, 45, 46, 47, 48, 49, 50, 51, 52, 53, 54, 64, 65, 66, 67, 68, 69, 70, 71, 72, 79, 80, 81, 82, 83, 84, 85, 86, 87, 88, 89, 90, 91, 92, 93, 94, 95, 96, 97] (by decide +kernel) (by decide +kernel)
set_option maxRecDepth 20000 in
theorem gX6_medianDeviation_X6_residualAt : GoodIn wsX6_medianDeviation (wsV RX6 172 RX6 yX6_residualAt wsX6_residualAt) := goodIn_app (goodIn_of _ (by decide +kernel)) ggX6_medianDeviation_X6_residualAt
set_option maxRecDepth 20000 in
theorem ggX6_medianDeviation_X4_insert : GoodIn wsX6_medianDeviation wsX4_insert := goodIn_r _ [58, 12, 59, 13, 73, 74, 75] (by decide +kernel) (by decide +kernel)
set_option maxRecDepth 20000 in
theorem gX6_medianDeviation_X4_insert : GoodIn wsX6_medianDeviation (wsV RX6 220 RX4 yX4_insert wsX4_insert) := goodIn_app (goodIn_of _ (by decide +kernel)) ggX6_medianDeviation_X4_insert
set_option maxRecDepth 20000 in
theorem ggX6_medianDeviation_X4_median : GoodIn wsX6_medianDeviation wsX4_median := goodIn_r _ [63, 12, 59, 73, 74, 75] (by decide +kernel) (by decide +kernel)
set_option maxRecDepth 20000 in
theorem gX6_medianDeviation_X4_median : GoodIn wsX6_medianDeviation (wsV RX6 223 RX4 yX4_median wsX4_median) := goodIn_app (goodIn_of _ (by decide +kernel)) ggX6_medianDeviation_X4_median
theorem dX6_medianDeviation_0 : decode cX6_medianDeviation 0 = .ok (.aload_n 0, 1) := by decide +kernel
theorem dX6_medianDeviation_1 : decode cX6_medianDeviation 1 = .ok (.getfield 46, 3) := by decide +kernel
theorem dX6_medianDeviation_4 : decode cX6_medianDeviation 4 = .ok (.invokevirtual 212, 3) := by decide +kernel
theorem dX6_medianDeviation_7 : decode cX6_medianDeviation 7 = .ok (.iconst 0, 1) := by decide +kernel
theorem dX6_medianDeviation_8 : decode cX6_medianDeviation 8 = .ok (.istore_n 1, 1) := by decide +kernel
theorem dX6_medianDeviation_9 : decode cX6_medianDeviation 9 = .ok (.iload_n 1, 1) := by decide +kernel
theorem dX6_medianDeviation_10 : decode cX6_medianDeviation 10 = .ok (.aload_n 0, 1) := by decide +kernel
theorem dX6_medianDeviation_11 : decode cX6_medianDeviation 11 = .ok (.getfield 10, 3) := by decide +kernel
theorem dX6_medianDeviation_14 : decode cX6_medianDeviation 14 = .ok (.invokevirtual 71, 3) := by decide +kernel
theorem dX6_medianDeviation_17 : decode cX6_medianDeviation 17 = .ok (.if_icmp .ge 35, 3) := by decide +kernel
theorem dX6_medianDeviation_20 : decode cX6_medianDeviation 20 = .ok (.aload_n 0, 1) := by decide +kernel
theorem dX6_medianDeviation_21 : decode cX6_medianDeviation 21 = .ok (.getfield 10, 3) := by decide +kernel
theorem dX6_medianDeviation_24 : decode cX6_medianDeviation 24 = .ok (.iload_n 1, 1) := by decide +kernel
theorem dX6_medianDeviation_25 : decode cX6_medianDeviation 25 = .ok (.invokevirtual 96, 3) := by decide +kernel
theorem dX6_medianDeviation_28 : decode cX6_medianDeviation 28 = .ok (.ifCond .ne 18, 3) := by decide +kernel
theorem dX6_medianDeviation_31 : decode cX6_medianDeviation 31 = .ok (.aload_n 0, 1) := by decide +kernel
theorem dX6_medianDeviation_32 : decode cX6_medianDeviation 32 = .ok (.getfield 46, 3) := by decide +kernel
theorem dX6_medianDeviation_35 : decode cX6_medianDeviation 35 = .ok (.aload_n 0, 1) := by decide +kernel
theorem dX6_medianDeviation_36 : decode cX6_medianDeviation 36 = .ok (.iload_n 1, 1) := by decide +kernel
theorem dX6_medianDeviation_37 : decode cX6_medianDeviation 37 = .ok (.invokevirtual 172, 3) := by decide +kernel
theorem dX6_medianDeviation_40 : decode cX6_medianDeviation 40 = .ok (.invokestatic 215, 3) := by decide +kernel
theorem dX6_medianDeviation_43 : decode cX6_medianDeviation 43 = .ok (.invokevirtual 220, 3) := by decide +kernel
theorem dX6_medianDeviation_46 : decode cX6_medianDeviation 46 = .ok (.iinc 1 1, 3) := by decide +kernel
theorem dX6_medianDeviation_49 : decode cX6_medianDeviation 49 = .ok (.goto (-40), 3) := by decide +kernel
theorem dX6_medianDeviation_52 : decode cX6_medianDeviation 52 = .ok (.aload_n 0, 1) := by decide +kernel
theorem dX6_medianDeviation_53 : decode cX6_medianDeviation 53 = .ok (.getfield 46, 3) := by decide +kernel
theorem dX6_medianDeviation_56 : decode cX6_medianDeviation 56 = .ok (.invokevirtual 223, 3) := by decide +kernel
theorem dX6_medianDeviation_59 : decode cX6_medianDeviation 59 = .ok (.ireturn, 1) := by decide +kernel
set_option maxRecDepth 20000 in
theorem ggX6_boundOfNow_X6_medianDeviation : GoodIn wsX6_boundOfNow wsX6_medianDeviation := goodIn_r _ [11, 12, 13, 14, 15, 5, 16, 17, 18, 19, 20, 21, 22, 23, 24, 25, 26, 27, 28, 29, 30, 31, 32, 33, 34, 35, 36, 37, 38, 39, 40, 41, 10, 42, 43, 44, 45, 46, 47, 48, 49, 50, 51, 52, 53, 54, 55, 56, 57, 58, 59, 60, 61, 62, 63, 64, 65, 66, 67, 68, 69, 70, 71, 72, 73, 74, 75, 76, 77, 78, 79, 80, 81, 82, 83, 84, 85, 86, 87, 88, 89, 90, 91, 92, 93, 94, 95, 96, 97, 98, 99, 100, 101, 102, 103, 104, 105, 106] (by decide +kernel) (by decide +kernel)
set_option maxRecDepth 20000 in
theorem gX6_boundOfNow_X6_medianDeviation : GoodIn wsX6_boundOfNow (wsV RX6 175 RX6 yX6_medianDeviation wsX6_medianDeviation) := goodIn_app (goodIn_of _ (by decide +kernel)) ggX6_boundOfNow_X6_medianDeviation
theorem dX6_boundOfNow_0 : decode cX6_boundOfNow 0 = .ok (.aload_n 0, 1) := by decide +kernel
theorem dX6_boundOfNow_1 : decode cX6_boundOfNow 1 = .ok (.getfield 50, 3) := by decide +kernel
theorem dX6_boundOfNow_4 : decode cX6_boundOfNow 4 = .ok (.aload_n 0, 1) := by decide +kernel
theorem dX6_boundOfNow_5 : decode cX6_boundOfNow 5 = .ok (.invokevirtual 175, 3) := by decide +kernel
theorem dX6_boundOfNow_8 : decode cX6_boundOfNow 8 = .ok (.imul, 1) := by decide +kernel
theorem dX6_boundOfNow_9 : decode cX6_boundOfNow 9 = .ok (.bipush 100, 2) := by decide +kernel
theorem dX6_boundOfNow_11 : decode cX6_boundOfNow 11 = .ok (.idiv, 1) := by decide +kernel
theorem dX6_boundOfNow_12 : decode cX6_boundOfNow 12 = .ok (.aload_n 0, 1) := by decide +kernel
theorem dX6_boundOfNow_13 : decode cX6_boundOfNow 13 = .ok (.getfield 54, 3) := by decide +kernel
theorem dX6_boundOfNow_16 : decode cX6_boundOfNow 16 = .ok (.invokestatic 226, 3) := by decide +kernel
theorem dX6_boundOfNow_19 : decode cX6_boundOfNow 19 = .ok (.ireturn, 1) := by decide +kernel
set_option maxRecDepth 20000 in
theorem ggX6_expectedNext_X2_lastLevel : GoodIn wsX6_expectedNext wsX2_lastLevel := goodIn_r _ [8, 9, 10, 11, 12, 13, 14, 15, 16, 44, 45, 46, 47, 48, 49, 50, 51, 52, 53, 54, 55, 56] (by decide +kernel) (by decide +kernel)
set_option maxRecDepth 20000 in
theorem gX6_expectedNext_X2_lastLevel : GoodIn wsX6_expectedNext (wsV RX6 229 RX2 yX2_lastLevel wsX2_lastLevel) := goodIn_app (goodIn_of _ (by decide +kernel)) ggX6_expectedNext_X2_lastLevel
set_option maxRecDepth 20000 in
theorem ggX6_expectedNext_X3_count : GoodIn wsX6_expectedNext wsX3_count := goodIn_r _ [21, 22, 57, 58, 59] (by decide +kernel) (by decide +kernel)
set_option maxRecDepth 20000 in
theorem gX6_expectedNext_X3_count : GoodIn wsX6_expectedNext (wsV RX6 71 RX3 yX3_count wsX3_count) := goodIn_app (goodIn_of _ (by decide +kernel)) ggX6_expectedNext_X3_count
set_option maxRecDepth 20000 in
theorem ggX6_expectedNext_X1_phaseOf : GoodIn wsX6_expectedNext wsX1_phaseOf := goodIn_r _ [27, 28, 60, 61, 62, 63, 64, 65] (by decide +kernel) (by decide +kernel)
set_option maxRecDepth 20000 in
theorem gX6_expectedNext_X1_phaseOf : GoodIn wsX6_expectedNext (wsV RX6 232 RX1 yX1_phaseOf wsX1_phaseOf) := goodIn_app (goodIn_of _ (by decide +kernel)) ggX6_expectedNext_X1_phaseOf
set_option maxRecDepth 20000 in
theorem ggX6_expectedNext_X1_ofPhase : GoodIn wsX6_expectedNext wsX1_ofPhase := goodIn_r _ [32, 33, 34, 12, 13, 14, 15, 16, 60, 61, 62, 63, 64, 65, 56] (by decide +kernel) (by decide +kernel)
set_option maxRecDepth 20000 in
theorem gX6_expectedNext_X1_ofPhase : GoodIn wsX6_expectedNext (wsV RX6 126 RX1 yX1_ofPhase wsX1_ofPhase) := goodIn_app (goodIn_of _ (by decide +kernel)) ggX6_expectedNext_X1_ofPhase
theorem dX6_expectedNext_0 : decode cX6_expectedNext 0 = .ok (.aload_n 0, 1) := by decide +kernel
theorem dX6_expectedNext_1 : decode cX6_expectedNext 1 = .ok (.getfield 30, 3) := by decide +kernel
theorem dX6_expectedNext_4 : decode cX6_expectedNext 4 = .ok (.invokevirtual 229, 3) := by decide +kernel
theorem dX6_expectedNext_7 : decode cX6_expectedNext 7 = .ok (.aload_n 0, 1) := by decide +kernel
theorem dX6_expectedNext_8 : decode cX6_expectedNext 8 = .ok (.getfield 21, 3) := by decide +kernel
theorem dX6_expectedNext_11 : decode cX6_expectedNext 11 = .ok (.aload_n 0, 1) := by decide +kernel
theorem dX6_expectedNext_12 : decode cX6_expectedNext 12 = .ok (.getfield 21, 3) := by decide +kernel
theorem dX6_expectedNext_15 : decode cX6_expectedNext 15 = .ok (.aload_n 0, 1) := by decide +kernel
theorem dX6_expectedNext_16 : decode cX6_expectedNext 16 = .ok (.getfield 10, 3) := by decide +kernel
theorem dX6_expectedNext_19 : decode cX6_expectedNext 19 = .ok (.invokevirtual 71, 3) := by decide +kernel
theorem dX6_expectedNext_22 : decode cX6_expectedNext 22 = .ok (.invokevirtual 232, 3) := by decide +kernel
theorem dX6_expectedNext_25 : decode cX6_expectedNext 25 = .ok (.invokevirtual 126, 3) := by decide +kernel
theorem dX6_expectedNext_28 : decode cX6_expectedNext 28 = .ok (.iadd, 1) := by decide +kernel
theorem dX6_expectedNext_29 : decode cX6_expectedNext 29 = .ok (.ireturn, 1) := by decide +kernel
set_option maxRecDepth 20000 in
theorem ggX6_verdictWithin_X3_isHoliday : GoodIn wsX6_verdictWithin wsX3_isHoliday := goodIn_r _ [6, 7, 8, 9, 10, 5, 11, 12, 51, 52, 53] (by decide +kernel) (by decide +kernel)
set_option maxRecDepth 20000 in
theorem gX6_verdictWithin_X3_isHoliday : GoodIn wsX6_verdictWithin (wsV RX6 96 RX3 yX3_isHoliday wsX3_isHoliday) := goodIn_app (goodIn_of _ (by decide +kernel)) ggX6_verdictWithin_X3_isHoliday
set_option maxRecDepth 20000 in
theorem ggX6_verdictWithin_X6_residualAt : GoodIn wsX6_verdictWithin wsX6_residualAt := goodIn_r _ [17, 18, 19, 20, 21, 22, 23, 24, 25, 26, 27, 28, 29, 30, 31, 32, 33, 34, 35, 36, 37, 38, 42, 43, 44, 45, 46, 47, 48, 49, 50, 54, 55, 56, 57, 58, 59, 60, 61, 62, 63, 64, 65, 66, 67, 68, 69, 70, 71, 72] (by decide +kernel) (by decide +kernel)
set_option maxRecDepth 20000 in
theorem gX6_verdictWithin_X6_residualAt : GoodIn wsX6_verdictWithin (wsV RX6 172 RX6 yX6_residualAt wsX6_residualAt) := goodIn_app (goodIn_of _ (by decide +kernel)) ggX6_verdictWithin_X6_residualAt
set_option maxRecDepth 20000 in
theorem ggX6_verdictWithin_X6_sideOf : GoodIn wsX6_verdictWithin wsX6_sideOf := goodIn_r _ [41] (by decide +kernel) (by decide +kernel)
set_option maxRecDepth 20000 in
theorem gX6_verdictWithin_X6_sideOf : GoodIn wsX6_verdictWithin (va_wsS RX6 187 yX6_sideOf wsX6_sideOf) := goodIn_app (goodIn_of _ (by decide +kernel)) ggX6_verdictWithin_X6_sideOf
theorem dX6_verdictWithin_0 : decode cX6_verdictWithin 0 = .ok (.aload_n 0, 1) := by decide +kernel
theorem dX6_verdictWithin_1 : decode cX6_verdictWithin 1 = .ok (.getfield 10, 3) := by decide +kernel
theorem dX6_verdictWithin_4 : decode cX6_verdictWithin 4 = .ok (.iload_n 1, 1) := by decide +kernel
theorem dX6_verdictWithin_5 : decode cX6_verdictWithin 5 = .ok (.invokevirtual 96, 3) := by decide +kernel
theorem dX6_verdictWithin_8 : decode cX6_verdictWithin 8 = .ok (.ifCond .eq 7, 3) := by decide +kernel
theorem dX6_verdictWithin_11 : decode cX6_verdictWithin 11 = .ok (.iconst 3, 1) := by decide +kernel
theorem dX6_verdictWithin_12 : decode cX6_verdictWithin 12 = .ok (.goto 13, 3) := by decide +kernel
theorem dX6_verdictWithin_15 : decode cX6_verdictWithin 15 = .ok (.aload_n 0, 1) := by decide +kernel
theorem dX6_verdictWithin_16 : decode cX6_verdictWithin 16 = .ok (.iload_n 1, 1) := by decide +kernel
theorem dX6_verdictWithin_17 : decode cX6_verdictWithin 17 = .ok (.invokevirtual 172, 3) := by decide +kernel
theorem dX6_verdictWithin_20 : decode cX6_verdictWithin 20 = .ok (.i2l, 1) := by decide +kernel
theorem dX6_verdictWithin_21 : decode cX6_verdictWithin 21 = .ok (.iload_n 2, 1) := by decide +kernel
theorem dX6_verdictWithin_22 : decode cX6_verdictWithin 22 = .ok (.invokestatic 187, 3) := by decide +kernel
theorem dX6_verdictWithin_25 : decode cX6_verdictWithin 25 = .ok (.ireturn, 1) := by decide +kernel
theorem dX6_sideOf_0 : decode cX6_sideOf 0 = .ok (.lload_n 0, 1) := by decide +kernel
theorem dX6_sideOf_1 : decode cX6_sideOf 1 = .ok (.iload_n 2, 1) := by decide +kernel
theorem dX6_sideOf_2 : decode cX6_sideOf 2 = .ok (.i2l, 1) := by decide +kernel
theorem dX6_sideOf_3 : decode cX6_sideOf 3 = .ok (.lcmp, 1) := by decide +kernel
theorem dX6_sideOf_4 : decode cX6_sideOf 4 = .ok (.ifCond .le 5, 3) := by decide +kernel
theorem dX6_sideOf_7 : decode cX6_sideOf 7 = .ok (.iconst 1, 1) := by decide +kernel
theorem dX6_sideOf_8 : decode cX6_sideOf 8 = .ok (.ireturn, 1) := by decide +kernel
theorem dX6_sideOf_9 : decode cX6_sideOf 9 = .ok (.lload_n 0, 1) := by decide +kernel
theorem dX6_sideOf_10 : decode cX6_sideOf 10 = .ok (.iload_n 2, 1) := by decide +kernel
theorem dX6_sideOf_11 : decode cX6_sideOf 11 = .ok (.ineg, 1) := by decide +kernel
theorem dX6_sideOf_12 : decode cX6_sideOf 12 = .ok (.i2l, 1) := by decide +kernel
theorem dX6_sideOf_13 : decode cX6_sideOf 13 = .ok (.lcmp, 1) := by decide +kernel
theorem dX6_sideOf_14 : decode cX6_sideOf 14 = .ok (.ifCond .ge 7, 3) := by decide +kernel
theorem dX6_sideOf_17 : decode cX6_sideOf 17 = .ok (.iconst 2, 1) := by decide +kernel
theorem dX6_sideOf_18 : decode cX6_sideOf 18 = .ok (.goto 4, 3) := by decide +kernel
theorem dX6_sideOf_21 : decode cX6_sideOf 21 = .ok (.iconst 0, 1) := by decide +kernel
theorem dX6_sideOf_22 : decode cX6_sideOf 22 = .ok (.ireturn, 1) := by decide +kernel
theorem dJ9_abs_0f7a4_0 : decode cJ9_abs_0f7a4 0 = .ok (.iload_n 0, 1) := by decide +kernel
theorem dJ9_abs_0f7a4_1 : decode cJ9_abs_0f7a4 1 = .ok (.ifCond .ge 8, 3) := by decide +kernel
theorem dJ9_abs_0f7a4_4 : decode cJ9_abs_0f7a4 4 = .ok (.iload_n 0, 1) := by decide +kernel
theorem dJ9_abs_0f7a4_5 : decode cJ9_abs_0f7a4 5 = .ok (.ineg, 1) := by decide +kernel
theorem dJ9_abs_0f7a4_6 : decode cJ9_abs_0f7a4 6 = .ok (.goto 4, 3) := by decide +kernel
theorem dJ9_abs_0f7a4_9 : decode cJ9_abs_0f7a4 9 = .ok (.iload_n 0, 1) := by decide +kernel
theorem dJ9_abs_0f7a4_10 : decode cJ9_abs_0f7a4 10 = .ok (.ireturn, 1) := by decide +kernel
theorem dJ9_max_7cf53_0 : decode cJ9_max_7cf53 0 = .ok (.iload_n 0, 1) := by decide +kernel
theorem dJ9_max_7cf53_1 : decode cJ9_max_7cf53 1 = .ok (.iload_n 1, 1) := by decide +kernel
theorem dJ9_max_7cf53_2 : decode cJ9_max_7cf53 2 = .ok (.if_icmp .lt 7, 3) := by decide +kernel
theorem dJ9_max_7cf53_5 : decode cJ9_max_7cf53 5 = .ok (.iload_n 0, 1) := by decide +kernel
theorem dJ9_max_7cf53_6 : decode cJ9_max_7cf53 6 = .ok (.goto 4, 3) := by decide +kernel
theorem dJ9_max_7cf53_9 : decode cJ9_max_7cf53 9 = .ok (.iload_n 1, 1) := by decide +kernel
theorem dJ9_max_7cf53_10 : decode cJ9_max_7cf53 10 = .ok (.ireturn, 1) := by decide +kernel
theorem dJ9_min_7cf53_0 : decode cJ9_min_7cf53 0 = .ok (.iload_n 0, 1) := by decide +kernel
theorem dJ9_min_7cf53_1 : decode cJ9_min_7cf53 1 = .ok (.iload_n 1, 1) := by decide +kernel
theorem dJ9_min_7cf53_2 : decode cJ9_min_7cf53 2 = .ok (.if_icmp .gt 7, 3) := by decide +kernel
theorem dJ9_min_7cf53_5 : decode cJ9_min_7cf53 5 = .ok (.iload_n 0, 1) := by decide +kernel
theorem dJ9_min_7cf53_6 : decode cJ9_min_7cf53 6 = .ok (.goto 4, 3) := by decide +kernel
theorem dJ9_min_7cf53_9 : decode cJ9_min_7cf53 9 = .ok (.iload_n 1, 1) := by decide +kernel
theorem dJ9_min_7cf53_10 : decode cJ9_min_7cf53 10 = .ok (.ireturn, 1) := by decide +kernel
