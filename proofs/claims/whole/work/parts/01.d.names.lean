set_option maxRecDepth 20000 in
theorem ggL_add_X6_add : GoodIn wsL_add wsX6_add := goodIn_ca (goodIn_ca (goodIn_r _ [7, 8, 9, 10, 6, 11, 12, 13, 14, 15, 16, 17, 18, 19, 20, 21, 22, 23, 24, 25, 26, 27, 28, 29, 30, 31, 32, 33, 34, 35, 36, 37, 38, 39, 40, 41, 42, 43, 44, 45, 46, 47, 48, 49, 50, 51, 52] (by decide +kernel) (by decide +kernel)) (goodIn_sub (fun _ h => List.mem_cons_of_mem _ (List.mem_append_left _ (List.mem_append_right _ h))) (by decide +kernel))) (goodIn_sub (fun _ h => List.mem_cons_of_mem _ (List.mem_append_right _ h)) (by decide +kernel))
set_option maxRecDepth 20000 in
theorem gL_add_X6_add : GoodIn wsL_add (wsV RL 7 RX6 yX6_add wsX6_add) := goodIn_app (goodIn_of _ (by decide +kernel)) ggL_add_X6_add
theorem dL_add_0 : decode cL_add 0 = .ok (.aload_n 2, 1) := by decide +kernel
theorem dL_add_1 : decode cL_add 1 = .ok (.iconst 0, 1) := by decide +kernel
theorem dL_add_2 : decode cL_add 2 = .ok (.aload_n 0, 1) := by decide +kernel
theorem dL_add_3 : decode cL_add 3 = .ok (.iload_n 1, 1) := by decide +kernel
theorem dL_add_4 : decode cL_add 4 = .ok (.invokevirtual 7, 3) := by decide +kernel
theorem dL_add_7 : decode cL_add 7 = .ok (.i2l, 1) := by decide +kernel
theorem dL_add_8 : decode cL_add 8 = .ok (.lastore, 1) := by decide +kernel
theorem dL_add_9 : decode cL_add 9 = .ok (.goto 9, 3) := by decide +kernel
theorem dL_add_12 : decode cL_add 12 = .ok (.astore_n 3, 1) := by decide +kernel
theorem dL_add_13 : decode cL_add 13 = .ok (.iconst 1, 1) := by decide +kernel
theorem dL_add_14 : decode cL_add 14 = .ok (.ireturn, 1) := by decide +kernel
theorem dL_add_15 : decode cL_add 15 = .ok (.astore_n 3, 1) := by decide +kernel
theorem dL_add_16 : decode cL_add 16 = .ok (.iconst 2, 1) := by decide +kernel
theorem dL_add_17 : decode cL_add 17 = .ok (.ireturn, 1) := by decide +kernel
theorem dL_add_18 : decode cL_add 18 = .ok (.iconst 0, 1) := by decide +kernel
theorem dL_add_19 : decode cL_add 19 = .ok (.ireturn, 1) := by decide +kernel
set_option maxRecDepth 20000 in
theorem ggL_addMany_X6_addMany : GoodIn wsL_addMany wsX6_addMany := goodIn_ca (goodIn_ca (goodIn_r _ [7, 8, 9, 10, 6, 11, 12, 13, 14, 15, 16, 17, 18, 19, 20, 21, 22, 23, 24, 25, 26, 27, 28, 29, 30, 31, 32, 33, 34, 35, 36, 37, 38, 39, 40, 41, 42, 43, 44, 45, 46, 47, 48, 49, 50, 51, 52] (by decide +kernel) (by decide +kernel)) (goodIn_sub (fun _ h => List.mem_cons_of_mem _ (List.mem_append_left _ (List.mem_append_right _ h))) (by decide +kernel))) (goodIn_sub (fun _ h => List.mem_cons_of_mem _ (List.mem_append_right _ h)) (by decide +kernel))
set_option maxRecDepth 20000 in
theorem gL_addMany_X6_addMany : GoodIn wsL_addMany (wsV RL 17 RX6 yX6_addMany wsX6_addMany) := goodIn_app (goodIn_of _ (by decide +kernel)) ggL_addMany_X6_addMany
theorem dL_addMany_0 : decode cL_addMany 0 = .ok (.aload_n 3, 1) := by decide +kernel
theorem dL_addMany_1 : decode cL_addMany 1 = .ok (.iconst 0, 1) := by decide +kernel
theorem dL_addMany_2 : decode cL_addMany 2 = .ok (.aload_n 0, 1) := by decide +kernel
theorem dL_addMany_3 : decode cL_addMany 3 = .ok (.iload_n 1, 1) := by decide +kernel
theorem dL_addMany_4 : decode cL_addMany 4 = .ok (.iload_n 2, 1) := by decide +kernel
theorem dL_addMany_5 : decode cL_addMany 5 = .ok (.invokevirtual 17, 3) := by decide +kernel
theorem dL_addMany_8 : decode cL_addMany 8 = .ok (.i2l, 1) := by decide +kernel
theorem dL_addMany_9 : decode cL_addMany 9 = .ok (.lastore, 1) := by decide +kernel
theorem dL_addMany_10 : decode cL_addMany 10 = .ok (.goto 11, 3) := by decide +kernel
theorem dL_addMany_13 : decode cL_addMany 13 = .ok (.astore 4, 2) := by decide +kernel
theorem dL_addMany_15 : decode cL_addMany 15 = .ok (.iconst 1, 1) := by decide +kernel
theorem dL_addMany_16 : decode cL_addMany 16 = .ok (.ireturn, 1) := by decide +kernel
theorem dL_addMany_17 : decode cL_addMany 17 = .ok (.astore 4, 2) := by decide +kernel
theorem dL_addMany_19 : decode cL_addMany 19 = .ok (.iconst 2, 1) := by decide +kernel
theorem dL_addMany_20 : decode cL_addMany 20 = .ok (.ireturn, 1) := by decide +kernel
theorem dL_addMany_21 : decode cL_addMany 21 = .ok (.iconst 0, 1) := by decide +kernel
theorem dL_addMany_22 : decode cL_addMany 22 = .ok (.ireturn, 1) := by decide +kernel
set_option maxRecDepth 20000 in
theorem ggL_correct_X6_correct : GoodIn wsL_correct wsX6_correct := goodIn_ca (goodIn_ca (goodIn_r _ [7, 8, 9, 10, 11, 6, 12, 13, 14, 15, 16, 17, 18, 19, 20, 21, 22, 23, 24, 25, 26, 27, 28, 29, 30, 31, 32, 33, 34, 35, 36, 37, 38, 39, 40, 41, 42, 43, 44, 45, 46, 47, 48, 49, 50, 51, 52, 53, 54, 55, 56, 57, 58, 59, 60, 61, 62] (by decide +kernel) (by decide +kernel)) (goodIn_sub (fun _ h => List.mem_cons_of_mem _ (List.mem_append_left _ (List.mem_append_right _ h))) (by decide +kernel))) (goodIn_sub (fun _ h => List.mem_cons_of_mem _ (List.mem_append_right _ h)) (by decide +kernel))
set_option maxRecDepth 20000 in
theorem gL_correct_X6_correct : GoodIn wsL_correct (wsV RL 21 RX6 yX6_correct wsX6_correct) := goodIn_app (goodIn_of _ (by decide +kernel)) ggL_correct_X6_correct
theorem dL_correct_0 : decode cL_correct 0 = .ok (.aload_n 3, 1) := by decide +kernel
theorem dL_correct_1 : decode cL_correct 1 = .ok (.iconst 0, 1) := by decide +kernel
theorem dL_correct_2 : decode cL_correct 2 = .ok (.aload_n 0, 1) := by decide +kernel
theorem dL_correct_3 : decode cL_correct 3 = .ok (.iload_n 1, 1) := by decide +kernel
theorem dL_correct_4 : decode cL_correct 4 = .ok (.iload_n 2, 1) := by decide +kernel
theorem dL_correct_5 : decode cL_correct 5 = .ok (.invokevirtual 21, 3) := by decide +kernel
theorem dL_correct_8 : decode cL_correct 8 = .ok (.i2l, 1) := by decide +kernel
theorem dL_correct_9 : decode cL_correct 9 = .ok (.lastore, 1) := by decide +kernel
theorem dL_correct_10 : decode cL_correct 10 = .ok (.goto 11, 3) := by decide +kernel
theorem dL_correct_13 : decode cL_correct 13 = .ok (.astore 4, 2) := by decide +kernel
theorem dL_correct_15 : decode cL_correct 15 = .ok (.iconst 1, 1) := by decide +kernel
theorem dL_correct_16 : decode cL_correct 16 = .ok (.ireturn, 1) := by decide +kernel
theorem dL_correct_17 : decode cL_correct 17 = .ok (.astore 4, 2) := by decide +kernel
theorem dL_correct_19 : decode cL_correct 19 = .ok (.iconst 2, 1) := by decide +kernel
theorem dL_correct_20 : decode cL_correct 20 = .ok (.ireturn, 1) := by decide +kernel
theorem dL_correct_21 : decode cL_correct 21 = .ok (.iconst 0, 1) := by decide +kernel
theorem dL_correct_22 : decode cL_correct 22 = .ok (.ireturn, 1) := by decide +kernel
set_option maxRecDepth 20000 in
theorem ggL_setHoliday_X6_setHoliday : GoodIn wsL_setHoliday wsX6_setHoliday := goodIn_ca (goodIn_r _ [6, 7, 8, 9, 10, 5, 11, 12, 13, 14, 15, 16, 17, 18, 19, 20, 21, 22, 23, 24, 25, 26, 27, 28, 29, 30, 31, 32, 33, 34, 35, 36, 37, 38, 39, 40, 41, 42, 43, 44, 45, 46, 47, 48, 49, 50, 51, 52, 53] (by decide +kernel) (by decide +kernel)) (goodIn_sub (fun _ h => List.mem_cons_of_mem _ (List.mem_append_right _ h)) (by decide +kernel))
set_option maxRecDepth 20000 in
theorem gL_setHoliday_X6_setHoliday : GoodIn wsL_setHoliday (wsV RL 26 RX6 yX6_setHoliday wsX6_setHoliday) := goodIn_app (goodIn_of _ (by decide +kernel)) ggL_setHoliday_X6_setHoliday
theorem dL_setHoliday_0 : decode cL_setHoliday 0 = .ok (.aload_n 3, 1) := by decide +kernel
theorem dL_setHoliday_1 : decode cL_setHoliday 1 = .ok (.iconst 0, 1) := by decide +kernel
theorem dL_setHoliday_2 : decode cL_setHoliday 2 = .ok (.aload_n 0, 1) := by decide +kernel
theorem dL_setHoliday_3 : decode cL_setHoliday 3 = .ok (.iload_n 1, 1) := by decide +kernel
theorem dL_setHoliday_4 : decode cL_setHoliday 4 = .ok (.iload_n 2, 1) := by decide +kernel
theorem dL_setHoliday_5 : decode cL_setHoliday 5 = .ok (.invokevirtual 26, 3) := by decide +kernel
theorem dL_setHoliday_8 : decode cL_setHoliday 8 = .ok (.ifCond .eq 7, 3) := by decide +kernel
theorem dL_setHoliday_11 : decode cL_setHoliday 11 = .ok (.lconst 1, 1) := by decide +kernel
theorem dL_setHoliday_12 : decode cL_setHoliday 12 = .ok (.goto 4, 3) := by decide +kernel
theorem dL_setHoliday_15 : decode cL_setHoliday 15 = .ok (.lconst 0, 1) := by decide +kernel
theorem dL_setHoliday_16 : decode cL_setHoliday 16 = .ok (.lastore, 1) := by decide +kernel
theorem dL_setHoliday_17 : decode cL_setHoliday 17 = .ok (.goto 7, 3) := by decide +kernel
theorem dL_setHoliday_20 : decode cL_setHoliday 20 = .ok (.astore 4, 2) := by decide +kernel
theorem dL_setHoliday_22 : decode cL_setHoliday 22 = .ok (.iconst 1, 1) := by decide +kernel
theorem dL_setHoliday_23 : decode cL_setHoliday 23 = .ok (.ireturn, 1) := by decide +kernel
theorem dL_setHoliday_24 : decode cL_setHoliday 24 = .ok (.iconst 0, 1) := by decide +kernel
theorem dL_setHoliday_25 : decode cL_setHoliday 25 = .ok (.ireturn, 1) := by decide +kernel
set_option maxRecDepth 20000 in
theorem ggL_drop_X6_drop : GoodIn wsL_drop wsX6_drop := goodIn_ca (goodIn_r _ [6, 7, 8, 9, 10, 11, 12, 13, 14, 15, 5, 16, 17, 18, 19, 20, 21, 22, 23, 24, 25, 26, 27, 28, 29, 30, 31, 32, 33, 34, 35, 36, 37, 38, 39, 40, 41, 42] (by decide +kernel) (by decide +kernel)) (goodIn_sub (fun _ h => List.mem_cons_of_mem _ (List.mem_append_right _ h)) (by decide +kernel))
set_option maxRecDepth 20000 in
theorem gL_drop_X6_drop : GoodIn wsL_drop (wsV RL 30 RX6 yX6_drop wsX6_drop) := goodIn_app (goodIn_of _ (by decide +kernel)) ggL_drop_X6_drop
theorem dL_drop_0 : decode cL_drop 0 = .ok (.aload_n 2, 1) := by decide +kernel
theorem dL_drop_1 : decode cL_drop 1 = .ok (.iconst 0, 1) := by decide +kernel
theorem dL_drop_2 : decode cL_drop 2 = .ok (.aload_n 0, 1) := by decide +kernel
theorem dL_drop_3 : decode cL_drop 3 = .ok (.iload_n 1, 1) := by decide +kernel
theorem dL_drop_4 : decode cL_drop 4 = .ok (.invokevirtual 30, 3) := by decide +kernel
theorem dL_drop_7 : decode cL_drop 7 = .ok (.i2l, 1) := by decide +kernel
theorem dL_drop_8 : decode cL_drop 8 = .ok (.lastore, 1) := by decide +kernel
theorem dL_drop_9 : decode cL_drop 9 = .ok (.goto 6, 3) := by decide +kernel
theorem dL_drop_12 : decode cL_drop 12 = .ok (.astore_n 3, 1) := by decide +kernel
theorem dL_drop_13 : decode cL_drop 13 = .ok (.iconst 1, 1) := by decide +kernel
theorem dL_drop_14 : decode cL_drop 14 = .ok (.ireturn, 1) := by decide +kernel
theorem dL_drop_15 : decode cL_drop 15 = .ok (.iconst 0, 1) := by decide +kernel
theorem dL_drop_16 : decode cL_drop 16 = .ok (.ireturn, 1) := by decide +kernel
set_option maxRecDepth 20000 in
theorem ggL_setSeason_X6_setSeason : GoodIn wsL_setSeason wsX6_setSeason := goodIn_ca (goodIn_r _ [6, 7, 8, 9, 5, 10, 11, 12, 13, 14, 15, 16, 17, 18, 19, 20, 21, 22, 23, 24, 25, 26, 27, 28, 29, 30, 31, 32, 33, 34, 35, 36, 37, 38, 39, 40, 41, 42, 43] (by decide +kernel) (by decide +kernel)) (goodIn_sub (fun _ h => List.mem_cons_of_mem _ (List.mem_append_right _ h)) (by decide +kernel))
set_option maxRecDepth 20000 in
theorem gL_setSeason_X6_setSeason : GoodIn wsL_setSeason (wsV RL 33 RX6 yX6_setSeason wsX6_setSeason) := goodIn_app (goodIn_of _ (by decide +kernel)) ggL_setSeason_X6_setSeason
theorem dL_setSeason_0 : decode cL_setSeason 0 = .ok (.aload_n 2, 1) := by decide +kernel
theorem dL_setSeason_1 : decode cL_setSeason 1 = .ok (.iconst 0, 1) := by decide +kernel
theorem dL_setSeason_2 : decode cL_setSeason 2 = .ok (.aload_n 0, 1) := by decide +kernel
theorem dL_setSeason_3 : decode cL_setSeason 3 = .ok (.iload_n 1, 1) := by decide +kernel
theorem dL_setSeason_4 : decode cL_setSeason 4 = .ok (.invokevirtual 33, 3) := by decide +kernel
theorem dL_setSeason_7 : decode cL_setSeason 7 = .ok (.i2l, 1) := by decide +kernel
theorem dL_setSeason_8 : decode cL_setSeason 8 = .ok (.lastore, 1) := by decide +kernel
theorem dL_setSeason_9 : decode cL_setSeason 9 = .ok (.goto 6, 3) := by decide +kernel
theorem dL_setSeason_12 : decode cL_setSeason 12 = .ok (.astore_n 3, 1) := by decide +kernel
theorem dL_setSeason_13 : decode cL_setSeason 13 = .ok (.iconst 1, 1) := by decide +kernel
theorem dL_setSeason_14 : decode cL_setSeason 14 = .ok (.ireturn, 1) := by decide +kernel
theorem dL_setSeason_15 : decode cL_setSeason 15 = .ok (.iconst 0, 1) := by decide +kernel
theorem dL_setSeason_16 : decode cL_setSeason 16 = .ok (.ireturn, 1) := by decide +kernel
set_option maxRecDepth 20000 in
theorem ggL_setCuts_X6_setCuts : GoodIn wsL_setCuts wsX6_setCuts := goodIn_ca (goodIn_r _ [6, 7, 8, 9, 10, 11, 5, 12, 13, 14, 15, 16, 17, 18, 19, 20, 21, 22, 23, 24, 25, 26, 27, 28, 29, 30, 31, 32, 33, 34, 35, 36, 37, 38, 39, 40, 41, 42] (by decide +kernel) (by decide +kernel)) (goodIn_sub (fun _ h => List.mem_cons_of_mem _ (List.mem_append_right _ h)) (by decide +kernel))
set_option maxRecDepth 20000 in
theorem gL_setCuts_X6_setCuts : GoodIn wsL_setCuts (wsV RL 36 RX6 yX6_setCuts wsX6_setCuts) := goodIn_app (goodIn_of _ (by decide +kernel)) ggL_setCuts_X6_setCuts
theorem dL_setCuts_0 : decode cL_setCuts 0 = .ok (.aload_n 0, 1) := by decide +kernel
theorem dL_setCuts_1 : decode cL_setCuts 1 = .ok (.iload_n 1, 1) := by decide +kernel
theorem dL_setCuts_2 : decode cL_setCuts 2 = .ok (.iload_n 2, 1) := by decide +kernel
theorem dL_setCuts_3 : decode cL_setCuts 3 = .ok (.invokevirtual 36, 3) := by decide +kernel
theorem dL_setCuts_6 : decode cL_setCuts 6 = .ok (.goto 6, 3) := by decide +kernel
theorem dL_setCuts_9 : decode cL_setCuts 9 = .ok (.astore_n 3, 1) := by decide +kernel
theorem dL_setCuts_10 : decode cL_setCuts 10 = .ok (.iconst 1, 1) := by decide +kernel
theorem dL_setCuts_11 : decode cL_setCuts 11 = .ok (.ireturn, 1) := by decide +kernel
theorem dL_setCuts_12 : decode cL_setCuts 12 = .ok (.iconst 0, 1) := by decide +kernel
theorem dL_setCuts_13 : decode cL_setCuts 13 = .ok (.ireturn, 1) := by decide +kernel
set_option maxRecDepth 20000 in
theorem ggL_setBound_X6_setBound : GoodIn wsL_setBound wsX6_setBound := goodIn_ca (goodIn_r _ [6, 7, 8, 9, 10, 5, 11, 12, 13, 14, 15, 16, 17, 18, 19, 20, 21, 22] (by decide +kernel) (by decide +kernel)) (goodIn_sub (fun _ h => List.mem_cons_of_mem _ (List.mem_append_right _ h)) (by decide +kernel))
set_option maxRecDepth 20000 in
theorem gL_setBound_X6_setBound : GoodIn wsL_setBound (wsV RL 40 RX6 yX6_setBound wsX6_setBound) := goodIn_app (goodIn_of _ (by decide +kernel)) ggL_setBound_X6_setBound
theorem dL_setBound_0 : decode cL_setBound 0 = .ok (.aload_n 0, 1) := by decide +kernel
theorem dL_setBound_1 : decode cL_setBound 1 = .ok (.iload_n 1, 1) := by decide +kernel
theorem dL_setBound_2 : decode cL_setBound 2 = .ok (.iload_n 2, 1) := by decide +kernel
theorem dL_setBound_3 : decode cL_setBound 3 = .ok (.invokevirtual 40, 3) := by decide +kernel
theorem dL_setBound_6 : decode cL_setBound 6 = .ok (.goto 6, 3) := by decide +kernel
theorem dL_setBound_9 : decode cL_setBound 9 = .ok (.astore_n 3, 1) := by decide +kernel
theorem dL_setBound_10 : decode cL_setBound 10 = .ok (.iconst 1, 1) := by decide +kernel
theorem dL_setBound_11 : decode cL_setBound 11 = .ok (.ireturn, 1) := by decide +kernel
theorem dL_setBound_12 : decode cL_setBound 12 = .ok (.iconst 0, 1) := by decide +kernel
theorem dL_setBound_13 : decode cL_setBound 13 = .ok (.ireturn, 1) := by decide +kernel
set_option maxRecDepth 20000 in
theorem ggL_value_X6_value : GoodIn wsL_value wsX6_value := goodIn_ca (goodIn_r _ [6, 7, 8, 9, 10, 5, 11, 12, 13, 14, 15, 16, 17, 18, 19, 20, 21, 22, 23, 24, 25, 26, 27, 28, 29, 30, 31, 32, 33, 34, 35, 36, 37, 38, 39, 40, 41, 42, 43] (by decide +kernel) (by decide +kernel)) (goodIn_sub (fun _ h => List.mem_cons_of_mem _ (List.mem_append_right _ h)) (by decide +kernel))
set_option maxRecDepth 20000 in
theorem gL_value_X6_value : GoodIn wsL_value (wsV RL 43 RX6 yX6_value wsX6_value) := goodIn_app (goodIn_of _ (by decide +kernel)) ggL_value_X6_value
theorem dL_value_0 : decode cL_value 0 = .ok (.aload_n 2, 1) := by decide +kernel
theorem dL_value_1 : decode cL_value 1 = .ok (.iconst 0, 1) := by decide +kernel
theorem dL_value_2 : decode cL_value 2 = .ok (.aload_n 0, 1) := by decide +kernel
theorem dL_value_3 : decode cL_value 3 = .ok (.iload_n 1, 1) := by decide +kernel
theorem dL_value_4 : decode cL_value 4 = .ok (.invokevirtual 43, 3) := by decide +kernel
theorem dL_value_7 : decode cL_value 7 = .ok (.i2l, 1) := by decide +kernel
theorem dL_value_8 : decode cL_value 8 = .ok (.lastore, 1) := by decide +kernel
theorem dL_value_9 : decode cL_value 9 = .ok (.goto 6, 3) := by decide +kernel
theorem dL_value_12 : decode cL_value 12 = .ok (.astore_n 3, 1) := by decide +kernel
theorem dL_value_13 : decode cL_value 13 = .ok (.iconst 1, 1) := by decide +kernel
theorem dL_value_14 : decode cL_value 14 = .ok (.ireturn, 1) := by decide +kernel
theorem dL_value_15 : decode cL_value 15 = .ok (.iconst 0, 1) := by decide +kernel
theorem dL_value_16 : decode cL_value 16 = .ok (.ireturn, 1) := by decide +kernel
set_option maxRecDepth 20000 in
theorem ggL_season_X6_season : GoodIn wsL_season wsX6_season := goodIn_ca (goodIn_r _ [6, 7, 8, 9, 10, 11, 12, 13, 14, 15, 5, 16, 17, 18, 19, 20, 21, 22, 23, 24, 25, 26, 27, 28, 29, 30, 31, 32, 33, 34, 35, 36, 37, 38, 39, 40, 41, 42, 43, 44, 45, 46, 47, 48, 49, 50, 51, 52, 53, 54, 55, 56, 57, 58, 59, 60, 61, 62, 63, 64, 65, 66, 67, 68, 69, 70, 71, 72, 73, 74, 75, 76, 77, 78, 79, 80, 81, 82, 83, 84, 85, 86, 87, 88, 89, 90, 91, 92, 93, 94, 95, 96, 97, 98, 99, 100, 101, 102, 103, 104, 105, 106, 107, 108, 109, 110, 111, 112, 113, 114, 115, 116] (by decide +kernel) (by decide +kernel)) (goodIn_sub (fun _ h => List.mem_cons_of_mem _ (List.mem_append_right _ h)) (by decide +kernel))
set_option maxRecDepth 20000 in
theorem gL_season_X6_season : GoodIn wsL_season (wsV RL 46 RX6 yX6_season wsX6_season) := goodIn_app (goodIn_of _ (by decide +kernel)) ggL_season_X6_season
theorem dL_season_0 : decode cL_season 0 = .ok (.aload_n 2, 1) := by decide +kernel
theorem dL_season_1 : decode cL_season 1 = .ok (.iconst 0, 1) := by decide +kernel
theorem dL_season_2 : decode cL_season 2 = .ok (.aload_n 0, 1) := by decide +kernel
theorem dL_season_3 : decode cL_season 3 = .ok (.iload_n 1, 1) := by decide +kernel
theorem dL_season_4 : decode cL_season 4 = .ok (.invokevirtual 46, 3) := by decide +kernel
theorem dL_season_7 : decode cL_season 7 = .ok (.i2l, 1) := by decide +kernel
theorem dL_season_8 : decode cL_season 8 = .ok (.lastore, 1) := by decide +kernel
theorem dL_season_9 : decode cL_season 9 = .ok (.goto 6, 3) := by decide +kernel
theorem dL_season_12 : decode cL_season 12 = .ok (.astore_n 3, 1) := by decide +kernel
theorem dL_season_13 : decode cL_season 13 = .ok (.iconst 1, 1) := by decide +kernel
theorem dL_season_14 : decode cL_season 14 = .ok (.ireturn, 1) := by decide +kernel
theorem dL_season_15 : decode cL_season 15 = .ok (.iconst 0, 1) := by decide +kernel
theorem dL_season_16 : decode cL_season 16 = .ok (.ireturn, 1) := by decide +kernel
set_option maxRecDepth 20000 in
theorem ggL_adjusted_X6_adjusted : GoodIn wsL_adjusted wsX6_adjusted := goodIn_ca (goodIn_r _ [6, 7, 8, 9, 10, 5, 11, 12, 13, 14, 15, 16, 17, 18, 19, 20, 21, 22, 23, 24, 25, 26, 27, 28, 29, 30, 31, 32, 33, 34, 35, 36, 37, 38, 39, 40, 41, 42, 43, 44, 45, 46, 47, 48, 49, 50, 51, 52, 53, 54, 55, 56, 57, 58, 59, 60, 61, 62, 63, 64, 65, 66, 67, 68, 69, 70, 71, 72, 73, 74, 75, 76, 77, 78, 79, 80, 81, 82, 83, 84, 85, 86, 87, 88, 89, 90, 91, 92, 93, 94, 95, 96, 97, 98, 99, 100, 101, 102, 103, 104, 105, 106, 107, 108, 109, 110, 111, 112, 113, 114, 115, 116, 117, 118] (by decide +kernel) (by decide +kernel)) (goodIn_sub (fun _ h => List.mem_cons_of_mem _ (List.mem_append_right _ h)) (by decide +kernel))
set_option maxRecDepth 20000 in
theorem gL_adjusted_X6_adjusted : GoodIn wsL_adjusted (wsV RL 49 RX6 yX6_adjusted wsX6_adjusted) := goodIn_app (goodIn_of _ (by decide +kernel)) ggL_adjusted_X6_adjusted
theorem dL_adjusted_0 : decode cL_adjusted 0 = .ok (.aload_n 2, 1) := by decide +kernel
theorem dL_adjusted_1 : decode cL_adjusted 1 = .ok (.iconst 0, 1) := by decide +kernel
theorem dL_adjusted_2 : decode cL_adjusted 2 = .ok (.aload_n 0, 1) := by decide +kernel
theorem dL_adjusted_3 : decode cL_adjusted 3 = .ok (.iload_n 1, 1) := by decide +kernel
theorem dL_adjusted_4 : decode cL_adjusted 4 = .ok (.invokevirtual 49, 3) := by decide +kernel
theorem dL_adjusted_7 : decode cL_adjusted 7 = .ok (.i2l, 1) := by decide +kernel
theorem dL_adjusted_8 : decode cL_adjusted 8 = .ok (.lastore, 1) := by decide +kernel
theorem dL_adjusted_9 : decode cL_adjusted 9 = .ok (.goto 6, 3) := by decide +kernel
theorem dL_adjusted_12 : decode cL_adjusted 12 = .ok (.astore_n 3, 1) := by decide +kernel
theorem dL_adjusted_13 : decode cL_adjusted 13 = .ok (.iconst 1, 1) := by decide +kernel
theorem dL_adjusted_14 : decode cL_adjusted 14 = .ok (.ireturn, 1) := by decide +kernel
theorem dL_adjusted_15 : decode cL_adjusted 15 = .ok (.iconst 0, 1) := by decide +kernel
theorem dL_adjusted_16 : decode cL_adjusted 16 = .ok (.ireturn, 1) := by decide +kernel
set_option maxRecDepth 20000 in
theorem ggL_startOf_X6_startOf : GoodIn wsL_startOf wsX6_startOf := goodIn_ca (goodIn_r _ [6, 7, 8, 9, 10, 5, 11, 12, 13, 14, 15, 16, 17, 18, 19, 20, 21, 22, 23, 24, 25, 26, 27, 28, 29, 30, 31, 32, 33, 34, 35, 36, 37, 38, 39, 40, 41, 42, 43, 44, 45, 46, 47, 48, 49, 50, 51, 52, 53, 54, 55, 56, 57, 58, 59, 60, 61, 62, 63, 64, 65, 66, 67, 68, 69, 70, 71, 72, 73, 74, 75, 76, 77, 78, 79, 80, 81, 82, 83, 84, 85, 86, 87, 88, 89, 90, 91, 92, 93, 94, 95, 96, 97, 98, 99, 100, 101, 102, 103, 104, 105, 106, 107, 108, 109, 110, 111, 112, 113, 114, 115, 116, 117, 118, 119, 120, 121, 122, 123, 124, 125, 126, 127, 128, 129, 130, 131, 132, 133, 134, 135, 136, 137, 138, 139, 140, 141, 142, 143, 144, 145, 146, 147, 148, 149, 150, 151, 152, 153, 154, 155, 156, 157, 158, 159, 160, 161, 162, 163, 164, 165, 166, 167, 168, 169, 170, 171, 172, 173, 174, 175, 176, 177, 178, 179, 180, 181, 182, 183, 184, 185, 186, 187, 188, 189, 190, 191] (by decide +kernel) (by decide +kernel)) (goodIn_sub (fun _ h => List.mem_cons_of_mem _ (List.mem_append_right _ h)) (by decide +kernel))
set_option maxRecDepth 20000 in
theorem gL_startOf_X6_startOf : GoodIn wsL_startOf (wsV RL 52 RX6 yX6_startOf wsX6_startOf) := goodIn_app (goodIn_of _ (by decide +kernel)) ggL_startOf_X6_startOf
theorem dL_startOf_0 : decode cL_startOf 0 = .ok (.aload_n 2, 1) := by decide +kernel
theorem dL_startOf_1 : decode cL_startOf 1 = .ok (.iconst 0, 1) := by decide +kernel
theorem dL_startOf_2 : decode cL_startOf 2 = .ok (.aload_n 0, 1) := by decide +kernel
theorem dL_startOf_3 : decode cL_startOf 3 = .ok (.iload_n 1, 1) := by decide +kernel
theorem dL_startOf_4 : decode cL_startOf 4 = .ok (.invokevirtual 52, 3) := by decide +kernel
theorem dL_startOf_7 : decode cL_startOf 7 = .ok (.i2l, 1) := by decide +kernel
theorem dL_startOf_8 : decode cL_startOf 8 = .ok (.lastore, 1) := by decide +kernel
theorem dL_startOf_9 : decode cL_startOf 9 = .ok (.goto 6, 3) := by decide +kernel
theorem dL_startOf_12 : decode cL_startOf 12 = .ok (.astore_n 3, 1) := by decide +kernel
theorem dL_startOf_13 : decode cL_startOf 13 = .ok (.iconst 1, 1) := by decide +kernel
theorem dL_startOf_14 : decode cL_startOf 14 = .ok (.ireturn, 1) := by decide +kernel
theorem dL_startOf_15 : decode cL_startOf 15 = .ok (.iconst 0, 1) := by decide +kernel
theorem dL_startOf_16 : decode cL_startOf 16 = .ok (.ireturn, 1) := by decide +kernel
set_option maxRecDepth 20000 in
theorem ggL_levelOf_X6_levelOf : GoodIn wsL_levelOf wsX6_levelOf := goodIn_ca (goodIn_r _ [6, 7, 8, 9, 10, 5, 11, 12, 13, 14, 15, 16, 17, 18, 19, 20, 21, 22, 23, 24, 25, 26, 27, 28, 29, 30, 31, 32, 33, 34, 35, 36, 37, 38, 39, 40, 41, 42, 43, 44, 45, 46, 47, 48, 49, 50, 51, 52, 53, 54, 55, 56, 57, 58, 59, 60, 61, 62, 63, 64, 65, 66, 67, 68, 69, 70, 71, 72, 73, 74, 75, 76, 77, 78, 79, 80, 81, 82, 83, 84, 85, 86, 87, 88, 89, 90, 91, 92, 93, 94, 95, 96, 97, 98, 99, 100, 101, 102, 103, 104, 105, 106, 107, 108, 109, 110, 111, 112, 113, 114, 115, 116, 117, 118, 119, 120, 121, 122, 123, 124, 125, 126, 127, 128, 129, 130, 131, 132, 133, 134, 135, 136, 137, 138, 139, 140, 141, 142, 143, 144, 145, 146, 147, 148, 149, 150, 151, 152, 153, 154, 155, 156, 157, 158, 159, 160, 161, 162, 163, 164, 165, 166, 167, 168, 169, 170, 171, 172, 173, 174, 175, 176, 177, 178, 179, 180, 181, 182, 183, 184, 185, 186, 187, 188, 189, 190, 191] (by decide +kernel) (by decide +kernel)) (goodIn_sub (fun _ h => List.mem_cons_of_mem _ (List.mem_append_right _ h)) (by decide +kernel))
set_option maxRecDepth 20000 in
theorem gL_levelOf_X6_levelOf : GoodIn wsL_levelOf (wsV RL 55 RX6 yX6_levelOf wsX6_levelOf) := goodIn_app (goodIn_of _ (by decide +kernel)) ggL_levelOf_X6_levelOf
theorem dL_levelOf_0 : decode cL_levelOf 0 = .ok (.aload_n 2, 1) := by decide +kernel
theorem dL_levelOf_1 : decode cL_levelOf 1 = .ok (.iconst 0, 1) := by decide +kernel
theorem dL_levelOf_2 : decode cL_levelOf 2 = .ok (.aload_n 0, 1) := by decide +kernel
theorem dL_levelOf_3 : decode cL_levelOf 3 = .ok (.iload_n 1, 1) := by decide +kernel
theorem dL_levelOf_4 : decode cL_levelOf 4 = .ok (.invokevirtual 55, 3) := by decide +kernel
theorem dL_levelOf_7 : decode cL_levelOf 7 = .ok (.i2l, 1) := by decide +kernel
theorem dL_levelOf_8 : decode cL_levelOf 8 = .ok (.lastore, 1) := by decide +kernel
theorem dL_levelOf_9 : decode cL_levelOf 9 = .ok (.goto 6, 3) := by decide +kernel
theorem dL_levelOf_12 : decode cL_levelOf 12 = .ok (.astore_n 3, 1) := by decide +kernel
theorem dL_levelOf_13 : decode cL_levelOf 13 = .ok (.iconst 1, 1) := by decide +kernel
theorem dL_levelOf_14 : decode cL_levelOf 14 = .ok (.ireturn, 1) := by decide +kernel
theorem dL_levelOf_15 : decode cL_levelOf 15 = .ok (.iconst 0, 1) := by decide +kernel
theorem dL_levelOf_16 : decode cL_levelOf 16 = .ok (.ireturn, 1) := by decide +kernel
set_option maxRecDepth 20000 in
theorem ggL_costCutAt_X6_costCutAt : GoodIn wsL_costCutAt wsX6_costCutAt := goodIn_ca (goodIn_ca (goodIn_r _ [7, 8, 9, 10, 11, 12, 13, 14, 15, 16, 17, 18, 19, 6, 20, 21, 22, 23, 24, 25, 26, 27, 28, 29, 30, 31, 32, 33, 34, 35, 36, 37, 38, 39, 40, 41, 42, 43, 44, 45, 46, 47, 48, 49, 50, 51, 52, 53, 54, 55, 56, 57, 58, 59, 60, 61, 62, 63, 64, 65, 66, 67, 68, 69, 70, 71, 72, 73, 74, 75, 76, 77, 78, 79, 80, 81, 82, 83, 84, 85, 86, 87, 88, 89, 90, 91, 92, 93, 94, 95, 96, 97, 98, 99, 100, 101, 102, 103, 104, 105, 106, 107, 108, 109, 110, 111, 112, 113, 114, 115, 116, 117, 118, 119, 120, 121, 122, 123, 124, 125, 126, 127, 128, 129, 130, 131, 132, 133, 134, 135, 136, 137, 138, 139, 140, 141, 142, 143, 144, 145, 146, 147, 148, 149, 150, 151, 152, 153, 154, 155, 156, 157, 158, 159, 160, 161, 162, 163] (by decide +kernel) (by decide +kernel)) (goodIn_sub (fun _ h => List.mem_cons_of_mem _ (List.mem_append_left _ (List.mem_append_right _ h))) (by decide +kernel))) (goodIn_sub (fun _ h => List.mem_cons_of_mem _ (List.mem_append_right _ h)) (by decide +kernel))
set_option maxRecDepth 20000 in
theorem gL_costCutAt_X6_costCutAt : GoodIn wsL_costCutAt (wsV RL 58 RX6 yX6_costCutAt wsX6_costCutAt) := goodIn_app (goodIn_of _ (by decide +kernel)) ggL_costCutAt_X6_costCutAt
theorem dL_costCutAt_0 : decode cL_costCutAt 0 = .ok (.aload_n 2, 1) := by decide +kernel
theorem dL_costCutAt_1 : decode cL_costCutAt 1 = .ok (.iconst 0, 1) := by decide +kernel
theorem dL_costCutAt_2 : decode cL_costCutAt 2 = .ok (.aload_n 0, 1) := by decide +kernel
theorem dL_costCutAt_3 : decode cL_costCutAt 3 = .ok (.iload_n 1, 1) := by decide +kernel
theorem dL_costCutAt_4 : decode cL_costCutAt 4 = .ok (.invokevirtual 58, 3) := by decide +kernel
theorem dL_costCutAt_7 : decode cL_costCutAt 7 = .ok (.i2l, 1) := by decide +kernel
theorem dL_costCutAt_8 : decode cL_costCutAt 8 = .ok (.lastore, 1) := by decide +kernel
theorem dL_costCutAt_9 : decode cL_costCutAt 9 = .ok (.goto 9, 3) := by decide +kernel
theorem dL_costCutAt_12 : decode cL_costCutAt 12 = .ok (.astore_n 3, 1) := by decide +kernel
theorem dL_costCutAt_13 : decode cL_costCutAt 13 = .ok (.iconst 1, 1) := by decide +kernel
theorem dL_costCutAt_14 : decode cL_costCutAt 14 = .ok (.ireturn, 1) := by decide +kernel
theorem dL_costCutAt_15 : decode cL_costCutAt 15 = .ok (.astore_n 3, 1) := by decide +kernel
theorem dL_costCutAt_16 : decode cL_costCutAt 16 = .ok (.iconst 2, 1) := by decide +kernel
theorem dL_costCutAt_17 : decode cL_costCutAt 17 = .ok (.ireturn, 1) := by decide +kernel
theorem dL_costCutAt_18 : decode cL_costCutAt 18 = .ok (.iconst 0, 1) := by decide +kernel
theorem dL_costCutAt_19 : decode cL_costCutAt 19 = .ok (.ireturn, 1) := by decide +kernel
set_option maxRecDepth 20000 in
theorem ggL_leastCost_X6_leastCost : GoodIn wsL_leastCost wsX6_leastCost := goodIn_ca (goodIn_r _ [6, 7, 8, 9, 10, 11, 12, 13, 14, 15, 16, 17, 18, 19, 5, 20, 21, 22, 23, 24, 25, 26, 27, 28, 29, 30, 31, 32, 33, 34, 35, 36, 37, 38, 39, 40, 41, 42, 43, 44, 45, 46, 47, 48, 49, 50, 51, 52, 53, 54, 55, 56, 57, 58, 59, 60, 61, 62, 63, 64, 65, 66, 67, 68, 69, 70, 71, 72, 73, 74, 75, 76, 77, 78, 79, 80, 81, 82, 83, 84, 85, 86, 87, 88, 89, 90, 91, 92, 93, 94, 95, 96, 97, 98, 99, 100, 101, 102, 103, 104, 105, 106, 107, 108, 109, 110, 111, 112, 113, 114, 115, 116, 117, 118, 119, 120, 121, 122, 123, 124, 125, 126, 127, 128, 129, 130, 131, 132, 133, 134, 135, 136, 137, 138, 139, 140, 141, 142, 143, 144, 145, 146, 147, 148, 149, 150, 151, 152, 153, 154, 155, 156, 157, 158, 159, 160, 161, 162, 163, 164, 165, 166, 167, 168, 169, 170, 171, 172, 173] (by decide +kernel) (by decide +kernel)) (goodIn_sub (fun _ h => List.mem_cons_of_mem _ (List.mem_append_right _ h)) (by decide +kernel))
set_option maxRecDepth 20000 in
theorem gL_leastCost_X6_leastCost : GoodIn wsL_leastCost (wsV RL 61 RX6 yX6_leastCost wsX6_leastCost) := goodIn_app (goodIn_of _ (by decide +kernel)) ggL_leastCost_X6_leastCost
theorem dL_leastCost_0 : decode cL_leastCost 0 = .ok (.aload_n 1, 1) := by decide +kernel
theorem dL_leastCost_1 : decode cL_leastCost 1 = .ok (.iconst 0, 1) := by decide +kernel
theorem dL_leastCost_2 : decode cL_leastCost 2 = .ok (.aload_n 0, 1) := by decide +kernel
theorem dL_leastCost_3 : decode cL_leastCost 3 = .ok (.invokevirtual 61, 3) := by decide +kernel
theorem dL_leastCost_6 : decode cL_leastCost 6 = .ok (.i2l, 1) := by decide +kernel
theorem dL_leastCost_7 : decode cL_leastCost 7 = .ok (.lastore, 1) := by decide +kernel
theorem dL_leastCost_8 : decode cL_leastCost 8 = .ok (.goto 6, 3) := by decide +kernel
theorem dL_leastCost_11 : decode cL_leastCost 11 = .ok (.astore_n 2, 1) := by decide +kernel
theorem dL_leastCost_12 : decode cL_leastCost 12 = .ok (.iconst 1, 1) := by decide +kernel
theorem dL_leastCost_13 : decode cL_leastCost 13 = .ok (.ireturn, 1) := by decide +kernel
theorem dL_leastCost_14 : decode cL_leastCost 14 = .ok (.iconst 0, 1) := by decide +kernel
theorem dL_leastCost_15 : decode cL_leastCost 15 = .ok (.ireturn, 1) := by decide +kernel
set_option maxRecDepth 20000 in
theorem ggL_residual_X6_residual : GoodIn wsL_residual wsX6_residual := goodIn_ca (goodIn_r _ [6, 7, 8, 9, 5, 10, 11, 12, 13, 14, 15, 16, 17, 18, 19, 20, 21, 22, 23, 24, 25, 26, 27, 28, 29, 30, 31, 32, 33, 34, 35, 36, 37, 38, 39, 40, 41, 42, 43, 44, 45, 46, 47, 48, 49, 50, 51, 52, 53, 54, 55, 56, 57, 58, 59, 60, 61, 62, 63, 64, 65, 66, 67, 68, 69, 70, 71, 72, 73, 74, 75, 76, 77, 78, 79, 80, 81, 82, 83, 84, 85, 86, 87, 88, 89, 90, 91, 92, 93, 94, 95, 96, 97, 98, 99, 100, 101, 102, 103, 104, 105, 106, 107, 108, 109, 110, 111, 112, 113, 114, 115, 116, 117, 118, 119, 120, 121, 122, 123, 124, 125, 126, 127, 128, 129, 130, 131, 132, 133, 134, 135, 136, 137, 138, 139, 140, 141, 142, 143, 144, 145, 146, 147, 148, 149, 150, 151, 152, 153, 154, 155, 156, 157, 158, 159, 160, 161, 162, 163, 164, 165, 166, 167, 168, 169, 170, 171, 172, 173, 174, 175, 176, 177, 178, 179, 180, 181, 182, 183, 184, 185, 186, 187, 188, 189, 190, 191, 192, 193, 194, 195, 196, 197, 198] (by decide +kernel) (by decide +kernel)) (goodIn_sub (fun _ h => List.mem_cons_of_mem _ (List.mem_append_right _ h)) (by decide +kernel))
set_option maxRecDepth 20000 in
theorem gL_residual_X6_residual : GoodIn wsL_residual (wsV RL 65 RX6 yX6_residual wsX6_residual) := goodIn_app (goodIn_of _ (by decide +kernel)) ggL_residual_X6_residual
theorem dL_residual_0 : decode cL_residual 0 = .ok (.aload_n 2, 1) := by decide +kernel
theorem dL_residual_1 : decode cL_residual 1 = .ok (.iconst 0, 1) := by decide +kernel
theorem dL_residual_2 : decode cL_residual 2 = .ok (.aload_n 0, 1) := by decide +kernel
theorem dL_residual_3 : decode cL_residual 3 = .ok (.iload_n 1, 1) := by decide +kernel
theorem dL_residual_4 : decode cL_residual 4 = .ok (.invokevirtual 65, 3) := by decide +kernel
theorem dL_residual_7 : decode cL_residual 7 = .ok (.i2l, 1) := by decide +kernel
theorem dL_residual_8 : decode cL_residual 8 = .ok (.lastore, 1) := by decide +kernel
theorem dL_residual_9 : decode cL_residual 9 = .ok (.goto 6, 3) := by decide +kernel
theorem dL_residual_12 : decode cL_residual 12 = .ok (.astore_n 3, 1) := by decide +kernel
theorem dL_residual_13 : decode cL_residual 13 = .ok (.iconst 1, 1) := by decide +kernel
theorem dL_residual_14 : decode cL_residual 14 = .ok (.ireturn, 1) := by decide +kernel
theorem dL_residual_15 : decode cL_residual 15 = .ok (.iconst 0, 1) := by decide +kernel
theorem dL_residual_16 : decode cL_residual 16 = .ok (.ireturn, 1) := by decide +kernel
set_option maxRecDepth 20000 in
theorem ggL_verdict_X6_verdict : GoodIn wsL_verdict wsX6_verdict := goodIn_ca (goodIn_r _ [6, 7, 8, 9, 5, 10, 11, 12, 13, 14, 15, 16, 17, 18, 19, 20, 21, 22, 23, 24, 25, 26, 27, 28, 29, 30, 31, 32, 33, 34, 35, 36, 37, 38, 39, 40, 41, 42, 43, 44, 45, 46, 47, 48, 49, 50, 51, 52, 53, 54, 55, 56, 57, 58, 59, 60, 61, 62, 63, 64, 65, 66, 67, 68, 69, 70, 71, 72, 73, 74, 75, 76, 77, 78, 79, 80, 81, 82, 83, 84, 85, 86, 87, 88, 89, 90, 91, 92, 93, 94, 95, 96, 97, 98, 99, 100, 101, 102, 103, 104, 105, 106, 107, 108, 109, 110, 111, 112, 113, 114, 115, 116, 117, 118, 119, 120, 121, 122, 123, 124, 125, 126, 127, 128, 129, 130, 131, 132, 133, 134, 135, 136, 137, 138, 139, 140, 141, 142, 143, 144, 145, 146, 147, 148, 149, 150, 151, 152, 153, 154, 155, 156, 157, 158, 159, 160, 161, 162, 163, 164, 165, 166, 167, 168, 169, 170, 171, 172, 173, 174, 175, 176, 177, 178, 179, 180, 181, 182, 183, 184, 185, 186, 187, 188, 189, 190, 191, 192, 193, 194, 195, 196, 197, 198, 199, 200, 201, 202, 203, 204, 205, 206, 207, 208, 209, 210, 211, 212, 213, 214, 215, 216, 217, 218, 219, 220, 221, 222, 223, 224, 225, 226, 227] (by decide +kernel) (by decide +kernel)) (goodIn_sub (fun _ h => List.mem_cons_of_mem _ (List.mem_append_right _ h)) (by decide +kernel))
set_option maxRecDepth 20000 in
theorem gL_verdict_X6_verdict : GoodIn wsL_verdict (wsV RL 68 RX6 yX6_verdict wsX6_verdict) := goodIn_app (goodIn_of _ (by decide +kernel)) ggL_verdict_X6_verdict
theorem dL_verdict_0 : decode cL_verdict 0 = .ok (.aload_n 2, 1) := by decide +kernel
theorem dL_verdict_1 : decode cL_verdict 1 = .ok (.iconst 0, 1) := by decide +kernel
theorem dL_verdict_2 : decode cL_verdict 2 = .ok (.aload_n 0, 1) := by decide +kernel
theorem dL_verdict_3 : decode cL_verdict 3 = .ok (.iload_n 1, 1) := by decide +kernel
theorem dL_verdict_4 : decode cL_verdict 4 = .ok (.invokevirtual 68, 3) := by decide +kernel
theorem dL_verdict_7 : decode cL_verdict 7 = .ok (.i2l, 1) := by decide +kernel
theorem dL_verdict_8 : decode cL_verdict 8 = .ok (.lastore, 1) := by decide +kernel
theorem dL_verdict_9 : decode cL_verdict 9 = .ok (.goto 6, 3) := by decide +kernel
theorem dL_verdict_12 : decode cL_verdict 12 = .ok (.astore_n 3, 1) := by decide +kernel
theorem dL_verdict_13 : decode cL_verdict 13 = .ok (.iconst 1, 1) := by decide +kernel
theorem dL_verdict_14 : decode cL_verdict 14 = .ok (.ireturn, 1) := by decide +kernel
theorem dL_verdict_15 : decode cL_verdict 15 = .ok (.iconst 0, 1) := by decide +kernel
theorem dL_verdict_16 : decode cL_verdict 16 = .ok (.ireturn, 1) := by decide +kernel
set_option maxRecDepth 20000 in
theorem ggL_law_X6_init : GoodIn wsL_law wsX6_init := goodIn_r _ [9, 10, 11, 12, 13, 14, 15, 16, 17, 18, 19, 20, 21, 22, 23, 24, 25, 26, 27, 28, 29, 30, 31, 32, 33, 34, 35, 36, 37, 38, 39, 40, 41, 42, 43, 44, 45, 46, 47, 48, 49, 50, 51, 52, 53, 54, 55, 56, 57, 58, 59, 60, 61, 62, 63, 64, 65, 66, 67, 68, 69, 70, 71, 72, 73, 74, 75, 76, 77, 78, 79, 80, 81, 82, 83, 84, 85, 86, 87, 88, 89, 90, 91, 92, 747, 748, 749, 718, 719, 720, 721, 722, 723, 724, 725, 726, 750, 751, 752, 753, 754, 755, 756, 757, 758, 759, 760, 761, 762, 763, 764, 765, 766, 767, 768, 769, 770, 771, 772, 773] (by decide +kernel) (by decide +kernel)
set_option maxRecDepth 20000 in
theorem gL_law_X6_init : GoodIn wsL_law (wsX6_init) := ggL_law_X6_init
set_option maxRecDepth 20000 in
theorem ggL_law_X7_init : GoodIn wsL_law wsX7_init := goodIn_r _ [95, 96, 11, 12, 40, 97, 42, 98, 99, 100, 101, 102, 103, 104, 105, 106, 107, 108, 109, 110, 111, 727, 728, 729, 730, 731, 732, 733, 734, 735, 736, 737, 738, 739, 740, 741, 742, 743, 744, 745, 746] (by decide +kernel) (by decide +kernel)
set_option maxRecDepth 20000 in
theorem gL_law_X7_init : GoodIn wsL_law (wsX7_init) := ggL_law_X7_init
set_option maxRecDepth 20000 in
theorem ggL_law_L_add : GoodIn wsL_law wsL_add := goodIn_ca (goodIn_ca (goodIn_r _ [115, 116, 117, 118, 119, 120, 2, 121, 16, 122, 123, 124, 125, 126, 127, 128, 129, 130, 131, 132, 133, 134, 135, 136, 137, 138, 15, 139, 44, 140, 141, 142, 143, 41, 43, 144, 145, 146, 147, 35, 36, 718, 719, 720, 721, 722, 723, 724, 725, 726, 747, 748, 749] (by decide +kernel) (by decide +kernel)) (goodIn_sub (fun _ h => List.mem_append_left _ (List.mem_append_left _ (List.mem_append_right _ h))) (by decide +kernel))) (goodIn_sub (fun _ h => List.mem_append_left _ (List.mem_append_right _ h)) (by decide +kernel))
set_option maxRecDepth 20000 in
theorem gL_law_L_add : GoodIn wsL_law (va_wsS RL 75 yL_add wsL_add) := goodIn_app (goodIn_of _ (by decide +kernel)) ggL_law_L_add
set_option maxRecDepth 20000 in
theorem ggL_law_X7_add : GoodIn wsL_law wsX7_add := goodIn_r _ [151, 152, 153, 97, 98, 154, 155, 5, 156, 157, 158, 159, 160, 161, 162, 163, 727, 728, 729, 730, 731, 732, 733, 734, 735, 736, 737, 738, 739, 740, 741, 742, 743, 744, 745, 746] (by decide +kernel) (by decide +kernel)
set_option maxRecDepth 20000 in
theorem gL_law_X7_add : GoodIn wsL_law (wsV RL 80 RX7 yX7_add wsX7_add) := goodIn_app (goodIn_of _ (by decide +kernel)) ggL_law_X7_add
set_option maxRecDepth 20000 in
theorem ggL_law_X7_thrown : GoodIn wsL_law wsX7_thrown := goodIn_r _ [167, 152, 727, 728, 729, 730, 731, 732, 733, 734, 735, 736, 737, 738, 739, 740, 741, 742, 743, 744, 745, 746] (by decide +kernel) (by decide +kernel)
set_option maxRecDepth 20000 in
theorem gL_law_X7_thrown : GoodIn wsL_law (wsV RL 81 RX7 yX7_thrown wsX7_thrown) := goodIn_app (goodIn_of _ (by decide +kernel)) ggL_law_X7_thrown
set_option maxRecDepth 20000 in
theorem ggL_law_L_addMany : GoodIn wsL_law wsL_addMany := goodIn_ca (goodIn_ca (goodIn_r _ [170, 116, 117, 171, 172, 173, 2, 174, 16, 122, 123, 124, 125, 126, 127, 128, 129, 130, 131, 132, 133, 134, 135, 136, 137, 138, 15, 139, 44, 140, 141, 142, 143, 41, 43, 144, 145, 146, 147, 35, 36, 718, 719, 720, 721, 722, 723, 724, 725, 726, 747, 748, 749] (by decide +kernel) (by decide +kernel)) (goodIn_sub (fun _ h => List.mem_append_left _ (List.mem_append_left _ (List.mem_append_right _ h))) (by decide +kernel))) (goodIn_sub (fun _ h => List.mem_append_left _ (List.mem_append_right _ h)) (by decide +kernel))
set_option maxRecDepth 20000 in
theorem gL_law_L_addMany : GoodIn wsL_law (va_wsS RL 84 yL_addMany wsL_addMany) := goodIn_app (goodIn_of _ (by decide +kernel)) ggL_law_L_addMany
set_option maxRecDepth 20000 in
theorem ggL_law_X7_addMany : GoodIn wsL_law wsX7_addMany := goodIn_r _ [178, 152, 153, 97, 98, 154, 155, 5, 156, 157, 158, 159, 160, 161, 162, 163, 727, 728, 729, 730, 731, 732, 733, 734, 735, 736, 737, 738, 739, 740, 741, 742, 743, 744, 745, 746] (by decide +kernel) (by decide +kernel)
set_option maxRecDepth 20000 in
theorem gL_law_X7_addMany : GoodIn wsL_law (wsV RL 87 RX7 yX7_addMany wsX7_addMany) := goodIn_app (goodIn_of _ (by decide +kernel)) ggL_law_X7_addMany
set_option maxRecDepth 20000 in
theorem ggL_law_L_correct : GoodIn wsL_law wsL_correct := goodIn_ca (goodIn_ca (goodIn_r _ [181, 182, 116, 183, 184, 185, 2, 186, 16, 187, 188, 189, 190, 136, 137, 138, 15, 139, 44, 191, 192, 193, 194, 195, 122, 123, 124, 125, 126, 127, 128, 129, 196, 197, 198, 199, 41, 200, 201, 202, 203, 204, 205, 206, 207, 144, 145, 146, 147, 35, 36, 718, 719, 720, 721, 722, 723, 724, 725, 726, 747, 748, 749] (by decide +kernel) (by decide +kernel)) (goodIn_sub (fun _ h => List.mem_append_right _ h) (by decide +kernel))) (goodIn_sub (fun _ h => List.mem_append_left _ (List.mem_append_left _ (List.mem_append_right _ h))) (by decide +kernel))
set_option maxRecDepth 20000 in
theorem gL_law_L_correct : GoodIn wsL_law (va_wsS RL 88 yL_correct wsL_correct) := goodIn_app (goodIn_of _ (by decide +kernel)) ggL_law_L_correct
set_option maxRecDepth 20000 in
theorem ggL_law_X7_correct : GoodIn wsL_law wsX7_correct := goodIn_r _ [211, 152, 97, 212, 213, 214, 5, 215, 153, 157, 158, 159, 160, 161, 162, 163, 154, 155, 156, 727, 728, 729, 730, 731, 732, 733, 734, 735, 736, 737, 738, 739, 740, 741, 742, 743, 744, 745, 746] (by decide +kernel) (by decide +kernel)
set_option maxRecDepth 20000 in
theorem gL_law_X7_correct : GoodIn wsL_law (wsV RL 90 RX7 yX7_correct wsX7_correct) := goodIn_app (goodIn_of _ (by decide +kernel)) ggL_law_X7_correct
set_option maxRecDepth 20000 in
theorem ggL_law_L_setHoliday : GoodIn wsL_law wsL_setHoliday := goodIn_ca (goodIn_r _ [218, 182, 219, 220, 221, 2, 222, 16, 187, 188, 189, 190, 136, 137, 138, 15, 139, 44, 191, 192, 193, 194, 195, 223, 224, 225, 226, 43, 200, 201, 202, 203, 227, 228, 229, 230, 144, 145, 146, 147, 35, 36, 718, 719, 720, 721, 722, 723, 724, 725, 726, 747, 748, 749] (by decide +kernel) (by decide +kernel)) (goodIn_sub (fun _ h => List.mem_append_right _ h) (by decide +kernel))
set_option maxRecDepth 20000 in
theorem gL_law_L_setHoliday : GoodIn wsL_law (va_wsS RL 91 yL_setHoliday wsL_setHoliday) := goodIn_app (goodIn_of _ (by decide +kernel)) ggL_law_L_setHoliday
set_option maxRecDepth 20000 in
theorem ggL_law_X7_setHoliday : GoodIn wsL_law wsX7_setHoliday := goodIn_r _ [234, 152, 98, 212, 213, 214, 5, 215, 153, 157, 158, 159, 727, 728, 729, 730, 731, 732, 733, 734, 735, 736, 737, 738, 739, 740, 741, 742, 743, 744, 745, 746] (by decide +kernel) (by decide +kernel)
set_option maxRecDepth 20000 in
theorem gL_law_X7_setHoliday : GoodIn wsL_law (wsV RL 94 RX7 yX7_setHoliday wsX7_setHoliday) := goodIn_app (goodIn_of _ (by decide +kernel)) ggL_law_X7_setHoliday
set_option maxRecDepth 20000 in
theorem ggL_law_L_drop : GoodIn wsL_law wsL_drop := goodIn_ca (goodIn_r _ [237, 116, 238, 239, 240, 2, 241, 16, 136, 137, 138, 15, 139, 44, 125, 126, 127, 128, 129, 242, 243, 244, 245, 41, 43, 144, 145, 146, 147, 35, 36, 718, 719, 720, 721, 722, 723, 724, 725, 726, 747, 748, 749] (by decide +kernel) (by decide +kernel)) (goodIn_sub (fun _ h => List.mem_append_left _ (List.mem_append_left _ (List.mem_append_right _ h))) (by decide +kernel))
set_option maxRecDepth 20000 in
theorem gL_law_L_drop : GoodIn wsL_law (va_wsS RL 95 yL_drop wsL_drop) := goodIn_app (goodIn_of _ (by decide +kernel)) ggL_law_L_drop
set_option maxRecDepth 20000 in
theorem ggL_law_X7_drop : GoodIn wsL_law wsX7_drop := goodIn_r _ [249, 152, 153, 97, 98, 157, 158, 5, 159, 160, 161, 162, 163, 727, 728, 729, 730, 731, 732, 733, 734, 735, 736, 737, 738, 739, 740, 741, 742, 743, 744, 745, 746] (by decide +kernel) (by decide +kernel)
set_option maxRecDepth 20000 in
theorem gL_law_X7_drop : GoodIn wsL_law (wsV RL 97 RX7 yX7_drop wsX7_drop) := goodIn_app (goodIn_of _ (by decide +kernel)) ggL_law_X7_drop
set_option maxRecDepth 20000 in
theorem ggL_law_L_setSeason : GoodIn wsL_law wsL_setSeason := goodIn_ca (goodIn_r _ [252, 116, 253, 254, 255, 2, 256, 20, 125, 126, 127, 128, 129, 257, 258, 259, 19, 260, 56, 261, 262, 263, 264, 144, 145, 146, 147, 35, 36, 718, 719, 720, 721, 722, 723, 724, 725, 726, 750, 751, 752, 753, 754, 755] (by decide +kernel) (by decide +kernel)) (goodIn_sub (fun _ h => List.mem_append_left _ (List.mem_append_left _ (List.mem_append_right _ h))) (by decide +kernel))
set_option maxRecDepth 20000 in
theorem gL_law_L_setSeason : GoodIn wsL_law (va_wsS RL 98 yL_setSeason wsL_setSeason) := goodIn_app (goodIn_of _ (by decide +kernel)) ggL_law_L_setSeason
set_option maxRecDepth 20000 in
theorem ggL_law_X7_setSeason : GoodIn wsL_law wsX7_setSeason := goodIn_r _ [268, 152, 99, 157, 158, 5, 159, 160, 161, 162, 163, 727, 728, 729, 730, 731, 732, 733, 734, 735, 736, 737, 738, 739, 740, 741, 742, 743, 744, 745, 746] (by decide +kernel) (by decide +kernel)
set_option maxRecDepth 20000 in
theorem gL_law_X7_setSeason : GoodIn wsL_law (wsV RL 100 RX7 yX7_setSeason wsX7_setSeason) := goodIn_app (goodIn_of _ (by decide +kernel)) ggL_law_X7_setSeason
set_option maxRecDepth 20000 in
theorem ggL_law_L_setCuts : GoodIn wsL_law wsL_setCuts := goodIn_ca (goodIn_r _ [271, 116, 272, 273, 274, 2, 275, 276, 24, 36, 125, 126, 127, 128, 129, 277, 278, 279, 23, 280, 75, 76, 718, 719, 720, 721, 722, 723, 724, 725, 726, 756, 757, 758, 759, 760, 761, 762, 763, 764, 765, 766, 767] (by decide +kernel) (by decide +kernel)) (goodIn_sub (fun _ h => List.mem_append_left _ (List.mem_append_left _ (List.mem_append_right _ h))) (by decide +kernel))
set_option maxRecDepth 20000 in
theorem gL_law_L_setCuts : GoodIn wsL_law (va_wsS RL 101 yL_setCuts wsL_setCuts) := goodIn_app (goodIn_of _ (by decide +kernel)) ggL_law_L_setCuts
set_option maxRecDepth 20000 in
theorem ggL_law_X7_setCuts : GoodIn wsL_law wsX7_setCuts := goodIn_r _ [284, 285, 152, 100, 101, 157, 158, 5, 159, 727, 728, 729, 730, 731, 732, 733, 734, 735, 736, 737, 738, 739, 740, 741, 742, 743, 744, 745, 746] (by decide +kernel) (by decide +kernel)
set_option maxRecDepth 20000 in
theorem gL_law_X7_setCuts : GoodIn wsL_law (wsV RL 104 RX7 yX7_setCuts wsX7_setCuts) := goodIn_app (goodIn_of _ (by decide +kernel)) ggL_law_X7_setCuts
set_option maxRecDepth 20000 in
theorem ggL_law_L_setBound : GoodIn wsL_law wsL_setBound := goodIn_ca (goodIn_r _ [288, 116, 289, 290, 291, 2, 292, 33, 34, 125, 126, 127, 128, 129, 718, 719, 720, 721, 722, 723, 724, 725, 726] (by decide +kernel) (by decide +kernel)) (goodIn_sub (fun _ h => List.mem_append_left _ (List.mem_append_left _ (List.mem_append_right _ h))) (by decide +kernel))
set_option maxRecDepth 20000 in
theorem gL_law_L_setBound : GoodIn wsL_law (va_wsS RL 105 yL_setBound wsL_setBound) := goodIn_app (goodIn_of _ (by decide +kernel)) ggL_law_L_setBound
set_option maxRecDepth 20000 in
theorem ggL_law_X7_setBound : GoodIn wsL_law wsX7_setBound := goodIn_r _ [296, 152, 102, 103, 157, 158, 5, 159, 727, 728, 729, 730, 731, 732, 733, 734, 735, 736, 737, 738, 739, 740, 741, 742, 743, 744, 745, 746] (by decide +kernel) (by decide +kernel)
set_option maxRecDepth 20000 in
theorem gL_law_X7_setBound : GoodIn wsL_law (wsV RL 107 RX7 yX7_setBound wsX7_setBound) := goodIn_app (goodIn_of _ (by decide +kernel)) ggL_law_X7_setBound
set_option maxRecDepth 20000 in
theorem ggL_law_X6_size : GoodIn wsL_law wsX6_size := goodIn_r _ [300, 16, 136, 137, 138, 15, 139, 44, 718, 719, 720, 721, 722, 723, 724, 725, 726, 747, 748, 749] (by decide +kernel) (by decide +kernel)
set_option maxRecDepth 20000 in
theorem gL_law_X6_size : GoodIn wsL_law (wsV RL 108 RX6 yX6_size wsX6_size) := goodIn_app (goodIn_of _ (by decide +kernel)) ggL_law_X6_size
set_option maxRecDepth 20000 in
theorem ggL_law_X7_size : GoodIn wsL_law wsX7_size := goodIn_r _ [304, 152, 153, 727, 728, 729, 730, 731, 732, 733, 734, 735, 736, 737, 738, 739, 740, 741, 742, 743, 744, 745, 746] (by decide +kernel) (by decide +kernel)
set_option maxRecDepth 20000 in
theorem gL_law_X7_size : GoodIn wsL_law (wsV RL 111 RX7 yX7_size wsX7_size) := goodIn_app (goodIn_of _ (by decide +kernel)) ggL_law_X7_size
set_option maxRecDepth 20000 in
theorem ggL_law_L_value : GoodIn wsL_law wsL_value := goodIn_ca (goodIn_r _ [307, 182, 308, 309, 310, 2, 311, 16, 187, 188, 189, 190, 136, 137, 138, 15, 139, 44, 191, 192, 193, 194, 195, 196, 197, 198, 199, 41, 200, 201, 202, 203, 718, 719, 720, 721, 722, 723, 724, 725, 726, 747, 748, 749] (by decide +kernel) (by decide +kernel)) (goodIn_sub (fun _ h => List.mem_append_right _ h) (by decide +kernel))
set_option maxRecDepth 20000 in
theorem gL_law_L_value : GoodIn wsL_law (va_wsS RL 112 yL_value wsL_value) := goodIn_app (goodIn_of _ (by decide +kernel)) ggL_law_L_value
set_option maxRecDepth 20000 in
theorem ggL_law_X7_value : GoodIn wsL_law wsX7_value := goodIn_r _ [315, 152, 97, 212, 213, 214, 5, 215, 153, 157, 158, 159, 160, 161, 162, 163, 727, 728, 729, 730, 731, 732, 733, 734, 735, 736, 737, 738, 739, 740, 741, 742, 743, 744, 745, 746] (by decide +kernel) (by decide +kernel)
set_option maxRecDepth 20000 in
theorem gL_law_X7_value : GoodIn wsL_law (wsV RL 114 RX7 yX7_value wsX7_value) := goodIn_app (goodIn_of _ (by decide +kernel)) ggL_law_X7_value
set_option maxRecDepth 20000 in
theorem ggL_law_X6_base : GoodIn wsL_law wsX6_base := goodIn_r _ [319, 20, 320, 321, 322, 2, 323, 35, 324, 325, 326, 19, 327, 56, 58, 53, 52, 328, 329, 330, 331, 55, 57, 332, 333, 334, 31, 335, 67, 68, 336, 137, 138, 15, 139, 44, 337, 224, 225, 226, 43, 200, 201, 202, 203, 338, 197, 198, 199, 41, 339, 340, 341, 342, 66, 343, 344, 345, 346, 347, 348, 349, 350, 351, 352, 353, 354, 355, 356, 357, 51, 358, 62, 359, 360, 361, 362, 363, 364, 365, 366, 718, 719, 720, 721, 722, 723, 724, 725, 726, 750, 751, 752, 753, 754, 755, 770, 771, 772, 747, 748, 749, 773] (by decide +kernel) (by decide +kernel)
set_option maxRecDepth 20000 in
theorem gL_law_X6_base : GoodIn wsL_law (wsV RL 115 RX6 yX6_base wsX6_base) := goodIn_app (goodIn_of _ (by decide +kernel)) ggL_law_X6_base
set_option maxRecDepth 20000 in
theorem ggL_law_X7_base : GoodIn wsL_law wsX7_base := goodIn_r _ [370, 152, 371, 372, 373, 374, 5, 375, 376, 153, 98, 97, 99, 105, 106, 377, 378, 379, 380, 104, 381, 382, 383, 384, 727, 728, 729, 730, 731, 732, 733, 734, 735, 736, 737, 738, 739, 740, 741, 742, 743, 744, 745, 746] (by decide +kernel) (by decide +kernel)
set_option maxRecDepth 20000 in
theorem gL_law_X7_base : GoodIn wsL_law (wsV RL 118 RX7 yX7_base wsX7_base) := goodIn_app (goodIn_of _ (by decide +kernel)) ggL_law_X7_base
set_option maxRecDepth 20000 in
theorem ggL_law_L_season : GoodIn wsL_law wsL_season := goodIn_ca (goodIn_r _ [387, 182, 388, 389, 390, 2, 391, 20, 257, 258, 259, 19, 260, 56, 191, 192, 193, 194, 195, 320, 321, 322, 323, 35, 324, 325, 326, 327, 58, 53, 52, 328, 329, 330, 331, 55, 57, 332, 333, 334, 31, 335, 67, 68, 336, 137, 138, 15, 139, 44, 337, 224, 225, 226, 43, 200, 201, 202, 203, 338, 197, 198, 199, 41, 339, 340, 341, 342, 66, 343, 344, 345, 346, 347, 348, 349, 350, 351, 352, 353, 354, 355, 356, 357, 51, 358, 62, 359, 360, 361, 362, 392, 393, 394, 395, 718, 719, 720, 721, 722, 723, 724, 725, 726, 750, 751, 752, 753, 754, 755, 770, 771, 772, 747, 748, 749, 773] (by decide +kernel) (by decide +kernel)) (goodIn_sub (fun _ h => List.mem_append_right _ h) (by decide +kernel))
set_option maxRecDepth 20000 in
theorem gL_law_L_season : GoodIn wsL_law (va_wsS RL 119 yL_season wsL_season) := goodIn_app (goodIn_of _ (by decide +kernel)) ggL_law_L_season
set_option maxRecDepth 20000 in
theorem ggL_law_X7_season : GoodIn wsL_law wsX7_season := goodIn_r _ [399, 152, 99, 105, 157, 158, 5, 159, 160, 161, 162, 163, 372, 373, 374, 375, 376, 153, 98, 97, 371, 106, 377, 378, 379, 380, 104, 381, 382, 383, 384, 727, 728, 729, 730, 731, 732, 733, 734, 735, 736, 737, 738, 739, 740, 741, 742, 743, 744, 745, 746] (by decide +kernel) (by decide +kernel)
set_option maxRecDepth 20000 in
theorem gL_law_X7_season : GoodIn wsL_law (wsV RL 121 RX7 yX7_season wsX7_season) := goodIn_app (goodIn_of _ (by decide +kernel)) ggL_law_X7_season
set_option maxRecDepth 20000 in
theorem ggL_law_L_adjusted : GoodIn wsL_law wsL_adjusted := goodIn_ca (goodIn_r _ [402, 182, 403, 404, 405, 2, 406, 20, 187, 188, 189, 190, 16, 136, 137, 138, 15, 139, 44, 191, 192, 193, 194, 195, 320, 321, 322, 323, 35, 324, 325, 326, 19, 327, 56, 58, 53, 52, 328, 329, 330, 331, 55, 57, 332, 333, 334, 31, 335, 67, 68, 336, 337, 224, 225, 226, 43, 200, 201, 202, 203, 338, 197, 198, 199, 41, 339, 340, 341, 342, 66, 343, 344, 345, 346, 347, 348, 349, 350, 351, 352, 353, 354, 355, 356, 357, 51, 358, 62, 359, 360, 361, 362, 407, 408, 409, 410, 718, 719, 720, 721, 722, 723, 724, 725, 726, 747, 748, 749, 750, 751, 752, 753, 754, 755, 770, 771, 772, 773] (by decide +kernel) (by decide +kernel)) (goodIn_sub (fun _ h => List.mem_append_right _ h) (by decide +kernel))
set_option maxRecDepth 20000 in
theorem gL_law_L_adjusted : GoodIn wsL_law (va_wsS RL 122 yL_adjusted wsL_adjusted) := goodIn_app (goodIn_of _ (by decide +kernel)) ggL_law_L_adjusted
set_option maxRecDepth 20000 in
theorem ggL_law_X7_adjusted : GoodIn wsL_law wsX7_adjusted := goodIn_r _ [414, 152, 106, 212, 213, 214, 5, 215, 153, 157, 158, 159, 160, 161, 162, 163, 372, 373, 374, 375, 376, 98, 97, 371, 99, 105, 377, 378, 379, 380, 104, 381, 382, 383, 384, 727, 728, 729, 730, 731, 732, 733, 734, 735, 736, 737, 738, 739, 740, 741, 742, 743, 744, 745, 746] (by decide +kernel) (by decide +kernel)
set_option maxRecDepth 20000 in
theorem gL_law_X7_adjusted : GoodIn wsL_law (wsV RL 124 RX7 yX7_adjusted wsX7_adjusted) := goodIn_app (goodIn_of _ (by decide +kernel)) ggL_law_X7_adjusted
set_option maxRecDepth 20000 in
theorem ggL_law_X6_segments : GoodIn wsL_law wsX6_segments := goodIn_r _ [418, 24, 419, 420, 421, 2, 422, 36, 320, 321, 322, 323, 35, 20, 324, 325, 326, 19, 327, 56, 58, 53, 52, 328, 329, 330, 331, 55, 57, 332, 333, 334, 31, 335, 67, 68, 336, 137, 138, 15, 139, 44, 337, 224, 225, 226, 43, 200, 201, 202, 203, 338, 197, 198, 199, 41, 339, 340, 341, 342, 66, 343, 344, 345, 346, 347, 348, 349, 350, 351, 352, 353, 354, 355, 356, 357, 51, 358, 62, 359, 360, 361, 362, 423, 424, 425, 23, 426, 85, 427, 428, 429, 430, 431, 74, 432, 75, 76, 78, 79, 433, 434, 435, 436, 437, 80, 438, 439, 440, 441, 442, 86, 443, 444, 408, 409, 410, 445, 446, 447, 448, 449, 450, 451, 452, 453, 454, 455, 456, 457, 458, 84, 81, 82, 83, 459, 460, 461, 462, 463, 464, 465, 466, 467, 718, 719, 720, 721, 722, 723, 724, 725, 726, 750, 751, 752, 753, 754, 755, 770, 771, 772, 747, 748, 749, 773, 756, 757, 758, 759, 760, 761, 762, 763, 764, 765, 766, 767] (by decide +kernel) (by decide +kernel)
set_option maxRecDepth 20000 in
theorem gL_law_X6_segments : GoodIn wsL_law (wsV RL 125 RX6 yX6_segments wsX6_segments) := goodIn_app (goodIn_of _ (by decide +kernel)) ggL_law_X6_segments
set_option maxRecDepth 20000 in
theorem ggL_law_X7_segments : GoodIn wsL_law wsX7_segments := goodIn_r _ [471, 152, 472, 473, 474, 5, 475, 153, 110, 476, 477, 478, 479, 109, 480, 100, 107, 101, 372, 373, 374, 375, 376, 98, 97, 371, 99, 105, 106, 377, 378, 379, 380, 104, 381, 382, 383, 384, 481, 482, 483, 484, 108, 485, 486, 487, 488, 489, 490, 491, 727, 728, 729, 730, 731, 732, 733, 734, 735, 736, 737, 738, 739, 740, 741, 742, 743, 744, 745, 746] (by decide +kernel) (by decide +kernel)
set_option maxRecDepth 20000 in
theorem gL_law_X7_segments : GoodIn wsL_law (wsV RL 128 RX7 yX7_segments wsX7_segments) := goodIn_app (goodIn_of _ (by decide +kernel)) ggL_law_X7_segments
set_option maxRecDepth 20000 in
theorem ggL_law_L_startOf : GoodIn wsL_law wsL_startOf := goodIn_ca (goodIn_r _ [494, 182, 495, 496, 497, 2, 498, 24, 419, 420, 421, 422, 36, 320, 321, 322, 323, 35, 20, 324, 325, 326, 19, 327, 56, 58, 53, 52, 328, 329, 330, 331, 55, 57, 332, 333, 334, 31, 335, 67, 68, 336, 137, 138, 15, 139, 44, 337, 224, 225, 226, 43, 200, 201, 202, 203, 338, 197, 198, 199, 41, 339, 340, 341, 342, 66, 343, 344, 345, 346, 347, 348, 349, 350, 351, 352, 353, 354, 355, 356, 357, 51, 358, 62, 359, 360, 361, 362, 423, 424, 425, 23, 426, 85, 427, 428, 429, 430, 431, 74, 432, 75, 76, 78, 79, 433, 434, 435, 436, 437, 80, 438, 439, 440, 441, 442, 86, 443, 444, 408, 409, 410, 445, 446, 447, 448, 449, 450, 451, 452, 453, 454, 455, 456, 457, 458, 84, 81, 82, 83, 459, 460, 461, 462, 463, 464, 465, 466, 467, 191, 192, 193, 194, 195, 499, 500, 501, 502, 718, 719, 720, 721, 722, 723, 724, 725, 726, 750, 751, 752, 753, 754, 755, 770, 771, 772, 747, 748, 749, 773, 756, 757, 758, 759, 760, 761, 762, 763, 764, 765, 766, 767] (by decide +kernel) (by decide +kernel)) (goodIn_sub (fun _ h => List.mem_append_right _ h) (by decide +kernel))
set_option maxRecDepth 20000 in
theorem gL_law_L_startOf : GoodIn wsL_law (va_wsS RL 129 yL_startOf wsL_startOf) := goodIn_app (goodIn_of _ (by decide +kernel)) ggL_law_L_startOf
set_option maxRecDepth 20000 in
theorem ggL_law_X7_startOf : GoodIn wsL_law wsX7_startOf := goodIn_r _ [506, 152, 472, 473, 474, 5, 475, 153, 110, 476, 477, 478, 479, 109, 480, 100, 107, 101, 372, 373, 374, 375, 376, 98, 97, 371, 99, 105, 106, 377, 378, 379, 380, 104, 381, 382, 383, 384, 481, 482, 483, 484, 108, 485, 486, 487, 488, 489, 490, 491, 157, 158, 159, 507, 508, 509, 510, 160, 161, 162, 163, 727, 728, 729, 730, 731, 732, 733, 734, 735, 736, 737, 738, 739, 740, 741, 742, 743, 744, 745, 746] (by decide +kernel) (by decide +kernel)
set_option maxRecDepth 20000 in
theorem gL_law_X7_startOf : GoodIn wsL_law (wsV RL 131 RX7 yX7_startOf wsX7_startOf) := goodIn_app (goodIn_of _ (by decide +kernel)) ggL_law_X7_startOf
set_option maxRecDepth 20000 in
theorem ggL_law_L_levelOf : GoodIn wsL_law wsL_levelOf := goodIn_ca (goodIn_r _ [513, 182, 514, 515, 516, 2, 517, 24, 419, 420, 421, 422, 36, 320, 321, 322, 323, 35, 20, 324, 325, 326, 19, 327, 56, 58, 53, 52, 328, 329, 330, 331, 55, 57, 332, 333, 334, 31, 335, 67, 68, 336, 137, 138, 15, 139, 44, 337, 224, 225, 226, 43, 200, 201, 202, 203, 338, 197, 198, 199, 41, 339, 340, 341, 342, 66, 343, 344, 345, 346, 347, 348, 349, 350, 351, 352, 353, 354, 355, 356, 357, 51, 358, 62, 359, 360, 361, 362, 423, 424, 425, 23, 426, 85, 427, 428, 429, 430, 431, 74, 432, 75, 76, 78, 79, 433, 434, 435, 436, 437, 80, 438, 439, 440, 441, 442, 86, 443, 444, 408, 409, 410, 445, 446, 447, 448, 449, 450, 451, 452, 453, 454, 455, 456, 457, 458, 84, 81, 82, 83, 459, 460, 461, 462, 463, 464, 465, 466, 467, 191, 192, 193, 194, 195, 518, 519, 520, 521, 718, 719, 720, 721, 722, 723, 724, 725, 726, 750, 751, 752, 753, 754, 755, 770, 771, 772, 747, 748, 749, 773, 756, 757, 758, 759, 760, 761, 762, 763, 764, 765, 766, 767] (by decide +kernel) (by decide +kernel)) (goodIn_sub (fun _ h => List.mem_append_right _ h) (by decide +kernel))
set_option maxRecDepth 20000 in
theorem gL_law_L_levelOf : GoodIn wsL_law (va_wsS RL 132 yL_levelOf wsL_levelOf) := goodIn_app (goodIn_of _ (by decide +kernel)) ggL_law_L_levelOf
set_option maxRecDepth 20000 in
theorem ggL_law_X7_levelOf : GoodIn wsL_law wsX7_levelOf := goodIn_r _ [525, 152, 108, 110, 472, 473, 474, 5, 475, 153, 476, 477, 478, 479, 109, 480, 100, 107, 101, 372, 373, 374, 375, 376, 98, 97, 371, 99, 105, 106, 377, 378, 379, 380, 104, 381, 382, 383, 384, 481, 482, 483, 484, 485, 486, 487, 488, 489, 490, 491, 157, 158, 159, 160, 161, 162, 163, 507, 508, 509, 510, 727, 728, 729, 730, 731, 732, 733, 734, 735, 736, 737, 738, 739, 740, 741, 742, 743, 744, 745, 746] (by decide +kernel) (by decide +kernel)
set_option maxRecDepth 20000 in
theorem gL_law_X7_levelOf : GoodIn wsL_law (wsV RL 134 RX7 yX7_levelOf wsX7_levelOf) := goodIn_app (goodIn_of _ (by decide +kernel)) ggL_law_X7_levelOf
set_option maxRecDepth 20000 in
theorem ggL_law_X6_cost : GoodIn wsL_law wsX6_cost := goodIn_r _ [529, 24, 419, 420, 421, 2, 422, 36, 320, 321, 322, 323, 35, 20, 324, 325, 326, 19, 327, 56, 58, 53, 52, 328, 329, 330, 331, 55, 57, 332, 333, 334, 31, 335, 67, 68, 336, 137, 138, 15, 139, 44, 337, 224, 225, 226, 43, 200, 201, 202, 203, 338, 197, 198, 199, 41, 339, 340, 341, 342, 66, 343, 344, 345, 346, 347, 348, 349, 350, 351, 352, 353, 354, 355, 356, 357, 51, 358, 62, 359, 360, 361, 362, 423, 424, 425, 23, 426, 85, 427, 428, 429, 430, 431, 74, 432, 75, 76, 78, 79, 433, 434, 435, 436, 437, 80, 438, 439, 440, 441, 442, 86, 443, 444, 408, 409, 410, 445, 446, 447, 448, 449, 450, 451, 452, 453, 454, 455, 456, 457, 458, 84, 81, 82, 83, 459, 460, 461, 462, 463, 530, 531, 532, 533, 718, 719, 720, 721, 722, 723, 724, 725, 726, 750, 751, 752, 753, 754, 755, 770, 771, 772, 747, 748, 749, 773, 756, 757, 758, 759, 760, 761, 762, 763, 764, 765, 766, 767] (by decide +kernel) (by decide +kernel)
set_option maxRecDepth 20000 in
theorem gL_law_X6_cost : GoodIn wsL_law (wsV RL 135 RX6 yX6_cost wsX6_cost) := goodIn_app (goodIn_of _ (by decide +kernel)) ggL_law_X6_cost
set_option maxRecDepth 20000 in
theorem ggL_law_X7_cost : GoodIn wsL_law wsX7_cost := goodIn_r _ [537, 152, 109, 476, 477, 478, 5, 479, 153, 480, 110, 100, 107, 101, 372, 373, 374, 375, 376, 98, 97, 371, 99, 105, 106, 377, 378, 379, 380, 104, 381, 382, 383, 384, 481, 482, 483, 484, 108, 485, 486, 487, 488, 489, 490, 491, 727, 728, 729, 730, 731, 732, 733, 734, 735, 736, 737, 738, 739, 740, 741, 742, 743, 744, 745, 746] (by decide +kernel) (by decide +kernel)
set_option maxRecDepth 20000 in
theorem gL_law_X7_cost : GoodIn wsL_law (wsV RL 138 RX7 yX7_cost wsX7_cost) := goodIn_app (goodIn_of _ (by decide +kernel)) ggL_law_X7_cost
set_option maxRecDepth 20000 in
theorem ggL_law_X6_costUncut : GoodIn wsL_law wsX6_costUncut := goodIn_r _ [541, 24, 16, 320, 321, 322, 2, 323, 35, 20, 324, 325, 326, 19, 327, 56, 58, 53, 52, 328, 329, 330, 331, 55, 57, 332, 333, 334, 31, 335, 67, 68, 336, 137, 138, 15, 139, 44, 337, 224, 225, 226, 43, 200, 201, 202, 203, 338, 197, 198, 199, 41, 339, 340, 341, 342, 66, 343, 344, 345, 346, 347, 348, 349, 350, 351, 352, 353, 354, 355, 356, 357, 51, 358, 62, 359, 360, 361, 362, 136, 542, 543, 544, 23, 545, 74, 459, 460, 461, 462, 433, 439, 440, 441, 442, 85, 86, 443, 444, 408, 409, 410, 445, 446, 447, 448, 449, 718, 719, 720, 721, 722, 723, 724, 725, 726, 750, 751, 752, 753, 754, 755, 770, 771, 772, 747, 748, 749, 773, 756, 757, 758, 759, 760, 761, 762, 763, 764, 765, 766, 767] (by decide +kernel) (by decide +kernel)
set_option maxRecDepth 20000 in
theorem gL_law_X6_costUncut : GoodIn wsL_law (wsV RL 139 RX6 yX6_costUncut wsX6_costUncut) := goodIn_app (goodIn_of _ (by decide +kernel)) ggL_law_X6_costUncut
set_option maxRecDepth 20000 in
theorem ggL_law_X7_costUncut : GoodIn wsL_law wsX7_costUncut := goodIn_r _ [549, 152, 153, 107, 476, 477, 478, 5, 479, 109, 480, 110, 100, 101, 372, 373, 374, 375, 376, 98, 97, 371, 99, 105, 106, 377, 378, 379, 380, 104, 381, 382, 383, 384, 481, 482, 483, 484, 108, 485, 486, 487, 488, 489, 490, 491, 727, 728, 729, 730, 731, 732, 733, 734, 735, 736, 737, 738, 739, 740, 741, 742, 743, 744, 745, 746] (by decide +kernel) (by decide +kernel)
set_option maxRecDepth 20000 in
theorem gL_law_X7_costUncut : GoodIn wsL_law (wsV RL 142 RX7 yX7_costUncut wsX7_costUncut) := goodIn_app (goodIn_of _ (by decide +kernel)) ggL_law_X7_costUncut
set_option maxRecDepth 20000 in
theorem ggL_law_L_costCutAt : GoodIn wsL_law wsL_costCutAt := goodIn_ca (goodIn_ca (goodIn_r _ [552, 182, 116, 553, 554, 555, 2, 556, 128, 129, 16, 24, 136, 137, 138, 15, 139, 44, 191, 192, 193, 194, 195, 557, 558, 559, 23, 560, 75, 320, 321, 322, 323, 35, 20, 324, 325, 326, 19, 327, 56, 58, 53, 52, 328, 329, 330, 331, 55, 57, 332, 333, 334, 31, 335, 67, 68, 336, 337, 224, 225, 226, 43, 200, 201, 202, 203, 338, 197, 198, 199, 41, 339, 340, 341, 342, 66, 343, 344, 345, 346, 347, 348, 349, 350, 351, 352, 353, 354, 355, 356, 357, 51, 358, 62, 359, 360, 361, 362, 542, 543, 544, 545, 74, 459, 460, 461, 462, 433, 439, 440, 441, 442, 85, 86, 443, 444, 408, 409, 410, 445, 446, 447, 448, 449, 561, 562, 563, 564, 76, 718, 719, 720, 721, 722, 723, 724, 725, 726, 747, 748, 749, 756, 757, 758, 759, 760, 761, 762, 763, 764, 765, 766, 767, 750, 751, 752, 753, 754, 755, 770, 771, 772, 773] (by decide +kernel) (by decide +kernel)) (goodIn_sub (fun _ h => List.mem_append_left _ (List.mem_append_left _ (List.mem_append_right _ h))) (by decide +kernel))) (goodIn_sub (fun _ h => List.mem_append_right _ h) (by decide +kernel))
set_option maxRecDepth 20000 in
theorem gL_law_L_costCutAt : GoodIn wsL_law (va_wsS RL 143 yL_costCutAt wsL_costCutAt) := goodIn_app (goodIn_of _ (by decide +kernel)) ggL_law_L_costCutAt
set_option maxRecDepth 20000 in
theorem ggL_law_X7_costCutAt : GoodIn wsL_law wsX7_costCutAt := goodIn_r _ [568, 152, 153, 100, 107, 101, 157, 158, 5, 159, 160, 161, 162, 163, 476, 477, 478, 479, 109, 480, 110, 372, 373, 374, 375, 376, 98, 97, 371, 99, 105, 106, 377, 378, 379, 380, 104, 381, 382, 383, 384, 481, 482, 483, 484, 108, 485, 486, 487, 488, 489, 490, 491, 727, 728, 729, 730, 731, 732, 733, 734, 735, 736, 737, 738, 739, 740, 741, 742, 743, 744, 745, 746] (by decide +kernel) (by decide +kernel)
set_option maxRecDepth 20000 in
theorem gL_law_X7_costCutAt : GoodIn wsL_law (wsV RL 145 RX7 yX7_costCutAt wsX7_costCutAt) := goodIn_app (goodIn_of _ (by decide +kernel)) ggL_law_X7_costCutAt
set_option maxRecDepth 20000 in
theorem ggL_law_L_leastCost : GoodIn wsL_law wsL_leastCost := goodIn_ca (goodIn_r _ [571, 117, 572, 573, 574, 2, 575, 134, 135, 16, 28, 136, 137, 138, 15, 139, 44, 320, 321, 322, 323, 35, 20, 324, 325, 326, 19, 327, 56, 58, 53, 52, 328, 329, 330, 331, 55, 57, 332, 333, 334, 31, 335, 67, 68, 336, 337, 224, 225, 226, 43, 200, 201, 202, 203, 338, 197, 198, 199, 41, 339, 340, 341, 342, 66, 343, 344, 345, 346, 347, 348, 349, 350, 351, 352, 353, 354, 355, 356, 357, 51, 358, 62, 359, 360, 361, 362, 576, 577, 578, 27, 579, 91, 92, 580, 543, 544, 23, 545, 74, 459, 460, 461, 462, 433, 439, 440, 441, 442, 85, 86, 443, 444, 408, 409, 410, 445, 446, 447, 448, 449, 581, 558, 559, 560, 75, 582, 562, 563, 564, 76, 583, 584, 585, 586, 587, 588, 589, 718, 719, 720, 721, 722, 723, 724, 725, 726, 747, 748, 749, 750, 751, 752, 753, 754, 755, 770, 771, 772, 773, 768, 769, 756, 757, 758, 759, 760, 761, 762, 763, 764, 765, 766, 767] (by decide +kernel) (by decide +kernel)) (goodIn_sub (fun _ h => List.mem_append_left _ (List.mem_append_right _ h)) (by decide +kernel))
set_option maxRecDepth 20000 in
theorem gL_law_L_leastCost : GoodIn wsL_law (va_wsS RL 146 yL_leastCost wsL_leastCost) := goodIn_app (goodIn_of _ (by decide +kernel)) ggL_law_L_leastCost
set_option maxRecDepth 20000 in
theorem ggL_law_X7_leastCost : GoodIn wsL_law wsX7_leastCost := goodIn_r _ [593, 152, 153, 109, 160, 161, 162, 5, 163, 476, 477, 478, 479, 480, 110, 100, 107, 101, 372, 373, 374, 375, 376, 98, 97, 371, 99, 105, 106, 377, 378, 379, 380, 104, 381, 382, 383, 384, 481, 482, 483, 484, 108, 485, 486, 487, 488, 489, 490, 491, 727, 728, 729, 730, 731, 732, 733, 734, 735, 736, 737, 738, 739, 740, 741, 742, 743, 744, 745, 746] (by decide +kernel) (by decide +kernel)
set_option maxRecDepth 20000 in
theorem gL_law_X7_leastCost : GoodIn wsL_law (wsV RL 149 RX7 yX7_leastCost wsX7_leastCost) := goodIn_app (goodIn_of _ (by decide +kernel)) ggL_law_X7_leastCost
set_option maxRecDepth 20000 in
theorem ggL_law_L_residual : GoodIn wsL_law wsL_residual := goodIn_ca (goodIn_r _ [596, 182, 597, 598, 599, 2, 600, 187, 188, 189, 190, 16, 136, 137, 138, 15, 139, 44, 191, 192, 193, 194, 195, 419, 420, 421, 422, 36, 24, 320, 321, 322, 323, 35, 20, 324, 325, 326, 19, 327, 56, 58, 53, 52, 328, 329, 330, 331, 55, 57, 332, 333, 334, 31, 335, 67, 68, 336, 337, 224, 225, 226, 43, 200, 201, 202, 203, 338, 197, 198, 199, 41, 339, 340, 341, 342, 66, 343, 344, 345, 346, 347, 348, 349, 350, 351, 352, 353, 354, 355, 356, 357, 51, 358, 62, 359, 360, 361, 362, 423, 424, 425, 23, 426, 85, 427, 428, 429, 430, 431, 74, 432, 75, 76, 78, 79, 433, 434, 435, 436, 437, 80, 438, 439, 440, 441, 442, 86, 443, 444, 408, 409, 410, 445, 446, 447, 448, 449, 450, 451, 452, 453, 454, 455, 456, 457, 458, 84, 81, 82, 83, 459, 460, 461, 462, 463, 601, 602, 603, 604, 407, 605, 606, 607, 608, 718, 719, 720, 721, 722, 723, 724, 725, 726, 747, 748, 749, 750, 751, 752, 753, 754, 755, 770, 771, 772, 773, 756, 757, 758, 759, 760, 761, 762, 763, 764, 765, 766, 767] (by decide +kernel) (by decide +kernel)) (goodIn_sub (fun _ h => List.mem_append_right _ h) (by decide +kernel))
set_option maxRecDepth 20000 in
theorem gL_law_L_residual : GoodIn wsL_law (va_wsS RL 150 yL_residual wsL_residual) := goodIn_app (goodIn_of _ (by decide +kernel)) ggL_law_L_residual
set_option maxRecDepth 20000 in
theorem ggL_law_X7_residual : GoodIn wsL_law wsX7_residual := goodIn_r _ [612, 152, 111, 212, 213, 214, 5, 215, 153, 157, 158, 159, 160, 161, 162, 163, 613, 614, 615, 616, 106, 108, 110, 376, 98, 617, 476, 477, 478, 479, 109, 480, 100, 107, 101, 372, 373, 374, 375, 97, 371, 99, 105, 377, 378, 379, 380, 104, 381, 382, 383, 384, 481, 482, 483, 484, 485, 486, 487, 488, 489, 490, 491, 618, 619, 620, 621, 727, 728, 729, 730, 731, 732, 733, 734, 735, 736, 737, 738, 739, 740, 741, 742, 743, 744, 745, 746] (by decide +kernel) (by decide +kernel)
set_option maxRecDepth 20000 in
theorem gL_law_X7_residual : GoodIn wsL_law (wsV RL 152 RX7 yX7_residual wsX7_residual) := goodIn_app (goodIn_of _ (by decide +kernel)) ggL_law_X7_residual
set_option maxRecDepth 20000 in
theorem ggL_law_X6_deviation : GoodIn wsL_law wsX6_deviation := goodIn_r _ [625, 419, 420, 421, 2, 422, 36, 24, 320, 321, 322, 323, 35, 20, 324, 325, 326, 19, 327, 56, 58, 53, 52, 328, 329, 330, 331, 55, 57, 332, 333, 334, 31, 335, 67, 68, 336, 137, 138, 15, 139, 44, 337, 224, 225, 226, 43, 200, 201, 202, 203, 338, 197, 198, 199, 41, 339, 340, 341, 342, 66, 343, 344, 345, 346, 347, 348, 349, 350, 351, 352, 353, 354, 355, 356, 357, 51, 358, 62, 359, 360, 361, 362, 423, 424, 425, 23, 426, 85, 427, 428, 429, 430, 431, 74, 432, 75, 76, 78, 79, 433, 434, 435, 436, 437, 80, 438, 439, 440, 441, 442, 86, 443, 444, 408, 409, 410, 445, 446, 447, 448, 449, 450, 451, 452, 453, 454, 455, 456, 457, 458, 84, 81, 82, 83, 459, 460, 461, 462, 463, 626, 627, 628, 629, 32, 16, 630, 631, 588, 632, 633, 136, 223, 601, 602, 603, 604, 407, 605, 606, 607, 608, 634, 635, 718, 719, 720, 721, 722, 723, 724, 725, 726, 750, 751, 752, 753, 754, 755, 770, 771, 772, 747, 748, 749, 773, 756, 757, 758, 759, 760, 761, 762, 763, 764, 765, 766, 767] (by decide +kernel) (by decide +kernel)
set_option maxRecDepth 20000 in
theorem gL_law_X6_deviation : GoodIn wsL_law (wsV RL 153 RX6 yX6_deviation wsX6_deviation) := goodIn_app (goodIn_of _ (by decide +kernel)) ggL_law_X6_deviation
set_option maxRecDepth 20000 in
theorem ggL_law_X7_deviation : GoodIn wsL_law wsX7_deviation := goodIn_r _ [639, 152, 617, 613, 614, 615, 5, 616, 153, 111, 106, 108, 110, 376, 98, 476, 477, 478, 479, 109, 480, 100, 107, 101, 372, 373, 374, 375, 97, 371, 99, 105, 377, 378, 379, 380, 104, 381, 382, 383, 384, 481, 482, 483, 484, 485, 486, 487, 488, 489, 490, 491, 618, 619, 620, 621, 727, 728, 729, 730, 731, 732, 733, 734, 735, 736, 737, 738, 739, 740, 741, 742, 743, 744, 745, 746] (by decide +kernel) (by decide +kernel)
set_option maxRecDepth 20000 in
theorem gL_law_X7_deviation : GoodIn wsL_law (wsV RL 156 RX7 yX7_deviation wsX7_deviation) := goodIn_app (goodIn_of _ (by decide +kernel)) ggL_law_X7_deviation
set_option maxRecDepth 20000 in
theorem ggL_law_X6_bound : GoodIn wsL_law wsX6_bound := goodIn_r _ [643, 419, 420, 421, 2, 422, 36, 24, 320, 321, 322, 323, 35, 20, 324, 325, 326, 19, 327, 56, 58, 53, 52, 328, 329, 330, 331, 55, 57, 332, 333, 334, 31, 335, 67, 68, 336, 137, 138, 15, 139, 44, 337, 224, 225, 226, 43, 200, 201, 202, 203, 338, 197, 198, 199, 41, 339, 340, 341, 342, 66, 343, 344, 345, 346, 347, 348, 349, 350, 351, 352, 353, 354, 355, 356, 357, 51, 358, 62, 359, 360, 361, 362, 423, 424, 425, 23, 426, 85, 427, 428, 429, 430, 431, 74, 432, 75, 76, 78, 79, 433, 434, 435, 436, 437, 80, 438, 439, 440, 441, 442, 86, 443, 444, 408, 409, 410, 445, 446, 447, 448, 449, 450, 451, 452, 453, 454, 455, 456, 457, 458, 84, 81, 82, 83, 459, 460, 461, 462, 463, 644, 645, 646, 647, 33, 34, 648, 649, 588, 650, 626, 627, 628, 629, 32, 16, 630, 631, 632, 633, 136, 223, 601, 602, 603, 604, 407, 605, 606, 607, 608, 634, 635, 718, 719, 720, 721, 722, 723, 724, 725, 726, 750, 751, 752, 753, 754, 755, 770, 771, 772, 747, 748, 749, 773, 756, 757, 758, 759, 760, 761, 762, 763, 764, 765, 766, 767] (by decide +kernel) (by decide +kernel)
set_option maxRecDepth 20000 in
theorem gL_law_X6_bound : GoodIn wsL_law (wsV RL 157 RX6 yX6_bound wsX6_bound) := goodIn_app (goodIn_of _ (by decide +kernel)) ggL_law_X6_bound
set_option maxRecDepth 20000 in
theorem ggL_law_X7_bound : GoodIn wsL_law wsX7_bound := goodIn_r _ [654, 152, 613, 614, 615, 5, 616, 153, 111, 106, 108, 110, 376, 98, 617, 476, 477, 478, 479, 109, 480, 100, 107, 101, 372, 373, 374, 375, 97, 371, 99, 105, 377, 378, 379, 380, 104, 381, 382, 383, 384, 481, 482, 483, 484, 485, 486, 487, 488, 489, 490, 491, 618, 619, 620, 621, 655, 656, 657, 658, 102, 103, 727, 728, 729, 730, 731, 732, 733, 734, 735, 736, 737, 738, 739, 740, 741, 742, 743, 744, 745, 746] (by decide +kernel) (by decide +kernel)
set_option maxRecDepth 20000 in
theorem gL_law_X7_bound : GoodIn wsL_law (wsV RL 160 RX7 yX7_bound wsX7_bound) := goodIn_app (goodIn_of _ (by decide +kernel)) ggL_law_X7_bound
set_option maxRecDepth 20000 in
theorem ggL_law_L_verdict : GoodIn wsL_law wsL_verdict := goodIn_ca (goodIn_r _ [661, 182, 662, 663, 664, 2, 665, 187, 188, 189, 190, 16, 136, 137, 138, 15, 139, 44, 191, 192, 193, 194, 195, 419, 420, 421, 422, 36, 24, 320, 321, 322, 323, 35, 20, 324, 325, 326, 19, 327, 56, 58, 53, 52, 328, 329, 330, 331, 55, 57, 332, 333, 334, 31, 335, 67, 68, 336, 337, 224, 225, 226, 43, 200, 201, 202, 203, 338, 197, 198, 199, 41, 339, 340, 341, 342, 66, 343, 344, 345, 346, 347, 348, 349, 350, 351, 352, 353, 354, 355, 356, 357, 51, 358, 62, 359, 360, 361, 362, 423, 424, 425, 23, 426, 85, 427, 428, 429, 430, 431, 74, 432, 75, 76, 78, 79, 433, 434, 435, 436, 437, 80, 438, 439, 440, 441, 442, 86, 443, 444, 408, 409, 410, 445, 446, 447, 448, 449, 450, 451, 452, 453, 454, 455, 456, 457, 458, 84, 81, 82, 83, 459, 460, 461, 462, 463, 644, 645, 646, 647, 33, 34, 648, 649, 588, 650, 626, 627, 628, 629, 32, 630, 631, 632, 633, 223, 601, 602, 603, 604, 407, 605, 606, 607, 608, 634, 635, 666, 667, 668, 669, 670, 671, 672, 718, 719, 720, 721, 722, 723, 724, 725, 726, 747, 748, 749, 750, 751, 752, 753, 754, 755, 770, 771, 772, 773, 756, 757, 758, 759, 760, 761, 762, 763, 764, 765, 766, 767] (by decide +kernel) (by decide +kernel)) (goodIn_sub (fun _ h => List.mem_append_right _ h) (by decide +kernel))
set_option maxRecDepth 20000 in
theorem gL_law_L_verdict : GoodIn wsL_law (va_wsS RL 161 yL_verdict wsL_verdict) := goodIn_app (goodIn_of _ (by decide +kernel)) ggL_law_L_verdict
set_option maxRecDepth 20000 in
theorem ggL_law_X7_verdict : GoodIn wsL_law wsX7_verdict := goodIn_r _ [676, 152, 212, 213, 214, 5, 215, 153, 157, 158, 159, 160, 161, 162, 163, 613, 614, 615, 616, 111, 106, 108, 110, 376, 98, 617, 476, 477, 478, 479, 109, 480, 100, 107, 101, 372, 373, 374, 375, 97, 371, 99, 105, 377, 378, 379, 380, 104, 381, 382, 383, 384, 481, 482, 483, 484, 485, 486, 487, 488, 489, 490, 491, 618, 619, 620, 621, 677, 678, 679, 680, 655, 656, 657, 658, 102, 103, 727, 728, 729, 730, 731, 732, 733, 734, 735, 736, 737, 738, 739, 740, 741, 742, 743, 744, 745, 746] (by decide +kernel) (by decide +kernel)
set_option maxRecDepth 20000 in
theorem gL_law_X7_verdict : GoodIn wsL_law (wsV RL 163 RX7 yX7_verdict wsX7_verdict) := goodIn_app (goodIn_of _ (by decide +kernel)) ggL_law_X7_verdict
set_option maxRecDepth 20000 in
theorem ggL_law_X6_anomalies : GoodIn wsL_law wsX6_anomalies := goodIn_r _ [684, 16, 419, 420, 421, 2, 422, 36, 24, 320, 321, 322, 323, 35, 20, 324, 325, 326, 19, 327, 56, 58, 53, 52, 328, 329, 330, 331, 55, 57, 332, 333, 334, 31, 335, 67, 68, 336, 137, 138, 15, 139, 44, 337, 224, 225, 226, 43, 200, 201, 202, 203, 338, 197, 198, 199, 41, 339, 340, 341, 342, 66, 343, 344, 345, 346, 347, 348, 349, 350, 351, 352, 353, 354, 355, 356, 357, 51, 358, 62, 359, 360, 361, 362, 423, 424, 425, 23, 426, 85, 427, 428, 429, 430, 431, 74, 432, 75, 76, 78, 79, 433, 434, 435, 436, 437, 80, 438, 439, 440, 441, 442, 86, 443, 444, 408, 409, 410, 445, 446, 447, 448, 449, 450, 451, 452, 453, 454, 455, 456, 457, 458, 84, 81, 82, 83, 459, 460, 461, 462, 463, 644, 645, 646, 647, 33, 34, 648, 649, 588, 650, 626, 627, 628, 629, 32, 630, 631, 632, 633, 136, 223, 601, 602, 603, 604, 407, 605, 606, 607, 608, 634, 635, 666, 667, 668, 669, 670, 671, 672, 718, 719, 720, 721, 722, 723, 724, 725, 726, 750, 751, 752, 753, 754, 755, 770, 771, 772, 747, 748, 749, 773, 756, 757, 758, 759, 760, 761, 762, 763, 764, 765, 766, 767] (by decide +kernel) (by decide +kernel)
set_option maxRecDepth 20000 in
theorem gL_law_X6_anomalies : GoodIn wsL_law (wsV RL 164 RX6 yX6_anomalies wsX6_anomalies) := goodIn_app (goodIn_of _ (by decide +kernel)) ggL_law_X6_anomalies
set_option maxRecDepth 20000 in
theorem ggL_law_X7_anomalies : GoodIn wsL_law wsX7_anomalies := goodIn_r _ [688, 152, 153, 613, 614, 615, 5, 616, 111, 106, 108, 110, 376, 98, 617, 476, 477, 478, 479, 109, 480, 100, 107, 101, 372, 373, 374, 375, 97, 371, 99, 105, 377, 378, 379, 380, 104, 381, 382, 383, 384, 481, 482, 483, 484, 485, 486, 487, 488, 489, 490, 491, 618, 619, 620, 621, 677, 678, 679, 680, 655, 656, 657, 658, 102, 103, 727, 728, 729, 730, 731, 732, 733, 734, 735, 736, 737, 738, 739, 740, 741, 742, 743, 744, 745, 746] (by decide +kernel) (by decide +kernel)
set_option maxRecDepth 20000 in
theorem gL_law_X7_anomalies : GoodIn wsL_law (wsV RL 167 RX7 yX7_anomalies wsX7_anomalies) := goodIn_app (goodIn_of _ (by decide +kernel)) ggL_law_X7_anomalies
set_option maxRecDepth 20000 in
theorem ggL_law_X6_expected : GoodIn wsL_law wsX6_expected := goodIn_r _ [692, 419, 420, 421, 2, 422, 36, 24, 320, 321, 322, 323, 35, 20, 324, 325, 326, 19, 327, 56, 58, 53, 52, 328, 329, 330, 331, 55, 57, 332, 333, 334, 31, 335, 67, 68, 336, 137, 138, 15, 139, 44, 337, 224, 225, 226, 43, 200, 201, 202, 203, 338, 197, 198, 199, 41, 339, 340, 341, 342, 66, 343, 344, 345, 346, 347, 348, 349, 350, 351, 352, 353, 354, 355, 356, 357, 51, 358, 62, 359, 360, 361, 362, 423, 424, 425, 23, 426, 85, 427, 428, 429, 430, 431, 74, 432, 75, 76, 78, 79, 433, 434, 435, 436, 437, 80, 438, 439, 440, 441, 442, 86, 443, 444, 408, 409, 410, 445, 446, 447, 448, 449, 450, 451, 452, 453, 454, 455, 456, 457, 458, 84, 81, 82, 83, 459, 460, 461, 462, 463, 693, 694, 695, 696, 16, 697, 698, 699, 700, 136, 701, 392, 393, 394, 395, 718, 719, 720, 721, 722, 723, 724, 725, 726, 750, 751, 752, 753, 754, 755, 770, 771, 772, 747, 748, 749, 773, 756, 757, 758, 759, 760, 761, 762, 763, 764, 765, 766, 767] (by decide +kernel) (by decide +kernel)
set_option maxRecDepth 20000 in
theorem gL_law_X6_expected : GoodIn wsL_law (wsV RL 168 RX6 yX6_expected wsX6_expected) := goodIn_app (goodIn_of _ (by decide +kernel)) ggL_law_X6_expected
set_option maxRecDepth 20000 in
theorem ggL_law_X7_expected : GoodIn wsL_law wsX7_expected := goodIn_r _ [705, 152, 613, 614, 615, 5, 616, 153, 111, 106, 108, 110, 376, 98, 617, 476, 477, 478, 479, 109, 480, 100, 107, 101, 372, 373, 374, 375, 97, 371, 99, 105, 377, 378, 379, 380, 104, 381, 382, 383, 384, 481, 482, 483, 484, 485, 486, 487, 488, 489, 490, 491, 618, 619, 620, 621, 706, 707, 708, 709, 727, 728, 729, 730, 731, 732, 733, 734, 735, 736, 737, 738, 739, 740, 741, 742, 743, 744, 745, 746] (by decide +kernel) (by decide +kernel)
set_option maxRecDepth 20000 in
theorem gL_law_X7_expected : GoodIn wsL_law (wsV RL 171 RX7 yX7_expected wsX7_expected) := goodIn_app (goodIn_of _ (by decide +kernel)) ggL_law_X7_expected
set_option maxRecDepth 20000 in
theorem ggL_law_X6_judge : GoodIn wsL_law wsX6_judge := goodIn_r _ [713, 419, 420, 421, 2, 422, 36, 24, 320, 321, 322, 323, 35, 20, 324, 325, 326, 19, 327, 56, 58, 53, 52, 328, 329, 330, 331, 55, 57, 332, 333, 334, 31, 335, 67, 68, 336, 137, 138, 15, 139, 44, 337, 224, 225, 226, 43, 200, 201, 202, 203, 338, 197, 198, 199, 41, 339, 340, 341, 342, 66, 343, 344, 345, 346, 347, 348, 349, 350, 351, 352, 353, 354, 355, 356, 357, 51, 358, 62, 359, 360, 361, 362, 423, 424, 425, 23, 426, 85, 427, 428, 429, 430, 431, 74, 432, 75, 76, 78, 79, 433, 434, 435, 436, 437, 80, 438, 439, 440, 441, 442, 86, 443, 444, 408, 409, 410, 445, 446, 447, 448, 449, 450, 451, 452, 453, 454, 455, 456, 457, 458, 84, 81, 82, 83, 459, 460, 461, 462, 463, 693, 694, 695, 696, 16, 697, 698, 699, 700, 136, 701, 392, 393, 394, 395, 644, 645, 646, 647, 33, 34, 648, 649, 588, 650, 626, 627, 628, 629, 32, 630, 631, 632, 633, 223, 601, 602, 603, 604, 407, 605, 606, 607, 608, 634, 635, 670, 671, 672, 718, 719, 720, 721, 722, 723, 724, 725, 726, 750, 751, 752, 753, 754, 755, 770, 771, 772, 747, 748, 749, 773, 756, 757, 758, 759, 760, 761, 762, 763, 764, 765, 766, 767] (by decide +kernel) (by decide +kernel)

