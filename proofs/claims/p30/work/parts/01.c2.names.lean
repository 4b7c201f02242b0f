set_option maxRecDepth 20000 in
theorem ggX6_init_X5_init : GoodIn wsX6_init wsX5_init := goodIn_r _ [80, 81, 2, 3, 31, 82, 83, 114, 115] (by decide +kernel) (by decide +kernel)
set_option maxRecDepth 20000 in
theorem gX6_init_X5_init : GoodIn wsX6_init (wsX5_init) := ggX6_init_X5_init
set_option maxRecDepth 20000 in
theorem ggX6_init_X4_init : GoodIn wsX6_init wsX4_init := goodIn_r _ [55, 56, 2, 3, 31, 57, 58, 59, 116, 117, 118] (by decide +kernel) (by decide +kernel)
set_option maxRecDepth 20000 in
theorem gX6_init_X4_init_n45 : GoodIn wsX6_init (wsX4_init) := ggX6_init_X4_init
theorem dX6_init_0 : decode cX6_init 0 = .ok (.aload_n 0, 1) := by decide +kernel
theorem dX6_init_1 : decode cX6_init 1 = .ok (.invokespecial 1, 3) := by decide +kernel
theorem dX6_init_4 : decode cX6_init 4 = .ok (.aload_n 0, 1) := by decide +kernel
theorem dX6_init_5 : decode cX6_init 5 = .ok (.new 7, 3) := by decide +kernel
theorem dX6_init_8 : decode cX6_init 8 = .ok (.dup, 1) := by decide +kernel
theorem dX6_init_9 : decode cX6_init 9 = .ok (.invokespecial 9, 3) := by decide +kernel
theorem dX6_init_12 : decode cX6_init 12 = .ok (.putfield 10, 3) := by decide +kernel
theorem dX6_init_15 : decode cX6_init 15 = .ok (.aload_n 0, 1) := by decide +kernel
theorem dX6_init_16 : decode cX6_init 16 = .ok (.new 16, 3) := by decide +kernel
theorem dX6_init_19 : decode cX6_init 19 = .ok (.dup, 1) := by decide +kernel
theorem dX6_init_20 : decode cX6_init 20 = .ok (.aload_n 0, 1) := by decide +kernel
theorem dX6_init_21 : decode cX6_init 21 = .ok (.getfield 10, 3) := by decide +kernel
theorem dX6_init_24 : decode cX6_init 24 = .ok (.invokespecial 18, 3) := by decide +kernel
theorem dX6_init_27 : decode cX6_init 27 = .ok (.putfield 21, 3) := by decide +kernel
theorem dX6_init_30 : decode cX6_init 30 = .ok (.aload_n 0, 1) := by decide +kernel
theorem dX6_init_31 : decode cX6_init 31 = .ok (.new 25, 3) := by decide +kernel
theorem dX6_init_34 : decode cX6_init 34 = .ok (.dup, 1) := by decide +kernel
theorem dX6_init_35 : decode cX6_init 35 = .ok (.aload_n 0, 1) := by decide +kernel
theorem dX6_init_36 : decode cX6_init 36 = .ok (.getfield 10, 3) := by decide +kernel
theorem dX6_init_39 : decode cX6_init 39 = .ok (.aload_n 0, 1) := by decide +kernel
theorem dX6_init_40 : decode cX6_init 40 = .ok (.getfield 21, 3) := by decide +kernel
theorem dX6_init_43 : decode cX6_init 43 = .ok (.invokespecial 27, 3) := by decide +kernel
theorem dX6_init_46 : decode cX6_init 46 = .ok (.putfield 30, 3) := by decide +kernel
theorem dX6_init_49 : decode cX6_init 49 = .ok (.aload_n 0, 1) := by decide +kernel
theorem dX6_init_50 : decode cX6_init 50 = .ok (.new 34, 3) := by decide +kernel
theorem dX6_init_53 : decode cX6_init 53 = .ok (.dup, 1) := by decide +kernel
theorem dX6_init_54 : decode cX6_init 54 = .ok (.aload_n 0, 1) := by decide +kernel
theorem dX6_init_55 : decode cX6_init 55 = .ok (.getfield 30, 3) := by decide +kernel
theorem dX6_init_58 : decode cX6_init 58 = .ok (.invokespecial 36, 3) := by decide +kernel
theorem dX6_init_61 : decode cX6_init 61 = .ok (.putfield 39, 3) := by decide +kernel
theorem dX6_init_64 : decode cX6_init 64 = .ok (.aload_n 0, 1) := by decide +kernel
theorem dX6_init_65 : decode cX6_init 65 = .ok (.new 43, 3) := by decide +kernel
theorem dX6_init_68 : decode cX6_init 68 = .ok (.dup, 1) := by decide +kernel
theorem dX6_init_69 : decode cX6_init 69 = .ok (.invokespecial 45, 3) := by decide +kernel
theorem dX6_init_72 : decode cX6_init 72 = .ok (.putfield 46, 3) := by decide +kernel
theorem dX6_init_75 : decode cX6_init 75 = .ok (.aload_n 0, 1) := by decide +kernel
theorem dX6_init_76 : decode cX6_init 76 = .ok (.sipush 300, 3) := by decide +kernel
theorem dX6_init_79 : decode cX6_init 79 = .ok (.putfield 50, 3) := by decide +kernel
theorem dX6_init_82 : decode cX6_init 82 = .ok (.aload_n 0, 1) := by decide +kernel
theorem dX6_init_83 : decode cX6_init 83 = .ok (.iconst 1, 1) := by decide +kernel
theorem dX6_init_84 : decode cX6_init 84 = .ok (.putfield 54, 3) := by decide +kernel
theorem dX6_init_87 : decode cX6_init 87 = .ok (.aload_n 0, 1) := by decide +kernel
theorem dX6_init_88 : decode cX6_init 88 = .ok (.iconst 0, 1) := by decide +kernel
theorem dX6_init_89 : decode cX6_init 89 = .ok (.putfield 57, 3) := by decide +kernel
theorem dX6_init_92 : decode cX6_init 92 = .ok (.aload_n 0, 1) := by decide +kernel
theorem dX6_init_93 : decode cX6_init 93 = .ok (.iconst 0, 1) := by decide +kernel
theorem dX6_init_94 : decode cX6_init 94 = .ok (.putfield 61, 3) := by decide +kernel
theorem dX6_init_97 : decode cX6_init 97 = .ok (.return_, 1) := by decide +kernel
set_option maxRecDepth 20000 in
theorem ggX6_add_X6_requireValue : GoodIn wsX6_add wsX6_requireValue := goodIn_ca (goodIn_r _ [5, 6, 7, 4, 8, 9, 10] (by decide +kernel) (by decide +kernel)) (goodIn_sub (fun _ h => List.mem_cons_of_mem _ (List.mem_append_left _ (List.mem_append_right _ h))) (by decide +kernel))
set_option maxRecDepth 20000 in
theorem gX6_add_X6_requireValue : GoodIn wsX6_add (va_wsS RX6 64 yX6_requireValue wsX6_requireValue) := goodIn_app (goodIn_of _ (by decide +kernel)) ggX6_add_X6_requireValue
set_option maxRecDepth 20000 in
theorem ggX6_add_X6_requireRoomFor : GoodIn wsX6_add wsX6_requireRoomFor := goodIn_ca (goodIn_r _ [14, 15, 16, 1, 17, 18, 19, 20, 21, 22, 35, 36, 37, 38, 39, 40, 41, 42, 43, 44, 45, 46] (by decide +kernel) (by decide +kernel)) (goodIn_sub (fun _ h => List.mem_cons_of_mem _ (List.mem_append_right _ h)) (by decide +kernel))
set_option maxRecDepth 20000 in
theorem gX6_add_X6_requireRoomFor : GoodIn wsX6_add (wsV RX6 68 RX6 yX6_requireRoomFor wsX6_requireRoomFor) := goodIn_app (goodIn_of _ (by decide +kernel)) ggX6_add_X6_requireRoomFor
set_option maxRecDepth 20000 in
theorem ggX6_add_X3_count : GoodIn wsX6_add wsX3_count := goodIn_r _ [21, 22, 44, 45, 46] (by decide +kernel) (by decide +kernel)
set_option maxRecDepth 20000 in
theorem gX6_add_X3_count : GoodIn wsX6_add (wsV RX6 71 RX3 yX3_count wsX3_count) := goodIn_app (goodIn_of _ (by decide +kernel)) ggX6_add_X3_count
set_option maxRecDepth 20000 in
theorem ggX6_add_X3_append : GoodIn wsX6_add wsX3_append := goodIn_r _ [26, 22, 27, 28, 44, 45, 46] (by decide +kernel) (by decide +kernel)
set_option maxRecDepth 20000 in
theorem gX6_add_X3_append : GoodIn wsX6_add (wsV RX6 75 RX3 yX3_append wsX3_append) := goodIn_app (goodIn_of _ (by decide +kernel)) ggX6_add_X3_append
set_option maxRecDepth 20000 in
theorem ggX6_add_X6_forgetSeasons : GoodIn wsX6_add wsX6_forgetSeasons := goodIn_r _ [32, 33, 34, 35, 36, 37, 38, 39, 40, 41, 42, 43] (by decide +kernel) (by decide +kernel)
set_option maxRecDepth 20000 in
theorem gX6_add_X6_forgetSeasons : GoodIn wsX6_add (wsV RX6 78 RX6 yX6_forgetSeasons wsX6_forgetSeasons) := goodIn_app (goodIn_of _ (by decide +kernel)) ggX6_add_X6_forgetSeasons
theorem dX6_add_0 : decode cX6_add 0 = .ok (.iload_n 1, 1) := by decide +kernel
theorem dX6_add_1 : decode cX6_add 1 = .ok (.invokestatic 64, 3) := by decide +kernel
theorem dX6_add_4 : decode cX6_add 4 = .ok (.aload_n 0, 1) := by decide +kernel
theorem dX6_add_5 : decode cX6_add 5 = .ok (.iconst 1, 1) := by decide +kernel
theorem dX6_add_6 : decode cX6_add 6 = .ok (.invokevirtual 68, 3) := by decide +kernel
theorem dX6_add_9 : decode cX6_add 9 = .ok (.aload_n 0, 1) := by decide +kernel
theorem dX6_add_10 : decode cX6_add 10 = .ok (.getfield 10, 3) := by decide +kernel
theorem dX6_add_13 : decode cX6_add 13 = .ok (.invokevirtual 71, 3) := by decide +kernel
theorem dX6_add_16 : decode cX6_add 16 = .ok (.istore_n 2, 1) := by decide +kernel
theorem dX6_add_17 : decode cX6_add 17 = .ok (.aload_n 0, 1) := by decide +kernel
theorem dX6_add_18 : decode cX6_add 18 = .ok (.getfield 10, 3) := by decide +kernel
theorem dX6_add_21 : decode cX6_add 21 = .ok (.iload_n 1, 1) := by decide +kernel
theorem dX6_add_22 : decode cX6_add 22 = .ok (.invokevirtual 75, 3) := by decide +kernel
theorem dX6_add_25 : decode cX6_add 25 = .ok (.aload_n 0, 1) := by decide +kernel
theorem dX6_add_26 : decode cX6_add 26 = .ok (.invokevirtual 78, 3) := by decide +kernel
theorem dX6_add_29 : decode cX6_add 29 = .ok (.iload_n 2, 1) := by decide +kernel
theorem dX6_add_30 : decode cX6_add 30 = .ok (.ireturn, 1) := by decide +kernel
set_option maxRecDepth 20000 in
theorem ggX6_addMany_X6_requireValue : GoodIn wsX6_addMany wsX6_requireValue := goodIn_ca (goodIn_r _ [5, 6, 7, 4, 8, 9, 10] (by decide +kernel) (by decide +kernel)) (goodIn_sub (fun _ h => List.mem_cons_of_mem _ (List.mem_append_left _ (List.mem_append_right _ h))) (by decide +kernel))
set_option maxRecDepth 20000 in
theorem gX6_addMany_X6_requireValue : GoodIn wsX6_addMany (va_wsS RX6 64 yX6_requireValue wsX6_requireValue) := goodIn_app (goodIn_of _ (by decide +kernel)) ggX6_addMany_X6_requireValue
set_option maxRecDepth 20000 in
theorem ggX6_addMany_X6_requireBetween : GoodIn wsX6_addMany wsX6_requireBetween := goodIn_ca (goodIn_r _ [8, 9, 10] (by decide +kernel) (by decide +kernel)) (goodIn_sub (fun _ h => List.mem_cons_of_mem _ (List.mem_append_left _ (List.mem_append_right _ h))) (by decide +kernel))
set_option maxRecDepth 20000 in
theorem gX6_addMany_X6_requireBetween : GoodIn wsX6_addMany (va_wsS RX6 81 yX6_requireBetween wsX6_requireBetween) := goodIn_app (goodIn_of _ (by decide +kernel)) ggX6_addMany_X6_requireBetween
set_option maxRecDepth 20000 in
theorem ggX6_addMany_X6_requireRoomFor : GoodIn wsX6_addMany wsX6_requireRoomFor := goodIn_ca (goodIn_r _ [14, 15, 16, 1, 17, 18, 19, 20, 21, 22, 35, 36, 37, 38, 39, 40, 41, 42, 43, 44, 45, 46] (by decide +kernel) (by decide +kernel)) (goodIn_sub (fun _ h => List.mem_cons_of_mem _ (List.mem_append_right _ h)) (by decide +kernel))
set_option maxRecDepth 20000 in
theorem gX6_addMany_X6_requireRoomFor : GoodIn wsX6_addMany (wsV RX6 68 RX6 yX6_requireRoomFor wsX6_requireRoomFor) := goodIn_app (goodIn_of _ (by decide +kernel)) ggX6_addMany_X6_requireRoomFor
set_option maxRecDepth 20000 in
theorem ggX6_addMany_X3_append : GoodIn wsX6_addMany wsX3_append := goodIn_r _ [26, 22, 27, 28, 44, 45, 46] (by decide +kernel) (by decide +kernel)
set_option maxRecDepth 20000 in
theorem gX6_addMany_X3_append : GoodIn wsX6_addMany (wsV RX6 75 RX3 yX3_append wsX3_append) := goodIn_app (goodIn_of _ (by decide +kernel)) ggX6_addMany_X3_append
set_option maxRecDepth 20000 in
theorem ggX6_addMany_X6_forgetSeasons : GoodIn wsX6_addMany wsX6_forgetSeasons := goodIn_r _ [32, 33, 34, 35, 36, 37, 38, 39, 40, 41, 42, 43] (by decide +kernel) (by decide +kernel)
set_option maxRecDepth 20000 in
theorem gX6_addMany_X6_forgetSeasons : GoodIn wsX6_addMany (wsV RX6 78 RX6 yX6_forgetSeasons wsX6_forgetSeasons) := goodIn_app (goodIn_of _ (by decide +kernel)) ggX6_addMany_X6_forgetSeasons
set_option maxRecDepth 20000 in
theorem ggX6_addMany_X3_count : GoodIn wsX6_addMany wsX3_count := goodIn_r _ [21, 22, 44, 45, 46] (by decide +kernel) (by decide +kernel)
set_option maxRecDepth 20000 in
theorem gX6_addMany_X3_count : GoodIn wsX6_addMany (wsV RX6 71 RX3 yX3_count wsX3_count) := goodIn_app (goodIn_of _ (by decide +kernel)) ggX6_addMany_X3_count
theorem dX6_addMany_0 : decode cX6_addMany 0 = .ok (.iload_n 1, 1) := by decide +kernel
theorem dX6_addMany_1 : decode cX6_addMany 1 = .ok (.invokestatic 64, 3) := by decide +kernel
theorem dX6_addMany_4 : decode cX6_addMany 4 = .ok (.iload_n 2, 1) := by decide +kernel
theorem dX6_addMany_5 : decode cX6_addMany 5 = .ok (.iconst 1, 1) := by decide +kernel
theorem dX6_addMany_6 : decode cX6_addMany 6 = .ok (.bipush 60, 2) := by decide +kernel
theorem dX6_addMany_8 : decode cX6_addMany 8 = .ok (.invokestatic 81, 3) := by decide +kernel
theorem dX6_addMany_11 : decode cX6_addMany 11 = .ok (.aload_n 0, 1) := by decide +kernel
theorem dX6_addMany_12 : decode cX6_addMany 12 = .ok (.iload_n 2, 1) := by decide +kernel
theorem dX6_addMany_13 : decode cX6_addMany 13 = .ok (.invokevirtual 68, 3) := by decide +kernel
theorem dX6_addMany_16 : decode cX6_addMany 16 = .ok (.iconst 0, 1) := by decide +kernel
theorem dX6_addMany_17 : decode cX6_addMany 17 = .ok (.istore_n 3, 1) := by decide +kernel
theorem dX6_addMany_18 : decode cX6_addMany 18 = .ok (.iload_n 3, 1) := by decide +kernel
theorem dX6_addMany_19 : decode cX6_addMany 19 = .ok (.iload_n 2, 1) := by decide +kernel
theorem dX6_addMany_20 : decode cX6_addMany 20 = .ok (.if_icmp .ge 17, 3) := by decide +kernel
theorem dX6_addMany_23 : decode cX6_addMany 23 = .ok (.aload_n 0, 1) := by decide +kernel
theorem dX6_addMany_24 : decode cX6_addMany 24 = .ok (.getfield 10, 3) := by decide +kernel
theorem dX6_addMany_27 : decode cX6_addMany 27 = .ok (.iload_n 1, 1) := by decide +kernel
theorem dX6_addMany_28 : decode cX6_addMany 28 = .ok (.invokevirtual 75, 3) := by decide +kernel
theorem dX6_addMany_31 : decode cX6_addMany 31 = .ok (.iinc 3 1, 3) := by decide +kernel
theorem dX6_addMany_34 : decode cX6_addMany 34 = .ok (.goto (-16), 3) := by decide +kernel
theorem dX6_addMany_37 : decode cX6_addMany 37 = .ok (.aload_n 0, 1) := by decide +kernel
theorem dX6_addMany_38 : decode cX6_addMany 38 = .ok (.invokevirtual 78, 3) := by decide +kernel
theorem dX6_addMany_41 : decode cX6_addMany 41 = .ok (.aload_n 0, 1) := by decide +kernel
theorem dX6_addMany_42 : decode cX6_addMany 42 = .ok (.getfield 10, 3) := by decide +kernel
theorem dX6_addMany_45 : decode cX6_addMany 45 = .ok (.invokevirtual 71, 3) := by decide +kernel
theorem dX6_addMany_48 : decode cX6_addMany 48 = .ok (.ireturn, 1) := by decide +kernel
set_option maxRecDepth 20000 in
theorem ggX6_correct_X6_requireNumber : GoodIn wsX6_correct wsX6_requireNumber := goodIn_ca (goodIn_r _ [6, 1, 7, 8, 9, 10, 11, 12, 13, 14, 5, 15, 16, 17, 45, 46, 47, 48, 49, 50, 51, 52, 53, 54, 55, 56] (by decide +kernel) (by decide +kernel)) (goodIn_sub (fun _ h => List.mem_cons_of_mem _ (List.mem_append_left _ (List.mem_append_right _ h))) (by decide +kernel))
set_option maxRecDepth 20000 in
theorem gX6_correct_X6_requireNumber : GoodIn wsX6_correct (wsV RX6 85 RX6 yX6_requireNumber wsX6_requireNumber) := goodIn_app (goodIn_of _ (by decide +kernel)) ggX6_correct_X6_requireNumber
set_option maxRecDepth 20000 in
theorem ggX6_correct_X6_requireValue : GoodIn wsX6_correct wsX6_requireValue := goodIn_ca (goodIn_r _ [20, 21, 22, 5, 23, 24, 25] (by decide +kernel) (by decide +kernel)) (goodIn_sub (fun _ h => List.mem_cons_of_mem _ (List.mem_append_right _ h)) (by decide +kernel))
set_option maxRecDepth 20000 in
theorem gX6_correct_X6_requireValue : GoodIn wsX6_correct (va_wsS RX6 64 yX6_requireValue wsX6_requireValue) := goodIn_app (goodIn_of _ (by decide +kernel)) ggX6_correct_X6_requireValue
set_option maxRecDepth 20000 in
theorem ggX6_correct_X3_numberAt : GoodIn wsX6_correct wsX3_numberAt := goodIn_r _ [29, 30, 31, 32, 33, 10, 34, 12, 54, 55, 56] (by decide +kernel) (by decide +kernel)
set_option maxRecDepth 20000 in
theorem gX6_correct_X3_numberAt : GoodIn wsX6_correct (wsV RX6 88 RX3 yX3_numberAt wsX3_numberAt) := goodIn_app (goodIn_of _ (by decide +kernel)) ggX6_correct_X3_numberAt
set_option maxRecDepth 20000 in
theorem ggX6_correct_X3_replace : GoodIn wsX6_correct wsX3_replace := goodIn_r _ [38, 30, 31, 32, 33, 10, 34, 12, 54, 55, 56] (by decide +kernel) (by decide +kernel)
set_option maxRecDepth 20000 in
theorem gX6_correct_X3_replace : GoodIn wsX6_correct (wsV RX6 92 RX3 yX3_replace wsX3_replace) := goodIn_app (goodIn_of _ (by decide +kernel)) ggX6_correct_X3_replace
set_option maxRecDepth 20000 in
theorem ggX6_correct_X6_forgetSeasons : GoodIn wsX6_correct wsX6_forgetSeasons := goodIn_r _ [42, 43, 44, 45, 46, 47, 48, 49, 50, 51, 52, 53] (by decide +kernel) (by decide +kernel)
set_option maxRecDepth 20000 in
theorem gX6_correct_X6_forgetSeasons : GoodIn wsX6_correct (wsV RX6 78 RX6 yX6_forgetSeasons wsX6_forgetSeasons) := goodIn_app (goodIn_of _ (by decide +kernel)) ggX6_correct_X6_forgetSeasons
theorem dX6_correct_0 : decode cX6_correct 0 = .ok (.aload_n 0, 1) := by decide +kernel
theorem dX6_correct_1 : decode cX6_correct 1 = .ok (.iload_n 1, 1) := by decide +kernel
theorem dX6_correct_2 : decode cX6_correct 2 = .ok (.invokevirtual 85, 3) := by decide +kernel
theorem dX6_correct_5 : decode cX6_correct 5 = .ok (.iload_n 2, 1) := by decide +kernel
theorem dX6_correct_6 : decode cX6_correct 6 = .ok (.invokestatic 64, 3) := by decide +kernel
theorem dX6_correct_9 : decode cX6_correct 9 = .ok (.aload_n 0, 1) := by decide +kernel
theorem dX6_correct_10 : decode cX6_correct 10 = .ok (.getfield 10, 3) := by decide +kernel
theorem dX6_correct_13 : decode cX6_correct 13 = .ok (.iload_n 1, 1) := by decide +kernel
theorem dX6_correct_14 : decode cX6_correct 14 = .ok (.invokevirtual 88, 3) := by decide +kernel
theorem dX6_correct_17 : decode cX6_correct 17 = .ok (.istore_n 3, 1) := by decide +kernel
theorem dX6_correct_18 : decode cX6_correct 18 = .ok (.aload_n 0, 1) := by decide +kernel
theorem dX6_correct_19 : decode cX6_correct 19 = .ok (.getfield 10, 3) := by decide +kernel
theorem dX6_correct_22 : decode cX6_correct 22 = .ok (.iload_n 1, 1) := by decide +kernel
theorem dX6_correct_23 : decode cX6_correct 23 = .ok (.iload_n 2, 1) := by decide +kernel
theorem dX6_correct_24 : decode cX6_correct 24 = .ok (.invokevirtual 92, 3) := by decide +kernel
theorem dX6_correct_27 : decode cX6_correct 27 = .ok (.aload_n 0, 1) := by decide +kernel
theorem dX6_correct_28 : decode cX6_correct 28 = .ok (.invokevirtual 78, 3) := by decide +kernel
theorem dX6_correct_31 : decode cX6_correct 31 = .ok (.iload_n 3, 1) := by decide +kernel
theorem dX6_correct_32 : decode cX6_correct 32 = .ok (.ireturn, 1) := by decide +kernel
set_option maxRecDepth 20000 in
theorem ggX6_setHoliday_X6_requireNumber : GoodIn wsX6_setHoliday wsX6_requireNumber := goodIn_ca (goodIn_r _ [6, 1, 7, 8, 9, 10, 11, 12, 13, 14, 5, 15, 16, 17, 37, 38, 39, 40, 41, 42, 43, 44, 45, 46, 47, 48] (by decide +kernel) (by decide +kernel)) (goodIn_sub (fun _ h => List.mem_cons_of_mem _ (List.mem_append_right _ h)) (by decide +kernel))
set_option maxRecDepth 20000 in
theorem gX6_setHoliday_X6_requireNumber : GoodIn wsX6_setHoliday (wsV RX6 85 RX6 yX6_requireNumber wsX6_requireNumber) := goodIn_app (goodIn_of _ (by decide +kernel)) ggX6_setHoliday_X6_requireNumber
set_option maxRecDepth 20000 in
theorem ggX6_setHoliday_X3_isHoliday : GoodIn wsX6_setHoliday wsX3_isHoliday := goodIn_r _ [21, 22, 23, 24, 25, 10, 26, 12, 46, 47, 48] (by decide +kernel) (by decide +kernel)
set_option maxRecDepth 20000 in
theorem gX6_setHoliday_X3_isHoliday : GoodIn wsX6_setHoliday (wsV RX6 96 RX3 yX3_isHoliday wsX3_isHoliday) := goodIn_app (goodIn_of _ (by decide +kernel)) ggX6_setHoliday_X3_isHoliday
set_option maxRecDepth 20000 in
theorem ggX6_setHoliday_X3_markHoliday : GoodIn wsX6_setHoliday wsX3_markHoliday := goodIn_r _ [30, 22, 23, 24, 25, 10, 26, 12, 46, 47, 48] (by decide +kernel) (by decide +kernel)
set_option maxRecDepth 20000 in
theorem gX6_setHoliday_X3_markHoliday : GoodIn wsX6_setHoliday (wsV RX6 100 RX3 yX3_markHoliday wsX3_markHoliday) := goodIn_app (goodIn_of _ (by decide +kernel)) ggX6_setHoliday_X3_markHoliday
set_option maxRecDepth 20000 in
theorem ggX6_setHoliday_X6_forgetSeasons : GoodIn wsX6_setHoliday wsX6_forgetSeasons := goodIn_r _ [34, 35, 36, 37, 38, 39, 40, 41, 42, 43, 44, 45] (by decide +kernel) (by decide +kernel)
set_option maxRecDepth 20000 in
theorem gX6_setHoliday_X6_forgetSeasons : GoodIn wsX6_setHoliday (wsV RX6 78 RX6 yX6_forgetSeasons wsX6_forgetSeasons) := goodIn_app (goodIn_of _ (by decide +kernel)) ggX6_setHoliday_X6_forgetSeasons
theorem dX6_setHoliday_0 : decode cX6_setHoliday 0 = .ok (.aload_n 0, 1) := by decide +kernel
theorem dX6_setHoliday_1 : decode cX6_setHoliday 1 = .ok (.iload_n 1, 1) := by decide +kernel
theorem dX6_setHoliday_2 : decode cX6_setHoliday 2 = .ok (.invokevirtual 85, 3) := by decide +kernel
theorem dX6_setHoliday_5 : decode cX6_setHoliday 5 = .ok (.aload_n 0, 1) := by decide +kernel
theorem dX6_setHoliday_6 : decode cX6_setHoliday 6 = .ok (.getfield 10, 3) := by decide +kernel
theorem dX6_setHoliday_9 : decode cX6_setHoliday 9 = .ok (.iload_n 1, 1) := by decide +kernel
theorem dX6_setHoliday_10 : decode cX6_setHoliday 10 = .ok (.invokevirtual 96, 3) := by decide +kernel
theorem dX6_setHoliday_13 : decode cX6_setHoliday 13 = .ok (.istore_n 3, 1) := by decide +kernel
theorem dX6_setHoliday_14 : decode cX6_setHoliday 14 = .ok (.aload_n 0, 1) := by decide +kernel
theorem dX6_setHoliday_15 : decode cX6_setHoliday 15 = .ok (.getfield 10, 3) := by decide +kernel
theorem dX6_setHoliday_18 : decode cX6_setHoliday 18 = .ok (.iload_n 1, 1) := by decide +kernel
theorem dX6_setHoliday_19 : decode cX6_setHoliday 19 = .ok (.iload_n 2, 1) := by decide +kernel
theorem dX6_setHoliday_20 : decode cX6_setHoliday 20 = .ok (.invokevirtual 100, 3) := by decide +kernel
theorem dX6_setHoliday_23 : decode cX6_setHoliday 23 = .ok (.aload_n 0, 1) := by decide +kernel
theorem dX6_setHoliday_24 : decode cX6_setHoliday 24 = .ok (.invokevirtual 78, 3) := by decide +kernel
theorem dX6_setHoliday_27 : decode cX6_setHoliday 27 = .ok (.iload_n 3, 1) := by decide +kernel
theorem dX6_setHoliday_28 : decode cX6_setHoliday 28 = .ok (.ireturn, 1) := by decide +kernel
set_option maxRecDepth 20000 in
theorem ggX6_drop_X3_count : GoodIn wsX6_drop wsX3_count := goodIn_r _ [6, 7, 35, 36, 37] (by decide +kernel) (by decide +kernel)
set_option maxRecDepth 20000 in
theorem gX6_drop_X3_count : GoodIn wsX6_drop (wsV RX6 71 RX3 yX3_count wsX3_count) := goodIn_app (goodIn_of _ (by decide +kernel)) ggX6_drop_X3_count
set_option maxRecDepth 20000 in
theorem ggX6_drop_X6_requireBetween : GoodIn wsX6_drop wsX6_requireBetween := goodIn_ca (goodIn_r _ [11, 12, 13] (by decide +kernel) (by decide +kernel)) (goodIn_sub (fun _ h => List.mem_cons_of_mem _ (List.mem_append_right _ h)) (by decide +kernel))
set_option maxRecDepth 20000 in
theorem gX6_drop_X6_requireBetween : GoodIn wsX6_drop (va_wsS RX6 81 yX6_requireBetween wsX6_requireBetween) := goodIn_app (goodIn_of _ (by decide +kernel)) ggX6_drop_X6_requireBetween
set_option maxRecDepth 20000 in
theorem ggX6_drop_X3_removeOldest : GoodIn wsX6_drop wsX3_removeOldest := goodIn_r _ [17, 7, 18, 19, 35, 36, 37] (by decide +kernel) (by decide +kernel)
set_option maxRecDepth 20000 in
theorem gX6_drop_X3_removeOldest : GoodIn wsX6_drop (wsV RX6 104 RX3 yX3_removeOldest wsX3_removeOldest) := goodIn_app (goodIn_of _ (by decide +kernel)) ggX6_drop_X3_removeOldest
set_option maxRecDepth 20000 in
theorem ggX6_drop_X6_forgetSeasons : GoodIn wsX6_drop wsX6_forgetSeasons := goodIn_r _ [23, 24, 25, 26, 27, 28, 29, 30, 31, 32, 33, 34] (by decide +kernel) (by decide +kernel)
set_option maxRecDepth 20000 in
theorem gX6_drop_X6_forgetSeasons : GoodIn wsX6_drop (wsV RX6 78 RX6 yX6_forgetSeasons wsX6_forgetSeasons) := goodIn_app (goodIn_of _ (by decide +kernel)) ggX6_drop_X6_forgetSeasons
theorem dX6_drop_0 : decode cX6_drop 0 = .ok (.iload_n 1, 1) := by decide +kernel
theorem dX6_drop_1 : decode cX6_drop 1 = .ok (.iconst 0, 1) := by decide +kernel
theorem dX6_drop_2 : decode cX6_drop 2 = .ok (.aload_n 0, 1) := by decide +kernel
theorem dX6_drop_3 : decode cX6_drop 3 = .ok (.getfield 10, 3) := by decide +kernel
theorem dX6_drop_6 : decode cX6_drop 6 = .ok (.invokevirtual 71, 3) := by decide +kernel
theorem dX6_drop_9 : decode cX6_drop 9 = .ok (.invokestatic 81, 3) := by decide +kernel
theorem dX6_drop_12 : decode cX6_drop 12 = .ok (.aload_n 0, 1) := by decide +kernel
theorem dX6_drop_13 : decode cX6_drop 13 = .ok (.getfield 10, 3) := by decide +kernel
theorem dX6_drop_16 : decode cX6_drop 16 = .ok (.iload_n 1, 1) := by decide +kernel
theorem dX6_drop_17 : decode cX6_drop 17 = .ok (.invokevirtual 104, 3) := by decide +kernel
theorem dX6_drop_20 : decode cX6_drop 20 = .ok (.aload_n 0, 1) := by decide +kernel
theorem dX6_drop_21 : decode cX6_drop 21 = .ok (.invokevirtual 78, 3) := by decide +kernel
theorem dX6_drop_24 : decode cX6_drop 24 = .ok (.aload_n 0, 1) := by decide +kernel
theorem dX6_drop_25 : decode cX6_drop 25 = .ok (.getfield 10, 3) := by decide +kernel
theorem dX6_drop_28 : decode cX6_drop 28 = .ok (.invokevirtual 71, 3) := by decide +kernel
theorem dX6_drop_31 : decode cX6_drop 31 = .ok (.ireturn, 1) := by decide +kernel
set_option maxRecDepth 20000 in
theorem ggX6_setSeason_X6_requireBetween : GoodIn wsX6_setSeason wsX6_requireBetween := goodIn_ca (goodIn_r _ [5, 6, 7] (by decide +kernel) (by decide +kernel)) (goodIn_sub (fun _ h => List.mem_cons_of_mem _ (List.mem_append_right _ h)) (by decide +kernel))
set_option maxRecDepth 20000 in
theorem gX6_setSeason_X6_requireBetween : GoodIn wsX6_setSeason (va_wsS RX6 81 yX6_requireBetween wsX6_requireBetween) := goodIn_app (goodIn_of _ (by decide +kernel)) ggX6_setSeason_X6_requireBetween
set_option maxRecDepth 20000 in
theorem ggX6_setSeason_X1_length : GoodIn wsX6_setSeason wsX1_length := goodIn_r _ [12, 13, 33, 34, 35, 36, 37, 38] (by decide +kernel) (by decide +kernel)
set_option maxRecDepth 20000 in
theorem gX6_setSeason_X1_length : GoodIn wsX6_setSeason (wsV RX6 107 RX1 yX1_length wsX1_length) := goodIn_app (goodIn_of _ (by decide +kernel)) ggX6_setSeason_X1_length
set_option maxRecDepth 20000 in
theorem ggX6_setSeason_X1_changeLength : GoodIn wsX6_setSeason wsX1_changeLength := goodIn_r _ [17, 13, 33, 34, 35, 36, 37, 38] (by decide +kernel) (by decide +kernel)
set_option maxRecDepth 20000 in
theorem gX6_setSeason_X1_changeLength : GoodIn wsX6_setSeason (wsV RX6 110 RX1 yX1_changeLength wsX1_changeLength) := goodIn_app (goodIn_of _ (by decide +kernel)) ggX6_setSeason_X1_changeLength
set_option maxRecDepth 20000 in
theorem ggX6_setSeason_X6_forgetSeasons : GoodIn wsX6_setSeason wsX6_forgetSeasons := goodIn_r _ [21, 22, 23, 24, 25, 26, 27, 28, 29, 30, 31, 32] (by decide +kernel) (by decide +kernel)
set_option maxRecDepth 20000 in
theorem gX6_setSeason_X6_forgetSeasons : GoodIn wsX6_setSeason (wsV RX6 78 RX6 yX6_forgetSeasons wsX6_forgetSeasons) := goodIn_app (goodIn_of _ (by decide +kernel)) ggX6_setSeason_X6_forgetSeasons
theorem dX6_setSeason_0 : decode cX6_setSeason 0 = .ok (.iload_n 1, 1) := by decide +kernel
theorem dX6_setSeason_1 : decode cX6_setSeason 1 = .ok (.iconst 1, 1) := by decide +kernel
theorem dX6_setSeason_2 : decode cX6_setSeason 2 = .ok (.bipush 12, 2) := by decide +kernel
theorem dX6_setSeason_4 : decode cX6_setSeason 4 = .ok (.invokestatic 81, 3) := by decide +kernel
theorem dX6_setSeason_7 : decode cX6_setSeason 7 = .ok (.aload_n 0, 1) := by decide +kernel
theorem dX6_setSeason_8 : decode cX6_setSeason 8 = .ok (.getfield 21, 3) := by decide +kernel
theorem dX6_setSeason_11 : decode cX6_setSeason 11 = .ok (.invokevirtual 107, 3) := by decide +kernel
theorem dX6_setSeason_14 : decode cX6_setSeason 14 = .ok (.istore_n 2, 1) := by decide +kernel
theorem dX6_setSeason_15 : decode cX6_setSeason 15 = .ok (.aload_n 0, 1) := by decide +kernel
theorem dX6_setSeason_16 : decode cX6_setSeason 16 = .ok (.getfield 21, 3) := by decide +kernel
theorem dX6_setSeason_19 : decode cX6_setSeason 19 = .ok (.iload_n 1, 1) := by decide +kernel
theorem dX6_setSeason_20 : decode cX6_setSeason 20 = .ok (.invokevirtual 110, 3) := by decide +kernel
theorem dX6_setSeason_23 : decode cX6_setSeason 23 = .ok (.aload_n 0, 1) := by decide +kernel
theorem dX6_setSeason_24 : decode cX6_setSeason 24 = .ok (.invokevirtual 78, 3) := by decide +kernel
theorem dX6_setSeason_27 : decode cX6_setSeason 27 = .ok (.iload_n 2, 1) := by decide +kernel
theorem dX6_setSeason_28 : decode cX6_setSeason 28 = .ok (.ireturn, 1) := by decide +kernel
set_option maxRecDepth 20000 in
theorem ggX6_setCuts_X6_requireBetween : GoodIn wsX6_setCuts wsX6_requireBetween := goodIn_ca (goodIn_r _ [7, 8, 9] (by decide +kernel) (by decide +kernel)) (goodIn_sub (fun _ h => List.mem_cons_of_mem _ (List.mem_append_right _ h)) (by decide +kernel))
set_option maxRecDepth 20000 in
theorem gX6_setCuts_X6_requireBetween : GoodIn wsX6_setCuts (va_wsS RX6 81 yX6_requireBetween wsX6_requireBetween) := goodIn_app (goodIn_of _ (by decide +kernel)) ggX6_setCuts_X6_requireBetween
set_option maxRecDepth 20000 in
theorem ggX6_setCuts_X2_changeCuts : GoodIn wsX6_setCuts wsX2_changeCuts := goodIn_r _ [14, 15, 16, 26, 27, 28, 29, 30, 31, 32, 33, 34, 35, 36, 37] (by decide +kernel) (by decide +kernel)
set_option maxRecDepth 20000 in
theorem gX6_setCuts_X2_changeCuts : GoodIn wsX6_setCuts (wsV RX6 114 RX2 yX2_changeCuts wsX2_changeCuts) := goodIn_app (goodIn_of _ (by decide +kernel)) ggX6_setCuts_X2_changeCuts
theorem dX6_setCuts_0 : decode cX6_setCuts 0 = .ok (.iload_n 1, 1) := by decide +kernel
theorem dX6_setCuts_1 : decode cX6_setCuts 1 = .ok (.iconst 1, 1) := by decide +kernel
theorem dX6_setCuts_2 : decode cX6_setCuts 2 = .ok (.bipush 10, 2) := by decide +kernel
theorem dX6_setCuts_4 : decode cX6_setCuts 4 = .ok (.invokestatic 81, 3) := by decide +kernel
theorem dX6_setCuts_7 : decode cX6_setCuts 7 = .ok (.iload_n 2, 1) := by decide +kernel
theorem dX6_setCuts_8 : decode cX6_setCuts 8 = .ok (.iconst 0, 1) := by decide +kernel
theorem dX6_setCuts_9 : decode cX6_setCuts 9 = .ok (.ldc 113, 2) := by decide +kernel
theorem dX6_setCuts_11 : decode cX6_setCuts 11 = .ok (.invokestatic 81, 3) := by decide +kernel
theorem dX6_setCuts_14 : decode cX6_setCuts 14 = .ok (.aload_n 0, 1) := by decide +kernel
theorem dX6_setCuts_15 : decode cX6_setCuts 15 = .ok (.getfield 30, 3) := by decide +kernel
theorem dX6_setCuts_18 : decode cX6_setCuts 18 = .ok (.iload_n 1, 1) := by decide +kernel
theorem dX6_setCuts_19 : decode cX6_setCuts 19 = .ok (.iload_n 2, 1) := by decide +kernel
theorem dX6_setCuts_20 : decode cX6_setCuts 20 = .ok (.invokevirtual 114, 3) := by decide +kernel
theorem dX6_setCuts_23 : decode cX6_setCuts 23 = .ok (.aload_n 0, 1) := by decide +kernel
theorem dX6_setCuts_24 : decode cX6_setCuts 24 = .ok (.iconst 0, 1) := by decide +kernel
theorem dX6_setCuts_25 : decode cX6_setCuts 25 = .ok (.putfield 61, 3) := by decide +kernel
theorem dX6_setCuts_28 : decode cX6_setCuts 28 = .ok (.return_, 1) := by decide +kernel
set_option maxRecDepth 20000 in
theorem ggX6_setBound_X6_requireBetween : GoodIn wsX6_setBound wsX6_requireBetween := goodIn_ca (goodIn_r _ [6, 7, 8] (by decide +kernel) (by decide +kernel)) (goodIn_sub (fun _ h => List.mem_cons_of_mem _ (List.mem_append_right _ h)) (by decide +kernel))
set_option maxRecDepth 20000 in
theorem gX6_setBound_X6_requireBetween : GoodIn wsX6_setBound (va_wsS RX6 81 yX6_requireBetween wsX6_requireBetween) := goodIn_app (goodIn_of _ (by decide +kernel)) ggX6_setBound_X6_requireBetween
theorem dX6_setBound_0 : decode cX6_setBound 0 = .ok (.iload_n 1, 1) := by decide +kernel
theorem dX6_setBound_1 : decode cX6_setBound 1 = .ok (.bipush 100, 2) := by decide +kernel
theorem dX6_setBound_3 : decode cX6_setBound 3 = .ok (.sipush 2000, 3) := by decide +kernel
theorem dX6_setBound_6 : decode cX6_setBound 6 = .ok (.invokestatic 81, 3) := by decide +kernel
theorem dX6_setBound_9 : decode cX6_setBound 9 = .ok (.iload_n 2, 1) := by decide +kernel
theorem dX6_setBound_10 : decode cX6_setBound 10 = .ok (.iconst 0, 1) := by decide +kernel
theorem dX6_setBound_11 : decode cX6_setBound 11 = .ok (.sipush 1000, 3) := by decide +kernel
theorem dX6_setBound_14 : decode cX6_setBound 14 = .ok (.invokestatic 81, 3) := by decide +kernel
theorem dX6_setBound_17 : decode cX6_setBound 17 = .ok (.aload_n 0, 1) := by decide +kernel
theorem dX6_setBound_18 : decode cX6_setBound 18 = .ok (.iload_n 1, 1) := by decide +kernel
theorem dX6_setBound_19 : decode cX6_setBound 19 = .ok (.putfield 50, 3) := by decide +kernel
theorem dX6_setBound_22 : decode cX6_setBound 22 = .ok (.aload_n 0, 1) := by decide +kernel
theorem dX6_setBound_23 : decode cX6_setBound 23 = .ok (.iload_n 2, 1) := by decide +kernel
theorem dX6_setBound_24 : decode cX6_setBound 24 = .ok (.putfield 54, 3) := by decide +kernel
theorem dX6_setBound_27 : decode cX6_setBound 27 = .ok (.return_, 1) := by decide +kernel
set_option maxRecDepth 20000 in
theorem ggX6_size_X3_count : GoodIn wsX6_size wsX3_count := goodIn_r _ [6, 7, 17, 18, 19] (by decide +kernel) (by decide +kernel)
set_option maxRecDepth 20000 in
theorem gX6_size_X3_count : GoodIn wsX6_size (wsV RX6 71 RX3 yX3_count wsX3_count) := goodIn_app (goodIn_of _ (by decide +kernel)) ggX6_size_X3_count
theorem dX6_size_0 : decode cX6_size 0 = .ok (.aload_n 0, 1) := by decide +kernel
theorem dX6_size_1 : decode cX6_size 1 = .ok (.getfield 10, 3) := by decide +kernel
theorem dX6_size_4 : decode cX6_size 4 = .ok (.invokevirtual 71, 3) := by decide +kernel
theorem dX6_size_7 : decode cX6_size 7 = .ok (.ireturn, 1) := by decide +kernel
set_option maxRecDepth 20000 in
theorem ggX6_value_X6_requireNumber : GoodIn wsX6_value wsX6_requireNumber := goodIn_ca (goodIn_r _ [6, 1, 7, 8, 9, 10, 11, 12, 13, 14, 5, 15, 16, 17, 27, 28, 29, 30, 31, 32, 33, 34, 35, 36, 37, 38] (by decide +kernel) (by decide +kernel)) (goodIn_sub (fun _ h => List.mem_cons_of_mem _ (List.mem_append_right _ h)) (by decide +kernel))
set_option maxRecDepth 20000 in
theorem gX6_value_X6_requireNumber : GoodIn wsX6_value (wsV RX6 85 RX6 yX6_requireNumber wsX6_requireNumber) := goodIn_app (goodIn_of _ (by decide +kernel)) ggX6_value_X6_requireNumber
set_option maxRecDepth 20000 in
theorem ggX6_value_X3_numberAt : GoodIn wsX6_value wsX3_numberAt := goodIn_r _ [21, 22, 23, 24, 25, 10, 26, 12, 36, 37, 38] (by decide +kernel) (by decide +kernel)
set_option maxRecDepth 20000 in
theorem gX6_value_X3_numberAt : GoodIn wsX6_value (wsV RX6 88 RX3 yX3_numberAt wsX3_numberAt) := goodIn_app (goodIn_of _ (by decide +kernel)) ggX6_value_X3_numberAt
theorem dX6_value_0 : decode cX6_value 0 = .ok (.aload_n 0, 1) := by decide +kernel
theorem dX6_value_1 : decode cX6_value 1 = .ok (.iload_n 1, 1) := by decide +kernel
theorem dX6_value_2 : decode cX6_value 2 = .ok (.invokevirtual 85, 3) := by decide +kernel
theorem dX6_value_5 : decode cX6_value 5 = .ok (.aload_n 0, 1) := by decide +kernel
theorem dX6_value_6 : decode cX6_value 6 = .ok (.getfield 10, 3) := by decide +kernel
theorem dX6_value_9 : decode cX6_value 9 = .ok (.iload_n 1, 1) := by decide +kernel
theorem dX6_value_10 : decode cX6_value 10 = .ok (.invokevirtual 88, 3) := by decide +kernel
theorem dX6_value_13 : decode cX6_value 13 = .ok (.ireturn, 1) := by decide +kernel
set_option maxRecDepth 20000 in
theorem ggX6_base_X6_findSeasons : GoodIn wsX6_base wsX6_findSeasons := goodIn_r _ [6, 7, 1, 8, 9, 10, 11, 12, 13, 14, 15, 16, 17, 18, 19, 20, 21, 22, 23, 24, 25, 26, 27, 28, 29, 30, 31, 32, 33, 34, 35, 36, 37, 38, 39, 40, 41, 42, 43, 44, 45, 46, 47, 48, 49, 50, 51, 52, 53, 54, 55, 56, 57, 58, 59, 60, 61, 62, 63, 64, 65, 66, 67, 68, 69, 70, 71, 72, 73, 74, 75, 76, 81, 82, 83, 84, 85, 86, 87, 88, 89, 90, 91, 92, 93, 94, 95, 96, 97, 98, 99, 100, 101, 102] (by decide +kernel) (by decide +kernel)
set_option maxRecDepth 20000 in
theorem gX6_base_X6_findSeasons : GoodIn wsX6_base (wsV RX6 117 RX6 yX6_findSeasons wsX6_findSeasons) := goodIn_app (goodIn_of _ (by decide +kernel)) ggX6_base_X6_findSeasons
set_option maxRecDepth 20000 in
theorem ggX6_base_X1_middleOfAll : GoodIn wsX6_base wsX1_middleOfAll := goodIn_r _ [80, 22, 90, 91, 92, 93, 94, 95] (by decide +kernel) (by decide +kernel)
set_option maxRecDepth 20000 in
theorem gX6_base_X1_middleOfAll : GoodIn wsX6_base (wsV RX6 120 RX1 yX1_middleOfAll wsX1_middleOfAll) := goodIn_app (goodIn_of _ (by decide +kernel)) ggX6_base_X1_middleOfAll
theorem dX6_base_0 : decode cX6_base 0 = .ok (.aload_n 0, 1) := by decide +kernel
theorem dX6_base_1 : decode cX6_base 1 = .ok (.invokevirtual 117, 3) := by decide +kernel
theorem dX6_base_4 : decode cX6_base 4 = .ok (.aload_n 0, 1) := by decide +kernel
theorem dX6_base_5 : decode cX6_base 5 = .ok (.getfield 21, 3) := by decide +kernel
theorem dX6_base_8 : decode cX6_base 8 = .ok (.invokevirtual 120, 3) := by decide +kernel
theorem dX6_base_11 : decode cX6_base 11 = .ok (.ireturn, 1) := by decide +kernel
set_option maxRecDepth 20000 in
theorem ggX6_season_X1_length : GoodIn wsX6_season wsX1_length := goodIn_r _ [6, 7, 99, 100, 101, 102, 103, 104] (by decide +kernel) (by decide +kernel)
set_option maxRecDepth 20000 in
theorem gX6_season_X1_length : GoodIn wsX6_season (wsV RX6 107 RX1 yX1_length wsX1_length) := goodIn_app (goodIn_of _ (by decide +kernel)) ggX6_season_X1_length
set_option maxRecDepth 20000 in
theorem ggX6_season_X6_requireIndex : GoodIn wsX6_season wsX6_requireIndex := goodIn_ca (goodIn_r _ [11, 12, 13] (by decide +kernel) (by decide +kernel)) (goodIn_sub (fun _ h => List.mem_cons_of_mem _ (List.mem_append_right _ h)) (by decide +kernel))
set_option maxRecDepth 20000 in
theorem gX6_season_X6_requireIndex : GoodIn wsX6_season (va_wsS RX6 123 yX6_requireIndex wsX6_requireIndex) := goodIn_app (goodIn_of _ (by decide +kernel)) ggX6_season_X6_requireIndex
set_option maxRecDepth 20000 in
theorem ggX6_season_X6_findSeasons : GoodIn wsX6_season wsX6_findSeasons := goodIn_r _ [17, 18, 1, 19, 20, 21, 5, 22, 7, 23, 24, 25, 26, 27, 28, 29, 30, 31, 32, 33, 34, 35, 36, 37, 38, 39, 40, 41, 42, 43, 44, 45, 46, 47, 48, 49, 50, 51, 52, 53, 54, 55, 56, 57, 58, 59, 60, 61, 62, 63, 64, 65, 66, 67, 68, 69, 70, 71, 72, 73, 74, 75, 76, 77, 78, 79, 80, 81, 82, 83, 84, 85, 90, 91, 92, 93, 94, 95, 96, 97, 98, 99, 100, 101, 102, 103, 104, 105, 106, 107, 108, 109, 110, 111] (by decide +kernel) (by decide +kernel)
set_option maxRecDepth 20000 in
theorem gX6_season_X6_findSeasons : GoodIn wsX6_season (wsV RX6 117 RX6 yX6_findSeasons wsX6_findSeasons) := goodIn_app (goodIn_of _ (by decide +kernel)) ggX6_season_X6_findSeasons
set_option maxRecDepth 20000 in
theorem ggX6_season_X1_ofPhase : GoodIn wsX6_season wsX1_ofPhase := goodIn_r _ [89, 25, 82, 83, 84, 79, 85, 81, 99, 100, 101, 102, 103, 104, 111] (by decide +kernel) (by decide +kernel)
set_option maxRecDepth 20000 in
theorem gX6_season_X1_ofPhase : GoodIn wsX6_season (wsV RX6 126 RX1 yX1_ofPhase wsX1_ofPhase) := goodIn_app (goodIn_of _ (by decide +kernel)) ggX6_season_X1_ofPhase
theorem dX6_season_0 : decode cX6_season 0 = .ok (.iload_n 1, 1) := by decide +kernel
theorem dX6_season_1 : decode cX6_season 1 = .ok (.iconst 0, 1) := by decide +kernel
theorem dX6_season_2 : decode cX6_season 2 = .ok (.aload_n 0, 1) := by decide +kernel
theorem dX6_season_3 : decode cX6_season 3 = .ok (.getfield 21, 3) := by decide +kernel
theorem dX6_season_6 : decode cX6_season 6 = .ok (.invokevirtual 107, 3) := by decide +kernel
theorem dX6_season_9 : decode cX6_season 9 = .ok (.invokestatic 123, 3) := by decide +kernel
theorem dX6_season_12 : decode cX6_season 12 = .ok (.aload_n 0, 1) := by decide +kernel
theorem dX6_season_13 : decode cX6_season 13 = .ok (.invokevirtual 117, 3) := by decide +kernel
theorem dX6_season_16 : decode cX6_season 16 = .ok (.aload_n 0, 1) := by decide +kernel
theorem dX6_season_17 : decode cX6_season 17 = .ok (.getfield 21, 3) := by decide +kernel
theorem dX6_season_20 : decode cX6_season 20 = .ok (.iload_n 1, 1) := by decide +kernel
theorem dX6_season_21 : decode cX6_season 21 = .ok (.invokevirtual 126, 3) := by decide +kernel
theorem dX6_season_24 : decode cX6_season 24 = .ok (.ireturn, 1) := by decide +kernel
set_option maxRecDepth 20000 in
theorem ggX6_adjusted_X6_requireNumber : GoodIn wsX6_adjusted wsX6_requireNumber := goodIn_ca (goodIn_r _ [6, 7, 8, 9, 10, 11, 12, 13, 14, 15, 5, 16, 17, 18, 92, 93, 94, 95, 96, 97, 98, 99, 100, 101, 102, 103] (by decide +kernel) (by decide +kernel)) (goodIn_sub (fun _ h => List.mem_cons_of_mem _ (List.mem_append_right _ h)) (by decide +kernel))
set_option maxRecDepth 20000 in
theorem gX6_adjusted_X6_requireNumber : GoodIn wsX6_adjusted (wsV RX6 85 RX6 yX6_requireNumber wsX6_requireNumber) := goodIn_app (goodIn_of _ (by decide +kernel)) ggX6_adjusted_X6_requireNumber
set_option maxRecDepth 20000 in
theorem ggX6_adjusted_X6_findSeasons : GoodIn wsX6_adjusted wsX6_findSeasons := goodIn_r _ [22, 23, 1, 24, 25, 26, 27, 28, 29, 30, 31, 32, 33, 34, 35, 36, 37, 38, 39, 40, 41, 42, 43, 44, 45, 46, 9, 10, 11, 12, 13, 47, 48, 49, 50, 51, 52, 53, 54, 55, 56, 57, 58, 59, 60, 61, 62, 63, 64, 65, 66, 67, 68, 69, 70, 71, 72, 73, 74, 75, 76, 77, 78, 79, 80, 81, 82, 83, 84, 85, 86, 87, 92, 93, 94, 95, 96, 97, 98, 99, 100, 104, 105, 106, 107, 108, 109, 110, 111, 112, 101, 102, 103, 113] (by decide +kernel) (by decide +kernel)
set_option maxRecDepth 20000 in
theorem gX6_adjusted_X6_findSeasons : GoodIn wsX6_adjusted (wsV RX6 117 RX6 yX6_findSeasons wsX6_findSeasons) := goodIn_app (goodIn_of _ (by decide +kernel)) ggX6_adjusted_X6_findSeasons
set_option maxRecDepth 20000 in
theorem ggX6_adjusted_X1_adjustedAt : GoodIn wsX6_adjusted wsX1_adjustedAt := goodIn_r _ [91, 31, 84, 85, 86, 81, 87, 83, 104, 105, 106, 107, 108, 109, 113] (by decide +kernel) (by decide +kernel)
set_option maxRecDepth 20000 in
theorem gX6_adjusted_X1_adjustedAt : GoodIn wsX6_adjusted (wsV RX6 129 RX1 yX1_adjustedAt wsX1_adjustedAt) := goodIn_app (goodIn_of _ (by decide +kernel)) ggX6_adjusted_X1_adjustedAt
theorem dX6_adjusted_0 : decode cX6_adjusted 0 = .ok (.aload_n 0, 1) := by decide +kernel
theorem dX6_adjusted_1 : decode cX6_adjusted 1 = .ok (.iload_n 1, 1) := by decide +kernel
theorem dX6_adjusted_2 : decode cX6_adjusted 2 = .ok (.invokevirtual 85, 3) := by decide +kernel
theorem dX6_adjusted_5 : decode cX6_adjusted 5 = .ok (.aload_n 0, 1) := by decide +kernel
theorem dX6_adjusted_6 : decode cX6_adjusted 6 = .ok (.invokevirtual 117, 3) := by decide +kernel
theorem dX6_adjusted_9 : decode cX6_adjusted 9 = .ok (.aload_n 0, 1) := by decide +kernel
theorem dX6_adjusted_10 : decode cX6_adjusted 10 = .ok (.getfield 21, 3) := by decide +kernel
theorem dX6_adjusted_13 : decode cX6_adjusted 13 = .ok (.iload_n 1, 1) := by decide +kernel
theorem dX6_adjusted_14 : decode cX6_adjusted 14 = .ok (.invokevirtual 129, 3) := by decide +kernel
theorem dX6_adjusted_17 : decode cX6_adjusted 17 = .ok (.ireturn, 1) := by decide +kernel
set_option maxRecDepth 20000 in
theorem ggX6_segments_X6_findSegments : GoodIn wsX6_segments wsX6_findSegments := goodIn_r _ [6, 7, 1, 8, 9, 10, 5, 11, 12, 13, 14, 15, 16, 17, 18, 19, 20, 21, 22, 23, 24, 25, 26, 27, 28, 29, 30, 31, 32, 33, 34, 35, 36, 37, 38, 39, 40, 41, 42, 43, 44, 45, 46, 47, 48, 49, 50, 51, 52, 53, 54, 55, 56, 57, 58, 59, 60, 61, 62, 63, 64, 65, 66, 67, 68, 69, 70, 71, 72, 73, 74, 75, 76, 77, 78, 79, 80, 81, 82, 83, 84, 85, 86, 87, 88, 89, 90, 91, 92, 93, 94, 95, 96, 97, 98, 99, 100, 101, 102, 103, 104, 105, 106, 107, 108, 109, 110, 111, 112, 113, 114, 115, 116, 117, 118, 119, 120, 121, 122, 123, 124, 125, 126, 127, 128, 129, 130, 131, 132, 133, 134, 135, 136, 137, 138, 139, 144, 145, 146, 147, 148, 149, 150, 151, 152, 153, 154, 155, 156, 157, 158, 159, 160, 161, 162, 163, 164, 165, 166, 167, 168, 169, 170, 171, 172, 173, 174, 175, 176, 177] (by decide +kernel) (by decide +kernel)
set_option maxRecDepth 20000 in
theorem gX6_segments_X6_findSegments : GoodIn wsX6_segments (wsV RX6 132 RX6 yX6_findSegments wsX6_findSegments) := goodIn_app (goodIn_of _ (by decide +kernel)) ggX6_segments_X6_findSegments
set_option maxRecDepth 20000 in
theorem ggX6_segments_X2_howMany : GoodIn wsX6_segments wsX2_howMany := goodIn_r _ [143, 131, 166, 167, 168, 169, 170, 171, 172, 173, 174, 175, 176, 177] (by decide +kernel) (by decide +kernel)
set_option maxRecDepth 20000 in
theorem gX6_segments_X2_howMany : GoodIn wsX6_segments (wsV RX6 135 RX2 yX2_howMany wsX2_howMany) := goodIn_app (goodIn_of _ (by decide +kernel)) ggX6_segments_X2_howMany
theorem dX6_segments_0 : decode cX6_segments 0 = .ok (.aload_n 0, 1) := by decide +kernel
theorem dX6_segments_1 : decode cX6_segments 1 = .ok (.invokevirtual 132, 3) := by decide +kernel
theorem dX6_segments_4 : decode cX6_segments 4 = .ok (.aload_n 0, 1) := by decide +kernel
theorem dX6_segments_5 : decode cX6_segments 5 = .ok (.getfield 30, 3) := by decide +kernel
theorem dX6_segments_8 : decode cX6_segments 8 = .ok (.invokevirtual 135, 3) := by decide +kernel
theorem dX6_segments_11 : decode cX6_segments 11 = .ok (.ireturn, 1) := by decide +kernel
set_option maxRecDepth 20000 in
theorem ggX6_startOf_X6_findSegments : GoodIn wsX6_startOf wsX6_findSegments := goodIn_r _ [6, 7, 1, 8, 9, 10, 5, 11, 12, 13, 14, 15, 16, 17, 18, 19, 20, 21, 22, 23, 24, 25, 26, 27, 28, 29, 30, 31, 32, 33, 34, 35, 36, 37, 38, 39, 40, 41, 42, 43, 44, 45, 46, 47, 48, 49, 50, 51, 52, 53, 54, 55, 56, 57, 58, 59, 60, 61, 62, 63, 64, 65, 66, 67, 68, 69, 70, 71, 72, 73, 74, 75, 76, 77, 78, 79, 80, 81, 82, 83, 84, 85, 86, 87, 88, 89, 90, 91, 92, 93, 94, 95, 96, 97, 98, 99, 100, 101, 102, 103, 104, 105, 106, 107, 108, 109, 110, 111, 112, 113, 114, 115, 116, 117, 118, 119, 120, 121, 122, 123, 124, 125, 126, 127, 128, 129, 130, 131, 132, 133, 134, 135, 136, 137, 138, 139, 153, 154, 155, 156, 157, 158, 159, 160, 161, 162, 163, 164, 165, 166, 167, 168, 169, 170, 171, 172, 173, 174, 175, 176, 177, 178, 179, 180, 181, 182, 183, 184, 185, 186] (by decide +kernel) (by decide +kernel)
set_option maxRecDepth 20000 in
theorem gX6_startOf_X6_findSegments : GoodIn wsX6_startOf (wsV RX6 132 RX6 yX6_findSegments wsX6_findSegments) := goodIn_app (goodIn_of _ (by decide +kernel)) ggX6_startOf_X6_findSegments
set_option maxRecDepth 20000 in
theorem ggX6_startOf_X2_howMany : GoodIn wsX6_startOf wsX2_howMany := goodIn_r _ [143, 131, 175, 176, 177, 178, 179, 180, 181, 182, 183, 184, 185, 186] (by decide +kernel) (by decide +kernel)
set_option maxRecDepth 20000 in
theorem gX6_startOf_X2_howMany : GoodIn wsX6_startOf (wsV RX6 135 RX2 yX2_howMany wsX2_howMany) := goodIn_app (goodIn_of _ (by decide +kernel)) ggX6_startOf_X2_howMany
set_option maxRecDepth 20000 in
theorem ggX6_startOf_X6_requireIndex : GoodIn wsX6_startOf wsX6_requireIndex := goodIn_ca (goodIn_r _ [146, 147, 148] (by decide +kernel) (by decide +kernel)) (goodIn_sub (fun _ h => List.mem_cons_of_mem _ (List.mem_append_right _ h)) (by decide +kernel))
set_option maxRecDepth 20000 in
theorem gX6_startOf_X6_requireIndex : GoodIn wsX6_startOf (va_wsS RX6 123 yX6_requireIndex wsX6_requireIndex) := goodIn_app (goodIn_of _ (by decide +kernel)) ggX6_startOf_X6_requireIndex
set_option maxRecDepth 20000 in
theorem ggX6_startOf_X2_startAt : GoodIn wsX6_startOf wsX2_startAt := goodIn_r _ [152, 132, 122, 80, 81, 76, 82, 78, 175, 176, 177, 178, 179, 180, 181, 182, 183, 184, 185, 186, 174] (by decide +kernel) (by decide +kernel)
set_option maxRecDepth 20000 in
theorem gX6_startOf_X2_startAt : GoodIn wsX6_startOf (wsV RX6 138 RX2 yX2_startAt wsX2_startAt) := goodIn_app (goodIn_of _ (by decide +kernel)) ggX6_startOf_X2_startAt
theorem dX6_startOf_0 : decode cX6_startOf 0 = .ok (.aload_n 0, 1) := by decide +kernel
theorem dX6_startOf_1 : decode cX6_startOf 1 = .ok (.invokevirtual 132, 3) := by decide +kernel
theorem dX6_startOf_4 : decode cX6_startOf 4 = .ok (.iload_n 1, 1) := by decide +kernel
theorem dX6_startOf_5 : decode cX6_startOf 5 = .ok (.iconst 0, 1) := by decide +kernel
theorem dX6_startOf_6 : decode cX6_startOf 6 = .ok (.aload_n 0, 1) := by decide +kernel
theorem dX6_startOf_7 : decode cX6_startOf 7 = .ok (.getfield 30, 3) := by decide +kernel
theorem dX6_startOf_10 : decode cX6_startOf 10 = .ok (.invokevirtual 135, 3) := by decide +kernel
theorem dX6_startOf_13 : decode cX6_startOf 13 = .ok (.invokestatic 123, 3) := by decide +kernel
theorem dX6_startOf_16 : decode cX6_startOf 16 = .ok (.aload_n 0, 1) := by decide +kernel
theorem dX6_startOf_17 : decode cX6_startOf 17 = .ok (.getfield 30, 3) := by decide +kernel
theorem dX6_startOf_20 : decode cX6_startOf 20 = .ok (.iload_n 1, 1) := by decide +kernel
theorem dX6_startOf_21 : decode cX6_startOf 21 = .ok (.invokevirtual 138, 3) := by decide +kernel
theorem dX6_startOf_24 : decode cX6_startOf 24 = .ok (.ireturn, 1) := by decide +kernel
set_option maxRecDepth 20000 in
theorem ggX6_levelOf_X6_findSegments : GoodIn wsX6_levelOf wsX6_findSegments := goodIn_r _ [6, 7, 1, 8, 9, 10, 5, 11, 12, 13, 14, 15, 16, 17, 18, 19, 20, 21, 22, 23, 24, 25, 26, 27, 28, 29, 30, 31, 32, 33, 34, 35, 36, 37, 38, 39, 40, 41, 42, 43, 44, 45, 46, 47, 48, 49, 50, 51, 52, 53, 54, 55, 56, 57, 58, 59, 60, 61, 62, 63, 64, 65, 66, 67, 68, 69, 70, 71, 72, 73, 74, 75, 76, 77, 78, 79, 80, 81, 82, 83, 84, 85, 86, 87, 88, 89, 90, 91, 92, 93, 94, 95, 96, 97, 98, 99, 100, 101, 102, 103, 104, 105, 106, 107, 108, 109, 110, 111, 112, 113, 114, 115, 116, 117, 118, 119, 120, 121, 122, 123, 124, 125, 126, 127, 128, 129, 130, 131, 132, 133, 134, 135, 136, 137, 138, 139, 153, 154, 155, 156, 157, 158, 159, 160, 161, 162, 163, 164, 165, 166, 167, 168, 169, 170, 171, 172, 173, 174, 175, 176, 177, 178, 179, 180, 181, 182, 183, 184, 185, 186] (by decide +kernel) (by decide +kernel)
set_option maxRecDepth 20000 in
theorem gX6_levelOf_X6_findSegments : GoodIn wsX6_levelOf (wsV RX6 132 RX6 yX6_findSegments wsX6_findSegments) := goodIn_app (goodIn_of _ (by decide +kernel)) ggX6_levelOf_X6_findSegments
set_option maxRecDepth 20000 in
theorem ggX6_levelOf_X2_howMany : GoodIn wsX6_levelOf wsX2_howMany := goodIn_r _ [143, 131, 175, 176, 177, 178, 179, 180, 181, 182, 183, 184, 185, 186] (by decide +kernel) (by decide +kernel)
set_option maxRecDepth 20000 in
theorem gX6_levelOf_X2_howMany : GoodIn wsX6_levelOf (wsV RX6 135 RX2 yX2_howMany wsX2_howMany) := goodIn_app (goodIn_of _ (by decide +kernel)) ggX6_levelOf_X2_howMany
set_option maxRecDepth 20000 in
theorem ggX6_levelOf_X6_requireIndex : GoodIn wsX6_levelOf wsX6_requireIndex := goodIn_ca (goodIn_r _ [146, 147, 148] (by decide +kernel) (by decide +kernel)) (goodIn_sub (fun _ h => List.mem_cons_of_mem _ (List.mem_append_right _ h)) (by decide +kernel))
set_option maxRecDepth 20000 in
theorem gX6_levelOf_X6_requireIndex : GoodIn wsX6_levelOf (va_wsS RX6 123 yX6_requireIndex wsX6_requireIndex) := goodIn_app (goodIn_of _ (by decide +kernel)) ggX6_levelOf_X6_requireIndex
set_option maxRecDepth 20000 in
theorem ggX6_levelOf_X2_levelAt : GoodIn wsX6_levelOf wsX2_levelAt := goodIn_r _ [152, 133, 122, 80, 81, 76, 82, 78, 175, 176, 177, 178, 179, 180, 181, 182, 183, 184, 185, 186, 174] (by decide +kernel) (by decide +kernel)
set_option maxRecDepth 20000 in
theorem gX6_levelOf_X2_levelAt : GoodIn wsX6_levelOf (wsV RX6 141 RX2 yX2_levelAt wsX2_levelAt) := goodIn_app (goodIn_of _ (by decide +kernel)) ggX6_levelOf_X2_levelAt
theorem dX6_levelOf_0 : decode cX6_levelOf 0 = .ok (.aload_n 0, 1) := by decide +kernel
theorem dX6_levelOf_1 : decode cX6_levelOf 1 = .ok (.invokevirtual 132, 3) := by decide +kernel
theorem dX6_levelOf_4 : decode cX6_levelOf 4 = .ok (.iload_n 1, 1) := by decide +kernel
theorem dX6_levelOf_5 : decode cX6_levelOf 5 = .ok (.iconst 0, 1) := by decide +kernel
theorem dX6_levelOf_6 : decode cX6_levelOf 6 = .ok (.aload_n 0, 1) := by decide +kernel
theorem dX6_levelOf_7 : decode cX6_levelOf 7 = .ok (.getfield 30, 3) := by decide +kernel
theorem dX6_levelOf_10 : decode cX6_levelOf 10 = .ok (.invokevirtual 135, 3) := by decide +kernel
theorem dX6_levelOf_13 : decode cX6_levelOf 13 = .ok (.invokestatic 123, 3) := by decide +kernel
theorem dX6_levelOf_16 : decode cX6_levelOf 16 = .ok (.aload_n 0, 1) := by decide +kernel
theorem dX6_levelOf_17 : decode cX6_levelOf 17 = .ok (.getfield 30, 3) := by decide +kernel
theorem dX6_levelOf_20 : decode cX6_levelOf 20 = .ok (.iload_n 1, 1) := by decide +kernel
theorem dX6_levelOf_21 : decode cX6_levelOf 21 = .ok (.invokevirtual 141, 3) := by decide +kernel
theorem dX6_levelOf_24 : decode cX6_levelOf 24 = .ok (.ireturn, 1) := by decide +kernel
set_option maxRecDepth 20000 in
theorem ggX6_cost_X6_findSegments : GoodIn wsX6_cost wsX6_findSegments := goodIn_r _ [6, 7, 1, 8, 9, 10, 5, 11, 12, 13, 14, 15, 16, 17, 18, 19, 20, 21, 22, 23, 24, 25, 26, 27, 28, 29, 30, 31, 32, 33, 34, 35, 36, 37, 38, 39, 40, 41, 42, 43, 44, 45, 46, 47, 48, 49, 50, 51, 52, 53, 54, 55, 56, 57, 58, 59, 60, 61, 62, 63, 64, 65, 66, 67, 68, 69, 70, 71, 72, 73, 74, 75, 76, 77, 78, 79, 80, 81, 82, 83, 84, 85, 86, 87, 88, 89, 90, 91, 92, 93, 94, 95, 96, 97, 98, 99, 100, 101, 102, 103, 104, 105, 106, 107, 108, 109, 110, 111, 112, 113, 114, 115, 116, 117, 118, 119, 120, 121, 122, 123, 124, 125, 126, 127, 128, 129, 130, 131, 132, 133, 134, 135, 136, 137, 138, 139, 144, 145, 146, 147, 148, 149, 150, 151, 152, 153, 154, 155, 156, 157, 158, 159, 160, 161, 162, 163, 164, 165, 166, 167, 168, 169, 170, 171, 172, 173, 174, 175, 176, 177] (by decide +kernel) (by decide +kernel)
set_option maxRecDepth 20000 in
theorem gX6_cost_X6_findSegments : GoodIn wsX6_cost (wsV RX6 132 RX6 yX6_findSegments wsX6_findSegments) := goodIn_app (goodIn_of _ (by decide +kernel)) ggX6_cost_X6_findSegments
set_option maxRecDepth 20000 in
theorem ggX6_cost_X2_wholeCost : GoodIn wsX6_cost wsX2_wholeCost := goodIn_r _ [143, 131, 98, 122, 80, 81, 76, 82, 78, 166, 167, 168, 169, 170, 171, 172, 173, 174, 175, 176, 177, 165] (by decide +kernel) (by decide +kernel)
set_option maxRecDepth 20000 in
theorem gX6_cost_X2_wholeCost : GoodIn wsX6_cost (wsV RX6 144 RX2 yX2_wholeCost wsX2_wholeCost) := goodIn_app (goodIn_of _ (by decide +kernel)) ggX6_cost_X2_wholeCost
theorem dX6_cost_0 : decode cX6_cost 0 = .ok (.aload_n 0, 1) := by decide +kernel
theorem dX6_cost_1 : decode cX6_cost 1 = .ok (.invokevirtual 132, 3) := by decide +kernel
theorem dX6_cost_4 : decode cX6_cost 4 = .ok (.aload_n 0, 1) := by decide +kernel
theorem dX6_cost_5 : decode cX6_cost 5 = .ok (.getfield 30, 3) := by decide +kernel
theorem dX6_cost_8 : decode cX6_cost 8 = .ok (.invokevirtual 144, 3) := by decide +kernel
theorem dX6_cost_11 : decode cX6_cost 11 = .ok (.ireturn, 1) := by decide +kernel
set_option maxRecDepth 20000 in
theorem ggX6_costUncut_X6_findSeasons : GoodIn wsX6_costUncut wsX6_findSeasons := goodIn_r _ [7, 8, 9, 10, 11, 12, 13, 14, 15, 16, 17, 18, 19, 20, 21, 22, 23, 24, 25, 26, 27, 28, 29, 30, 31, 32, 33, 34, 35, 36, 37, 38, 39, 40, 41, 42, 43, 44, 45, 46, 47, 48, 49, 50, 51, 52, 53, 54, 55, 56, 57, 58, 59, 60, 61, 62, 63, 64, 65, 66, 67, 68, 69, 70, 71, 72, 73, 74, 75, 76, 77, 78, 107, 108, 109, 110, 111, 112, 113, 114, 115, 116, 117, 118, 119, 120, 121, 122, 123, 124, 125, 126, 127, 128] (by decide +kernel) (by decide +kernel)
set_option maxRecDepth 20000 in
theorem gX6_costUncut_X6_findSeasons : GoodIn wsX6_costUncut (wsV RX6 117 RX6 yX6_findSeasons wsX6_findSeasons) := goodIn_app (goodIn_of _ (by decide +kernel)) ggX6_costUncut_X6_findSeasons
set_option maxRecDepth 20000 in
theorem ggX6_costUncut_X3_count : GoodIn wsX6_costUncut wsX3_count := goodIn_r _ [36, 37, 125, 126, 127] (by decide +kernel) (by decide +kernel)
set_option maxRecDepth 20000 in
theorem gX6_costUncut_X3_count : GoodIn wsX6_costUncut (wsV RX6 71 RX3 yX3_count wsX3_count) := goodIn_app (goodIn_of _ (by decide +kernel)) ggX6_costUncut_X3_count
set_option maxRecDepth 20000 in
theorem ggX6_costUncut_X2_costBetween : GoodIn wsX6_costUncut wsX2_costBetween := goodIn_r _ [84, 85, 86, 87, 88, 83, 89, 90, 26, 27, 28, 29, 30, 31, 91, 92, 93, 94, 95, 96, 97, 39, 40, 35, 41, 42, 43, 44, 45, 46, 37, 98, 99, 100, 13, 101, 17, 75, 76, 77, 72, 78, 74, 102, 53, 54, 55, 56, 103, 104, 105, 106, 129, 130, 131, 132, 133, 134, 135, 136, 137, 138, 139, 140, 122, 123, 124, 125, 126, 127, 116, 117, 118, 119, 120, 121, 128] (by decide +kernel) (by decide +kernel)
set_option maxRecDepth 20000 in
theorem gX6_costUncut_X2_costBetween : GoodIn wsX6_costUncut (wsV RX6 147 RX2 yX2_costBetween wsX2_costBetween) := goodIn_app (goodIn_of _ (by decide +kernel)) ggX6_costUncut_X2_costBetween
theorem dX6_costUncut_0 : decode cX6_costUncut 0 = .ok (.aload_n 0, 1) := by decide +kernel
theorem dX6_costUncut_1 : decode cX6_costUncut 1 = .ok (.invokevirtual 117, 3) := by decide +kernel
theorem dX6_costUncut_4 : decode cX6_costUncut 4 = .ok (.aload_n 0, 1) := by decide +kernel
theorem dX6_costUncut_5 : decode cX6_costUncut 5 = .ok (.getfield 30, 3) := by decide +kernel
theorem dX6_costUncut_8 : decode cX6_costUncut 8 = .ok (.iconst 0, 1) := by decide +kernel
theorem dX6_costUncut_9 : decode cX6_costUncut 9 = .ok (.aload_n 0, 1) := by decide +kernel
theorem dX6_costUncut_10 : decode cX6_costUncut 10 = .ok (.getfield 10, 3) := by decide +kernel
theorem dX6_costUncut_13 : decode cX6_costUncut 13 = .ok (.invokevirtual 71, 3) := by decide +kernel
theorem dX6_costUncut_16 : decode cX6_costUncut 16 = .ok (.invokevirtual 147, 3) := by decide +kernel
theorem dX6_costUncut_19 : decode cX6_costUncut 19 = .ok (.ireturn, 1) := by decide +kernel
set_option maxRecDepth 20000 in
theorem ggX6_costCutAt_X3_count : GoodIn wsX6_costCutAt wsX3_count := goodIn_r _ [9, 10, 133, 134, 135] (by decide +kernel) (by decide +kernel)
set_option maxRecDepth 20000 in
theorem gX6_costCutAt_X3_count : GoodIn wsX6_costCutAt (wsV RX6 71 RX3 yX3_count wsX3_count) := goodIn_app (goodIn_of _ (by decide +kernel)) ggX6_costCutAt_X3_count
set_option maxRecDepth 20000 in
theorem ggX6_costCutAt_X6_requireIndex : GoodIn wsX6_costCutAt wsX6_requireIndex := goodIn_ca (goodIn_r _ [14, 15, 16] (by decide +kernel) (by decide +kernel)) (goodIn_sub (fun _ h => List.mem_cons_of_mem _ (List.mem_append_right _ h)) (by decide +kernel))
set_option maxRecDepth 20000 in
theorem gX6_costCutAt_X6_requireIndex : GoodIn wsX6_costCutAt (va_wsS RX6 123 yX6_requireIndex wsX6_requireIndex) := goodIn_app (goodIn_of _ (by decide +kernel)) ggX6_costCutAt_X6_requireIndex
set_option maxRecDepth 20000 in
theorem ggX6_costCutAt_X2_leastLength : GoodIn wsX6_costCutAt wsX2_leastLength := goodIn_r _ [21, 22, 136, 137, 138, 139, 140, 141, 142, 143, 144, 145, 146, 147] (by decide +kernel) (by decide +kernel)
set_option maxRecDepth 20000 in
theorem gX6_costCutAt_X2_leastLength : GoodIn wsX6_costCutAt (wsV RX6 151 RX2 yX2_leastLength wsX2_leastLength) := goodIn_app (goodIn_of _ (by decide +kernel)) ggX6_costCutAt_X2_leastLength
set_option maxRecDepth 20000 in
theorem ggX6_costCutAt_X6_findSeasons : GoodIn wsX6_costCutAt wsX6_findSeasons := goodIn_r _ [26, 27, 28, 29, 30, 31, 32, 33, 34, 35, 36, 37, 38, 39, 40, 41, 42, 43, 44, 45, 46, 47, 48, 49, 50, 51, 6, 7, 8, 9, 10, 52, 53, 54, 55, 56, 57, 58, 59, 60, 61, 62, 63, 64, 65, 66, 67, 68, 69, 70, 71, 72, 73, 74, 75, 76, 77, 78, 79, 80, 81, 82, 83, 84, 85, 86, 87, 88, 89, 90, 91, 92, 124, 125, 126, 127, 128, 129, 130, 131, 132, 148, 149, 150, 151, 152, 153, 154, 155, 156, 133, 134, 135, 157] (by decide +kernel) (by decide +kernel)
set_option maxRecDepth 20000 in
theorem gX6_costCutAt_X6_findSeasons : GoodIn wsX6_costCutAt (wsV RX6 117 RX6 yX6_findSeasons wsX6_findSeasons) := goodIn_app (goodIn_of _ (by decide +kernel)) ggX6_costCutAt_X6_findSeasons
set_option maxRecDepth 20000 in
theorem ggX6_costCutAt_X2_costBetween : GoodIn wsX6_costCutAt wsX2_costBetween := goodIn_r _ [96, 97, 98, 99, 100, 20, 101, 102, 45, 46, 47, 48, 49, 50, 103, 104, 105, 106, 107, 108, 109, 53, 54, 8, 55, 56, 57, 58, 59, 60, 10, 110, 111, 112, 32, 113, 36, 89, 90, 91, 86, 92, 88, 114, 67, 68, 69, 70, 115, 116, 117, 118, 136, 137, 138, 139, 140, 141, 142, 143, 144, 145, 146, 147, 154, 155, 156, 133, 134, 135, 148, 149, 150, 151, 152, 153, 157] (by decide +kernel) (by decide +kernel)
set_option maxRecDepth 20000 in
theorem gX6_costCutAt_X2_costBetween : GoodIn wsX6_costCutAt (wsV RX6 147 RX2 yX2_costBetween wsX2_costBetween) := goodIn_app (goodIn_of _ (by decide +kernel)) ggX6_costCutAt_X2_costBetween
set_option maxRecDepth 20000 in
theorem ggX6_costCutAt_X2_penaltyOfCut : GoodIn wsX6_costCutAt wsX2_penaltyOfCut := goodIn_r _ [122, 123, 136, 137, 138, 139, 140, 141, 142, 143, 144, 145, 146, 147] (by decide +kernel) (by decide +kernel)
set_option maxRecDepth 20000 in
theorem gX6_costCutAt_X2_penaltyOfCut : GoodIn wsX6_costCutAt (wsV RX6 161 RX2 yX2_penaltyOfCut wsX2_penaltyOfCut) := goodIn_app (goodIn_of _ (by decide +kernel)) ggX6_costCutAt_X2_penaltyOfCut
theorem dX6_costCutAt_0 : decode cX6_costCutAt 0 = .ok (.aload_n 0, 1) := by decide +kernel
theorem dX6_costCutAt_1 : decode cX6_costCutAt 1 = .ok (.getfield 10, 3) := by decide +kernel
theorem dX6_costCutAt_4 : decode cX6_costCutAt 4 = .ok (.invokevirtual 71, 3) := by decide +kernel
theorem dX6_costCutAt_7 : decode cX6_costCutAt 7 = .ok (.istore_n 2, 1) := by decide +kernel
theorem dX6_costCutAt_8 : decode cX6_costCutAt 8 = .ok (.iload_n 1, 1) := by decide +kernel
theorem dX6_costCutAt_9 : decode cX6_costCutAt 9 = .ok (.iconst 1, 1) := by decide +kernel
theorem dX6_costCutAt_10 : decode cX6_costCutAt 10 = .ok (.iload_n 2, 1) := by decide +kernel
theorem dX6_costCutAt_11 : decode cX6_costCutAt 11 = .ok (.invokestatic 123, 3) := by decide +kernel
theorem dX6_costCutAt_14 : decode cX6_costCutAt 14 = .ok (.iload_n 1, 1) := by decide +kernel
theorem dX6_costCutAt_15 : decode cX6_costCutAt 15 = .ok (.aload_n 0, 1) := by decide +kernel
theorem dX6_costCutAt_16 : decode cX6_costCutAt 16 = .ok (.getfield 30, 3) := by decide +kernel
theorem dX6_costCutAt_19 : decode cX6_costCutAt 19 = .ok (.invokevirtual 151, 3) := by decide +kernel
theorem dX6_costCutAt_22 : decode cX6_costCutAt 22 = .ok (.if_icmp .lt 16, 3) := by decide +kernel
theorem dX6_costCutAt_25 : decode cX6_costCutAt 25 = .ok (.iload_n 2, 1) := by decide +kernel
theorem dX6_costCutAt_26 : decode cX6_costCutAt 26 = .ok (.iload_n 1, 1) := by decide +kernel
theorem dX6_costCutAt_27 : decode cX6_costCutAt 27 = .ok (.isub, 1) := by decide +kernel
theorem dX6_costCutAt_28 : decode cX6_costCutAt 28 = .ok (.aload_n 0, 1) := by decide +kernel
theorem dX6_costCutAt_29 : decode cX6_costCutAt 29 = .ok (.getfield 30, 3) := by decide +kernel
theorem dX6_costCutAt_32 : decode cX6_costCutAt 32 = .ok (.invokevirtual 151, 3) := by decide +kernel
theorem dX6_costCutAt_35 : decode cX6_costCutAt 35 = .ok (.if_icmp .ge 13, 3) := by decide +kernel
theorem dX6_costCutAt_38 : decode cX6_costCutAt 38 = .ok (.new 154, 3) := by decide +kernel
theorem dX6_costCutAt_41 : decode cX6_costCutAt 41 = .ok (.dup, 1) := by decide +kernel
theorem dX6_costCutAt_42 : decode cX6_costCutAt 42 = .ok (.ldc 156, 2) := by decide +kernel
theorem dX6_costCutAt_44 : decode cX6_costCutAt 44 = .ok (.invokespecial 158, 3) := by decide +kernel
theorem dX6_costCutAt_47 : decode cX6_costCutAt 47 = .ok (.athrow, 1) := by decide +kernel
theorem dX6_costCutAt_48 : decode cX6_costCutAt 48 = .ok (.aload_n 0, 1) := by decide +kernel
theorem dX6_costCutAt_49 : decode cX6_costCutAt 49 = .ok (.invokevirtual 117, 3) := by decide +kernel
theorem dX6_costCutAt_52 : decode cX6_costCutAt 52 = .ok (.aload_n 0, 1) := by decide +kernel
theorem dX6_costCutAt_53 : decode cX6_costCutAt 53 = .ok (.getfield 30, 3) := by decide +kernel
theorem dX6_costCutAt_56 : decode cX6_costCutAt 56 = .ok (.iconst 0, 1) := by decide +kernel
theorem dX6_costCutAt_57 : decode cX6_costCutAt 57 = .ok (.iload_n 1, 1) := by decide +kernel
theorem dX6_costCutAt_58 : decode cX6_costCutAt 58 = .ok (.invokevirtual 147, 3) := by decide +kernel
theorem dX6_costCutAt_61 : decode cX6_costCutAt 61 = .ok (.aload_n 0, 1) := by decide +kernel
theorem dX6_costCutAt_62 : decode cX6_costCutAt 62 = .ok (.getfield 30, 3) := by decide +kernel
theorem dX6_costCutAt_65 : decode cX6_costCutAt 65 = .ok (.iload_n 1, 1) := by decide +kernel
theorem dX6_costCutAt_66 : decode cX6_costCutAt 66 = .ok (.iload_n 2, 1) := by decide +kernel
theorem dX6_costCutAt_67 : decode cX6_costCutAt 67 = .ok (.invokevirtual 147, 3) := by decide +kernel
theorem dX6_costCutAt_70 : decode cX6_costCutAt 70 = .ok (.iadd, 1) := by decide +kernel
theorem dX6_costCutAt_71 : decode cX6_costCutAt 71 = .ok (.aload_n 0, 1) := by decide +kernel
theorem dX6_costCutAt_72 : decode cX6_costCutAt 72 = .ok (.getfield 30, 3) := by decide +kernel
theorem dX6_costCutAt_75 : decode cX6_costCutAt 75 = .ok (.invokevirtual 161, 3) := by decide +kernel
theorem dX6_costCutAt_78 : decode cX6_costCutAt 78 = .ok (.iadd, 1) := by decide +kernel
theorem dX6_costCutAt_79 : decode cX6_costCutAt 79 = .ok (.ireturn, 1) := by decide +kernel
set_option maxRecDepth 20000 in
theorem ggX6_leastCost_X3_count : GoodIn wsX6_leastCost wsX3_count := goodIn_r _ [9, 10, 142, 143, 144] (by decide +kernel) (by decide +kernel)
set_option maxRecDepth 20000 in
theorem gX6_leastCost_X3_count : GoodIn wsX6_leastCost (wsV RX6 71 RX3 yX3_count wsX3_count) := goodIn_app (goodIn_of _ (by decide +kernel)) ggX6_leastCost_X3_count
set_option maxRecDepth 20000 in
theorem ggX6_leastCost_X6_findSeasons : GoodIn wsX6_leastCost wsX6_findSeasons := goodIn_r _ [15, 16, 17, 18, 19, 20, 21, 22, 23, 24, 25, 26, 27, 28, 29, 30, 31, 32, 33, 34, 35, 36, 37, 38, 39, 40, 6, 7, 8, 9, 10, 41, 42, 43, 44, 45, 46, 47, 48, 49, 50, 51, 52, 53, 54, 55, 56, 57, 58, 59, 60, 61, 62, 63, 64, 65, 66, 67, 68, 69, 70, 71, 72, 73, 74, 75, 76, 77, 78, 79, 80, 81, 133, 134, 135, 136, 137, 138, 139, 140, 141, 145, 146, 147, 148, 149, 150, 151, 152, 153, 142, 143, 144, 154] (by decide +kernel) (by decide +kernel)
set_option maxRecDepth 20000 in
theorem gX6_leastCost_X6_findSeasons : GoodIn wsX6_leastCost (wsV RX6 117 RX6 yX6_findSeasons wsX6_findSeasons) := goodIn_app (goodIn_of _ (by decide +kernel)) ggX6_leastCost_X6_findSeasons
set_option maxRecDepth 20000 in
theorem ggX6_leastCost_X5_leastOfAll : GoodIn wsX6_leastCost wsX5_leastOfAll := goodIn_r _ [86, 87, 88, 89, 90, 91, 92, 93, 94, 95, 96, 97, 98, 99, 34, 35, 36, 37, 38, 39, 100, 101, 102, 103, 104, 105, 106, 42, 43, 8, 44, 45, 46, 47, 48, 49, 10, 107, 108, 109, 21, 110, 25, 78, 79, 80, 75, 81, 77, 111, 56, 57, 58, 59, 112, 113, 114, 115, 116, 117, 118, 119, 120, 121, 122, 123, 124, 125, 126, 127, 85, 128, 129, 130, 131, 132, 155, 156, 157, 158, 159, 160, 161, 162, 163, 164, 165, 166, 167, 168, 151, 152, 153, 142, 143, 144, 145, 146, 147, 148, 149, 150, 154] (by decide +kernel) (by decide +kernel)
set_option maxRecDepth 20000 in
theorem gX6_leastCost_X5_leastOfAll : GoodIn wsX6_leastCost (wsV RX6 169 RX5 yX5_leastOfAll wsX5_leastOfAll) := goodIn_app (goodIn_of _ (by decide +kernel)) ggX6_leastCost_X5_leastOfAll
theorem dX6_leastCost_0 : decode cX6_leastCost 0 = .ok (.aload_n 0, 1) := by decide +kernel
theorem dX6_leastCost_1 : decode cX6_leastCost 1 = .ok (.getfield 10, 3) := by decide +kernel
theorem dX6_leastCost_4 : decode cX6_leastCost 4 = .ok (.invokevirtual 71, 3) := by decide +kernel
theorem dX6_leastCost_7 : decode cX6_leastCost 7 = .ok (.bipush 14, 2) := by decide +kernel
theorem dX6_leastCost_9 : decode cX6_leastCost 9 = .ok (.if_icmp .le 13, 3) := by decide +kernel
theorem dX6_leastCost_12 : decode cX6_leastCost 12 = .ok (.new 164, 3) := by decide +kernel
theorem dX6_leastCost_15 : decode cX6_leastCost 15 = .ok (.dup, 1) := by decide +kernel
theorem dX6_leastCost_16 : decode cX6_leastCost 16 = .ok (.ldc 166, 2) := by decide +kernel
theorem dX6_leastCost_18 : decode cX6_leastCost 18 = .ok (.invokespecial 168, 3) := by decide +kernel
theorem dX6_leastCost_21 : decode cX6_leastCost 21 = .ok (.athrow, 1) := by decide +kernel
theorem dX6_leastCost_22 : decode cX6_leastCost 22 = .ok (.aload_n 0, 1) := by decide +kernel
theorem dX6_leastCost_23 : decode cX6_leastCost 23 = .ok (.invokevirtual 117, 3) := by decide +kernel
theorem dX6_leastCost_26 : decode cX6_leastCost 26 = .ok (.aload_n 0, 1) := by decide +kernel
theorem dX6_leastCost_27 : decode cX6_leastCost 27 = .ok (.getfield 39, 3) := by decide +kernel
theorem dX6_leastCost_30 : decode cX6_leastCost 30 = .ok (.aload_n 0, 1) := by decide +kernel
theorem dX6_leastCost_31 : decode cX6_leastCost 31 = .ok (.getfield 10, 3) := by decide +kernel
theorem dX6_leastCost_34 : decode cX6_leastCost 34 = .ok (.invokevirtual 71, 3) := by decide +kernel
theorem dX6_leastCost_37 : decode cX6_leastCost 37 = .ok (.invokevirtual 169, 3) := by decide +kernel
theorem dX6_leastCost_40 : decode cX6_leastCost 40 = .ok (.ireturn, 1) := by decide +kernel
set_option maxRecDepth 20000 in
theorem ggX6_residual_X6_requireNumber : GoodIn wsX6_residual wsX6_requireNumber := goodIn_ca (goodIn_r _ [5, 6, 7, 8, 9, 10, 11, 12, 13, 14, 4, 15, 16, 17, 160, 161, 162, 163, 164, 165, 166, 167, 168, 169, 170, 171] (by decide +kernel) (by decide +kernel)) (goodIn_sub (fun _ h => List.mem_cons_of_mem _ (List.mem_append_right _ h)) (by decide +kernel))
set_option maxRecDepth 20000 in
theorem gX6_residual_X6_requireNumber : GoodIn wsX6_residual (wsV RX6 85 RX6 yX6_requireNumber wsX6_requireNumber) := goodIn_app (goodIn_of _ (by decide +kernel)) ggX6_residual_X6_requireNumber
set_option maxRecDepth 20000 in
theorem ggX6_residual_X6_findSegments : GoodIn wsX6_residual wsX6_findSegments := goodIn_r _ [21, 22, 23, 24, 25, 26, 4, 27, 28, 29, 30, 31, 32, 33, 34, 35, 36, 37, 38, 39, 40, 41, 42, 43, 44, 45, 46, 47, 48, 49, 50, 51, 52, 8, 9, 10, 11, 12, 53, 54, 55, 56, 57, 58, 59, 60, 61, 62, 63, 64, 65, 66, 67, 68, 69, 70, 71, 72, 73, 74, 75, 76, 77, 78, 79, 80, 81, 82, 83, 84, 85, 86, 87, 88, 89, 90, 91, 92, 93, 94, 95, 96, 97, 98, 99, 100, 101, 102, 103, 104, 105, 106, 107, 108, 109, 110, 111, 112, 113, 114, 115, 116, 117, 118, 119, 120, 121, 122, 123, 124, 125, 126, 127, 128, 129, 130, 131, 132, 133, 134, 135, 136, 137, 138, 139, 140, 141, 142, 143, 144, 145, 146, 147, 148, 149, 150, 160, 161, 162, 163, 164, 165, 166, 167, 168, 172, 173, 174, 175, 176, 177, 178, 179, 180, 169, 170, 171, 181, 182, 183, 184, 185, 186, 187, 188, 189, 190, 191, 192, 193] (by decide +kernel) (by decide +kernel)
set_option maxRecDepth 20000 in
theorem gX6_residual_X6_findSegments : GoodIn wsX6_residual (wsV RX6 132 RX6 yX6_findSegments wsX6_findSegments) := goodIn_app (goodIn_of _ (by decide +kernel)) ggX6_residual_X6_findSegments
set_option maxRecDepth 20000 in
theorem ggX6_residual_X6_residualAt : GoodIn wsX6_residual wsX6_residualAt := goodIn_r _ [154, 29, 23, 155, 125, 126, 33, 127, 37, 90, 91, 92, 87, 93, 89, 156, 157, 158, 97, 159, 145, 133, 160, 161, 162, 163, 164, 165, 166, 167, 168, 172, 173, 174, 175, 176, 177, 181, 182, 183, 184, 185, 186, 187, 188, 189, 190, 191, 192, 193] (by decide +kernel) (by decide +kernel)
set_option maxRecDepth 20000 in
theorem gX6_residual_X6_residualAt : GoodIn wsX6_residual (wsV RX6 172 RX6 yX6_residualAt wsX6_residualAt) := goodIn_app (goodIn_of _ (by decide +kernel)) ggX6_residual_X6_residualAt
theorem dX6_residual_0 : decode cX6_residual 0 = .ok (.aload_n 0, 1) := by decide +kernel
theorem dX6_residual_1 : decode cX6_residual 1 = .ok (.iload_n 1, 1) := by decide +kernel
theorem dX6_residual_2 : decode cX6_residual 2 = .ok (.invokevirtual 85, 3) := by decide +kernel
theorem dX6_residual_5 : decode cX6_residual 5 = .ok (.aload_n 0, 1) := by decide +kernel
theorem dX6_residual_6 : decode cX6_residual 6 = .ok (.invokevirtual 132, 3) := by decide +kernel
theorem dX6_residual_9 : decode cX6_residual 9 = .ok (.aload_n 0, 1) := by decide +kernel
theorem dX6_residual_10 : decode cX6_residual 10 = .ok (.iload_n 1, 1) := by decide +kernel
theorem dX6_residual_11 : decode cX6_residual 11 = .ok (.invokevirtual 172, 3) := by decide +kernel
theorem dX6_residual_14 : decode cX6_residual 14 = .ok (.ireturn, 1) := by decide +kernel
set_option maxRecDepth 20000 in
theorem ggX6_deviation_X6_findSegments : GoodIn wsX6_deviation wsX6_findSegments := goodIn_r _ [5, 6, 7, 8, 9, 10, 4, 11, 12, 13, 14, 15, 16, 17, 18, 19, 20, 21, 22, 23, 24, 25, 26, 27, 28, 29, 30, 31, 32, 33, 34, 35, 36, 37, 38, 39, 40, 41, 42, 43, 44, 45, 46, 47, 48, 49, 50, 51, 52, 53, 54, 55, 56, 57, 58, 59, 60, 61, 62, 63, 64, 65, 66, 67, 68, 69, 70, 71, 72, 73, 74, 75, 76, 77, 78, 79, 80, 81, 82, 83, 84, 85, 86, 87, 88, 89, 90, 91, 92, 93, 94, 95, 96, 97, 98, 99, 100, 101, 102, 103, 104, 105, 106, 107, 108, 109, 110, 111, 112, 113, 114, 115, 116, 117, 118, 119, 120, 121, 122, 123, 124, 125, 126, 127, 128, 129, 130, 131, 132, 133, 134, 135, 136, 137, 138, 139, 164, 165, 166, 167, 168, 169, 170, 171, 172, 173, 174, 175, 176, 177, 178, 179, 180, 181, 182, 183, 184, 185, 186, 187, 188, 189, 190, 191, 192, 193, 194, 195, 196, 197] (by decide +kernel) (by decide +kernel)
set_option maxRecDepth 20000 in
theorem gX6_deviation_X6_findSegments : GoodIn wsX6_deviation (wsV RX6 132 RX6 yX6_findSegments wsX6_findSegments) := goodIn_app (goodIn_of _ (by decide +kernel)) ggX6_deviation_X6_findSegments
set_option maxRecDepth 20000 in
theorem ggX6_deviation_X6_medianDeviation : GoodIn wsX6_deviation wsX6_medianDeviation := goodIn_r _ [143, 144, 145, 146, 147, 148, 149, 150, 30, 31, 32, 33, 34, 35, 151, 37, 38, 39, 40, 41, 152, 43, 44, 45, 46, 47, 48, 49, 50, 153, 154, 155, 4, 156, 13, 7, 157, 114, 115, 17, 116, 21, 79, 80, 81, 76, 82, 78, 158, 159, 160, 86, 161, 134, 122, 162, 57, 58, 59, 60, 163, 62, 63, 64, 164, 165, 166, 167, 168, 169, 170, 171, 172, 179, 180, 181, 182, 183, 184, 173, 174, 175, 176, 177, 178, 185, 186, 187, 188, 189, 190, 191, 192, 193, 194, 195, 196, 197] (by decide +kernel) (by decide +kernel)
set_option maxRecDepth 20000 in
theorem gX6_deviation_X6_medianDeviation : GoodIn wsX6_deviation (wsV RX6 175 RX6 yX6_medianDeviation wsX6_medianDeviation) := goodIn_app (goodIn_of _ (by decide +kernel)) ggX6_deviation_X6_medianDeviation
theorem dX6_deviation_0 : decode cX6_deviation 0 = .ok (.aload_n 0, 1) := by decide +kernel
theorem dX6_deviation_1 : decode cX6_deviation 1 = .ok (.invokevirtual 132, 3) := by decide +kernel
theorem dX6_deviation_4 : decode cX6_deviation 4 = .ok (.aload_n 0, 1) := by decide +kernel
theorem dX6_deviation_5 : decode cX6_deviation 5 = .ok (.invokevirtual 175, 3) := by decide +kernel
theorem dX6_deviation_8 : decode cX6_deviation 8 = .ok (.ireturn, 1) := by decide +kernel
set_option maxRecDepth 20000 in
theorem ggX6_bound_X6_findSegments : GoodIn wsX6_bound wsX6_findSegments := goodIn_r _ [5, 6, 7, 8, 9, 10, 4, 11, 12, 13, 14, 15, 16, 17, 18, 19, 20, 21, 22, 23, 24, 25, 26, 27, 28, 29, 30, 31, 32, 33, 34, 35, 36, 37, 38, 39, 40, 41, 42, 43, 44, 45, 46, 47, 48, 49, 50, 51, 52, 53, 54, 55, 56, 57, 58, 59, 60, 61, 62, 63, 64, 65, 66, 67, 68, 69, 70, 71, 72, 73, 74, 75, 76, 77, 78, 79, 80, 81, 82, 83, 84, 85, 86, 87, 88, 89, 90, 91, 92, 93, 94, 95, 96, 97, 98, 99, 100, 101, 102, 103, 104, 105, 106, 107, 108, 109, 110, 111, 112, 113, 114, 115, 116, 117, 118, 119, 120, 121, 122, 123, 124, 125, 126, 127, 128, 129, 130, 131, 132, 133, 134, 135, 136, 137, 138, 139, 173, 174, 175, 176, 177, 178, 179, 180, 181, 182, 183, 184, 185, 186, 187, 188, 189, 190, 191, 192, 193, 194, 195, 196, 197, 198, 199, 200, 201, 202, 203, 204, 205, 206] (by decide +kernel) (by decide +kernel)
set_option maxRecDepth 20000 in
theorem gX6_bound_X6_findSegments : GoodIn wsX6_bound (wsV RX6 132 RX6 yX6_findSegments wsX6_findSegments) := goodIn_app (goodIn_of _ (by decide +kernel)) ggX6_bound_X6_findSegments
set_option maxRecDepth 20000 in
theorem ggX6_bound_X6_boundOfNow : GoodIn wsX6_bound wsX6_boundOfNow := goodIn_r _ [143, 144, 145, 146, 147, 148, 149, 150, 151, 152, 4, 153, 154, 155, 156, 157, 158, 159, 30, 31, 32, 33, 34, 35, 160, 37, 38, 39, 40, 41, 161, 43, 44, 45, 46, 47, 48, 49, 50, 162, 163, 164, 165, 13, 7, 166, 114, 115, 17, 116, 21, 79, 80, 81, 76, 82, 78, 167, 168, 169, 86, 170, 134, 122, 171, 57, 58, 59, 60, 172, 62, 63, 64, 173, 174, 175, 176, 177, 178, 179, 180, 181, 188, 189, 190, 191, 192, 193, 182, 183, 184, 185, 186, 187, 194, 195, 196, 197, 198, 199, 200, 201, 202, 203, 204, 205, 206] (by decide +kernel) (by decide +kernel)
set_option maxRecDepth 20000 in
theorem gX6_bound_X6_boundOfNow : GoodIn wsX6_bound (wsV RX6 178 RX6 yX6_boundOfNow wsX6_boundOfNow) := goodIn_app (goodIn_of _ (by decide +kernel)) ggX6_bound_X6_boundOfNow
theorem dX6_bound_0 : decode cX6_bound 0 = .ok (.aload_n 0, 1) := by decide +kernel
theorem dX6_bound_1 : decode cX6_bound 1 = .ok (.invokevirtual 132, 3) := by decide +kernel
theorem dX6_bound_4 : decode cX6_bound 4 = .ok (.aload_n 0, 1) := by decide +kernel
theorem dX6_bound_5 : decode cX6_bound 5 = .ok (.invokevirtual 178, 3) := by decide +kernel
theorem dX6_bound_8 : decode cX6_bound 8 = .ok (.ireturn, 1) := by decide +kernel
set_option maxRecDepth 20000 in
theorem ggX6_verdict_X6_requireNumber : GoodIn wsX6_verdict wsX6_requireNumber := goodIn_ca (goodIn_r _ [5, 6, 7, 8, 9, 10, 11, 12, 13, 14, 4, 15, 16, 17, 189, 190, 191, 192, 193, 194, 195, 196, 197, 198, 199, 200] (by decide +kernel) (by decide +kernel)) (goodIn_sub (fun _ h => List.mem_cons_of_mem _ (List.mem_append_right _ h)) (by decide +kernel))
set_option maxRecDepth 20000 in
theorem gX6_verdict_X6_requireNumber : GoodIn wsX6_verdict (wsV RX6 85 RX6 yX6_requireNumber wsX6_requireNumber) := goodIn_app (goodIn_of _ (by decide +kernel)) ggX6_verdict_X6_requireNumber
set_option maxRecDepth 20000 in
theorem ggX6_verdict_X6_findSegments : GoodIn wsX6_verdict wsX6_findSegments := goodIn_r _ [21, 22, 23, 24, 25, 26, 4, 27, 28, 29, 30, 31, 32, 33, 34, 35, 36, 37, 38, 39, 40, 41, 42, 43, 44, 45, 46, 47, 48, 49, 50, 51, 52, 8, 9, 10, 11, 12, 53, 54, 55, 56, 57, 58, 59, 60, 61, 62, 63, 64, 65, 66, 67, 68, 69, 70, 71, 72, 73, 74, 75, 76, 77, 78, 79, 80, 81, 82, 83, 84, 85, 86, 87, 88, 89, 90, 91, 92, 93, 94, 95, 96, 97, 98, 99, 100, 101, 102, 103, 104, 105, 106, 107, 108, 109, 110, 111, 112, 113, 114, 115, 116, 117, 118, 119, 120, 121, 122, 123, 124, 125, 126, 127, 128, 129, 130, 131, 132, 133, 134, 135, 136, 137, 138, 139, 140, 141, 142, 143, 144, 145, 146, 147, 148, 149, 150, 189, 190, 191, 192, 193, 194, 195, 196, 197, 201, 202, 203, 204, 205, 206, 207, 208, 209, 198, 199, 200, 210, 211, 212, 213, 214, 215, 216, 217, 218, 219, 220, 221, 222] (by decide +kernel) (by decide +kernel)
set_option maxRecDepth 20000 in
theorem gX6_verdict_X6_findSegments : GoodIn wsX6_verdict (wsV RX6 132 RX6 yX6_findSegments wsX6_findSegments) := goodIn_app (goodIn_of _ (by decide +kernel)) ggX6_verdict_X6_findSegments
set_option maxRecDepth 20000 in
theorem ggX6_verdict_X6_boundOfNow : GoodIn wsX6_verdict wsX6_boundOfNow := goodIn_r _ [154, 155, 156, 157, 158, 159, 160, 161, 162, 163, 4, 164, 165, 6, 166, 167, 168, 169, 46, 47, 48, 49, 50, 51, 7, 8, 9, 10, 11, 12, 170, 54, 55, 56, 57, 58, 59, 60, 61, 171, 172, 173, 174, 29, 23, 175, 125, 126, 33, 127, 37, 90, 91, 92, 87, 93, 89, 176, 177, 178, 97, 179, 145, 133, 180, 68, 69, 70, 71, 181, 73, 74, 75, 189, 190, 191, 192, 193, 194, 195, 196, 197, 207, 208, 209, 198, 199, 200, 201, 202, 203, 204, 205, 206, 210, 211, 212, 213, 214, 215, 216, 217, 218, 219, 220, 221, 222] (by decide +kernel) (by decide +kernel)
set_option maxRecDepth 20000 in
theorem gX6_verdict_X6_boundOfNow : GoodIn wsX6_verdict (wsV RX6 178 RX6 yX6_boundOfNow wsX6_boundOfNow) := goodIn_app (goodIn_of _ (by decide +kernel)) ggX6_verdict_X6_boundOfNow
set_option maxRecDepth 20000 in
theorem ggX6_verdict_X6_verdictWithin : GoodIn wsX6_verdict wsX6_verdictWithin := goodIn_r _ [185, 6, 170, 54, 55, 10, 56, 57, 58, 59, 60, 61, 12, 171, 172, 173, 4, 174, 29, 23, 175, 125, 126, 33, 127, 37, 90, 91, 92, 87, 93, 89, 176, 177, 178, 97, 179, 145, 133, 186, 187, 188, 189, 190, 191, 192, 193, 194, 195, 196, 197, 198, 199, 200, 201, 202, 203, 204, 205, 206, 210, 211, 212, 213, 214, 215, 216, 217, 218, 219, 220, 221, 222] (by decide +kernel) (by decide +kernel)
set_option maxRecDepth 20000 in
theorem gX6_verdict_X6_verdictWithin : GoodIn wsX6_verdict (wsV RX6 181 RX6 yX6_verdictWithin wsX6_verdictWithin) := goodIn_app (goodIn_of _ (by decide +kernel)) ggX6_verdict_X6_verdictWithin
theorem dX6_verdict_0 : decode cX6_verdict 0 = .ok (.aload_n 0, 1) := by decide +kernel
theorem dX6_verdict_1 : decode cX6_verdict 1 = .ok (.iload_n 1, 1) := by decide +kernel
theorem dX6_verdict_2 : decode cX6_verdict 2 = .ok (.invokevirtual 85, 3) := by decide +kernel
theorem dX6_verdict_5 : decode cX6_verdict 5 = .ok (.aload_n 0, 1) := by decide +kernel
theorem dX6_verdict_6 : decode cX6_verdict 6 = .ok (.invokevirtual 132, 3) := by decide +kernel
theorem dX6_verdict_9 : decode cX6_verdict 9 = .ok (.aload_n 0, 1) := by decide +kernel
theorem dX6_verdict_10 : decode cX6_verdict 10 = .ok (.iload_n 1, 1) := by decide +kernel
theorem dX6_verdict_11 : decode cX6_verdict 11 = .ok (.aload_n 0, 1) := by decide +kernel
theorem dX6_verdict_12 : decode cX6_verdict 12 = .ok (.invokevirtual 178, 3) := by decide +kernel
theorem dX6_verdict_15 : decode cX6_verdict 15 = .ok (.invokevirtual 181, 3) := by decide +kernel
theorem dX6_verdict_18 : decode cX6_verdict 18 = .ok (.ireturn, 1) := by decide +kernel
set_option maxRecDepth 20000 in
theorem ggX6_anomalies_X6_findSegments : GoodIn wsX6_anomalies wsX6_findSegments := goodIn_r _ [6, 7, 8, 9, 10, 11, 5, 12, 13, 14, 15, 16, 17, 18, 19, 20, 21, 22, 23, 24, 25, 26, 27, 28, 29, 30, 31, 32, 33, 34, 35, 36, 37, 38, 39, 40, 41, 42, 43, 44, 45, 46, 47, 48, 49, 50, 51, 52, 53, 54, 55, 56, 57, 58, 59, 60, 61, 62, 63, 64, 65, 66, 67, 68, 69, 70, 71, 72, 73, 74, 75, 76, 77, 78, 79, 80, 81, 82, 83, 84, 85, 86, 87, 88, 89, 90, 91, 92, 93, 94, 95, 96, 97, 98, 99, 100, 101, 102, 103, 104, 105, 106, 107, 108, 109, 110, 111, 112, 113, 114, 115, 116, 117, 118, 119, 120, 121, 122, 123, 124, 125, 126, 127, 128, 129, 130, 131, 132, 133, 134, 135, 136, 137, 138, 139, 140, 180, 181, 182, 183, 184, 185, 186, 187, 188, 189, 190, 191, 192, 193, 194, 195, 196, 197, 198, 199, 200, 201, 202, 203, 204, 205, 206, 207, 208, 209, 210, 211, 212, 213] (by decide +kernel) (by decide +kernel)
set_option maxRecDepth 20000 in
theorem gX6_anomalies_X6_findSegments : GoodIn wsX6_anomalies (wsV RX6 132 RX6 yX6_findSegments wsX6_findSegments) := goodIn_app (goodIn_of _ (by decide +kernel)) ggX6_anomalies_X6_findSegments
set_option maxRecDepth 20000 in
theorem ggX6_anomalies_X6_boundOfNow : GoodIn wsX6_anomalies wsX6_boundOfNow := goodIn_r _ [144, 145, 146, 147, 148, 149, 150, 151, 152, 153, 5, 154, 155, 1, 156, 157, 158, 159, 31, 32, 33, 34, 35, 36, 160, 38, 39, 40, 41, 42, 161, 44, 45, 46, 47, 48, 49, 50, 51, 162, 163, 164, 165, 14, 8, 166, 115, 116, 18, 117, 22, 80, 81, 82, 77, 83, 79, 167, 168, 169, 87, 170, 135, 123, 171, 58, 59, 60, 61, 172, 63, 64, 65, 180, 181, 182, 183, 184, 185, 186, 187, 188, 195, 196, 197, 198, 199, 200, 189, 190, 191, 192, 193, 194, 201, 202, 203, 204, 205, 206, 207, 208, 209, 210, 211, 212, 213] (by decide +kernel) (by decide +kernel)
set_option maxRecDepth 20000 in
theorem gX6_anomalies_X6_boundOfNow : GoodIn wsX6_anomalies (wsV RX6 178 RX6 yX6_boundOfNow wsX6_boundOfNow) := goodIn_app (goodIn_of _ (by decide +kernel)) ggX6_anomalies_X6_boundOfNow
set_option maxRecDepth 20000 in
theorem ggX6_anomalies_X3_count : GoodIn wsX6_anomalies wsX3_count := goodIn_r _ [41, 42, 198, 199, 200] (by decide +kernel) (by decide +kernel)
set_option maxRecDepth 20000 in
theorem gX6_anomalies_X3_count : GoodIn wsX6_anomalies (wsV RX6 71 RX3 yX3_count wsX3_count) := goodIn_app (goodIn_of _ (by decide +kernel)) ggX6_anomalies_X3_count
set_option maxRecDepth 20000 in
theorem ggX6_anomalies_X6_verdictWithin : GoodIn wsX6_anomalies wsX6_verdictWithin := goodIn_r _ [176, 1, 161, 44, 45, 40, 46, 47, 48, 49, 50, 51, 42, 162, 163, 164, 5, 165, 14, 8, 166, 115, 116, 18, 117, 22, 80, 81, 82, 77, 83, 79, 167, 168, 169, 87, 170, 135, 123, 177, 178, 179, 180, 181, 182, 183, 184, 185, 186, 187, 188, 198, 199, 200, 189, 190, 191, 192, 193, 194, 201, 202, 203, 204, 205, 206, 207, 208, 209, 210, 211, 212, 213] (by decide +kernel) (by decide +kernel)
set_option maxRecDepth 20000 in
theorem gX6_anomalies_X6_verdictWithin : GoodIn wsX6_anomalies (wsV RX6 181 RX6 yX6_verdictWithin wsX6_verdictWithin) := goodIn_app (goodIn_of _ (by decide +kernel)) ggX6_anomalies_X6_verdictWithin
theorem dX6_anomalies_0 : decode cX6_anomalies 0 = .ok (.aload_n 0, 1) := by decide +kernel
theorem dX6_anomalies_1 : decode cX6_anomalies 1 = .ok (.invokevirtual 132, 3) := by decide +kernel
theorem dX6_anomalies_4 : decode cX6_anomalies 4 = .ok (.aload_n 0, 1) := by decide +kernel
theorem dX6_anomalies_5 : decode cX6_anomalies 5 = .ok (.invokevirtual 178, 3) := by decide +kernel
theorem dX6_anomalies_8 : decode cX6_anomalies 8 = .ok (.istore_n 1, 1) := by decide +kernel
theorem dX6_anomalies_9 : decode cX6_anomalies 9 = .ok (.iconst 0, 1) := by decide +kernel
theorem dX6_anomalies_10 : decode cX6_anomalies 10 = .ok (.istore_n 2, 1) := by decide +kernel
theorem dX6_anomalies_11 : decode cX6_anomalies 11 = .ok (.iconst 0, 1) := by decide +kernel
theorem dX6_anomalies_12 : decode cX6_anomalies 12 = .ok (.istore_n 3, 1) := by decide +kernel
theorem dX6_anomalies_13 : decode cX6_anomalies 13 = .ok (.iload_n 3, 1) := by decide +kernel
theorem dX6_anomalies_14 : decode cX6_anomalies 14 = .ok (.aload_n 0, 1) := by decide +kernel
theorem dX6_anomalies_15 : decode cX6_anomalies 15 = .ok (.getfield 10, 3) := by decide +kernel
theorem dX6_anomalies_18 : decode cX6_anomalies 18 = .ok (.invokevirtual 71, 3) := by decide +kernel
theorem dX6_anomalies_21 : decode cX6_anomalies 21 = .ok (.if_icmp .ge 32, 3) := by decide +kernel
theorem dX6_anomalies_24 : decode cX6_anomalies 24 = .ok (.aload_n 0, 1) := by decide +kernel
theorem dX6_anomalies_25 : decode cX6_anomalies 25 = .ok (.iload_n 3, 1) := by decide +kernel
theorem dX6_anomalies_26 : decode cX6_anomalies 26 = .ok (.iload_n 1, 1) := by decide +kernel
theorem dX6_anomalies_27 : decode cX6_anomalies 27 = .ok (.invokevirtual 181, 3) := by decide +kernel
theorem dX6_anomalies_30 : decode cX6_anomalies 30 = .ok (.istore 4, 2) := by decide +kernel
theorem dX6_anomalies_32 : decode cX6_anomalies 32 = .ok (.iload 4, 2) := by decide +kernel
theorem dX6_anomalies_34 : decode cX6_anomalies 34 = .ok (.iconst 1, 1) := by decide +kernel
theorem dX6_anomalies_35 : decode cX6_anomalies 35 = .ok (.if_icmp .eq 9, 3) := by decide +kernel
theorem dX6_anomalies_38 : decode cX6_anomalies 38 = .ok (.iload 4, 2) := by decide +kernel
theorem dX6_anomalies_40 : decode cX6_anomalies 40 = .ok (.iconst 2, 1) := by decide +kernel
theorem dX6_anomalies_41 : decode cX6_anomalies 41 = .ok (.if_icmp .ne 6, 3) := by decide +kernel
theorem dX6_anomalies_44 : decode cX6_anomalies 44 = .ok (.iinc 2 1, 3) := by decide +kernel
theorem dX6_anomalies_47 : decode cX6_anomalies 47 = .ok (.iinc 3 1, 3) := by decide +kernel
theorem dX6_anomalies_50 : decode cX6_anomalies 50 = .ok (.goto (-37), 3) := by decide +kernel
theorem dX6_anomalies_53 : decode cX6_anomalies 53 = .ok (.iload_n 2, 1) := by decide +kernel
theorem dX6_anomalies_54 : decode cX6_anomalies 54 = .ok (.ireturn, 1) := by decide +kernel
set_option maxRecDepth 20000 in
theorem ggX6_expected_X6_findSegments : GoodIn wsX6_expected wsX6_findSegments := goodIn_r _ [5, 6, 7, 8, 9, 10, 4, 11, 12, 13, 14, 15, 16, 17, 18, 19, 20, 21, 22, 23, 24, 25, 26, 27, 28, 29, 30, 31, 32, 33, 34, 35, 36, 37, 38, 39, 40, 41, 42, 43, 44, 45, 46, 47, 48, 49, 50, 51, 52, 53, 54, 55, 56, 57, 58, 59, 60, 61, 62, 63, 64, 65, 66, 67, 68, 69, 70, 71, 72, 73, 74, 75, 76, 77, 78, 79, 80, 81, 82, 83, 84, 85, 86, 87, 88, 89, 90, 91, 92, 93, 94, 95, 96, 97, 98, 99, 100, 101, 102, 103, 104, 105, 106, 107, 108, 109, 110, 111, 112, 113, 114, 115, 116, 117, 118, 119, 120, 121, 122, 123, 124, 125, 126, 127, 128, 129, 130, 131, 132, 133, 134, 135, 136, 137, 138, 139, 155, 156, 157, 158, 159, 160, 161, 162, 163, 164, 165, 166, 167, 168, 169, 170, 171, 172, 173, 174, 175, 176, 177, 178, 179, 180, 181, 182, 183, 184, 185, 186, 187, 188] (by decide +kernel) (by decide +kernel)
set_option maxRecDepth 20000 in
theorem gX6_expected_X6_findSegments : GoodIn wsX6_expected (wsV RX6 132 RX6 yX6_findSegments wsX6_findSegments) := goodIn_app (goodIn_of _ (by decide +kernel)) ggX6_expected_X6_findSegments
set_option maxRecDepth 20000 in
theorem ggX6_expected_X6_expectedNext : GoodIn wsX6_expected wsX6_expectedNext := goodIn_r _ [143, 7, 13, 144, 145, 146, 147, 86, 148, 131, 133, 122, 80, 81, 76, 82, 78, 149, 37, 38, 39, 40, 41, 150, 70, 71, 17, 72, 19, 151, 152, 153, 154, 22, 79, 155, 156, 157, 158, 159, 160, 161, 162, 163, 177, 178, 179, 180, 181, 182, 183, 184, 185, 186, 187, 188, 176, 173, 174, 175, 164, 165, 166, 167, 168, 169] (by decide +kernel) (by decide +kernel)
set_option maxRecDepth 20000 in
theorem gX6_expected_X6_expectedNext : GoodIn wsX6_expected (wsV RX6 184 RX6 yX6_expectedNext wsX6_expectedNext) := goodIn_app (goodIn_of _ (by decide +kernel)) ggX6_expected_X6_expectedNext
theorem dX6_expected_0 : decode cX6_expected 0 = .ok (.aload_n 0, 1) := by decide +kernel
theorem dX6_expected_1 : decode cX6_expected 1 = .ok (.invokevirtual 132, 3) := by decide +kernel
theorem dX6_expected_4 : decode cX6_expected 4 = .ok (.aload_n 0, 1) := by decide +kernel
theorem dX6_expected_5 : decode cX6_expected 5 = .ok (.invokevirtual 184, 3) := by decide +kernel
theorem dX6_expected_8 : decode cX6_expected 8 = .ok (.ireturn, 1) := by decide +kernel
set_option maxRecDepth 20000 in
theorem ggX6_judge_X6_findSegments : GoodIn wsX6_judge wsX6_findSegments := goodIn_r _ [5, 6, 7, 8, 9, 10, 4, 11, 12, 13, 14, 15, 16, 17, 18, 19, 20, 21, 22, 23, 24, 25, 26, 27, 28, 29, 30, 31, 32, 33, 34, 35, 36, 37, 38, 39, 40, 41, 42, 43, 44, 45, 46, 47, 48, 49, 50, 51, 52, 53, 54, 55, 56, 57, 58, 59, 60, 61, 62, 63, 64, 65, 66, 67, 68, 69, 70, 71, 72, 73, 74, 75, 76, 77, 78, 79, 80, 81, 82, 83, 84, 85, 86, 87, 88, 89, 90, 91, 92, 93, 94, 95, 96, 97, 98, 99, 100, 101, 102, 103, 104, 105, 106, 107, 108, 109, 110, 111, 112, 113, 114, 115, 116, 117, 118, 119, 120, 121, 122, 123, 124, 125, 126, 127, 128, 129, 130, 131, 132, 133, 134, 135, 136, 137, 138, 139, 189, 190, 191, 192, 193, 194, 195, 196, 197, 198, 199, 200, 201, 202, 203, 204, 205, 206, 207, 208, 209, 210, 211, 212, 213, 214, 215, 216, 217, 218, 219, 220, 221, 222] (by decide +kernel) (by decide +kernel)
set_option maxRecDepth 20000 in
theorem gX6_judge_X6_findSegments : GoodIn wsX6_judge (wsV RX6 132 RX6 yX6_findSegments wsX6_findSegments) := goodIn_app (goodIn_of _ (by decide +kernel)) ggX6_judge_X6_findSegments
set_option maxRecDepth 20000 in
theorem ggX6_judge_X6_expectedNext : GoodIn wsX6_judge wsX6_expectedNext := goodIn_r _ [143, 7, 13, 144, 145, 146, 147, 86, 148, 131, 133, 122, 80, 81, 76, 82, 78, 149, 37, 38, 39, 40, 41, 150, 70, 71, 17, 72, 19, 151, 152, 153, 154, 22, 79, 189, 190, 191, 192, 193, 194, 195, 196, 197, 211, 212, 213, 214, 215, 216, 217, 218, 219, 220, 221, 222, 210, 207, 208, 209, 198, 199, 200, 201, 202, 203] (by decide +kernel) (by decide +kernel)
set_option maxRecDepth 20000 in
theorem gX6_judge_X6_expectedNext : GoodIn wsX6_judge (wsV RX6 184 RX6 yX6_expectedNext wsX6_expectedNext) := goodIn_app (goodIn_of _ (by decide +kernel)) ggX6_judge_X6_expectedNext
set_option maxRecDepth 20000 in
theorem ggX6_judge_X6_boundOfNow : GoodIn wsX6_judge wsX6_boundOfNow := goodIn_r _ [158, 159, 160, 161, 162, 163, 164, 165, 166, 167, 4, 168, 169, 144, 170, 171, 172, 173, 30, 31, 32, 33, 34, 35, 149, 37, 38, 39, 40, 41, 174, 43, 44, 45, 46, 47, 48, 49, 50, 175, 176, 177, 178, 13, 7, 179, 114, 115, 17, 116, 21, 79, 80, 81, 76, 82, 78, 180, 181, 182, 86, 183, 134, 122, 184, 57, 58, 59, 60, 185, 62, 63, 64, 189, 190, 191, 192, 193, 194, 195, 196, 197, 204, 205, 206, 207, 208, 209, 198, 199, 200, 201, 202, 203, 210, 211, 212, 213, 214, 215, 216, 217, 218, 219, 220, 221, 222] (by decide +kernel) (by decide +kernel)
set_option maxRecDepth 20000 in
theorem gX6_judge_X6_boundOfNow : GoodIn wsX6_judge (wsV RX6 178 RX6 yX6_boundOfNow wsX6_boundOfNow) := goodIn_app (goodIn_of _ (by decide +kernel)) ggX6_judge_X6_boundOfNow
set_option maxRecDepth 20000 in
theorem ggX6_judge_X6_sideOf : GoodIn wsX6_judge wsX6_sideOf := goodIn_r _ [188] (by decide +kernel) (by decide +kernel)
set_option maxRecDepth 20000 in
theorem gX6_judge_X6_sideOf : GoodIn wsX6_judge (va_wsS RX6 187 yX6_sideOf wsX6_sideOf) := goodIn_app (goodIn_of _ (by decide +kernel)) ggX6_judge_X6_sideOf
theorem dX6_judge_0 : decode cX6_judge 0 = .ok (.aload_n 0, 1) := by decide +kernel
theorem dX6_judge_1 : decode cX6_judge 1 = .ok (.invokevirtual 132, 3) := by decide +kernel
theorem dX6_judge_4 : decode cX6_judge 4 = .ok (.iload_n 1, 1) := by decide +kernel
theorem dX6_judge_5 : decode cX6_judge 5 = .ok (.i2l, 1) := by decide +kernel
theorem dX6_judge_6 : decode cX6_judge 6 = .ok (.aload_n 0, 1) := by decide +kernel
theorem dX6_judge_7 : decode cX6_judge 7 = .ok (.invokevirtual 184, 3) := by decide +kernel
theorem dX6_judge_10 : decode cX6_judge 10 = .ok (.i2l, 1) := by decide +kernel
theorem dX6_judge_11 : decode cX6_judge 11 = .ok (.lsub, 1) := by decide +kernel
theorem dX6_judge_12 : decode cX6_judge 12 = .ok (.aload_n 0, 1) := by decide +kernel
theorem dX6_judge_13 : decode cX6_judge 13 = .ok (.invokevirtual 178, 3) := by decide +kernel
theorem dX6_judge_16 : decode cX6_judge 16 = .ok (.invokestatic 187, 3) := by decide +kernel
theorem dX6_judge_19 : decode cX6_judge 19 = .ok (.ireturn, 1) := by decide +kernel
theorem dX6_requireBetween_0 : decode cX6_requireBetween 0 = .ok (.iload_n 0, 1) := by decide +kernel
theorem dX6_requireBetween_1 : decode cX6_requireBetween 1 = .ok (.iload_n 1, 1) := by decide +kernel
theorem dX6_requireBetween_2 : decode cX6_requireBetween 2 = .ok (.if_icmp .lt 8, 3) := by decide +kernel
theorem dX6_requireBetween_5 : decode cX6_requireBetween 5 = .ok (.iload_n 0, 1) := by decide +kernel
theorem dX6_requireBetween_6 : decode cX6_requireBetween 6 = .ok (.iload_n 2, 1) := by decide +kernel
theorem dX6_requireBetween_7 : decode cX6_requireBetween 7 = .ok (.if_icmp .le 13, 3) := by decide +kernel
theorem dX6_requireBetween_10 : decode cX6_requireBetween 10 = .ok (.new 154, 3) := by decide +kernel
theorem dX6_requireBetween_13 : decode cX6_requireBetween 13 = .ok (.dup, 1) := by decide +kernel
theorem dX6_requireBetween_14 : decode cX6_requireBetween 14 = .ok (.ldc 191, 2) := by decide +kernel
theorem dX6_requireBetween_16 : decode cX6_requireBetween 16 = .ok (.invokespecial 158, 3) := by decide +kernel
theorem dX6_requireBetween_19 : decode cX6_requireBetween 19 = .ok (.athrow, 1) := by decide +kernel
theorem dX6_requireBetween_20 : decode cX6_requireBetween 20 = .ok (.return_, 1) := by decide +kernel
set_option maxRecDepth 20000 in
theorem ggX6_requireValue_X6_requireBetween : GoodIn wsX6_requireValue wsX6_requireBetween := goodIn_ca (goodIn_r _ [4, 5, 6] (by decide +kernel) (by decide +kernel)) (goodIn_sub (fun _ h => List.mem_cons_of_mem _ (List.mem_append_right _ h)) (by decide +kernel))
set_option maxRecDepth 20000 in
theorem gX6_requireValue_X6_requireBetween : GoodIn wsX6_requireValue (va_wsS RX6 81 yX6_requireBetween wsX6_requireBetween) := goodIn_app (goodIn_of _ (by decide +kernel)) ggX6_requireValue_X6_requireBetween
theorem dX6_requireValue_0 : decode cX6_requireValue 0 = .ok (.iload_n 0, 1) := by decide +kernel
theorem dX6_requireValue_1 : decode cX6_requireValue 1 = .ok (.sipush (-10000), 3) := by decide +kernel
theorem dX6_requireValue_4 : decode cX6_requireValue 4 = .ok (.sipush 10000, 3) := by decide +kernel
theorem dX6_requireValue_7 : decode cX6_requireValue 7 = .ok (.invokestatic 81, 3) := by decide +kernel
theorem dX6_requireValue_10 : decode cX6_requireValue 10 = .ok (.return_, 1) := by decide +kernel
theorem dX6_requireIndex_0 : decode cX6_requireIndex 0 = .ok (.iload_n 0, 1) := by decide +kernel
theorem dX6_requireIndex_1 : decode cX6_requireIndex 1 = .ok (.iload_n 1, 1) := by decide +kernel
theorem dX6_requireIndex_2 : decode cX6_requireIndex 2 = .ok (.if_icmp .lt 8, 3) := by decide +kernel
theorem dX6_requireIndex_5 : decode cX6_requireIndex 5 = .ok (.iload_n 0, 1) := by decide +kernel
theorem dX6_requireIndex_6 : decode cX6_requireIndex 6 = .ok (.iload_n 2, 1) := by decide +kernel
theorem dX6_requireIndex_7 : decode cX6_requireIndex 7 = .ok (.if_icmp .lt 13, 3) := by decide +kernel
theorem dX6_requireIndex_10 : decode cX6_requireIndex 10 = .ok (.new 193, 3) := by decide +kernel
theorem dX6_requireIndex_13 : decode cX6_requireIndex 13 = .ok (.dup, 1) := by decide +kernel
theorem dX6_requireIndex_14 : decode cX6_requireIndex 14 = .ok (.ldc 195, 2) := by decide +kernel
theorem dX6_requireIndex_16 : decode cX6_requireIndex 16 = .ok (.invokespecial 197, 3) := by decide +kernel
theorem dX6_requireIndex_19 : decode cX6_requireIndex 19 = .ok (.athrow, 1) := by decide +kernel
theorem dX6_requireIndex_20 : decode cX6_requireIndex 20 = .ok (.return_, 1) := by decide +kernel
set_option maxRecDepth 20000 in
theorem ggX6_requireNumber_X3_count : GoodIn wsX6_requireNumber wsX3_count := goodIn_r _ [6, 7, 23, 24, 25] (by decide +kernel) (by decide +kernel)
set_option maxRecDepth 20000 in
theorem gX6_requireNumber_X3_count : GoodIn wsX6_requireNumber (wsV RX6 71 RX3 yX3_count wsX3_count) := goodIn_app (goodIn_of _ (by decide +kernel)) ggX6_requireNumber_X3_count
set_option maxRecDepth 20000 in
theorem ggX6_requireNumber_X6_requireIndex : GoodIn wsX6_requireNumber wsX6_requireIndex := goodIn_ca (goodIn_r _ [11, 12, 13] (by decide +kernel) (by decide +kernel)) (goodIn_sub (fun _ h => List.mem_cons_of_mem _ (List.mem_append_right _ h)) (by decide +kernel))
set_option maxRecDepth 20000 in
theorem gX6_requireNumber_X6_requireIndex : GoodIn wsX6_requireNumber (va_wsS RX6 123 yX6_requireIndex wsX6_requireIndex) := goodIn_app (goodIn_of _ (by decide +kernel)) ggX6_requireNumber_X6_requireIndex
theorem dX6_requireNumber_0 : decode cX6_requireNumber 0 = .ok (.iload_n 1, 1) := by decide +kernel
theorem dX6_requireNumber_1 : decode cX6_requireNumber 1 = .ok (.iconst 0, 1) := by decide +kernel
theorem dX6_requireNumber_2 : decode cX6_requireNumber 2 = .ok (.aload_n 0, 1) := by decide +kernel
theorem dX6_requireNumber_3 : decode cX6_requireNumber 3 = .ok (.getfield 10, 3) := by decide +kernel
theorem dX6_requireNumber_6 : decode cX6_requireNumber 6 = .ok (.invokevirtual 71, 3) := by decide +kernel
theorem dX6_requireNumber_9 : decode cX6_requireNumber 9 = .ok (.invokestatic 123, 3) := by decide +kernel
theorem dX6_requireNumber_12 : decode cX6_requireNumber 12 = .ok (.return_, 1) := by decide +kernel
set_option maxRecDepth 20000 in
theorem ggX6_requireRoomFor_X3_count : GoodIn wsX6_requireRoomFor wsX3_count := goodIn_r _ [8, 9, 19, 20, 21] (by decide +kernel) (by decide +kernel)
set_option maxRecDepth 20000 in
theorem gX6_requireRoomFor_X3_count : GoodIn wsX6_requireRoomFor (wsV RX6 71 RX3 yX3_count wsX3_count) := goodIn_app (goodIn_of _ (by decide +kernel)) ggX6_requireRoomFor_X3_count
theorem dX6_requireRoomFor_0 : decode cX6_requireRoomFor 0 = .ok (.aload_n 0, 1) := by decide +kernel
theorem dX6_requireRoomFor_1 : decode cX6_requireRoomFor 1 = .ok (.getfield 10, 3) := by decide +kernel
theorem dX6_requireRoomFor_4 : decode cX6_requireRoomFor 4 = .ok (.invokevirtual 71, 3) := by decide +kernel
theorem dX6_requireRoomFor_7 : decode cX6_requireRoomFor 7 = .ok (.iload_n 1, 1) := by decide +kernel
theorem dX6_requireRoomFor_8 : decode cX6_requireRoomFor 8 = .ok (.iadd, 1) := by decide +kernel
theorem dX6_requireRoomFor_9 : decode cX6_requireRoomFor 9 = .ok (.bipush 60, 2) := by decide +kernel
theorem dX6_requireRoomFor_11 : decode cX6_requireRoomFor 11 = .ok (.if_icmp .le 13, 3) := by decide +kernel
theorem dX6_requireRoomFor_14 : decode cX6_requireRoomFor 14 = .ok (.new 164, 3) := by decide +kernel
theorem dX6_requireRoomFor_17 : decode cX6_requireRoomFor 17 = .ok (.dup, 1) := by decide +kernel
theorem dX6_requireRoomFor_18 : decode cX6_requireRoomFor 18 = .ok (.ldc 198, 2) := by decide +kernel
theorem dX6_requireRoomFor_20 : decode cX6_requireRoomFor 20 = .ok (.invokespecial 168, 3) := by decide +kernel
theorem dX6_requireRoomFor_23 : decode cX6_requireRoomFor 23 = .ok (.athrow, 1) := by decide +kernel
theorem dX6_requireRoomFor_24 : decode cX6_requireRoomFor 24 = .ok (.return_, 1) := by decide +kernel
theorem dX6_forgetSeasons_0 : decode cX6_forgetSeasons 0 = .ok (.aload_n 0, 1) := by decide +kernel
theorem dX6_forgetSeasons_1 : decode cX6_forgetSeasons 1 = .ok (.iconst 0, 1) := by decide +kernel
theorem dX6_forgetSeasons_2 : decode cX6_forgetSeasons 2 = .ok (.putfield 57, 3) := by decide +kernel
theorem dX6_forgetSeasons_5 : decode cX6_forgetSeasons 5 = .ok (.aload_n 0, 1) := by decide +kernel
theorem dX6_forgetSeasons_6 : decode cX6_forgetSeasons 6 = .ok (.iconst 0, 1) := by decide +kernel
theorem dX6_forgetSeasons_7 : decode cX6_forgetSeasons 7 = .ok (.putfield 61, 3) := by decide +kernel
theorem dX6_forgetSeasons_10 : decode cX6_forgetSeasons 10 = .ok (.return_, 1) := by decide +kernel
set_option maxRecDepth 20000 in
theorem ggX6_findSeasons_X1_find : GoodIn wsX6_findSeasons wsX1_find := goodIn_r _ [7, 8, 9, 10, 11, 12, 13, 14, 6, 15, 16, 17, 18, 19, 20, 21, 22, 23, 24, 25, 26, 27, 28, 29, 30, 31, 32, 33, 34, 35, 36, 37, 38, 39, 40, 41, 42, 43, 44, 45, 46, 47, 48, 49, 50, 51, 52, 53, 54, 55, 56, 57, 58, 59, 60, 61, 62, 63, 64, 65, 66, 67, 68, 69, 70, 71, 81, 82, 83, 84, 85, 86, 87, 88, 89, 90, 91, 92, 93] (by decide +kernel) (by decide +kernel)
set_option maxRecDepth 20000 in
theorem gX6_findSeasons_X1_find : GoodIn wsX6_findSeasons (wsV RX6 200 RX1 yX1_find wsX1_find) := goodIn_app (goodIn_of _ (by decide +kernel)) ggX6_findSeasons_X1_find
theorem dX6_findSeasons_0 : decode cX6_findSeasons 0 = .ok (.aload_n 0, 1) := by decide +kernel
theorem dX6_findSeasons_1 : decode cX6_findSeasons 1 = .ok (.getfield 57, 3) := by decide +kernel
theorem dX6_findSeasons_4 : decode cX6_findSeasons 4 = .ok (.ifCond .ne 15, 3) := by decide +kernel
theorem dX6_findSeasons_7 : decode cX6_findSeasons 7 = .ok (.aload_n 0, 1) := by decide +kernel
theorem dX6_findSeasons_8 : decode cX6_findSeasons 8 = .ok (.getfield 21, 3) := by decide +kernel
theorem dX6_findSeasons_11 : decode cX6_findSeasons 11 = .ok (.invokevirtual 200, 3) := by decide +kernel
theorem dX6_findSeasons_14 : decode cX6_findSeasons 14 = .ok (.aload_n 0, 1) := by decide +kernel
theorem dX6_findSeasons_15 : decode cX6_findSeasons 15 = .ok (.iconst 1, 1) := by decide +kernel
theorem dX6_findSeasons_16 : decode cX6_findSeasons 16 = .ok (.putfield 57, 3) := by decide +kernel
theorem dX6_findSeasons_19 : decode cX6_findSeasons 19 = .ok (.return_, 1) := by decide +kernel
set_option maxRecDepth 20000 in
theorem ggX6_findSegments_X6_findSeasons : GoodIn wsX6_findSegments wsX6_findSeasons := goodIn_r _ [7, 8, 9, 10, 11, 12, 13, 14, 15, 16, 17, 18, 19, 20, 21, 22, 23, 24, 25, 26, 27, 28, 29, 30, 31, 32, 33, 34, 35, 36, 37, 38, 39, 40, 41, 42, 43, 44, 45, 46, 47, 48, 49, 50, 51, 52, 53, 54, 55, 56, 57, 58, 59, 60, 61, 62, 63, 64, 65, 66, 67, 68, 69, 70, 71, 72, 73, 74, 75, 76, 77, 78, 136, 137, 138, 139, 140, 141, 142, 143, 144, 145, 146, 147, 148, 149, 150, 151, 152, 153, 154, 155, 156, 157] (by decide +kernel) (by decide +kernel)
set_option maxRecDepth 20000 in
theorem gX6_findSegments_X6_findSeasons : GoodIn wsX6_findSegments (wsV RX6 117 RX6 yX6_findSeasons wsX6_findSeasons) := goodIn_app (goodIn_of _ (by decide +kernel)) ggX6_findSegments_X6_findSeasons
set_option maxRecDepth 20000 in
theorem ggX6_findSegments_X2_findCuts : GoodIn wsX6_findSegments wsX2_findCuts := goodIn_r _ [83, 84, 85, 33, 34, 35, 36, 37, 86, 87, 88, 82, 89, 90, 91, 92, 93, 94, 95, 96, 26, 27, 28, 29, 30, 31, 97, 98, 99, 100, 101, 102, 70, 71, 72, 73, 74, 103, 104, 105, 106, 107, 108, 39, 40, 41, 42, 43, 44, 45, 46, 109, 110, 111, 13, 112, 17, 75, 76, 77, 78, 113, 53, 54, 55, 56, 114, 115, 116, 117, 118, 119, 120, 121, 122, 158, 159, 160, 161, 162, 163, 164, 165, 166, 167, 168, 169, 154, 155, 156, 151, 152, 153, 157, 145, 146, 147, 148, 149, 150] (by decide +kernel) (by decide +kernel)
set_option maxRecDepth 20000 in
theorem gX6_findSegments_X2_findCuts : GoodIn wsX6_findSegments (wsV RX6 203 RX2 yX2_findCuts wsX2_findCuts) := goodIn_app (goodIn_of _ (by decide +kernel)) ggX6_findSegments_X2_findCuts
set_option maxRecDepth 20000 in
theorem ggX6_findSegments_X2_followCuts : GoodIn wsX6_findSegments wsX2_followCuts := goodIn_r _ [126, 84, 127, 101, 90, 128, 129, 130, 85, 33, 34, 35, 36, 37, 118, 76, 77, 72, 78, 74, 131, 132, 133, 82, 134, 96, 26, 27, 28, 29, 30, 31, 103, 104, 105, 106, 107, 108, 39, 40, 41, 42, 43, 44, 45, 46, 109, 110, 111, 13, 112, 17, 75, 113, 53, 54, 55, 56, 135, 58, 59, 60, 102, 70, 71, 73, 158, 159, 160, 161, 162, 163, 164, 165, 166, 167, 168, 169, 154, 155, 156, 157, 151, 152, 153, 145, 146, 147, 148, 149, 150] (by decide +kernel) (by decide +kernel)
set_option maxRecDepth 20000 in
theorem gX6_findSegments_X2_followCuts : GoodIn wsX6_findSegments (wsV RX6 206 RX2 yX2_followCuts wsX2_followCuts) := goodIn_app (goodIn_of _ (by decide +kernel)) ggX6_findSegments_X2_followCuts
theorem dX6_findSegments_0 : decode cX6_findSegments 0 = .ok (.aload_n 0, 1) := by decide +kernel
theorem dX6_findSegments_1 : decode cX6_findSegments 1 = .ok (.invokevirtual 117, 3) := by decide +kernel
theorem dX6_findSegments_4 : decode cX6_findSegments 4 = .ok (.aload_n 0, 1) := by decide +kernel
theorem dX6_findSegments_5 : decode cX6_findSegments 5 = .ok (.getfield 61, 3) := by decide +kernel
theorem dX6_findSegments_8 : decode cX6_findSegments 8 = .ok (.ifCond .ne 22, 3) := by decide +kernel
theorem dX6_findSegments_11 : decode cX6_findSegments 11 = .ok (.aload_n 0, 1) := by decide +kernel
theorem dX6_findSegments_12 : decode cX6_findSegments 12 = .ok (.getfield 30, 3) := by decide +kernel
theorem dX6_findSegments_15 : decode cX6_findSegments 15 = .ok (.invokevirtual 203, 3) := by decide +kernel
theorem dX6_findSegments_18 : decode cX6_findSegments 18 = .ok (.aload_n 0, 1) := by decide +kernel
theorem dX6_findSegments_19 : decode cX6_findSegments 19 = .ok (.getfield 30, 3) := by decide +kernel
theorem dX6_findSegments_22 : decode cX6_findSegments 22 = .ok (.invokevirtual 206, 3) := by decide +kernel
theorem dX6_findSegments_25 : decode cX6_findSegments 25 = .ok (.aload_n 0, 1) := by decide +kernel
theorem dX6_findSegments_26 : decode cX6_findSegments 26 = .ok (.iconst 1, 1) := by decide +kernel
theorem dX6_findSegments_27 : decode cX6_findSegments 27 = .ok (.putfield 61, 3) := by decide +kernel
theorem dX6_findSegments_30 : decode cX6_findSegments 30 = .ok (.return_, 1) := by decide +kernel
set_option maxRecDepth 20000 in
theorem ggX6_residualAt_X1_adjustedAt : GoodIn wsX6_residualAt wsX1_adjustedAt := goodIn_r _ [7, 8, 9, 10, 11, 12, 13, 14, 31, 32, 33, 34, 35, 36, 37] (by decide +kernel) (by decide +kernel)
set_option maxRecDepth 20000 in
theorem gX6_residualAt_X1_adjustedAt : GoodIn wsX6_residualAt (wsV RX6 129 RX1 yX1_adjustedAt wsX1_adjustedAt) := goodIn_app (goodIn_of _ (by decide +kernel)) ggX6_residualAt_X1_adjustedAt
set_option maxRecDepth 20000 in
theorem ggX6_residualAt_X2_levelAtValue : GoodIn wsX6_residualAt wsX2_levelAtValue := goodIn_r _ [19, 20, 21, 10, 11, 12, 13, 14, 38, 39, 40, 41, 42, 43, 44, 45, 46, 47, 48, 49, 37] (by decide +kernel) (by decide +kernel)
set_option maxRecDepth 20000 in
theorem gX6_residualAt_X2_levelAtValue : GoodIn wsX6_residualAt (wsV RX6 209 RX2 yX2_levelAtValue wsX2_levelAtValue) := goodIn_app (goodIn_of _ (by decide +kernel)) ggX6_residualAt_X2_levelAtValue
