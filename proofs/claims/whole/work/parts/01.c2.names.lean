set_option maxRecDepth 20000 in
theorem gX2_sortIn_X1_adjustedAt : GoodIn wsX2_sortIn (wsV RX2 105 RX1 yX1_adjustedAt wsX1_adjustedAt) := goodIn_app (goodIn_of _ (by decide +kernel)) ggX2_sortIn_X1_adjustedAt
set_option maxRecDepth 20000 in
theorem ggX2_sortIn_X4_insert : GoodIn wsX2_sortIn wsX4_insert := goodIn_r _ [31, 32, 33, 34, 57, 58, 59] (by decide +kernel) (by decide +kernel)
set_option maxRecDepth 20000 in
theorem gX2_sortIn_X4_insert : GoodIn wsX2_sortIn (wsV RX2 110 RX4 yX4_insert wsX4_insert) := goodIn_app (goodIn_of _ (by decide +kernel)) ggX2_sortIn_X4_insert
theorem dX2_sortIn_0 : decode cX2_sortIn 0 = .ok (.aload_n 0, 1) := by decide +kernel
theorem dX2_sortIn_1 : decode cX2_sortIn 1 = .ok (.getfield 50, 3) := by decide +kernel
theorem dX2_sortIn_4 : decode cX2_sortIn 4 = .ok (.iload_n 1, 1) := by decide +kernel
theorem dX2_sortIn_5 : decode cX2_sortIn 5 = .ok (.invokevirtual 101, 3) := by decide +kernel
theorem dX2_sortIn_8 : decode cX2_sortIn 8 = .ok (.ifCond .ne 18, 3) := by decide +kernel
theorem dX2_sortIn_11 : decode cX2_sortIn 11 = .ok (.aload_n 0, 1) := by decide +kernel
theorem dX2_sortIn_12 : decode cX2_sortIn 12 = .ok (.getfield 12, 3) := by decide +kernel
theorem dX2_sortIn_15 : decode cX2_sortIn 15 = .ok (.aload_n 0, 1) := by decide +kernel
theorem dX2_sortIn_16 : decode cX2_sortIn 16 = .ok (.getfield 54, 3) := by decide +kernel
theorem dX2_sortIn_19 : decode cX2_sortIn 19 = .ok (.iload_n 1, 1) := by decide +kernel
theorem dX2_sortIn_20 : decode cX2_sortIn 20 = .ok (.invokevirtual 105, 3) := by decide +kernel
theorem dX2_sortIn_23 : decode cX2_sortIn 23 = .ok (.invokevirtual 110, 3) := by decide +kernel
theorem dX2_sortIn_26 : decode cX2_sortIn 26 = .ok (.return_, 1) := by decide +kernel
theorem dX3_init_0 : decode cX3_init 0 = .ok (.aload_n 0, 1) := by decide +kernel
theorem dX3_init_1 : decode cX3_init 1 = .ok (.invokespecial 3, 3) := by decide +kernel
theorem dX3_init_4 : decode cX3_init 4 = .ok (.aload_n 0, 1) := by decide +kernel
theorem dX3_init_5 : decode cX3_init 5 = .ok (.bipush 60, 2) := by decide +kernel
theorem dX3_init_7 : decode cX3_init 7 = .ok (.newarray .int, 2) := by decide +kernel
theorem dX3_init_9 : decode cX3_init 9 = .ok (.putfield 9, 3) := by decide +kernel
theorem dX3_init_12 : decode cX3_init 12 = .ok (.aload_n 0, 1) := by decide +kernel
theorem dX3_init_13 : decode cX3_init 13 = .ok (.bipush 60, 2) := by decide +kernel
theorem dX3_init_15 : decode cX3_init 15 = .ok (.newarray .boolean, 2) := by decide +kernel
theorem dX3_init_17 : decode cX3_init 17 = .ok (.putfield 15, 3) := by decide +kernel
theorem dX3_init_20 : decode cX3_init 20 = .ok (.aload_n 0, 1) := by decide +kernel
theorem dX3_init_21 : decode cX3_init 21 = .ok (.iconst 0, 1) := by decide +kernel
theorem dX3_init_22 : decode cX3_init 22 = .ok (.putfield 19, 3) := by decide +kernel
theorem dX3_init_25 : decode cX3_init 25 = .ok (.return_, 1) := by decide +kernel
theorem dX3_count_0 : decode cX3_count 0 = .ok (.aload_n 0, 1) := by decide +kernel
theorem dX3_count_1 : decode cX3_count 1 = .ok (.getfield 19, 3) := by decide +kernel
theorem dX3_count_4 : decode cX3_count 4 = .ok (.ireturn, 1) := by decide +kernel
set_option maxRecDepth 20000 in
theorem ggX3_numberAt_X3_has : GoodIn wsX3_numberAt wsX3_has := goodIn_r _ [6, 7, 8, 9, 10] (by decide +kernel) (by decide +kernel)
set_option maxRecDepth 20000 in
theorem gX3_numberAt_X3_has : GoodIn wsX3_numberAt (wsV RX3 23 RX3 yX3_has wsX3_has) := goodIn_app (goodIn_of _ (by decide +kernel)) ggX3_numberAt_X3_has
theorem dX3_numberAt_0 : decode cX3_numberAt 0 = .ok (.aload_n 0, 1) := by decide +kernel
theorem dX3_numberAt_1 : decode cX3_numberAt 1 = .ok (.iload_n 1, 1) := by decide +kernel
theorem dX3_numberAt_2 : decode cX3_numberAt 2 = .ok (.invokevirtual 23, 3) := by decide +kernel
theorem dX3_numberAt_5 : decode cX3_numberAt 5 = .ok (.ifCond .eq 12, 3) := by decide +kernel
theorem dX3_numberAt_8 : decode cX3_numberAt 8 = .ok (.aload_n 0, 1) := by decide +kernel
theorem dX3_numberAt_9 : decode cX3_numberAt 9 = .ok (.getfield 9, 3) := by decide +kernel
theorem dX3_numberAt_12 : decode cX3_numberAt 12 = .ok (.iload_n 1, 1) := by decide +kernel
theorem dX3_numberAt_13 : decode cX3_numberAt 13 = .ok (.iaload, 1) := by decide +kernel
theorem dX3_numberAt_14 : decode cX3_numberAt 14 = .ok (.goto 4, 3) := by decide +kernel
theorem dX3_numberAt_17 : decode cX3_numberAt 17 = .ok (.iconst 0, 1) := by decide +kernel
theorem dX3_numberAt_18 : decode cX3_numberAt 18 = .ok (.ireturn, 1) := by decide +kernel
set_option maxRecDepth 20000 in
theorem ggX3_isHoliday_X3_has : GoodIn wsX3_isHoliday wsX3_has := goodIn_r _ [6, 7, 8, 9, 10] (by decide +kernel) (by decide +kernel)
set_option maxRecDepth 20000 in
theorem gX3_isHoliday_X3_has : GoodIn wsX3_isHoliday (wsV RX3 23 RX3 yX3_has wsX3_has) := goodIn_app (goodIn_of _ (by decide +kernel)) ggX3_isHoliday_X3_has
theorem dX3_isHoliday_0 : decode cX3_isHoliday 0 = .ok (.aload_n 0, 1) := by decide +kernel
theorem dX3_isHoliday_1 : decode cX3_isHoliday 1 = .ok (.iload_n 1, 1) := by decide +kernel
theorem dX3_isHoliday_2 : decode cX3_isHoliday 2 = .ok (.invokevirtual 23, 3) := by decide +kernel
theorem dX3_isHoliday_5 : decode cX3_isHoliday 5 = .ok (.ifCond .eq 16, 3) := by decide +kernel
theorem dX3_isHoliday_8 : decode cX3_isHoliday 8 = .ok (.aload_n 0, 1) := by decide +kernel
theorem dX3_isHoliday_9 : decode cX3_isHoliday 9 = .ok (.getfield 15, 3) := by decide +kernel
theorem dX3_isHoliday_12 : decode cX3_isHoliday 12 = .ok (.iload_n 1, 1) := by decide +kernel
theorem dX3_isHoliday_13 : decode cX3_isHoliday 13 = .ok (.baload, 1) := by decide +kernel
theorem dX3_isHoliday_14 : decode cX3_isHoliday 14 = .ok (.ifCond .eq 7, 3) := by decide +kernel
theorem dX3_isHoliday_17 : decode cX3_isHoliday 17 = .ok (.iconst 1, 1) := by decide +kernel
theorem dX3_isHoliday_18 : decode cX3_isHoliday 18 = .ok (.goto 4, 3) := by decide +kernel
theorem dX3_isHoliday_21 : decode cX3_isHoliday 21 = .ok (.iconst 0, 1) := by decide +kernel
theorem dX3_isHoliday_22 : decode cX3_isHoliday 22 = .ok (.ireturn, 1) := by decide +kernel
theorem dX3_append_0 : decode cX3_append 0 = .ok (.aload_n 0, 1) := by decide +kernel
theorem dX3_append_1 : decode cX3_append 1 = .ok (.getfield 19, 3) := by decide +kernel
theorem dX3_append_4 : decode cX3_append 4 = .ok (.aload_n 0, 1) := by decide +kernel
theorem dX3_append_5 : decode cX3_append 5 = .ok (.getfield 9, 3) := by decide +kernel
theorem dX3_append_8 : decode cX3_append 8 = .ok (.arraylength, 1) := by decide +kernel
theorem dX3_append_9 : decode cX3_append 9 = .ok (.if_icmp .ge 33, 3) := by decide +kernel
theorem dX3_append_12 : decode cX3_append 12 = .ok (.aload_n 0, 1) := by decide +kernel
theorem dX3_append_13 : decode cX3_append 13 = .ok (.getfield 9, 3) := by decide +kernel
theorem dX3_append_16 : decode cX3_append 16 = .ok (.aload_n 0, 1) := by decide +kernel
theorem dX3_append_17 : decode cX3_append 17 = .ok (.getfield 19, 3) := by decide +kernel
theorem dX3_append_20 : decode cX3_append 20 = .ok (.iload_n 1, 1) := by decide +kernel
theorem dX3_append_21 : decode cX3_append 21 = .ok (.iastore, 1) := by decide +kernel
theorem dX3_append_22 : decode cX3_append 22 = .ok (.aload_n 0, 1) := by decide +kernel
theorem dX3_append_23 : decode cX3_append 23 = .ok (.getfield 15, 3) := by decide +kernel
theorem dX3_append_26 : decode cX3_append 26 = .ok (.aload_n 0, 1) := by decide +kernel
theorem dX3_append_27 : decode cX3_append 27 = .ok (.getfield 19, 3) := by decide +kernel
theorem dX3_append_30 : decode cX3_append 30 = .ok (.iconst 0, 1) := by decide +kernel
theorem dX3_append_31 : decode cX3_append 31 = .ok (.bastore, 1) := by decide +kernel
theorem dX3_append_32 : decode cX3_append 32 = .ok (.aload_n 0, 1) := by decide +kernel
theorem dX3_append_33 : decode cX3_append 33 = .ok (.dup, 1) := by decide +kernel
theorem dX3_append_34 : decode cX3_append 34 = .ok (.getfield 19, 3) := by decide +kernel
theorem dX3_append_37 : decode cX3_append 37 = .ok (.iconst 1, 1) := by decide +kernel
theorem dX3_append_38 : decode cX3_append 38 = .ok (.iadd, 1) := by decide +kernel
theorem dX3_append_39 : decode cX3_append 39 = .ok (.putfield 19, 3) := by decide +kernel
theorem dX3_append_42 : decode cX3_append 42 = .ok (.return_, 1) := by decide +kernel
set_option maxRecDepth 20000 in
theorem ggX3_replace_X3_has : GoodIn wsX3_replace wsX3_has := goodIn_r _ [6, 7, 8, 9, 10] (by decide +kernel) (by decide +kernel)
set_option maxRecDepth 20000 in
theorem gX3_replace_X3_has : GoodIn wsX3_replace (wsV RX3 23 RX3 yX3_has wsX3_has) := goodIn_app (goodIn_of _ (by decide +kernel)) ggX3_replace_X3_has
theorem dX3_replace_0 : decode cX3_replace 0 = .ok (.aload_n 0, 1) := by decide +kernel
theorem dX3_replace_1 : decode cX3_replace 1 = .ok (.iload_n 1, 1) := by decide +kernel
theorem dX3_replace_2 : decode cX3_replace 2 = .ok (.invokevirtual 23, 3) := by decide +kernel
theorem dX3_replace_5 : decode cX3_replace 5 = .ok (.ifCond .eq 10, 3) := by decide +kernel
theorem dX3_replace_8 : decode cX3_replace 8 = .ok (.aload_n 0, 1) := by decide +kernel
theorem dX3_replace_9 : decode cX3_replace 9 = .ok (.getfield 9, 3) := by decide +kernel
theorem dX3_replace_12 : decode cX3_replace 12 = .ok (.iload_n 1, 1) := by decide +kernel
theorem dX3_replace_13 : decode cX3_replace 13 = .ok (.iload_n 2, 1) := by decide +kernel
theorem dX3_replace_14 : decode cX3_replace 14 = .ok (.iastore, 1) := by decide +kernel
theorem dX3_replace_15 : decode cX3_replace 15 = .ok (.return_, 1) := by decide +kernel
set_option maxRecDepth 20000 in
theorem ggX3_markHoliday_X3_has : GoodIn wsX3_markHoliday wsX3_has := goodIn_r _ [6, 7, 8, 9, 10] (by decide +kernel) (by decide +kernel)
set_option maxRecDepth 20000 in
theorem gX3_markHoliday_X3_has : GoodIn wsX3_markHoliday (wsV RX3 23 RX3 yX3_has wsX3_has) := goodIn_app (goodIn_of _ (by decide +kernel)) ggX3_markHoliday_X3_has
theorem dX3_markHoliday_0 : decode cX3_markHoliday 0 = .ok (.aload_n 0, 1) := by decide +kernel
theorem dX3_markHoliday_1 : decode cX3_markHoliday 1 = .ok (.iload_n 1, 1) := by decide +kernel
theorem dX3_markHoliday_2 : decode cX3_markHoliday 2 = .ok (.invokevirtual 23, 3) := by decide +kernel
theorem dX3_markHoliday_5 : decode cX3_markHoliday 5 = .ok (.ifCond .eq 10, 3) := by decide +kernel
theorem dX3_markHoliday_8 : decode cX3_markHoliday 8 = .ok (.aload_n 0, 1) := by decide +kernel
theorem dX3_markHoliday_9 : decode cX3_markHoliday 9 = .ok (.getfield 15, 3) := by decide +kernel
theorem dX3_markHoliday_12 : decode cX3_markHoliday 12 = .ok (.iload_n 1, 1) := by decide +kernel
theorem dX3_markHoliday_13 : decode cX3_markHoliday 13 = .ok (.iload_n 2, 1) := by decide +kernel
theorem dX3_markHoliday_14 : decode cX3_markHoliday 14 = .ok (.bastore, 1) := by decide +kernel
theorem dX3_markHoliday_15 : decode cX3_markHoliday 15 = .ok (.return_, 1) := by decide +kernel
theorem dX3_removeOldest_0 : decode cX3_removeOldest 0 = .ok (.iload_n 1, 1) := by decide +kernel
theorem dX3_removeOldest_1 : decode cX3_removeOldest 1 = .ok (.ifCond .lt 11, 3) := by decide +kernel
theorem dX3_removeOldest_4 : decode cX3_removeOldest 4 = .ok (.iload_n 1, 1) := by decide +kernel
theorem dX3_removeOldest_5 : decode cX3_removeOldest 5 = .ok (.aload_n 0, 1) := by decide +kernel
theorem dX3_removeOldest_6 : decode cX3_removeOldest 6 = .ok (.getfield 19, 3) := by decide +kernel
theorem dX3_removeOldest_9 : decode cX3_removeOldest 9 = .ok (.if_icmp .le 4, 3) := by decide +kernel
theorem dX3_removeOldest_12 : decode cX3_removeOldest 12 = .ok (.return_, 1) := by decide +kernel
theorem dX3_removeOldest_13 : decode cX3_removeOldest 13 = .ok (.aload_n 0, 1) := by decide +kernel
theorem dX3_removeOldest_14 : decode cX3_removeOldest 14 = .ok (.dup, 1) := by decide +kernel
theorem dX3_removeOldest_15 : decode cX3_removeOldest 15 = .ok (.getfield 19, 3) := by decide +kernel
theorem dX3_removeOldest_18 : decode cX3_removeOldest 18 = .ok (.iload_n 1, 1) := by decide +kernel
theorem dX3_removeOldest_19 : decode cX3_removeOldest 19 = .ok (.isub, 1) := by decide +kernel
theorem dX3_removeOldest_20 : decode cX3_removeOldest 20 = .ok (.putfield 19, 3) := by decide +kernel
theorem dX3_removeOldest_23 : decode cX3_removeOldest 23 = .ok (.iconst 0, 1) := by decide +kernel
theorem dX3_removeOldest_24 : decode cX3_removeOldest 24 = .ok (.istore_n 2, 1) := by decide +kernel
theorem dX3_removeOldest_25 : decode cX3_removeOldest 25 = .ok (.iload_n 2, 1) := by decide +kernel
theorem dX3_removeOldest_26 : decode cX3_removeOldest 26 = .ok (.aload_n 0, 1) := by decide +kernel
theorem dX3_removeOldest_27 : decode cX3_removeOldest 27 = .ok (.getfield 19, 3) := by decide +kernel
theorem dX3_removeOldest_30 : decode cX3_removeOldest 30 = .ok (.if_icmp .ge 37, 3) := by decide +kernel
theorem dX3_removeOldest_33 : decode cX3_removeOldest 33 = .ok (.aload_n 0, 1) := by decide +kernel
theorem dX3_removeOldest_34 : decode cX3_removeOldest 34 = .ok (.getfield 9, 3) := by decide +kernel
theorem dX3_removeOldest_37 : decode cX3_removeOldest 37 = .ok (.iload_n 2, 1) := by decide +kernel
theorem dX3_removeOldest_38 : decode cX3_removeOldest 38 = .ok (.aload_n 0, 1) := by decide +kernel
theorem dX3_removeOldest_39 : decode cX3_removeOldest 39 = .ok (.getfield 9, 3) := by decide +kernel
theorem dX3_removeOldest_42 : decode cX3_removeOldest 42 = .ok (.iload_n 2, 1) := by decide +kernel
theorem dX3_removeOldest_43 : decode cX3_removeOldest 43 = .ok (.iload_n 1, 1) := by decide +kernel
theorem dX3_removeOldest_44 : decode cX3_removeOldest 44 = .ok (.iadd, 1) := by decide +kernel
theorem dX3_removeOldest_45 : decode cX3_removeOldest 45 = .ok (.iaload, 1) := by decide +kernel
theorem dX3_removeOldest_46 : decode cX3_removeOldest 46 = .ok (.iastore, 1) := by decide +kernel
theorem dX3_removeOldest_47 : decode cX3_removeOldest 47 = .ok (.aload_n 0, 1) := by decide +kernel
theorem dX3_removeOldest_48 : decode cX3_removeOldest 48 = .ok (.getfield 15, 3) := by decide +kernel
theorem dX3_removeOldest_51 : decode cX3_removeOldest 51 = .ok (.iload_n 2, 1) := by decide +kernel
theorem dX3_removeOldest_52 : decode cX3_removeOldest 52 = .ok (.aload_n 0, 1) := by decide +kernel
theorem dX3_removeOldest_53 : decode cX3_removeOldest 53 = .ok (.getfield 15, 3) := by decide +kernel
theorem dX3_removeOldest_56 : decode cX3_removeOldest 56 = .ok (.iload_n 2, 1) := by decide +kernel
theorem dX3_removeOldest_57 : decode cX3_removeOldest 57 = .ok (.iload_n 1, 1) := by decide +kernel
theorem dX3_removeOldest_58 : decode cX3_removeOldest 58 = .ok (.iadd, 1) := by decide +kernel
theorem dX3_removeOldest_59 : decode cX3_removeOldest 59 = .ok (.baload, 1) := by decide +kernel
theorem dX3_removeOldest_60 : decode cX3_removeOldest 60 = .ok (.bastore, 1) := by decide +kernel
theorem dX3_removeOldest_61 : decode cX3_removeOldest 61 = .ok (.iinc 2 1, 3) := by decide +kernel
theorem dX3_removeOldest_64 : decode cX3_removeOldest 64 = .ok (.goto (-39), 3) := by decide +kernel
theorem dX3_removeOldest_67 : decode cX3_removeOldest 67 = .ok (.return_, 1) := by decide +kernel
theorem dX3_has_0 : decode cX3_has 0 = .ok (.iload_n 1, 1) := by decide +kernel
theorem dX3_has_1 : decode cX3_has 1 = .ok (.ifCond .lt 15, 3) := by decide +kernel
theorem dX3_has_4 : decode cX3_has 4 = .ok (.iload_n 1, 1) := by decide +kernel
theorem dX3_has_5 : decode cX3_has 5 = .ok (.aload_n 0, 1) := by decide +kernel
theorem dX3_has_6 : decode cX3_has 6 = .ok (.getfield 19, 3) := by decide +kernel
theorem dX3_has_9 : decode cX3_has 9 = .ok (.if_icmp .ge 7, 3) := by decide +kernel
theorem dX3_has_12 : decode cX3_has 12 = .ok (.iconst 1, 1) := by decide +kernel
theorem dX3_has_13 : decode cX3_has 13 = .ok (.goto 4, 3) := by decide +kernel
theorem dX3_has_16 : decode cX3_has 16 = .ok (.iconst 0, 1) := by decide +kernel
theorem dX3_has_17 : decode cX3_has 17 = .ok (.ireturn, 1) := by decide +kernel
theorem dX4_init_0 : decode cX4_init 0 = .ok (.aload_n 0, 1) := by decide +kernel
theorem dX4_init_1 : decode cX4_init 1 = .ok (.invokespecial 3, 3) := by decide +kernel
theorem dX4_init_4 : decode cX4_init 4 = .ok (.aload_n 0, 1) := by decide +kernel
theorem dX4_init_5 : decode cX4_init 5 = .ok (.bipush 60, 2) := by decide +kernel
theorem dX4_init_7 : decode cX4_init 7 = .ok (.newarray .int, 2) := by decide +kernel
theorem dX4_init_9 : decode cX4_init 9 = .ok (.putfield 9, 3) := by decide +kernel
theorem dX4_init_12 : decode cX4_init 12 = .ok (.aload_n 0, 1) := by decide +kernel
theorem dX4_init_13 : decode cX4_init 13 = .ok (.iconst 0, 1) := by decide +kernel
theorem dX4_init_14 : decode cX4_init 14 = .ok (.putfield 15, 3) := by decide +kernel
theorem dX4_init_17 : decode cX4_init 17 = .ok (.aload_n 0, 1) := by decide +kernel
theorem dX4_init_18 : decode cX4_init 18 = .ok (.iconst 0, 1) := by decide +kernel
theorem dX4_init_19 : decode cX4_init 19 = .ok (.putfield 19, 3) := by decide +kernel
theorem dX4_init_22 : decode cX4_init 22 = .ok (.return_, 1) := by decide +kernel
theorem dX4_clear_0 : decode cX4_clear 0 = .ok (.aload_n 0, 1) := by decide +kernel
theorem dX4_clear_1 : decode cX4_clear 1 = .ok (.iconst 0, 1) := by decide +kernel
theorem dX4_clear_2 : decode cX4_clear 2 = .ok (.putfield 15, 3) := by decide +kernel
theorem dX4_clear_5 : decode cX4_clear 5 = .ok (.aload_n 0, 1) := by decide +kernel
theorem dX4_clear_6 : decode cX4_clear 6 = .ok (.iconst 0, 1) := by decide +kernel
theorem dX4_clear_7 : decode cX4_clear 7 = .ok (.putfield 19, 3) := by decide +kernel
theorem dX4_clear_10 : decode cX4_clear 10 = .ok (.return_, 1) := by decide +kernel
theorem dX4_insert_0 : decode cX4_insert 0 = .ok (.aload_n 0, 1) := by decide +kernel
theorem dX4_insert_1 : decode cX4_insert 1 = .ok (.getfield 15, 3) := by decide +kernel
theorem dX4_insert_4 : decode cX4_insert 4 = .ok (.aload_n 0, 1) := by decide +kernel
theorem dX4_insert_5 : decode cX4_insert 5 = .ok (.getfield 9, 3) := by decide +kernel
theorem dX4_insert_8 : decode cX4_insert 8 = .ok (.arraylength, 1) := by decide +kernel
theorem dX4_insert_9 : decode cX4_insert 9 = .ok (.if_icmp .lt 4, 3) := by decide +kernel
theorem dX4_insert_12 : decode cX4_insert 12 = .ok (.return_, 1) := by decide +kernel
theorem dX4_insert_13 : decode cX4_insert 13 = .ok (.aload_n 0, 1) := by decide +kernel
theorem dX4_insert_14 : decode cX4_insert 14 = .ok (.getfield 15, 3) := by decide +kernel
theorem dX4_insert_17 : decode cX4_insert 17 = .ok (.ifCond .le 61, 3) := by decide +kernel
theorem dX4_insert_20 : decode cX4_insert 20 = .ok (.aload_n 0, 1) := by decide +kernel
theorem dX4_insert_21 : decode cX4_insert 21 = .ok (.getfield 9, 3) := by decide +kernel
theorem dX4_insert_24 : decode cX4_insert 24 = .ok (.aload_n 0, 1) := by decide +kernel
theorem dX4_insert_25 : decode cX4_insert 25 = .ok (.getfield 15, 3) := by decide +kernel
theorem dX4_insert_28 : decode cX4_insert 28 = .ok (.iconst 1, 1) := by decide +kernel
theorem dX4_insert_29 : decode cX4_insert 29 = .ok (.isub, 1) := by decide +kernel
theorem dX4_insert_30 : decode cX4_insert 30 = .ok (.iconst 2, 1) := by decide +kernel
theorem dX4_insert_31 : decode cX4_insert 31 = .ok (.idiv, 1) := by decide +kernel
theorem dX4_insert_32 : decode cX4_insert 32 = .ok (.iaload, 1) := by decide +kernel
theorem dX4_insert_33 : decode cX4_insert 33 = .ok (.istore_n 2, 1) := by decide +kernel
theorem dX4_insert_34 : decode cX4_insert 34 = .ok (.aload_n 0, 1) := by decide +kernel
theorem dX4_insert_35 : decode cX4_insert 35 = .ok (.getfield 9, 3) := by decide +kernel
theorem dX4_insert_38 : decode cX4_insert 38 = .ok (.aload_n 0, 1) := by decide +kernel
theorem dX4_insert_39 : decode cX4_insert 39 = .ok (.getfield 15, 3) := by decide +kernel
theorem dX4_insert_42 : decode cX4_insert 42 = .ok (.iconst 2, 1) := by decide +kernel
theorem dX4_insert_43 : decode cX4_insert 43 = .ok (.idiv, 1) := by decide +kernel
theorem dX4_insert_44 : decode cX4_insert 44 = .ok (.iaload, 1) := by decide +kernel
theorem dX4_insert_45 : decode cX4_insert 45 = .ok (.istore_n 3, 1) := by decide +kernel
theorem dX4_insert_46 : decode cX4_insert 46 = .ok (.aload_n 0, 1) := by decide +kernel
theorem dX4_insert_47 : decode cX4_insert 47 = .ok (.dup, 1) := by decide +kernel
theorem dX4_insert_48 : decode cX4_insert 48 = .ok (.getfield 19, 3) := by decide +kernel
theorem dX4_insert_51 : decode cX4_insert 51 = .ok (.iload_n 1, 1) := by decide +kernel
theorem dX4_insert_52 : decode cX4_insert 52 = .ok (.iload_n 2, 1) := by decide +kernel
theorem dX4_insert_53 : decode cX4_insert 53 = .ok (.if_icmp .ge 9, 3) := by decide +kernel
theorem dX4_insert_56 : decode cX4_insert 56 = .ok (.iload_n 2, 1) := by decide +kernel
theorem dX4_insert_57 : decode cX4_insert 57 = .ok (.iload_n 1, 1) := by decide +kernel
theorem dX4_insert_58 : decode cX4_insert 58 = .ok (.isub, 1) := by decide +kernel
theorem dX4_insert_59 : decode cX4_insert 59 = .ok (.goto 15, 3) := by decide +kernel
theorem dX4_insert_62 : decode cX4_insert 62 = .ok (.iload_n 1, 1) := by decide +kernel
theorem dX4_insert_63 : decode cX4_insert 63 = .ok (.iload_n 3, 1) := by decide +kernel
theorem dX4_insert_64 : decode cX4_insert 64 = .ok (.if_icmp .le 9, 3) := by decide +kernel
theorem dX4_insert_67 : decode cX4_insert 67 = .ok (.iload_n 1, 1) := by decide +kernel
theorem dX4_insert_68 : decode cX4_insert 68 = .ok (.iload_n 3, 1) := by decide +kernel
theorem dX4_insert_69 : decode cX4_insert 69 = .ok (.isub, 1) := by decide +kernel
theorem dX4_insert_70 : decode cX4_insert 70 = .ok (.goto 4, 3) := by decide +kernel
theorem dX4_insert_73 : decode cX4_insert 73 = .ok (.iconst 0, 1) := by decide +kernel
theorem dX4_insert_74 : decode cX4_insert 74 = .ok (.iadd, 1) := by decide +kernel
theorem dX4_insert_75 : decode cX4_insert 75 = .ok (.putfield 19, 3) := by decide +kernel
theorem dX4_insert_78 : decode cX4_insert 78 = .ok (.aload_n 0, 1) := by decide +kernel
theorem dX4_insert_79 : decode cX4_insert 79 = .ok (.getfield 15, 3) := by decide +kernel
theorem dX4_insert_82 : decode cX4_insert 82 = .ok (.istore_n 2, 1) := by decide +kernel
theorem dX4_insert_83 : decode cX4_insert 83 = .ok (.iload_n 2, 1) := by decide +kernel
theorem dX4_insert_84 : decode cX4_insert 84 = .ok (.ifCond .le 35, 3) := by decide +kernel
theorem dX4_insert_87 : decode cX4_insert 87 = .ok (.aload_n 0, 1) := by decide +kernel
theorem dX4_insert_88 : decode cX4_insert 88 = .ok (.getfield 9, 3) := by decide +kernel
theorem dX4_insert_91 : decode cX4_insert 91 = .ok (.iload_n 2, 1) := by decide +kernel
theorem dX4_insert_92 : decode cX4_insert 92 = .ok (.iconst 1, 1) := by decide +kernel
theorem dX4_insert_93 : decode cX4_insert 93 = .ok (.isub, 1) := by decide +kernel
theorem dX4_insert_94 : decode cX4_insert 94 = .ok (.iaload, 1) := by decide +kernel
theorem dX4_insert_95 : decode cX4_insert 95 = .ok (.iload_n 1, 1) := by decide +kernel
theorem dX4_insert_96 : decode cX4_insert 96 = .ok (.if_icmp .le 23, 3) := by decide +kernel
theorem dX4_insert_99 : decode cX4_insert 99 = .ok (.aload_n 0, 1) := by decide +kernel
theorem dX4_insert_100 : decode cX4_insert 100 = .ok (.getfield 9, 3) := by decide +kernel
theorem dX4_insert_103 : decode cX4_insert 103 = .ok (.iload_n 2, 1) := by decide +kernel
theorem dX4_insert_104 : decode cX4_insert 104 = .ok (.aload_n 0, 1) := by decide +kernel
theorem dX4_insert_105 : decode cX4_insert 105 = .ok (.getfield 9, 3) := by decide +kernel
theorem dX4_insert_108 : decode cX4_insert 108 = .ok (.iload_n 2, 1) := by decide +kernel
theorem dX4_insert_109 : decode cX4_insert 109 = .ok (.iconst 1, 1) := by decide +kernel
theorem dX4_insert_110 : decode cX4_insert 110 = .ok (.isub, 1) := by decide +kernel
theorem dX4_insert_111 : decode cX4_insert 111 = .ok (.iaload, 1) := by decide +kernel
theorem dX4_insert_112 : decode cX4_insert 112 = .ok (.iastore, 1) := by decide +kernel
theorem dX4_insert_113 : decode cX4_insert 113 = .ok (.iinc 2 (-1), 3) := by decide +kernel
theorem dX4_insert_116 : decode cX4_insert 116 = .ok (.goto (-33), 3) := by decide +kernel
theorem dX4_insert_119 : decode cX4_insert 119 = .ok (.aload_n 0, 1) := by decide +kernel
theorem dX4_insert_120 : decode cX4_insert 120 = .ok (.getfield 9, 3) := by decide +kernel
theorem dX4_insert_123 : decode cX4_insert 123 = .ok (.iload_n 2, 1) := by decide +kernel
theorem dX4_insert_124 : decode cX4_insert 124 = .ok (.iload_n 1, 1) := by decide +kernel
theorem dX4_insert_125 : decode cX4_insert 125 = .ok (.iastore, 1) := by decide +kernel
theorem dX4_insert_126 : decode cX4_insert 126 = .ok (.aload_n 0, 1) := by decide +kernel
theorem dX4_insert_127 : decode cX4_insert 127 = .ok (.dup, 1) := by decide +kernel
theorem dX4_insert_128 : decode cX4_insert 128 = .ok (.getfield 15, 3) := by decide +kernel
theorem dX4_insert_131 : decode cX4_insert 131 = .ok (.iconst 1, 1) := by decide +kernel
theorem dX4_insert_132 : decode cX4_insert 132 = .ok (.iadd, 1) := by decide +kernel
theorem dX4_insert_133 : decode cX4_insert 133 = .ok (.putfield 15, 3) := by decide +kernel
theorem dX4_insert_136 : decode cX4_insert 136 = .ok (.return_, 1) := by decide +kernel
theorem dX4_median_0 : decode cX4_median 0 = .ok (.aload_n 0, 1) := by decide +kernel
theorem dX4_median_1 : decode cX4_median 1 = .ok (.getfield 15, 3) := by decide +kernel
theorem dX4_median_4 : decode cX4_median 4 = .ok (.ifCond .ne 7, 3) := by decide +kernel
theorem dX4_median_7 : decode cX4_median 7 = .ok (.iconst 0, 1) := by decide +kernel
theorem dX4_median_8 : decode cX4_median 8 = .ok (.goto 16, 3) := by decide +kernel
theorem dX4_median_11 : decode cX4_median 11 = .ok (.aload_n 0, 1) := by decide +kernel
theorem dX4_median_12 : decode cX4_median 12 = .ok (.getfield 9, 3) := by decide +kernel
theorem dX4_median_15 : decode cX4_median 15 = .ok (.aload_n 0, 1) := by decide +kernel
theorem dX4_median_16 : decode cX4_median 16 = .ok (.getfield 15, 3) := by decide +kernel
theorem dX4_median_19 : decode cX4_median 19 = .ok (.iconst 1, 1) := by decide +kernel
theorem dX4_median_20 : decode cX4_median 20 = .ok (.isub, 1) := by decide +kernel
theorem dX4_median_21 : decode cX4_median 21 = .ok (.iconst 2, 1) := by decide +kernel
theorem dX4_median_22 : decode cX4_median 22 = .ok (.idiv, 1) := by decide +kernel
theorem dX4_median_23 : decode cX4_median 23 = .ok (.iaload, 1) := by decide +kernel
theorem dX4_median_24 : decode cX4_median 24 = .ok (.ireturn, 1) := by decide +kernel
theorem dX4_spreadAroundMedian_0 : decode cX4_spreadAroundMedian 0 = .ok (.aload_n 0, 1) := by decide +kernel
theorem dX4_spreadAroundMedian_1 : decode cX4_spreadAroundMedian 1 = .ok (.getfield 19, 3) := by decide +kernel
theorem dX4_spreadAroundMedian_4 : decode cX4_spreadAroundMedian 4 = .ok (.ireturn, 1) := by decide +kernel
theorem dX5_init_0 : decode cX5_init 0 = .ok (.aload_n 0, 1) := by decide +kernel
theorem dX5_init_1 : decode cX5_init 1 = .ok (.invokespecial 3, 3) := by decide +kernel
theorem dX5_init_4 : decode cX5_init 4 = .ok (.aload_n 0, 1) := by decide +kernel
theorem dX5_init_5 : decode cX5_init 5 = .ok (.sipush 210, 3) := by decide +kernel
theorem dX5_init_8 : decode cX5_init 8 = .ok (.newarray .int, 2) := by decide +kernel
theorem dX5_init_10 : decode cX5_init 10 = .ok (.putfield 11, 3) := by decide +kernel
theorem dX5_init_13 : decode cX5_init 13 = .ok (.aload_n 0, 1) := by decide +kernel
theorem dX5_init_14 : decode cX5_init 14 = .ok (.aload_n 1, 1) := by decide +kernel
theorem dX5_init_15 : decode cX5_init 15 = .ok (.putfield 15, 3) := by decide +kernel
theorem dX5_init_18 : decode cX5_init 18 = .ok (.return_, 1) := by decide +kernel
set_option maxRecDepth 20000 in
theorem ggX5_leastOfAll_X2_costBetween : GoodIn wsX5_leastOfAll wsX2_costBetween := goodIn_r _ [7, 8, 9, 10, 11, 6, 12, 13, 14, 15, 16, 17, 18, 19, 20, 21, 22, 23, 24, 25, 26, 27, 28, 29, 30, 31, 32, 33, 34, 35, 36, 37, 38, 39, 40, 41, 42, 43, 44, 45, 46, 47, 48, 49, 50, 51, 52, 53, 54, 55, 56, 57, 78, 79, 80, 81, 82, 83, 84, 85, 86, 87, 88, 89, 90, 91, 92, 93, 94, 95, 96, 97, 98, 99, 100, 101, 102] (by decide +kernel) (by decide +kernel)
set_option maxRecDepth 20000 in
theorem gX5_leastOfAll_X2_costBetween : GoodIn wsX5_leastOfAll (wsV RX5 19 RX2 yX2_costBetween wsX2_costBetween) := goodIn_app (goodIn_of _ (by decide +kernel)) ggX5_leastOfAll_X2_costBetween
set_option maxRecDepth 20000 in
theorem ggX5_leastOfAll_X2_leastLength : GoodIn wsX5_leastOfAll wsX2_leastLength := goodIn_r _ [61, 62, 78, 79, 80, 81, 82, 83, 84, 85, 86, 87, 88, 89] (by decide +kernel) (by decide +kernel)
set_option maxRecDepth 20000 in
theorem gX5_leastOfAll_X2_leastLength : GoodIn wsX5_leastOfAll (wsV RX5 25 RX2 yX2_leastLength wsX2_leastLength) := goodIn_app (goodIn_of _ (by decide +kernel)) ggX5_leastOfAll_X2_leastLength
set_option maxRecDepth 20000 in
theorem ggX5_leastOfAll_X2_penaltyOfCut : GoodIn wsX5_leastOfAll wsX2_penaltyOfCut := goodIn_r _ [66, 67, 78, 79, 80, 81, 82, 83, 84, 85, 86, 87, 88, 89] (by decide +kernel) (by decide +kernel)
set_option maxRecDepth 20000 in
theorem gX5_leastOfAll_X2_penaltyOfCut : GoodIn wsX5_leastOfAll (wsV RX5 29 RX2 yX2_penaltyOfCut wsX2_penaltyOfCut) := goodIn_app (goodIn_of _ (by decide +kernel)) ggX5_leastOfAll_X2_penaltyOfCut
set_option maxRecDepth 20000 in
theorem ggX5_leastOfAll_X5_leastFrom : GoodIn wsX5_leastOfAll wsX5_leastFrom := goodIn_r _ [71, 72, 73, 74, 75, 68, 69, 70] (by decide +kernel) (by decide +kernel)
set_option maxRecDepth 20000 in
theorem gX5_leastOfAll_X5_leastFrom : GoodIn wsX5_leastOfAll (va_wsS RX5 32 yX5_leastFrom wsX5_leastFrom) := goodIn_app (goodIn_of _ (by decide +kernel)) ggX5_leastOfAll_X5_leastFrom
theorem dX5_leastOfAll_0 : decode cX5_leastOfAll 0 = .ok (.iload_n 1, 1) := by decide +kernel
theorem dX5_leastOfAll_1 : decode cX5_leastOfAll 1 = .ok (.iconst 1, 1) := by decide +kernel
theorem dX5_leastOfAll_2 : decode cX5_leastOfAll 2 = .ok (.if_icmp .lt 9, 3) := by decide +kernel
theorem dX5_leastOfAll_5 : decode cX5_leastOfAll 5 = .ok (.iload_n 1, 1) := by decide +kernel
theorem dX5_leastOfAll_6 : decode cX5_leastOfAll 6 = .ok (.bipush 14, 2) := by decide +kernel
theorem dX5_leastOfAll_8 : decode cX5_leastOfAll 8 = .ok (.if_icmp .le 5, 3) := by decide +kernel
theorem dX5_leastOfAll_11 : decode cX5_leastOfAll 11 = .ok (.iconst 0, 1) := by decide +kernel
theorem dX5_leastOfAll_12 : decode cX5_leastOfAll 12 = .ok (.ireturn, 1) := by decide +kernel
theorem dX5_leastOfAll_13 : decode cX5_leastOfAll 13 = .ok (.iconst 0, 1) := by decide +kernel
theorem dX5_leastOfAll_14 : decode cX5_leastOfAll 14 = .ok (.istore_n 2, 1) := by decide +kernel
theorem dX5_leastOfAll_15 : decode cX5_leastOfAll 15 = .ok (.iload_n 2, 1) := by decide +kernel
theorem dX5_leastOfAll_16 : decode cX5_leastOfAll 16 = .ok (.iload_n 1, 1) := by decide +kernel
theorem dX5_leastOfAll_17 : decode cX5_leastOfAll 17 = .ok (.if_icmp .ge 44, 3) := by decide +kernel
theorem dX5_leastOfAll_20 : decode cX5_leastOfAll 20 = .ok (.iload_n 2, 1) := by decide +kernel
theorem dX5_leastOfAll_21 : decode cX5_leastOfAll 21 = .ok (.iconst 1, 1) := by decide +kernel
theorem dX5_leastOfAll_22 : decode cX5_leastOfAll 22 = .ok (.iadd, 1) := by decide +kernel
theorem dX5_leastOfAll_23 : decode cX5_leastOfAll 23 = .ok (.istore_n 3, 1) := by decide +kernel
theorem dX5_leastOfAll_24 : decode cX5_leastOfAll 24 = .ok (.iload_n 3, 1) := by decide +kernel
theorem dX5_leastOfAll_25 : decode cX5_leastOfAll 25 = .ok (.iload_n 1, 1) := by decide +kernel
theorem dX5_leastOfAll_26 : decode cX5_leastOfAll 26 = .ok (.if_icmp .gt 29, 3) := by decide +kernel
theorem dX5_leastOfAll_29 : decode cX5_leastOfAll 29 = .ok (.aload_n 0, 1) := by decide +kernel
theorem dX5_leastOfAll_30 : decode cX5_leastOfAll 30 = .ok (.getfield 11, 3) := by decide +kernel
theorem dX5_leastOfAll_33 : decode cX5_leastOfAll 33 = .ok (.iload_n 2, 1) := by decide +kernel
theorem dX5_leastOfAll_34 : decode cX5_leastOfAll 34 = .ok (.bipush 15, 2) := by decide +kernel
theorem dX5_leastOfAll_36 : decode cX5_leastOfAll 36 = .ok (.imul, 1) := by decide +kernel
theorem dX5_leastOfAll_37 : decode cX5_leastOfAll 37 = .ok (.iload_n 3, 1) := by decide +kernel
theorem dX5_leastOfAll_38 : decode cX5_leastOfAll 38 = .ok (.iadd, 1) := by decide +kernel
theorem dX5_leastOfAll_39 : decode cX5_leastOfAll 39 = .ok (.aload_n 0, 1) := by decide +kernel
theorem dX5_leastOfAll_40 : decode cX5_leastOfAll 40 = .ok (.getfield 15, 3) := by decide +kernel
theorem dX5_leastOfAll_43 : decode cX5_leastOfAll 43 = .ok (.iload_n 2, 1) := by decide +kernel
theorem dX5_leastOfAll_44 : decode cX5_leastOfAll 44 = .ok (.iload_n 3, 1) := by decide +kernel
theorem dX5_leastOfAll_45 : decode cX5_leastOfAll 45 = .ok (.invokevirtual 19, 3) := by decide +kernel
theorem dX5_leastOfAll_48 : decode cX5_leastOfAll 48 = .ok (.iastore, 1) := by decide +kernel
theorem dX5_leastOfAll_49 : decode cX5_leastOfAll 49 = .ok (.iinc 3 1, 3) := by decide +kernel
theorem dX5_leastOfAll_52 : decode cX5_leastOfAll 52 = .ok (.goto (-28), 3) := by decide +kernel
theorem dX5_leastOfAll_55 : decode cX5_leastOfAll 55 = .ok (.iinc 2 1, 3) := by decide +kernel
theorem dX5_leastOfAll_58 : decode cX5_leastOfAll 58 = .ok (.goto (-43), 3) := by decide +kernel
theorem dX5_leastOfAll_61 : decode cX5_leastOfAll 61 = .ok (.aload_n 0, 1) := by decide +kernel
theorem dX5_leastOfAll_62 : decode cX5_leastOfAll 62 = .ok (.getfield 11, 3) := by decide +kernel
theorem dX5_leastOfAll_65 : decode cX5_leastOfAll 65 = .ok (.iload_n 1, 1) := by decide +kernel
theorem dX5_leastOfAll_66 : decode cX5_leastOfAll 66 = .ok (.aload_n 0, 1) := by decide +kernel
theorem dX5_leastOfAll_67 : decode cX5_leastOfAll 67 = .ok (.getfield 15, 3) := by decide +kernel
theorem dX5_leastOfAll_70 : decode cX5_leastOfAll 70 = .ok (.invokevirtual 25, 3) := by decide +kernel
theorem dX5_leastOfAll_73 : decode cX5_leastOfAll 73 = .ok (.aload_n 0, 1) := by decide +kernel
theorem dX5_leastOfAll_74 : decode cX5_leastOfAll 74 = .ok (.getfield 15, 3) := by decide +kernel
theorem dX5_leastOfAll_77 : decode cX5_leastOfAll 77 = .ok (.invokevirtual 29, 3) := by decide +kernel
theorem dX5_leastOfAll_80 : decode cX5_leastOfAll 80 = .ok (.iconst 0, 1) := by decide +kernel
theorem dX5_leastOfAll_81 : decode cX5_leastOfAll 81 = .ok (.iconst 0, 1) := by decide +kernel
theorem dX5_leastOfAll_82 : decode cX5_leastOfAll 82 = .ok (.invokestatic 32, 3) := by decide +kernel
theorem dX5_leastOfAll_85 : decode cX5_leastOfAll 85 = .ok (.ireturn, 1) := by decide +kernel
set_option maxRecDepth 20000 in
theorem ggX5_leastFrom_X5_leastFrom : GoodIn wsX5_leastFrom wsX5_leastFrom := goodIn_r _ [0, 1, 2, 3, 4, 5, 6, 7] (by decide +kernel) (by decide +kernel)
set_option maxRecDepth 20000 in
theorem gX5_leastFrom_X5_leastFrom : GoodIn wsX5_leastFrom (va_wsS RX5 32 yX5_leastFrom wsX5_leastFrom) := goodIn_app (goodIn_of _ (by decide +kernel)) ggX5_leastFrom_X5_leastFrom
theorem dX5_leastFrom_0 : decode cX5_leastFrom 0 = .ok (.iload 4, 2) := by decide +kernel
theorem dX5_leastFrom_2 : decode cX5_leastFrom 2 = .ok (.ifCond .lt 26, 3) := by decide +kernel
theorem dX5_leastFrom_5 : decode cX5_leastFrom 5 = .ok (.iload 4, 2) := by decide +kernel
theorem dX5_leastFrom_7 : decode cX5_leastFrom 7 = .ok (.iload_n 1, 1) := by decide +kernel
theorem dX5_leastFrom_8 : decode cX5_leastFrom 8 = .ok (.if_icmp .ge 20, 3) := by decide +kernel
theorem dX5_leastFrom_11 : decode cX5_leastFrom 11 = .ok (.iload_n 1, 1) := by decide +kernel
theorem dX5_leastFrom_12 : decode cX5_leastFrom 12 = .ok (.bipush 14, 2) := by decide +kernel
theorem dX5_leastFrom_14 : decode cX5_leastFrom 14 = .ok (.if_icmp .gt 14, 3) := by decide +kernel
theorem dX5_leastFrom_17 : decode cX5_leastFrom 17 = .ok (.iload_n 2, 1) := by decide +kernel
theorem dX5_leastFrom_18 : decode cX5_leastFrom 18 = .ok (.iconst 1, 1) := by decide +kernel
theorem dX5_leastFrom_19 : decode cX5_leastFrom 19 = .ok (.if_icmp .lt 9, 3) := by decide +kernel
theorem dX5_leastFrom_22 : decode cX5_leastFrom 22 = .ok (.iload 5, 2) := by decide +kernel
theorem dX5_leastFrom_24 : decode cX5_leastFrom 24 = .ok (.iload_n 1, 1) := by decide +kernel
theorem dX5_leastFrom_25 : decode cX5_leastFrom 25 = .ok (.if_icmp .le 5, 3) := by decide +kernel
theorem dX5_leastFrom_28 : decode cX5_leastFrom 28 = .ok (.iconst 0, 1) := by decide +kernel
theorem dX5_leastFrom_29 : decode cX5_leastFrom 29 = .ok (.ireturn, 1) := by decide +kernel
theorem dX5_leastFrom_30 : decode cX5_leastFrom 30 = .ok (.iload 4, 2) := by decide +kernel
theorem dX5_leastFrom_32 : decode cX5_leastFrom 32 = .ok (.bipush 15, 2) := by decide +kernel
theorem dX5_leastFrom_34 : decode cX5_leastFrom 34 = .ok (.imul, 1) := by decide +kernel
theorem dX5_leastFrom_35 : decode cX5_leastFrom 35 = .ok (.istore 6, 2) := by decide +kernel
theorem dX5_leastFrom_37 : decode cX5_leastFrom 37 = .ok (.aload_n 0, 1) := by decide +kernel
theorem dX5_leastFrom_38 : decode cX5_leastFrom 38 = .ok (.iload 6, 2) := by decide +kernel
theorem dX5_leastFrom_40 : decode cX5_leastFrom 40 = .ok (.iload_n 1, 1) := by decide +kernel
theorem dX5_leastFrom_41 : decode cX5_leastFrom 41 = .ok (.iadd, 1) := by decide +kernel
theorem dX5_leastFrom_42 : decode cX5_leastFrom 42 = .ok (.iaload, 1) := by decide +kernel
theorem dX5_leastFrom_43 : decode cX5_leastFrom 43 = .ok (.istore 7, 2) := by decide +kernel
theorem dX5_leastFrom_45 : decode cX5_leastFrom 45 = .ok (.iload 4, 2) := by decide +kernel
theorem dX5_leastFrom_47 : decode cX5_leastFrom 47 = .ok (.iload_n 2, 1) := by decide +kernel
theorem dX5_leastFrom_48 : decode cX5_leastFrom 48 = .ok (.iadd, 1) := by decide +kernel
theorem dX5_leastFrom_49 : decode cX5_leastFrom 49 = .ok (.istore 8, 2) := by decide +kernel
theorem dX5_leastFrom_51 : decode cX5_leastFrom 51 = .ok (.iload 8, 2) := by decide +kernel
theorem dX5_leastFrom_53 : decode cX5_leastFrom 53 = .ok (.iload_n 1, 1) := by decide +kernel
theorem dX5_leastFrom_54 : decode cX5_leastFrom 54 = .ok (.iload_n 2, 1) := by decide +kernel
theorem dX5_leastFrom_55 : decode cX5_leastFrom 55 = .ok (.isub, 1) := by decide +kernel
theorem dX5_leastFrom_56 : decode cX5_leastFrom 56 = .ok (.if_icmp .gt 43, 3) := by decide +kernel
theorem dX5_leastFrom_59 : decode cX5_leastFrom 59 = .ok (.aload_n 0, 1) := by decide +kernel
theorem dX5_leastFrom_60 : decode cX5_leastFrom 60 = .ok (.iload 6, 2) := by decide +kernel
theorem dX5_leastFrom_62 : decode cX5_leastFrom 62 = .ok (.iload 8, 2) := by decide +kernel
theorem dX5_leastFrom_64 : decode cX5_leastFrom 64 = .ok (.iadd, 1) := by decide +kernel
theorem dX5_leastFrom_65 : decode cX5_leastFrom 65 = .ok (.iaload, 1) := by decide +kernel
theorem dX5_leastFrom_66 : decode cX5_leastFrom 66 = .ok (.iload_n 3, 1) := by decide +kernel
theorem dX5_leastFrom_67 : decode cX5_leastFrom 67 = .ok (.iadd, 1) := by decide +kernel
theorem dX5_leastFrom_68 : decode cX5_leastFrom 68 = .ok (.aload_n 0, 1) := by decide +kernel
theorem dX5_leastFrom_69 : decode cX5_leastFrom 69 = .ok (.iload_n 1, 1) := by decide +kernel
theorem dX5_leastFrom_70 : decode cX5_leastFrom 70 = .ok (.iload_n 2, 1) := by decide +kernel
theorem dX5_leastFrom_71 : decode cX5_leastFrom 71 = .ok (.iload_n 3, 1) := by decide +kernel
theorem dX5_leastFrom_72 : decode cX5_leastFrom 72 = .ok (.iload 8, 2) := by decide +kernel
theorem dX5_leastFrom_74 : decode cX5_leastFrom 74 = .ok (.iload 5, 2) := by decide +kernel
theorem dX5_leastFrom_76 : decode cX5_leastFrom 76 = .ok (.iconst 1, 1) := by decide +kernel
theorem dX5_leastFrom_77 : decode cX5_leastFrom 77 = .ok (.iadd, 1) := by decide +kernel
theorem dX5_leastFrom_78 : decode cX5_leastFrom 78 = .ok (.invokestatic 32, 3) := by decide +kernel
theorem dX5_leastFrom_81 : decode cX5_leastFrom 81 = .ok (.iadd, 1) := by decide +kernel
theorem dX5_leastFrom_82 : decode cX5_leastFrom 82 = .ok (.istore 9, 2) := by decide +kernel
theorem dX5_leastFrom_84 : decode cX5_leastFrom 84 = .ok (.iload 7, 2) := by decide +kernel
theorem dX5_leastFrom_86 : decode cX5_leastFrom 86 = .ok (.iload 9, 2) := by decide +kernel
theorem dX5_leastFrom_88 : decode cX5_leastFrom 88 = .ok (.invokestatic 36, 3) := by decide +kernel
theorem dX5_leastFrom_91 : decode cX5_leastFrom 91 = .ok (.istore 7, 2) := by decide +kernel
theorem dX5_leastFrom_93 : decode cX5_leastFrom 93 = .ok (.iinc 8 1, 3) := by decide +kernel
theorem dX5_leastFrom_96 : decode cX5_leastFrom 96 = .ok (.goto (-45), 3) := by decide +kernel
theorem dX5_leastFrom_99 : decode cX5_leastFrom 99 = .ok (.iload 7, 2) := by decide +kernel
theorem dX5_leastFrom_101 : decode cX5_leastFrom 101 = .ok (.ireturn, 1) := by decide +kernel
set_option maxRecDepth 20000 in
theorem ggX6_init_X3_init : GoodIn wsX6_init wsX3_init := goodIn_r _ [29, 30, 2, 3, 31, 32, 33, 34, 35, 84, 85, 86] (by decide +kernel) (by decide +kernel)
set_option maxRecDepth 20000 in
theorem gX6_init_X3_init_n9 : GoodIn wsX6_init (wsX3_init) := ggX6_init_X3_init
set_option maxRecDepth 20000 in
theorem ggX6_init_X1_init : GoodIn wsX6_init wsX1_init := goodIn_r _ [38, 39, 2, 3, 40, 41, 42, 43, 44, 45, 21, 22, 46, 47, 48, 49, 50, 51, 52, 31, 53, 54, 55, 56, 57, 58, 59, 119, 96, 97, 98, 99, 100, 101, 116, 117, 118] (by decide +kernel) (by decide +kernel)
set_option maxRecDepth 20000 in
theorem gX6_init_X1_init : GoodIn wsX6_init (wsX1_init) := ggX6_init_X1_init
set_option maxRecDepth 20000 in
theorem ggX6_init_X2_init : GoodIn wsX6_init wsX2_init := goodIn_r _ [62, 63, 2, 3, 64, 21, 22, 65, 66, 67, 68, 41, 42, 69, 70, 71, 72, 73, 74, 75, 76, 77, 54, 55, 56, 31, 57, 58, 59, 50, 51, 52, 53, 116, 117, 118, 102, 103, 104, 105, 106, 107, 108, 109, 110, 111, 112, 113, 119] (by decide +kernel) (by decide +kernel)
set_option maxRecDepth 20000 in
theorem gX6_init_X2_init : GoodIn wsX6_init (wsX2_init) := ggX6_init_X2_init
set_option maxRecDepth 20000 in
theorem ggX6_init_X5_init : GoodIn wsX6_init wsX5_init := goodIn_r _ [80, 81, 2, 3, 31, 82, 83, 114, 115] (by decide +kernel) (by decide +kernel)
set_option maxRecDepth 20000 in
theorem gX6_init_X5_init : GoodIn wsX6_init (wsX5_init) := ggX6_init_X5_init
set_option maxRecDepth 20000 in
theorem ggX6_init_X4_init : GoodIn wsX6_init wsX4_init := goodIn_r _ [55, 56, 2, 3, 31, 57, 58, 59, 116, 117, 118] (by decide +kernel) (by decide +kernel)
set_option maxRecDepth 20000 in
theorem gX6_init_X4_init_n45 : GoodIn wsX6_init (wsX4_init) := ggX6_init_X4_init
theorem dX6_init_0 : decode cX6_init 0 = .ok (.aload_n 0, 1) := by decide +kernel
theorem dX6_init_1 : decode cX6_init 1 = .ok (.invokespecial 1, 3) := by decide +kernel
theorem dX6_init_4 : decode cX6_init 4 = .ok (.aload_n 0, 1) := by decide +kernel
theorem dX6_init_5 : decode cX6_init 5 = .ok (.new 7, 3) := by decide +kernel
theorem dX6_init_8 : decode cX6_init 8 = .ok (.dup, 1) := by decide +kernel
theorem dX6_init_9 : decode cX6_init 9 = .ok (.invokespecial 9, 3) := by decide +kernel
theorem dX6_init_12 : decode cX6_init 12 = .ok (.putfield 10, 3) := by decide +kernel
theorem dX6_init_15 : decode cX6_init 15 = .ok (.aload_n 0, 1) := by decide +kernel
theorem dX6_init_16 : decode cX6_init 16 = .ok (.new 16, 3) := by decide +kernel
theorem dX6_init_19 : decode cX6_init 19 = .ok (.dup, 1) := by decide +kernel
theorem dX6_init_20 : decode cX6_init 20 = .ok (.aload_n 0, 1) := by decide +kernel
theorem dX6_init_21 : decode cX6_init 21 = .ok (.getfield 10, 3) := by decide +kernel
theorem dX6_init_24 : decode cX6_init 24 = .ok (.invokespecial 18, 3) := by decide +kernel
theorem dX6_init_27 : decode cX6_init 27 = .ok (.putfield 21, 3) := by decide +kernel
theorem dX6_init_30 : decode cX6_init 30 = .ok (.aload_n 0, 1) := by decide +kernel
theorem dX6_init_31 : decode cX6_init 31 = .ok (.new 25, 3) := by decide +kernel
theorem dX6_init_34 : decode cX6_init 34 = .ok (.dup, 1) := by decide +kernel
theorem dX6_init_35 : decode cX6_init 35 = .ok (.aload_n 0, 1) := by decide +kernel
theorem dX6_init_36 : decode cX6_init 36 = .ok (.getfield 10, 3) := by decide +kernel
theorem dX6_init_39 : decode cX6_init 39 = .ok (.aload_n 0, 1) := by decide +kernel
theorem dX6_init_40 : decode cX6_init 40 = .ok (.getfield 21, 3) := by decide +kernel
theorem dX6_init_43 : decode cX6_init 43 = .ok (.invokespecial 27, 3) := by decide +kernel
theorem dX6_init_46 : decode cX6_init 46 = .ok (.putfield 30, 3) := by decide +kernel
theorem dX6_init_49 : decode cX6_init 49 = .ok (.aload_n 0, 1) := by decide +kernel
theorem dX6_init_50 : decode cX6_init 50 = .ok (.new 34, 3) := by decide +kernel
theorem dX6_init_53 : decode cX6_init 53 = .ok (.dup, 1) := by decide +kernel
theorem dX6_init_54 : decode cX6_init 54 = .ok (.aload_n 0, 1) := by decide +kernel
theorem dX6_init_55 : decode cX6_init 55 = .ok (.getfield 30, 3) := by decide +kernel
theorem dX6_init_58 : decode cX6_init 58 = .ok (.invokespecial 36, 3) := by decide +kernel
theorem dX6_init_61 : decode cX6_init 61 = .ok (.putfield 39, 3) := by decide +kernel
theorem dX6_init_64 : decode cX6_init 64 = .ok (.aload_n 0, 1) := by decide +kernel
theorem dX6_init_65 : decode cX6_init 65 = .ok (.new 43, 3) := by decide +kernel
theorem dX6_init_68 : decode cX6_init 68 = .ok (.dup, 1) := by decide +kernel
theorem dX6_init_69 : decode cX6_init 69 = .ok (.invokespecial 45, 3) := by decide +kernel
theorem dX6_init_72 : decode cX6_init 72 = .ok (.putfield 46, 3) := by decide +kernel
theorem dX6_init_75 : decode cX6_init 75 = .ok (.aload_n 0, 1) := by decide +kernel
theorem dX6_init_76 : decode cX6_init 76 = .ok (.sipush 300, 3) := by decide +kernel
theorem dX6_init_79 : decode cX6_init 79 = .ok (.putfield 50, 3) := by decide +kernel
theorem dX6_init_82 : decode cX6_init 82 = .ok (.aload_n 0, 1) := by decide +kernel
theorem dX6_init_83 : decode cX6_init 83 = .ok (.iconst 1, 1) := by decide +kernel
theorem dX6_init_84 : decode cX6_init 84 = .ok (.putfield 54, 3) := by decide +kernel
theorem dX6_init_87 : decode cX6_init 87 = .ok (.aload_n 0, 1) := by decide +kernel
theorem dX6_init_88 : decode cX6_init 88 = .ok (.iconst 0, 1) := by decide +kernel
theorem dX6_init_89 : decode cX6_init 89 = .ok (.putfield 57, 3) := by decide +kernel
theorem dX6_init_92 : decode cX6_init 92 = .ok (.aload_n 0, 1) := by decide +kernel
theorem dX6_init_93 : decode cX6_init 93 = .ok (.iconst 0, 1) := by decide +kernel
theorem dX6_init_94 : decode cX6_init 94 = .ok (.putfield 61, 3) := by decide +kernel
theorem dX6_init_97 : decode cX6_init 97 = .ok (.return_, 1) := by decide +kernel
set_option maxRecDepth 20000 in
theorem ggX6_add_X6_requireValue : GoodIn wsX6_add wsX6_requireValue := goodIn_ca (goodIn_r _ [5, 6, 7, 4, 8, 9, 10] (by decide +kernel) (by decide +kernel)) (goodIn_sub (fun _ h => List.mem_cons_of_mem _ (List.mem_append_left _ (List.mem_append_right _ h))) (by decide +kernel))
set_option maxRecDepth 20000 in
theorem gX6_add_X6_requireValue : GoodIn wsX6_add (va_wsS RX6 64 yX6_requireValue wsX6_requireValue) := goodIn_app (goodIn_of _ (by decide +kernel)) ggX6_add_X6_requireValue
set_option maxRecDepth 20000 in
theorem ggX6_add_X6_requireRoomFor : GoodIn wsX6_add wsX6_requireRoomFor := goodIn_ca (goodIn_r _ [14, 15, 16, 1, 17, 18, 19, 20, 21, 22, 35, 36, 37, 38, 39, 40, 41, 42, 43, 44, 45, 46] (by decide +kernel) (by decide +kernel)) (goodIn_sub (fun _ h => List.mem_cons_of_mem _ (List.mem_append_right _ h)) (by decide +kernel))
set_option maxRecDepth 20000 in
theorem gX6_add_X6_requireRoomFor : GoodIn wsX6_add (wsV RX6 68 RX6 yX6_requireRoomFor wsX6_requireRoomFor) := goodIn_app (goodIn_of _ (by decide +kernel)) ggX6_add_X6_requireRoomFor
set_option maxRecDepth 20000 in
theorem ggX6_add_X3_count : GoodIn wsX6_add wsX3_count := goodIn_r _ [21, 22, 44, 45, 46] (by decide +kernel) (by decide +kernel)
set_option maxRecDepth 20000 in
theorem gX6_add_X3_count : GoodIn wsX6_add (wsV RX6 71 RX3 yX3_count wsX3_count) := goodIn_app (goodIn_of _ (by decide +kernel)) ggX6_add_X3_count
set_option maxRecDepth 20000 in
theorem ggX6_add_X3_append : GoodIn wsX6_add wsX3_append := goodIn_r _ [26, 22, 27, 28, 44, 45, 46] (by decide +kernel) (by decide +kernel)
set_option maxRecDepth 20000 in
theorem gX6_add_X3_append : GoodIn wsX6_add (wsV RX6 75 RX3 yX3_append wsX3_append) := goodIn_app (goodIn_of _ (by decide +kernel)) ggX6_add_X3_append
set_option maxRecDepth 20000 in
theorem ggX6_add_X6_forgetSeasons : GoodIn wsX6_add wsX6_forgetSeasons := goodIn_r _ [32, 33, 34, 35, 36, 37, 38, 39, 40, 41, 42, 43] (by decide +kernel) (by decide +kernel)
set_option maxRecDepth 20000 in
theorem gX6_add_X6_forgetSeasons : GoodIn wsX6_add (wsV RX6 78 RX6 yX6_forgetSeasons wsX6_forgetSeasons) := goodIn_app (goodIn_of _ (by decide +kernel)) ggX6_add_X6_forgetSeasons
theorem dX6_add_0 : decode cX6_add 0 = .ok (.iload_n 1, 1) := by decide +kernel
theorem dX6_add_1 : decode cX6_add 1 = .ok (.invokestatic 64, 3) := by decide +kernel
theorem dX6_add_4 : decode cX6_add 4 = .ok (.aload_n 0, 1) := by decide +kernel
theorem dX6_add_5 : decode cX6_add 5 = .ok (.iconst 1, 1) := by decide +kernel
theorem dX6_add_6 : decode cX6_add 6 = .ok (.invokevirtual 68, 3) := by decide +kernel
theorem dX6_add_9 : decode cX6_add 9 = .ok (.aload_n 0, 1) := by decide +kernel
theorem dX6_add_10 : decode cX6_add 10 = .ok (.getfield 10, 3) := by decide +kernel
theorem dX6_add_13 : decode cX6_add 13 = .ok (.invokevirtual 71, 3) := by decide +kernel
theorem dX6_add_16 : decode cX6_add 16 = .ok (.istore_n 2, 1) := by decide +kernel
theorem dX6_add_17 : decode cX6_add 17 = .ok (.aload_n 0, 1) := by decide +kernel
theorem dX6_add_18 : decode cX6_add 18 = .ok (.getfield 10, 3) := by decide +kernel
theorem dX6_add_21 : decode cX6_add 21 = .ok (.iload_n 1, 1) := by decide +kernel
theorem dX6_add_22 : decode cX6_add 22 = .ok (.invokevirtual 75, 3) := by decide +kernel
theorem dX6_add_25 : decode cX6_add 25 = .ok (.aload_n 0, 1) := by decide +kernel
theorem dX6_add_26 : decode cX6_add 26 = .ok (.invokevirtual 78, 3) := by decide +kernel
theorem dX6_add_29 : decode cX6_add 29 = .ok (.iload_n 2, 1) := by decide +kernel
theorem dX6_add_30 : decode cX6_add 30 = .ok (.ireturn, 1) := by decide +kernel
set_option maxRecDepth 20000 in
theorem ggX6_addMany_X6_requireValue : GoodIn wsX6_addMany wsX6_requireValue := goodIn_ca (goodIn_r _ [5, 6, 7, 4, 8, 9, 10] (by decide +kernel) (by decide +kernel)) (goodIn_sub (fun _ h => List.mem_cons_of_mem _ (List.mem_append_left _ (List.mem_append_right _ h))) (by decide +kernel))
set_option maxRecDepth 20000 in
theorem gX6_addMany_X6_requireValue : GoodIn wsX6_addMany (va_wsS RX6 64 yX6_requireValue wsX6_requireValue) := goodIn_app (goodIn_of _ (by decide +kernel)) ggX6_addMany_X6_requireValue
set_option maxRecDepth 20000 in
theorem ggX6_addMany_X6_requireBetween : GoodIn wsX6_addMany wsX6_requireBetween := goodIn_ca (goodIn_r _ [8, 9, 10] (by decide +kernel) (by decide +kernel)) (goodIn_sub (fun _ h => List.mem_cons_of_mem _ (List.mem_append_left _ (List.mem_append_right _ h))) (by decide +kernel))
set_option maxRecDepth 20000 in
theorem gX6_addMany_X6_requireBetween : GoodIn wsX6_addMany (va_wsS RX6 81 yX6_requireBetween wsX6_requireBetween) := goodIn_app (goodIn_of _ (by decide +kernel)) ggX6_addMany_X6_requireBetween
set_option maxRecDepth 20000 in
theorem ggX6_addMany_X6_requireRoomFor : GoodIn wsX6_addMany wsX6_requireRoomFor := goodIn_ca (goodIn_r _ [14, 15, 16, 1, 17, 18, 19, 20, 21, 22, 35, 36, 37, 38, 39, 40, 41, 42, 43, 44, 45, 46] (by decide +kernel) (by decide +kernel)) (goodIn_sub (fun _ h => List.mem_cons_of_mem _ (List.mem_append_right _ h)) (by decide +kernel))
set_option maxRecDepth 20000 in
theorem gX6_addMany_X6_requireRoomFor : GoodIn wsX6_addMany (wsV RX6 68 RX6 yX6_requireRoomFor wsX6_requireRoomFor) := goodIn_app (goodIn_of _ (by decide +kernel)) ggX6_addMany_X6_requireRoomFor
set_option maxRecDepth 20000 in
theorem ggX6_addMany_X3_append : GoodIn wsX6_addMany wsX3_append := goodIn_r _ [26, 22, 27, 28, 44, 45, 46] (by decide +kernel) (by decide +kernel)
set_option maxRecDepth 20000 in
theorem gX6_addMany_X3_append : GoodIn wsX6_addMany (wsV RX6 75 RX3 yX3_append wsX3_append) := goodIn_app (goodIn_of _ (by decide +kernel)) ggX6_addMany_X3_append
set_option maxRecDepth 20000 in
theorem ggX6_addMany_X6_forgetSeasons : GoodIn wsX6_addMany wsX6_forgetSeasons := goodIn_r _ [32, 33, 34, 35, 36, 37, 38, 39, 40, 41, 42, 43] (by decide +kernel) (by decide +kernel)
set_option maxRecDepth 20000 in
theorem gX6_addMany_X6_forgetSeasons : GoodIn wsX6_addMany (wsV RX6 78 RX6 yX6_forgetSeasons wsX6_forgetSeasons) := goodIn_app (goodIn_of _ (by decide +kernel)) ggX6_addMany_X6_forgetSeasons
set_option maxRecDepth 20000 in
theorem ggX6_addMany_X3_count : GoodIn wsX6_addMany wsX3_count := goodIn_r _ [21, 22, 44, 45, 46] (by decide +kernel) (by decide +kernel)
set_option maxRecDepth 20000 in
theorem gX6_addMany_X3_count : GoodIn wsX6_addMany (wsV RX6 71 RX3 yX3_count wsX3_count) := goodIn_app (goodIn_of _ (by decide +kernel)) ggX6_addMany_X3_count
theorem dX6_addMany_0 : decode cX6_addMany 0 = .ok (.iload_n 1, 1) := by decide +kernel
theorem dX6_addMany_1 : decode cX6_addMany 1 = .ok (.invokestatic 64, 3) := by decide +kernel
theorem dX6_addMany_4 : decode cX6_addMany 4 = .ok (.iload_n 2, 1) := by decide +kernel
theorem dX6_addMany_5 : decode cX6_addMany 5 = .ok (.iconst 1, 1) := by decide +kernel
theorem dX6_addMany_6 : decode cX6_addMany 6 = .ok (.bipush 60, 2) := by decide +kernel
theorem dX6_addMany_8 : decode cX6_addMany 8 = .ok (.invokestatic 81, 3) := by decide +kernel
theorem dX6_addMany_11 : decode cX6_addMany 11 = .ok (.aload_n 0, 1) := by decide +kernel
theorem dX6_addMany_12 : decode cX6_addMany 12 = .ok (.iload_n 2, 1) := by decide +kernel
theorem dX6_addMany_13 : decode cX6_addMany 13 = .ok (.invokevirtual 68, 3) := by decide +kernel
theorem dX6_addMany_16 : decode cX6_addMany 16 = .ok (.iconst 0, 1) := by decide +kernel
theorem dX6_addMany_17 : decode cX6_addMany 17 = .ok (.istore_n 3, 1) := by decide +kernel
theorem dX6_addMany_18 : decode cX6_addMany 18 = .ok (.iload_n 3, 1) := by decide +kernel
theorem dX6_addMany_19 : decode cX6_addMany 19 = .ok (.iload_n 2, 1) := by decide +kernel
theorem dX6_addMany_20 : decode cX6_addMany 20 = .ok (.if_icmp .ge 17, 3) := by decide +kernel
theorem dX6_addMany_23 : decode cX6_addMany 23 = .ok (.aload_n 0, 1) := by decide +kernel
theorem dX6_addMany_24 : decode cX6_addMany 24 = .ok (.getfield 10, 3) := by decide +kernel
theorem dX6_addMany_27 : decode cX6_addMany 27 = .ok (.iload_n 1, 1) := by decide +kernel
theorem dX6_addMany_28 : decode cX6_addMany 28 = .ok (.invokevirtual 75, 3) := by decide +kernel
theorem dX6_addMany_31 : decode cX6_addMany 31 = .ok (.iinc 3 1, 3) := by decide +kernel
theorem dX6_addMany_34 : decode cX6_addMany 34 = .ok (.goto (-16), 3) := by decide +kernel
theorem dX6_addMany_37 : decode cX6_addMany 37 = .ok (.aload_n 0, 1) := by decide +kernel
theorem dX6_addMany_38 : decode cX6_addMany 38 = .ok (.invokevirtual 78, 3) := by decide +kernel
theorem dX6_addMany_41 : decode cX6_addMany 41 = .ok (.aload_n 0, 1) := by decide +kernel
theorem dX6_addMany_42 : decode cX6_addMany 42 = .ok (.getfield 10, 3) := by decide +kernel
theorem dX6_addMany_45 : decode cX6_addMany 45 = .ok (.invokevirtual 71, 3) := by decide +kernel
theorem dX6_addMany_48 : decode cX6_addMany 48 = .ok (.ireturn, 1) := by decide +kernel
set_option maxRecDepth 20000 in
theorem ggX6_correct_X6_requireNumber : GoodIn wsX6_correct wsX6_requireNumber := goodIn_ca (goodIn_r _ [6, 1, 7, 8, 9, 10, 11, 12, 13, 14, 5, 15, 16, 17, 45, 46, 47, 48, 49, 50, 51, 52, 53, 54, 55, 56] (by decide +kernel) (by decide +kernel)) (goodIn_sub (fun _ h => List.mem_cons_of_mem _ (List.mem_append_left _ (List.mem_append_right _ h))) (by decide +kernel))
set_option maxRecDepth 20000 in
theorem gX6_correct_X6_requireNumber : GoodIn wsX6_correct (wsV RX6 85 RX6 yX6_requireNumber wsX6_requireNumber) := goodIn_app (goodIn_of _ (by decide +kernel)) ggX6_correct_X6_requireNumber
set_option maxRecDepth 20000 in
theorem ggX6_correct_X6_requireValue : GoodIn wsX6_correct wsX6_requireValue := goodIn_ca (goodIn_r _ [20, 21, 22, 5, 23, 24, 25] (by decide +kernel) (by decide +kernel)) (goodIn_sub (fun _ h => List.mem_cons_of_mem _ (List.mem_append_right _ h)) (by decide +kernel))
set_option maxRecDepth 20000 in
theorem gX6_correct_X6_requireValue : GoodIn wsX6_correct (va_wsS RX6 64 yX6_requireValue wsX6_requireValue) := goodIn_app (goodIn_of _ (by decide +kernel)) ggX6_correct_X6_requireValue
set_option maxRecDepth 20000 in
theorem ggX6_correct_X3_numberAt : GoodIn wsX6_correct wsX3_numberAt := goodIn_r _ [29, 30, 31, 32, 33, 10, 34, 12, 54, 55, 56] (by decide +kernel) (by decide +kernel)
set_option maxRecDepth 20000 in
theorem gX6_correct_X3_numberAt : GoodIn wsX6_correct (wsV RX6 88 RX3 yX3_numberAt wsX3_numberAt) := goodIn_app (goodIn_of _ (by decide +kernel)) ggX6_correct_X3_numberAt
set_option maxRecDepth 20000 in
theorem ggX6_correct_X3_replace : GoodIn wsX6_correct wsX3_replace := goodIn_r _ [38, 30, 31, 32, 33, 10, 34, 12, 54, 55, 56] (by decide +kernel) (by decide +kernel)
set_option maxRecDepth 20000 in
theorem gX6_correct_X3_replace : GoodIn wsX6_correct (wsV RX6 92 RX3 yX3_replace wsX3_replace) := goodIn_app (goodIn_of _ (by decide +kernel)) ggX6_correct_X3_replace
set_option maxRecDepth 20000 in
theorem ggX6_correct_X6_forgetSeasons : GoodIn wsX6_correct wsX6_forgetSeasons := goodIn_r _ [42, 43, 44, 45, 46, 47, 48, 49, 50, 51, 52, 53] (by decide +kernel) (by decide +kernel)
set_option maxRecDepth 20000 in
theorem gX6_correct_X6_forgetSeasons : GoodIn wsX6_correct (wsV RX6 78 RX6 yX6_forgetSeasons wsX6_forgetSeasons) := goodIn_app (goodIn_of _ (by decide +kernel)) ggX6_correct_X6_forgetSeasons
theorem dX6_correct_0 : decode cX6_correct 0 = .ok (.aload_n 0, 1) := by decide +kernel
theorem dX6_correct_1 : decode cX6_correct 1 = .ok (.iload_n 1, 1) := by decide +kernel
theorem dX6_correct_2 : decode cX6_correct 2 = .ok (.invokevirtual 85, 3) := by decide +kernel
theorem dX6_correct_5 : decode cX6_correct 5 = .ok (.iload_n 2, 1) := by decide +kernel
theorem dX6_correct_6 : decode cX6_correct 6 = .ok (.invokestatic 64, 3) := by decide +kernel
theorem dX6_correct_9 : decode cX6_correct 9 = .ok (.aload_n 0, 1) := by decide +kernel
theorem dX6_correct_10 : decode cX6_correct 10 = .ok (.getfield 10, 3) := by decide +kernel
theorem dX6_correct_13 : decode cX6_correct 13 = .ok (.iload_n 1, 1) := by decide +kernel
theorem dX6_correct_14 : decode cX6_correct 14 = .ok (.invokevirtual 88, 3) := by decide +kernel
theorem dX6_correct_17 : decode cX6_correct 17 = .ok (.istore_n 3, 1) := by decide +kernel
theorem dX6_correct_18 : decode cX6_correct 18 = .ok (.aload_n 0, 1) := by decide +kernel
theorem dX6_correct_19 : decode cX6_correct 19 = .ok (.getfield 10, 3) := by decide +kernel
theorem dX6_correct_22 : decode cX6_correct 22 = .ok (.iload_n 1, 1) := by decide +kernel
theorem dX6_correct_23 : decode cX6_correct 23 = .ok (.iload_n 2, 1) := by decide +kernel
theorem dX6_correct_24 : decode cX6_correct 24 = .ok (.invokevirtual 92, 3) := by decide +kernel
theorem dX6_correct_27 : decode cX6_correct 27 = .ok (.aload_n 0, 1) := by decide +kernel
theorem dX6_correct_28 : decode cX6_correct 28 = .ok (.invokevirtual 78, 3) := by decide +kernel
theorem dX6_correct_31 : decode cX6_correct 31 = .ok (.iload_n 3, 1) := by decide +kernel
theorem dX6_correct_32 : decode cX6_correct 32 = .ok (.ireturn, 1) := by decide +kernel
set_option maxRecDepth 20000 in
theorem ggX6_setHoliday_X6_requireNumber : GoodIn wsX6_setHoliday wsX6_requireNumber := goodIn_ca (goodIn_r _ [6, 1, 7, 8, 9, 10, 11, 12, 13, 14, 5, 15, 16, 17, 37, 38, 39, 40, 41, 42, 43, 44, 45, 46, 47, 48] (by decide +kernel) (by decide +kernel)) (goodIn_sub (fun _ h => List.mem_cons_of_mem _ (List.mem_append_right _ h)) (by decide +kernel))
set_option maxRecDepth 20000 in
theorem gX6_setHoliday_X6_requireNumber : GoodIn wsX6_setHoliday (wsV RX6 85 RX6 yX6_requireNumber wsX6_requireNumber) := goodIn_app (goodIn_of _ (by decide +kernel)) ggX6_setHoliday_X6_requireNumber
set_option maxRecDepth 20000 in
theorem ggX6_setHoliday_X3_isHoliday : GoodIn wsX6_setHoliday wsX3_isHoliday := goodIn_r _ [21, 22, 23, 24, 25, 10, 26, 12, 46, 47, 48] (by decide +kernel) (by decide +kernel)
set_option maxRecDepth 20000 in
theorem gX6_setHoliday_X3_isHoliday : GoodIn wsX6_setHoliday (wsV RX6 96 RX3 yX3_isHoliday wsX3_isHoliday) := goodIn_app (goodIn_of _ (by decide +kernel)) ggX6_setHoliday_X3_isHoliday
set_option maxRecDepth 20000 in
theorem ggX6_setHoliday_X3_markHoliday : GoodIn wsX6_setHoliday wsX3_markHoliday := goodIn_r _ [30, 22, 23, 24, 25, 10, 26, 12, 46, 47, 48] (by decide +kernel) (by decide +kernel)
set_option maxRecDepth 20000 in
theorem gX6_setHoliday_X3_markHoliday : GoodIn wsX6_setHoliday (wsV RX6 100 RX3 yX3_markHoliday wsX3_markHoliday) := goodIn_app (goodIn_of _ (by decide +kernel)) ggX6_setHoliday_X3_markHoliday
set_option maxRecDepth 20000 in
theorem ggX6_setHoliday_X6_forgetSeasons : GoodIn wsX6_setHoliday wsX6_forgetSeasons := goodIn_r _ [34, 35, 36, 37, 38, 39, 40, 41, 42, 43, 44, 45] (by decide +kernel) (by decide +kernel)
set_option maxRecDepth 20000 in
theorem gX6_setHoliday_X6_forgetSeasons : GoodIn wsX6_setHoliday (wsV RX6 78 RX6 yX6_forgetSeasons wsX6_forgetSeasons) := goodIn_app (goodIn_of _ (by decide +kernel)) ggX6_setHoliday_X6_forgetSeasons
theorem dX6_setHoliday_0 : decode cX6_setHoliday 0 = .ok (.aload_n 0, 1) := by decide +kernel
theorem dX6_setHoliday_1 : decode cX6_setHoliday 1 = .ok (.iload_n 1, 1) := by decide +kernel
theorem dX6_setHoliday_2 : decode cX6_setHoliday 2 = .ok (.invokevirtual 85, 3) := by decide +kernel
theorem dX6_setHoliday_5 : decode cX6_setHoliday 5 = .ok (.aload_n 0, 1) := by decide +kernel
theorem dX6_setHoliday_6 : decode cX6_setHoliday 6 = .ok (.getfield 10, 3) := by decide +kernel
theorem dX6_setHoliday_9 : decode cX6_setHoliday 9 = .ok (.iload_n 1, 1) := by decide +kernel
theorem dX6_setHoliday_10 : decode cX6_setHoliday 10 = .ok (.invokevirtual 96, 3) := by decide +kernel
theorem dX6_setHoliday_13 : decode cX6_setHoliday 13 = .ok (.istore_n 3, 1) := by decide +kernel
theorem dX6_setHoliday_14 : decode cX6_setHoliday 14 = .ok (.aload_n 0, 1) := by decide +kernel
theorem dX6_setHoliday_15 : decode cX6_setHoliday 15 = .ok (.getfield 10, 3) := by decide +kernel
theorem dX6_setHoliday_18 : decode cX6_setHoliday 18 = .ok (.iload_n 1, 1) := by decide +kernel
theorem dX6_setHoliday_19 : decode cX6_setHoliday 19 = .ok (.iload_n 2, 1) := by decide +kernel
theorem dX6_setHoliday_20 : decode cX6_setHoliday 20 = .ok (.invokevirtual 100, 3) := by decide +kernel
theorem dX6_setHoliday_23 : decode cX6_setHoliday 23 = .ok (.aload_n 0, 1) := by decide +kernel
theorem dX6_setHoliday_24 : decode cX6_setHoliday 24 = .ok (.invokevirtual 78, 3) := by decide +kernel
theorem dX6_setHoliday_27 : decode cX6_setHoliday 27 = .ok (.iload_n 3, 1) := by decide +kernel
theorem dX6_setHoliday_28 : decode cX6_setHoliday 28 = .ok (.ireturn, 1) := by decide +kernel
set_option maxRecDepth 20000 in
theorem ggX6_drop_X3_count : GoodIn wsX6_drop wsX3_count := goodIn_r _ [6, 7, 35, 36, 37] (by decide +kernel) (by decide +kernel)
set_option maxRecDepth 20000 in
theorem gX6_drop_X3_count : GoodIn wsX6_drop (wsV RX6 71 RX3 yX3_count wsX3_count) := goodIn_app (goodIn_of _ (by decide +kernel)) ggX6_drop_X3_count
set_option maxRecDepth 20000 in
theorem ggX6_drop_X6_requireBetween : GoodIn wsX6_drop wsX6_requireBetween := goodIn_ca (goodIn_r _ [11, 12, 13] (by decide +kernel) (by decide +kernel)) (goodIn_sub (fun _ h => List.mem_cons_of_mem _ (List.mem_append_right _ h)) (by decide +kernel))
set_option maxRecDepth 20000 in
theorem gX6_drop_X6_requireBetween : GoodIn wsX6_drop (va_wsS RX6 81 yX6_requireBetween wsX6_requireBetween) := goodIn_app (goodIn_of _ (by decide +kernel)) ggX6_drop_X6_requireBetween
set_option maxRecDepth 20000 in
theorem ggX6_drop_X3_removeOldest : GoodIn wsX6_drop wsX3_removeOldest := goodIn_r _ [17, 7, 18, 19, 35, 36, 37] (by decide +kernel) (by decide +kernel)
set_option maxRecDepth 20000 in
theorem gX6_drop_X3_removeOldest : GoodIn wsX6_drop (wsV RX6 104 RX3 yX3_removeOldest wsX3_removeOldest) := goodIn_app (goodIn_of _ (by decide +kernel)) ggX6_drop_X3_removeOldest
set_option maxRecDepth 20000 in
theorem ggX6_drop_X6_forgetSeasons : GoodIn wsX6_drop wsX6_forgetSeasons := goodIn_r _ [23, 24, 25, 26, 27, 28, 29, 30, 31, 32, 33, 34] (by decide +kernel) (by decide +kernel)
set_option maxRecDepth 20000 in
theorem gX6_drop_X6_forgetSeasons : GoodIn wsX6_drop (wsV RX6 78 RX6 yX6_forgetSeasons wsX6_forgetSeasons) := goodIn_app (goodIn_of _ (by decide +kernel)) ggX6_drop_X6_forgetSeasons
theorem dX6_drop_0 : decode cX6_drop 0 = .ok (.iload_n 1, 1) := by decide +kernel
theorem dX6_drop_1 : decode cX6_drop 1 = .ok (.iconst 0, 1) := by decide +kernel
theorem dX6_drop_2 : decode cX6_drop 2 = .ok (.aload_n 0, 1) := by decide +kernel
theorem dX6_drop_3 : decode cX6_drop 3 = .ok (.getfield 10, 3) := by decide +kernel
theorem dX6_drop_6 : decode cX6_drop 6 = .ok (.invokevirtual 71, 3) := by decide +kernel
theorem dX6_drop_9 : decode cX6_drop 9 = .ok (.invokestatic 81, 3) := by decide +kernel
theorem dX6_drop_12 : decode cX6_drop 12 = .ok (.aload_n 0, 1) := by decide +kernel
theorem dX6_drop_13 : decode cX6_drop 13 = .ok (.getfield 10, 3) := by decide +kernel
theorem dX6_drop_16 : decode cX6_drop 16 = .ok (.iload_n 1, 1) := by decide +kernel
theorem dX6_drop_17 : decode cX6_drop 17 = .ok (.invokevirtual 104, 3) := by decide +kernel
theorem dX6_drop_20 : decode cX6_drop 20 = .ok (.aload_n 0, 1) := by decide +kernel
theorem dX6_drop_21 : decode cX6_drop 21 = .ok (.invokevirtual 78, 3) := by decide +kernel
theorem dX6_drop_24 : decode cX6_drop 24 = .ok (.aload_n 0, 1) := by decide +kernel
theorem dX6_drop_25 : decode cX6_drop 25 = .ok (.getfield 10, 3) := by decide +kernel
theorem dX6_drop_28 : decode cX6_drop 28 = .ok (.invokevirtual 71, 3) := by decide +kernel
theorem dX6_drop_31 : decode cX6_drop 31 = .ok (.ireturn, 1) := by decide +kernel
set_option maxRecDepth 20000 in
theorem ggX6_setSeason_X6_requireBetween : GoodIn wsX6_setSeason wsX6_requireBetween := goodIn_ca (goodIn_r _ [5, 6, 7] (by decide +kernel) (by decide +kernel)) (goodIn_sub (fun _ h => List.mem_cons_of_mem _ (List.mem_append_right _ h)) (by decide +kernel))
set_option maxRecDepth 20000 in
theorem gX6_setSeason_X6_requireBetween : GoodIn wsX6_setSeason (va_wsS RX6 81 yX6_requireBetween wsX6_requireBetween) := goodIn_app (goodIn_of _ (by decide +kernel)) ggX6_setSeason_X6_requireBetween
set_option maxRecDepth 20000 in
theorem ggX6_setSeason_X1_length : GoodIn wsX6_setSeason wsX1_length := goodIn_r _ [12, 13, 33, 34, 35, 36, 37, 38] (by decide +kernel) (by decide +kernel)
set_option maxRecDepth 20000 in
theorem gX6_setSeason_X1_length : GoodIn wsX6_setSeason (wsV RX6 107 RX1 yX1_length wsX1_length) := goodIn_app (goodIn_of _ (by decide +kernel)) ggX6_setSeason_X1_length
set_option maxRecDepth 20000 in
theorem ggX6_setSeason_X1_changeLength : GoodIn wsX6_setSeason wsX1_changeLength := goodIn_r _ [17, 13, 33, 34, 35, 36, 37, 38] (by decide +kernel) (by decide +kernel)
set_option maxRecDepth 20000 in
theorem gX6_setSeason_X1_changeLength : GoodIn wsX6_setSeason (wsV RX6 110 RX1 yX1_changeLength wsX1_changeLength) := goodIn_app (goodIn_of _ (by decide +kernel)) ggX6_setSeason_X1_changeLength
set_option maxRecDepth 20000 in
theorem ggX6_setSeason_X6_forgetSeasons : GoodIn wsX6_setSeason wsX6_forgetSeasons := goodIn_r _ [21, 22, 23, 24, 25, 26, 27, 28, 29, 30, 31, 32] (by decide +kernel) (by decide +kernel)
set_option maxRecDepth 20000 in
theorem gX6_setSeason_X6_forgetSeasons : GoodIn wsX6_setSeason (wsV RX6 78 RX6 yX6_forgetSeasons wsX6_forgetSeasons) := goodIn_app (goodIn_of _ (by decide +kernel)) ggX6_setSeason_X6_forgetSeasons
theorem dX6_setSeason_0 : decode cX6_setSeason 0 = .ok (.iload_n 1, 1) := by decide +kernel
theorem dX6_setSeason_1 : decode cX6_setSeason 1 = .ok (.iconst 1, 1) := by decide +kernel
theorem dX6_setSeason_2 : decode cX6_setSeason 2 = .ok (.bipush 12, 2) := by decide +kernel
theorem dX6_setSeason_4 : decode cX6_setSeason 4 = .ok (.invokestatic 81, 3) := by decide +kernel
theorem dX6_setSeason_7 : decode cX6_setSeason 7 = .ok (.aload_n 0, 1) := by decide +kernel
theorem dX6_setSeason_8 : decode cX6_setSeason 8 = .ok (.getfield 21, 3) := by decide +kernel
theorem dX6_setSeason_11 : decode cX6_setSeason 11 = .ok (.invokevirtual 107, 3) := by decide +kernel
theorem dX6_setSeason_14 : decode cX6_setSeason 14 = .ok (.istore_n 2, 1) := by decide +kernel
theorem dX6_setSeason_15 : decode cX6_setSeason 15 = .ok (.aload_n 0, 1) := by decide +kernel
theorem dX6_setSeason_16 : decode cX6_setSeason 16 = .ok (.getfield 21, 3) := by decide +kernel
theorem dX6_setSeason_19 : decode cX6_setSeason 19 = .ok (.iload_n 1, 1) := by decide +kernel
theorem dX6_setSeason_20 : decode cX6_setSeason 20 = .ok (.invokevirtual 110, 3) := by decide +kernel
theorem dX6_setSeason_23 : decode cX6_setSeason 23 = .ok (.aload_n 0, 1) := by decide +kernel
theorem dX6_setSeason_24 : decode cX6_setSeason 24 = .ok (.invokevirtual 78, 3) := by decide +kernel
theorem dX6_setSeason_27 : decode cX6_setSeason 27 = .ok (.iload_n 2, 1) := by decide +kernel
theorem dX6_setSeason_28 : decode cX6_setSeason 28 = .ok (.ireturn, 1) := by decide +kernel
set_option maxRecDepth 20000 in
theorem ggX6_setCuts_X6_requireBetween : GoodIn wsX6_setCuts wsX6_requireBetween := goodIn_ca (goodIn_r _ [7, 8, 9] (by decide +kernel) (by decide +kernel)) (goodIn_sub (fun _ h => List.mem_cons_of_mem _ (List.mem_append_right _ h)) (by decide +kernel))
set_option maxRecDepth 20000 in
theorem gX6_setCuts_X6_requireBetween : GoodIn wsX6_setCuts (va_wsS RX6 81 yX6_requireBetween wsX6_requireBetween) := goodIn_app (goodIn_of _ (by decide +kernel)) ggX6_setCuts_X6_requireBetween
set_option maxRecDepth 20000 in
theorem ggX6_setCuts_X2_changeCuts : GoodIn wsX6_setCuts wsX2_changeCuts := goodIn_r _ [14, 15, 16, 26, 27, 28, 29, 30, 31, 32, 33, 34, 35, 36, 37] (by decide +kernel) (by decide +kernel)
set_option maxRecDepth 20000 in
theorem gX6_setCuts_X2_changeCuts : GoodIn wsX6_setCuts (wsV RX6 114 RX2 yX2_changeCuts wsX2_changeCuts) := goodIn_app (goodIn_of _ (by decide +kernel)) ggX6_setCuts_X2_changeCuts
theorem dX6_setCuts_0 : decode cX6_setCuts 0 = .ok (.iload_n 1, 1) := by decide +kernel
theorem dX6_setCuts_1 : decode cX6_setCuts 1 = .ok (.iconst 1, 1) := by decide +kernel
theorem dX6_setCuts_2 : decode cX6_setCuts 2 = .ok (.bipush 10, 2) := by decide +kernel
theorem dX6_setCuts_4 : decode cX6_setCuts 4 = .ok (.invokestatic 81, 3) := by decide +kernel
theorem dX6_setCuts_7 : decode cX6_setCuts 7 = .ok (.iload_n 2, 1) := by decide +kernel
theorem dX6_setCuts_8 : decode cX6_setCuts 8 = .ok (.iconst 0, 1) := by decide +kernel
theorem dX6_setCuts_9 : decode cX6_setCuts 9 = .ok (.ldc 113, 2) := by decide +kernel
theorem dX6_setCuts_11 : decode cX6_setCuts 11 = .ok (.invokestatic 81, 3) := by decide +kernel
theorem dX6_setCuts_14 : decode cX6_setCuts 14 = .ok (.aload_n 0, 1) := by decide +kernel
theorem dX6_setCuts_15 : decode cX6_setCuts 15 = .ok (.getfield 30, 3) := by decide +kernel
theorem dX6_setCuts_18 : decode cX6_setCuts 18 = .ok (.iload_n 1, 1) := by decide +kernel
theorem dX6_setCuts_19 : decode cX6_setCuts 19 = .ok (.iload_n 2, 1) := by decide +kernel
theorem dX6_setCuts_20 : decode cX6_setCuts 20 = .ok (.invokevirtual 114, 3) := by decide +kernel
theorem dX6_setCuts_23 : decode cX6_setCuts 23 = .ok (.aload_n 0, 1) := by decide +kernel
theorem dX6_setCuts_24 : decode cX6_setCuts 24 = .ok (.iconst 0, 1) := by decide +kernel
theorem dX6_setCuts_25 : decode cX6_setCuts 25 = .ok (.putfield 61, 3) := by decide +kernel
theorem dX6_setCuts_28 : decode cX6_setCuts 28 = .ok (.return_, 1) := by decide +kernel
set_option maxRecDepth 20000 in
theorem ggX6_setBound_X6_requireBetween : GoodIn wsX6_setBound wsX6_requireBetween := goodIn_ca (goodIn_r _ [6, 7, 8] (by decide +kernel) (by decide +kernel)) (goodIn_sub (fun _ h => List.mem_cons_of_mem _ (List.mem_append_right _ h)) (by decide +kernel))
set_option maxRecDepth 20000 in
theorem gX6_setBound_X6_requireBetween : GoodIn wsX6_setBound (va_wsS RX6 81 yX6_requireBetween wsX6_requireBetween) := goodIn_app (goodIn_of _ (by decide +kernel)) ggX6_setBound_X6_requireBetween
theorem dX6_setBound_0 : decode cX6_setBound 0 = .ok (.iload_n 1, 1) := by decide +kernel
theorem dX6_setBound_1 : decode cX6_setBound 1 = .ok (.bipush 100, 2) := by decide +kernel
theorem dX6_setBound_3 : decode cX6_setBound 3 = .ok (.sipush 2000, 3) := by decide +kernel
theorem dX6_setBound_6 : decode cX6_setBound 6 = .ok (.invokestatic 81, 3) := by decide +kernel
theorem dX6_setBound_9 : decode cX6_setBound 9 = .ok (.iload_n 2, 1) := by decide +kernel
theorem dX6_setBound_10 : decode cX6_setBound 10 = .ok (.iconst 0, 1) := by decide +kernel
theorem dX6_setBound_11 : decode cX6_setBound 11 = .ok (.sipush 1000, 3) := by decide +kernel
theorem dX6_setBound_14 : decode cX6_setBound 14 = .ok (.invokestatic 81, 3) := by decide +kernel
theorem dX6_setBound_17 : decode cX6_setBound 17 = .ok (.aload_n 0, 1) := by decide +kernel
theorem dX6_setBound_18 : decode cX6_setBound 18 = .ok (.iload_n 1, 1) := by decide +kernel
theorem dX6_setBound_19 : decode cX6_setBound 19 = .ok (.putfield 50, 3) := by decide +kernel
theorem dX6_setBound_22 : decode cX6_setBound 22 = .ok (.aload_n 0, 1) := by decide +kernel
theorem dX6_setBound_23 : decode cX6_setBound 23 = .ok (.iload_n 2, 1) := by decide +kernel
theorem dX6_setBound_24 : decode cX6_setBound 24 = .ok (.putfield 54, 3) := by decide +kernel
theorem dX6_setBound_27 : decode cX6_setBound 27 = .ok (.return_, 1) := by decide +kernel
set_option maxRecDepth 20000 in
theorem ggX6_size_X3_count : GoodIn wsX6_size wsX3_count := goodIn_r _ [6, 7, 17, 18, 19] (by decide +kernel) (by decide +kernel)
set_option maxRecDepth 20000 in
theorem gX6_size_X3_count : GoodIn wsX6_size (wsV RX6 71 RX3 yX3_count wsX3_count) := goodIn_app (goodIn_of _ (by decide +kernel)) ggX6_size_X3_count
theorem dX6_size_0 : decode cX6_size 0 = .ok (.aload_n 0, 1) := by decide +kernel
theorem dX6_size_1 : decode cX6_size 1 = .ok (.getfield 10, 3) := by decide +kernel
theorem dX6_size_4 : decode cX6_size 4 = .ok (.invokevirtual 71, 3) := by decide +kernel
theorem dX6_size_7 : decode cX6_size 7 = .ok (.ireturn, 1) := by decide +kernel
set_option maxRecDepth 20000 in
theorem ggX6_value_X6_requireNumber : GoodIn wsX6_value wsX6_requireNumber := goodIn_ca (goodIn_r _ [6, 1, 7, 8, 9, 10, 11, 12, 13, 14, 5, 15, 16, 17, 27, 28, 29, 30, 31, 32, 33, 34, 35, 36, 37, 38] (by decide +kernel) (by decide +kernel)) (goodIn_sub (fun _ h => List.mem_cons_of_mem _ (List.mem_append_right _ h)) (by decide +kernel))
set_option maxRecDepth 20000 in
theorem gX6_value_X6_requireNumber : GoodIn wsX6_value (wsV RX6 85 RX6 yX6_requireNumber wsX6_requireNumber) := goodIn_app (goodIn_of _ (by decide +kernel)) ggX6_value_X6_requireNumber
set_option maxRecDepth 20000 in
theorem ggX6_value_X3_numberAt : GoodIn wsX6_value wsX3_numberAt := goodIn_r _ [21, 22, 23, 24, 25, 10, 26, 12, 36, 37, 38] (by decide +kernel) (by decide +kernel)
set_option maxRecDepth 20000 in
theorem gX6_value_X3_numberAt : GoodIn wsX6_value (wsV RX6 88 RX3 yX3_numberAt wsX3_numberAt) := goodIn_app (goodIn_of _ (by decide +kernel)) ggX6_value_X3_numberAt
theorem dX6_value_0 : decode cX6_value 0 = .ok (.aload_n 0, 1) := by decide +kernel
theorem dX6_value_1 : decode cX6_value 1 = .ok (.iload_n 1, 1) := by decide +kernel
theorem dX6_value_2 : decode cX6_value 2 = .ok (.invokevirtual 85, 3) := by decide +kernel
theorem dX6_value_5 : decode cX6_value 5 = .ok (.aload_n 0, 1) := by decide +kernel
theorem dX6_value_6 : decode cX6_value 6 = .ok (.getfield 10, 3) := by decide +kernel
theorem dX6_value_9 : decode cX6_value 9 = .ok (.iload_n 1, 1) := by decide +kernel
theorem dX6_value_10 : decode cX6_value 10 = .ok (.invokevirtual 88, 3) := by decide +kernel
theorem dX6_value_13 : decode cX6_value 13 = .ok (.ireturn, 1) := by decide +kernel
set_option maxRecDepth 20000 in
theorem ggX6_base_X6_findSeasons : GoodIn wsX6_base wsX6_findSeasons := goodIn_r _ [6, 7, 1, 8, 9, 10, 11, 12, 13, 14, 15, 16, 17, 18, 19, 20, 21, 22, 23, 24, 25, 26, 27, 28, 29, 30, 31, 32, 33, 34, 35, 36, 37, 38, 39, 40, 41, 42, 43, 44, 45, 46, 47, 48, 49, 50, 51, 52, 53, 54, 55, 56, 57, 58, 59, 60, 61, 62, 63, 64, 65, 66, 67, 68, 69, 70, 71, 72, 73, 74, 75, 76, 81, 82, 83, 84, 85, 86, 87, 88, 89, 90, 91, 92, 93, 94, 95, 96, 97, 98, 99, 100, 101, 102] (by decide +kernel) (by decide +kernel)
set_option maxRecDepth 20000 in
theorem gX6_base_X6_findSeasons : GoodIn wsX6_base (wsV RX6 117 RX6 yX6_findSeasons wsX6_findSeasons) := goodIn_app (goodIn_of _ (by decide +kernel)) ggX6_base_X6_findSeasons
set_option maxRecDepth 20000 in
theorem ggX6_base_X1_middleOfAll : GoodIn wsX6_base wsX1_middleOfAll := goodIn_r _ [80, 22, 90, 91, 92, 93, 94, 95] (by decide +kernel) (by decide +kernel)
set_option maxRecDepth 20000 in
theorem gX6_base_X1_middleOfAll : GoodIn wsX6_base (wsV RX6 120 RX1 yX1_middleOfAll wsX1_middleOfAll) := goodIn_app (goodIn_of _ (by decide +kernel)) ggX6_base_X1_middleOfAll
theorem dX6_base_0 : decode cX6_base 0 = .ok (.aload_n 0, 1) := by decide +kernel
theorem dX6_base_1 : decode cX6_base 1 = .ok (.invokevirtual 117, 3) := by decide +kernel
theorem dX6_base_4 : decode cX6_base 4 = .ok (.aload_n 0, 1) := by decide +kernel
theorem dX6_base_5 : decode cX6_base 5 = .ok (.getfield 21, 3) := by decide +kernel
theorem dX6_base_8 : decode cX6_base 8 = .ok (.invokevirtual 120, 3) := by decide +kernel
theorem dX6_base_11 : decode cX6_base 11 = .ok (.ireturn, 1) := by decide +kernel
set_option maxRecDepth 20000 in
theorem ggX6_season_X1_length : GoodIn wsX6_season wsX1_length := goodIn_r _ [6, 7, 99, 100, 101, 102, 103, 104] (by decide +kernel) (by decide +kernel)
set_option maxRecDepth 20000 in
theorem gX6_season_X1_length : GoodIn wsX6_season (wsV RX6 107 RX1 yX1_length wsX1_length) := goodIn_app (goodIn_of _ (by decide +kernel)) ggX6_season_X1_length
set_option maxRecDepth 20000 in
theorem ggX6_season_X6_requireIndex : GoodIn wsX6_season wsX6_requireIndex := goodIn_ca (goodIn_r _ [11, 12, 13] (by decide +kernel) (by decide +kernel)) (goodIn_sub (fun _ h => List.mem_cons_of_mem _ (List.mem_append_right _ h)) (by decide +kernel))
set_option maxRecDepth 20000 in
theorem gX6_season_X6_requireIndex : GoodIn wsX6_season (va_wsS RX6 123 yX6_requireIndex wsX6_requireIndex) := goodIn_app (goodIn_of _ (by decide +kernel)) ggX6_season_X6_requireIndex
set_option maxRecDepth 20000 in
theorem ggX6_season_X6_findSeasons : GoodIn wsX6_season wsX6_findSeasons := goodIn_r _ [17, 18, 1, 19, 20, 21, 5, 22, 7, 23, 24, 25, 26, 27, 28, 29, 30, 31, 32, 33, 34, 35, 36, 37, 38, 39, 40, 41, 42, 43, 44, 45, 46, 47, 48, 49, 50, 51, 52, 53, 54, 55, 56, 57, 58, 59, 60, 61, 62, 63, 64, 65, 66, 67, 68, 69, 70, 71, 72, 73, 74, 75, 76, 77, 78, 79, 80, 81, 82, 83, 84, 85, 90, 91, 92, 93, 94, 95, 96, 97, 98, 99, 100, 101, 102, 103, 104, 105, 106, 107, 108, 109, 110, 111] (by decide +kernel) (by decide +kernel)
set_option maxRecDepth 20000 in
theorem gX6_season_X6_findSeasons : GoodIn wsX6_season (wsV RX6 117 RX6 yX6_findSeasons wsX6_findSeasons) := goodIn_app (goodIn_of _ (by decide +kernel)) ggX6_season_X6_findSeasons
set_option maxRecDepth 20000 in
theorem ggX6_season_X1_ofPhase : GoodIn wsX6_season wsX1_ofPhase := goodIn_r _ [89, 25, 82, 83, 84, 79, 85, 81, 99, 100, 101, 102, 103, 104, 111] (by decide +kernel) (by decide +kernel)
set_option maxRecDepth 20000 in
theorem gX6_season_X1_ofPhase : GoodIn wsX6_season (wsV RX6 126 RX1 yX1_ofPhase wsX1_ofPhase) := goodIn_app (goodIn_of _ (by decide +kernel)) ggX6_season_X1_ofPhase
theorem dX6_season_0 : decode cX6_season 0 = .ok (.iload_n 1, 1) := by decide +kernel
theorem dX6_season_1 : decode cX6_season 1 = .ok (.iconst 0, 1) := by decide +kernel
theorem dX6_season_2 : decode cX6_season 2 = .ok (.aload_n 0, 1) := by decide +kernel
theorem dX6_season_3 : decode cX6_season 3 = .ok (.getfield 21, 3) := by decide +kernel
theorem dX6_season_6 : decode cX6_season 6 = .ok (.invokevirtual 107, 3) := by decide +kernel
theorem dX6_season_9 : decode cX6_season 9 = .ok (.invokestatic 123, 3) := by decide +kernel
theorem dX6_season_12 : decode cX6_season 12 = .ok (.aload_n 0, 1) := by decide +kernel
theorem dX6_season_13 : decode cX6_season 13 = .ok (.invokevirtual 117, 3) := by decide +kernel
theorem dX6_season_16 : decode cX6_season 16 = .ok (.aload_n 0, 1) := by decide +kernel
theorem dX6_season_17 : decode cX6_season 17 = .ok (.getfield 21, 3) := by decide +kernel
theorem dX6_season_20 : decode cX6_season 20 = .ok (.iload_n 1, 1) := by decide +kernel
theorem dX6_season_21 : decode cX6_season 21 = .ok (.invokevirtual 126, 3) := by decide +kernel
theorem dX6_season_24 : decode cX6_season 24 = .ok (.ireturn, 1) := by decide +kernel
set_option maxRecDepth 20000 in
theorem ggX6_adjusted_X6_requireNumber : GoodIn wsX6_adjusted wsX6_requireNumber := goodIn_ca (goodIn_r _ [6, 7, 8, 9, 10, 11, 12, 13, 14, 15, 5, 16, 17, 18, 92, 93, 94, 95, 96, 97, 98, 99, 100, 101, 102, 103] (by decide +kernel) (by decide +kernel)) (goodIn_sub (fun _ h => List.mem_cons_of_mem _ (List.mem_append_right _ h)) (by decide +kernel))
set_option maxRecDepth 20000 in
theorem gX6_adjusted_X6_requireNumber : GoodIn wsX6_adjusted (wsV RX6 85 RX6 yX6_requireNumber wsX6_requireNumber) := goodIn_app (goodIn_of _ (by decide +kernel)) ggX6_adjusted_X6_requireNumber
set_option maxRecDepth 20000 in
theorem ggX6_adjusted_X6_findSeasons : GoodIn wsX6_adjusted wsX6_findSeasons := goodIn_r _ [22, 23, 1, 24, 25, 26, 27, 28, 29, 30, 31, 32, 33, 34, 35, 36, 37, 38, 39, 40, 41, 42, 43, 44, 45, 46, 9, 10, 11, 12, 13, 47, 48, 49, 50, 51, 52, 53, 54, 55, 56, 57, 58, 59, 60, 61, 62, 63, 64, 65, 66, 67, 68, 69, 70, 71, 72, 73, 74, 75, 76, 77, 78, 79, 80, 81, 82, 83, 84, 85, 86, 87, 92, 93, 94, 95, 96, 97, 98, 99, 100, 104, 105, 106, 107, 108, 109, 110, 111, 112, 101, 102, 103, 113] (by decide +kernel) (by decide +kernel)
set_option maxRecDepth 20000 in
theorem gX6_adjusted_X6_findSeasons : GoodIn wsX6_adjusted (wsV RX6 117 RX6 yX6_findSeasons wsX6_findSeasons) := goodIn_app (goodIn_of _ (by decide +kernel)) ggX6_adjusted_X6_findSeasons
set_option maxRecDepth 20000 in
theorem ggX6_adjusted_X1_adjustedAt : GoodIn wsX6_adjusted wsX1_adjustedAt := goodIn_r _ [91, 31, 84, 85, 86, 81, 87, 83, 104, 105, 106, 107, 108, 109, 113] (by decide +kernel) (by decide +kernel)
set_option maxRecDepth 20000 in
theorem gX6_adjusted_X1_adjustedAt : GoodIn wsX6_adjusted (wsV RX6 129 RX1 yX1_adjustedAt wsX1_adjustedAt) := goodIn_app (goodIn_of _ (by decide +kernel)) ggX6_adjusted_X1_adjustedAt
theorem dX6_adjusted_0 : decode cX6_adjusted 0 = .ok (.aload_n 0, 1) := by decide +kernel
theorem dX6_adjusted_1 : decode cX6_adjusted 1 = .ok (.iload_n 1, 1) := by decide +kernel
theorem dX6_adjusted_2 : decode cX6_adjusted 2 = .ok (.invokevirtual 85, 3) := by decide +kernel
theorem dX6_adjusted_5 : decode cX6_adjusted 5 = .ok (.aload_n 0, 1) := by decide +kernel
theorem dX6_adjusted_6 : decode cX6_adjusted 6 = .ok (.invokevirtual 117, 3) := by decide +kernel
theorem dX6_adjusted_9 : decode cX6_adjusted 9 = .ok (.aload_n 0, 1) := by decide +kernel
theorem dX6_adjusted_10 : decode cX6_adjusted 10 = .ok (.getfield 21, 3) := by decide +kernel
theorem dX6_adjusted_13 : decode cX6_adjusted 13 = .ok (.iload_n 1, 1) := by decide +kernel
theorem dX6_adjusted_14 : decode cX6_adjusted 14 = .ok (.invokevirtual 129, 3) := by decide +kernel
theorem dX6_adjusted_17 : decode cX6_adjusted 17 = .ok (.ireturn, 1) := by decide +kernel
set_option maxRecDepth 20000 in
theorem ggX6_segments_X6_findSegments : GoodIn wsX6_segments wsX6_findSegments := goodIn_r _ [6, 7, 1, 8, 9, 10, 5, 11, 12, 13, 14, 15, 16, 17, 18, 19, 20, 21, 22, 23, 24, 25, 26, 27, 28, 29, 30, 31, 32, 33, 34, 35, 36, 37, 38, 39, 40, 41, 42, 43, 44, 45, 46, 47, 48, 49, 50, 51, 52, 53, 54, 55, 56, 57, 58, 59, 60, 61, 62, 63, 64, 65, 66, 67, 68, 69, 70, 71, 72, 73, 74, 75, 76, 77, 78, 79, 80, 81, 82, 83, 84, 85, 86, 87, 88, 89, 90, 91, 92, 93, 94, 95, 96, 97, 98, 99, 100, 101, 102, 103, 104, 105, 106, 107, 108, 109, 110, 111, 112, 113, 114, 115, 116, 117, 118, 119, 120, 121, 122, 123, 124, 125, 126, 127, 128, 129, 130, 131, 132, 133, 134, 135, 136, 137, 138, 139, 144, 145, 146, 147, 148, 149, 150, 151, 152, 153, 154, 155, 156, 157, 158, 159, 160, 161, 162, 163, 164, 165, 166, 167, 168, 169, 170, 171, 172, 173, 174, 175, 176, 177] (by decide +kernel) (by decide +kernel)
set_option maxRecDepth 20000 in
theorem gX6_segments_X6_findSegments : GoodIn wsX6_segments (wsV RX6 132 RX6 yX6_findSegments wsX6_findSegments) := goodIn_app (goodIn_of _ (by decide +kernel)) ggX6_segments_X6_findSegments
set_option maxRecDepth 20000 in
theorem ggX6_segments_X2_howMany : GoodIn wsX6_segments wsX2_howMany := goodIn_r _ [143, 131, 166, 167, 168, 169, 170, 171, 172, 173, 174, 175, 176, 177] (by decide +kernel) (by decide +kernel)
set_option maxRecDepth 20000 in
theorem gX6_segments_X2_howMany : GoodIn wsX6_segments (wsV RX6 135 RX2 yX2_howMany wsX2_howMany) := goodIn_app (goodIn_of _ (by decide +kernel)) ggX6_segments_X2_howMany
theorem dX6_segments_0 : decode cX6_segments 0 = .ok (.aload_n 0, 1) := by decide +kernel
theorem dX6_segments_1 : decode cX6_segments 1 = .ok (.invokevirtual 132, 3) := by decide +kernel
theorem dX6_segments_4 : decode cX6_segments 4 = .ok (.aload_n 0, 1) := by decide +kernel
theorem dX6_segments_5 : decode cX6_segments 5 = .ok (.getfield 30, 3) := by decide +kernel
theorem dX6_segments_8 : decode cX6_segments 8 = .ok (.invokevirtual 135, 3) := by decide +kernel
theorem dX6_segments_11 : decode cX6_segments 11 = .ok (.ireturn, 1) := by decide +kernel
set_option maxRecDepth 20000 in
theorem ggX6_startOf_X6_findSegments : GoodIn wsX6_startOf wsX6_findSegments := goodIn_r _ [6, 7, 1, 8, 9, 10, 5, 11, 12, 13, 14, 15, 16, 17, 18, 19, 20, 21, 22, 23, 24, 25, 26, 27, 28, 29, 30, 31, 32, 33, 34, 35, 36, 37, 38, 39, 40, 41, 42, 43, 44, 45, 46, 47, 48, 49, 50, 51, 52, 53, 54, 55, 56, 57, 58, 59, 60, 61, 62, 63, 64, 65, 66, 67, 68, 69, 70, 71, 72, 73, 74, 75, 76, 77, 78, 79, 80, 81, 82, 83, 84, 85, 86, 87, 88, 89, 90, 91, 92, 93, 94, 95, 96, 97, 98, 99, 100, 101, 102, 103, 104, 105, 106, 107, 108, 109, 110, 111, 112, 113, 114, 115, 116, 117, 118, 119, 120, 121, 122, 123, 124, 125, 126, 127, 128, 129, 130, 131, 132, 133, 134, 135, 136, 137, 138, 139, 153, 154, 155, 156, 157, 158, 159, 160, 161, 162, 163, 164, 165, 166, 167, 168, 169, 170, 171, 172, 173, 174, 175, 176, 177, 178, 179, 180, 181, 182, 183, 184, 185, 186] (by decide +kernel) (by decide +kernel)
set_option maxRecDepth 20000 in
theorem gX6_startOf_X6_findSegments : GoodIn wsX6_startOf (wsV RX6 132 RX6 yX6_findSegments wsX6_findSegments) := goodIn_app (goodIn_of _ (by decide +kernel)) ggX6_startOf_X6_findSegments
set_option maxRecDepth 20000 in
theorem ggX6_startOf_X2_howMany : GoodIn wsX6_startOf wsX2_howMany := goodIn_r _ [143, 131, 175, 176, 177, 178, 179, 180, 181, 182, 183, 184, 185, 186] (by decide +kernel) (by decide +kernel)
set_option maxRecDepth 20000 in
theorem gX6_startOf_X2_howMany : GoodIn wsX6_startOf (wsV RX6 135 RX2 yX2_howMany wsX2_howMany) := goodIn_app (goodIn_of _ (by decide +kernel)) ggX6_startOf_X2_howMany
set_option maxRecDepth 20000 in
theorem ggX6_startOf_X6_requireIndex : GoodIn wsX6_startOf wsX6_requireIndex := goodIn_ca (goodIn_r _ [146, 147, 148] (by decide +kernel) (by decide +kernel)) (goodIn_sub (fun _ h => List.mem_cons_of_mem _ (List.mem_append_right _ h)) (by decide +kernel))
set_option maxRecDepth 20000 in
theorem gX6_startOf_X6_requireIndex : GoodIn wsX6_startOf (va_wsS RX6 123 yX6_requireIndex wsX6_requireIndex) := goodIn_app (goodIn_of _ (by decide +kernel)) ggX6_startOf_X6_requireIndex
set_option maxRecDepth 20000 in
theorem ggX6_startOf_X2_startAt : GoodIn wsX6_startOf wsX2_startAt := goodIn_r _ [152, 132, 122, 80, 81, 76, 82, 78, 175, 176, 177, 178, 179, 180, 181, 182, 183, 184, 185, 186, 174] (by decide +kernel) (by decide +kernel)
set_option maxRecDepth 20000 in
theorem gX6_startOf_X2_startAt : GoodIn wsX6_startOf (wsV RX6 138 RX2 yX2_startAt wsX2_startAt) := goodIn_app (goodIn_of _ (by decide +kernel)) ggX6_startOf_X2_startAt
theorem dX6_startOf_0 : decode cX6_startOf 0 = .ok (.aload_n 0, 1) := by decide +kernel
theorem dX6_startOf_1 : decode cX6_startOf 1 = .ok (.invokevirtual 132, 3) := by decide +kernel
theorem dX6_startOf_4 : decode cX6_startOf 4 = .ok (.iload_n 1, 1) := by decide +kernel
theorem dX6_startOf_5 : decode cX6_startOf 5 = .ok (.iconst 0, 1) := by decide +kernel
theorem dX6_startOf_6 : decode cX6_startOf 6 = .ok (.aload_n 0, 1) := by decide +kernel
theorem dX6_startOf_7 : decode cX6_startOf 7 = .ok (.getfield 30, 3) := by decide +kernel
theorem dX6_startOf_10 : decode cX6_startOf 10 = .ok (.invokevirtual 135, 3) := by decide +kernel
theorem dX6_startOf_13 : decode cX6_startOf 13 = .ok (.invokestatic 123, 3) := by decide +kernel
theorem dX6_startOf_16 : decode cX6_startOf 16 = .ok (.aload_n 0, 1) := by decide +kernel
theorem dX6_startOf_17 : decode cX6_startOf 17 = .ok (.getfield 30, 3) := by decide +kernel
theorem dX6_startOf_20 : decode cX6_startOf 20 = .ok (.iload_n 1, 1) := by decide +kernel
theorem dX6_startOf_21 : decode cX6_startOf 21 = .ok (.invokevirtual 138, 3) := by decide +kernel
