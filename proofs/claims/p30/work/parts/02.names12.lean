set_option maxRecDepth 20000 in
theorem gX5_tellText_X5_say : GoodIn wsX5_tellText (wsV RX5 82 RX5 yX5_say wsX5_say) := goodIn_app (goodIn_of _ (by decide +kernel)) ggX5_tellText_X5_say
theorem dX5_tellText_0 : decode cX5_tellText 0 = .ok (.iload_n 1, 1) := by decide +kernel
theorem dX5_tellText_1 : decode cX5_tellText 1 = .ok (.invokestatic 49, 3) := by decide +kernel
theorem dX5_tellText_4 : decode cX5_tellText 4 = .ok (.ifCond .ne 5, 3) := by decide +kernel
theorem dX5_tellText_7 : decode cX5_tellText 7 = .ok (.iconst (-1), 1) := by decide +kernel
theorem dX5_tellText_8 : decode cX5_tellText 8 = .ok (.ireturn, 1) := by decide +kernel
theorem dX5_tellText_9 : decode cX5_tellText 9 = .ok (.aload_n 0, 1) := by decide +kernel
theorem dX5_tellText_10 : decode cX5_tellText 10 = .ok (.invokevirtual 86, 3) := by decide +kernel
theorem dX5_tellText_13 : decode cX5_tellText 13 = .ok (.bipush (-5), 2) := by decide +kernel
theorem dX5_tellText_15 : decode cX5_tellText 15 = .ok (.if_icmp .eq 6, 3) := by decide +kernel
theorem dX5_tellText_18 : decode cX5_tellText 18 = .ok (.bipush (-3), 2) := by decide +kernel
theorem dX5_tellText_20 : decode cX5_tellText 20 = .ok (.ireturn, 1) := by decide +kernel
theorem dX5_tellText_21 : decode cX5_tellText 21 = .ok (.aload_n 0, 1) := by decide +kernel
theorem dX5_tellText_22 : decode cX5_tellText 22 = .ok (.invokevirtual 90, 3) := by decide +kernel
theorem dX5_tellText_25 : decode cX5_tellText 25 = .ok (.lstore_n 2, 1) := by decide +kernel
theorem dX5_tellText_26 : decode cX5_tellText 26 = .ok (.aload_n 0, 1) := by decide +kernel
theorem dX5_tellText_27 : decode cX5_tellText 27 = .ok (.iload_n 1, 1) := by decide +kernel
theorem dX5_tellText_28 : decode cX5_tellText 28 = .ok (.aload_n 0, 1) := by decide +kernel
theorem dX5_tellText_29 : decode cX5_tellText 29 = .ok (.lload_n 2, 1) := by decide +kernel
theorem dX5_tellText_30 : decode cX5_tellText 30 = .ok (.invokevirtual 94, 3) := by decide +kernel
theorem dX5_tellText_33 : decode cX5_tellText 33 = .ok (.lload_n 2, 1) := by decide +kernel
theorem dX5_tellText_34 : decode cX5_tellText 34 = .ok (.invokevirtual 82, 3) := by decide +kernel
theorem dX5_tellText_37 : decode cX5_tellText 37 = .ok (.ireturn, 1) := by decide +kernel
theorem dX5_append_0 : decode cX5_append 0 = .ok (.iload_n 1, 1) := by decide +kernel
theorem dX5_append_1 : decode cX5_append 1 = .ok (.bipush 32, 2) := by decide +kernel
theorem dX5_append_3 : decode cX5_append 3 = .ok (.if_icmp .lt 9, 3) := by decide +kernel
theorem dX5_append_6 : decode cX5_append 6 = .ok (.iload_n 1, 1) := by decide +kernel
theorem dX5_append_7 : decode cX5_append 7 = .ok (.bipush 126, 2) := by decide +kernel
theorem dX5_append_9 : decode cX5_append 9 = .ok (.if_icmp .le 6, 3) := by decide +kernel
theorem dX5_append_12 : decode cX5_append 12 = .ok (.bipush (-2), 2) := by decide +kernel
theorem dX5_append_14 : decode cX5_append 14 = .ok (.ireturn, 1) := by decide +kernel
theorem dX5_append_15 : decode cX5_append 15 = .ok (.aload_n 0, 1) := by decide +kernel
theorem dX5_append_16 : decode cX5_append 16 = .ok (.getfield 27, 3) := by decide +kernel
theorem dX5_append_19 : decode cX5_append 19 = .ok (.ifCond .lt 12, 3) := by decide +kernel
theorem dX5_append_22 : decode cX5_append 22 = .ok (.aload_n 0, 1) := by decide +kernel
theorem dX5_append_23 : decode cX5_append 23 = .ok (.getfield 27, 3) := by decide +kernel
theorem dX5_append_26 : decode cX5_append 26 = .ok (.bipush 20, 2) := by decide +kernel
theorem dX5_append_28 : decode cX5_append 28 = .ok (.if_icmp .lt 6, 3) := by decide +kernel
theorem dX5_append_31 : decode cX5_append 31 = .ok (.bipush (-4), 2) := by decide +kernel
theorem dX5_append_33 : decode cX5_append 33 = .ok (.ireturn, 1) := by decide +kernel
theorem dX5_append_34 : decode cX5_append 34 = .ok (.aload_n 0, 1) := by decide +kernel
theorem dX5_append_35 : decode cX5_append 35 = .ok (.getfield 23, 3) := by decide +kernel
theorem dX5_append_38 : decode cX5_append 38 = .ok (.aload_n 0, 1) := by decide +kernel
theorem dX5_append_39 : decode cX5_append 39 = .ok (.getfield 27, 3) := by decide +kernel
theorem dX5_append_42 : decode cX5_append 42 = .ok (.iload_n 1, 1) := by decide +kernel
theorem dX5_append_43 : decode cX5_append 43 = .ok (.i2c, 1) := by decide +kernel
theorem dX5_append_44 : decode cX5_append 44 = .ok (.castore, 1) := by decide +kernel
theorem dX5_append_45 : decode cX5_append 45 = .ok (.aload_n 0, 1) := by decide +kernel
theorem dX5_append_46 : decode cX5_append 46 = .ok (.dup, 1) := by decide +kernel
theorem dX5_append_47 : decode cX5_append 47 = .ok (.getfield 27, 3) := by decide +kernel
theorem dX5_append_50 : decode cX5_append 50 = .ok (.iconst 1, 1) := by decide +kernel
theorem dX5_append_51 : decode cX5_append 51 = .ok (.iadd, 1) := by decide +kernel
theorem dX5_append_52 : decode cX5_append 52 = .ok (.putfield 27, 3) := by decide +kernel
theorem dX5_append_55 : decode cX5_append 55 = .ok (.aload_n 0, 1) := by decide +kernel
theorem dX5_append_56 : decode cX5_append 56 = .ok (.getfield 27, 3) := by decide +kernel
theorem dX5_append_59 : decode cX5_append 59 = .ok (.ireturn, 1) := by decide +kernel
theorem dX5_clearText_0 : decode cX5_clearText 0 = .ok (.aload_n 0, 1) := by decide +kernel
theorem dX5_clearText_1 : decode cX5_clearText 1 = .ok (.getfield 27, 3) := by decide +kernel
theorem dX5_clearText_4 : decode cX5_clearText 4 = .ok (.istore_n 1, 1) := by decide +kernel
theorem dX5_clearText_5 : decode cX5_clearText 5 = .ok (.aload_n 0, 1) := by decide +kernel
theorem dX5_clearText_6 : decode cX5_clearText 6 = .ok (.iconst 0, 1) := by decide +kernel
theorem dX5_clearText_7 : decode cX5_clearText 7 = .ok (.putfield 27, 3) := by decide +kernel
theorem dX5_clearText_10 : decode cX5_clearText 10 = .ok (.iload_n 1, 1) := by decide +kernel
theorem dX5_clearText_11 : decode cX5_clearText 11 = .ok (.ireturn, 1) := by decide +kernel
set_option maxRecDepth 20000 in
theorem ggX5_fault_X0_listen : GoodIn wsX5_fault wsX0_listen := goodIn_r _ [8, 9, 10, 11, 12, 13, 14, 15, 16, 17, 18, 19, 72, 73, 74, 75, 76, 77, 78, 79, 80, 81, 82] (by decide +kernel) (by decide +kernel)
set_option maxRecDepth 20000 in
theorem gX5_fault_X0_listen : GoodIn wsX5_fault (wsV RX5 98 RX0 yX0_listen wsX0_listen) := goodIn_app (goodIn_of _ (by decide +kernel)) ggX5_fault_X0_listen
set_option maxRecDepth 20000 in
theorem ggX5_fault_X0_take : GoodIn wsX5_fault wsX0_take := goodIn_r _ [23, 12, 24, 25, 26, 7, 27, 28, 29, 30, 31, 13, 32, 33, 34, 35, 36, 37, 38, 39, 40, 41, 42, 43, 44, 45, 46, 47, 48, 49, 14, 15, 16, 18, 11, 17, 50, 51, 52, 53, 19, 54, 55, 56, 57, 9, 58, 59, 60, 61, 72, 73, 74, 75, 76, 77, 78, 79, 80, 81, 82] (by decide +kernel) (by decide +kernel)
set_option maxRecDepth 20000 in
theorem gX5_fault_X0_take : GoodIn wsX5_fault (wsV RX5 102 RX0 yX0_take wsX0_take) := goodIn_app (goodIn_of _ (by decide +kernel)) ggX5_fault_X0_take
set_option maxRecDepth 20000 in
theorem ggX5_fault_X0_isComplete : GoodIn wsX5_fault wsX0_isComplete := goodIn_r _ [65, 12, 72, 73, 74, 75, 76, 77, 78, 79, 80, 81, 82] (by decide +kernel) (by decide +kernel)
set_option maxRecDepth 20000 in
theorem gX5_fault_X0_isComplete : GoodIn wsX5_fault (wsV RX5 105 RX0 yX0_isComplete wsX0_isComplete) := goodIn_app (goodIn_of _ (by decide +kernel)) ggX5_fault_X0_isComplete
theorem dX5_fault_0 : decode cX5_fault 0 = .ok (.aload_n 0, 1) := by decide +kernel
theorem dX5_fault_1 : decode cX5_fault 1 = .ok (.getfield 41, 3) := by decide +kernel
theorem dX5_fault_4 : decode cX5_fault 4 = .ok (.iconst 1, 1) := by decide +kernel
theorem dX5_fault_5 : decode cX5_fault 5 = .ok (.iconst 1, 1) := by decide +kernel
theorem dX5_fault_6 : decode cX5_fault 6 = .ok (.iconst 1, 1) := by decide +kernel
theorem dX5_fault_7 : decode cX5_fault 7 = .ok (.invokevirtual 98, 3) := by decide +kernel
theorem dX5_fault_10 : decode cX5_fault 10 = .ok (.iconst 0, 1) := by decide +kernel
theorem dX5_fault_11 : decode cX5_fault 11 = .ok (.istore_n 1, 1) := by decide +kernel
theorem dX5_fault_12 : decode cX5_fault 12 = .ok (.iload_n 1, 1) := by decide +kernel
theorem dX5_fault_13 : decode cX5_fault 13 = .ok (.aload_n 0, 1) := by decide +kernel
theorem dX5_fault_14 : decode cX5_fault 14 = .ok (.getfield 27, 3) := by decide +kernel
theorem dX5_fault_17 : decode cX5_fault 17 = .ok (.if_icmp .ge 33, 3) := by decide +kernel
theorem dX5_fault_20 : decode cX5_fault 20 = .ok (.iload_n 1, 1) := by decide +kernel
theorem dX5_fault_21 : decode cX5_fault 21 = .ok (.bipush 20, 2) := by decide +kernel
theorem dX5_fault_23 : decode cX5_fault 23 = .ok (.if_icmp .ge 27, 3) := by decide +kernel
theorem dX5_fault_26 : decode cX5_fault 26 = .ok (.aload_n 0, 1) := by decide +kernel
theorem dX5_fault_27 : decode cX5_fault 27 = .ok (.getfield 41, 3) := by decide +kernel
theorem dX5_fault_30 : decode cX5_fault 30 = .ok (.aload_n 0, 1) := by decide +kernel
theorem dX5_fault_31 : decode cX5_fault 31 = .ok (.getfield 23, 3) := by decide +kernel
theorem dX5_fault_34 : decode cX5_fault 34 = .ok (.iload_n 1, 1) := by decide +kernel
theorem dX5_fault_35 : decode cX5_fault 35 = .ok (.caload, 1) := by decide +kernel
theorem dX5_fault_36 : decode cX5_fault 36 = .ok (.invokevirtual 102, 3) := by decide +kernel
theorem dX5_fault_39 : decode cX5_fault 39 = .ok (.ifCond .ne 5, 3) := by decide +kernel
theorem dX5_fault_42 : decode cX5_fault 42 = .ok (.iload_n 1, 1) := by decide +kernel
theorem dX5_fault_43 : decode cX5_fault 43 = .ok (.ireturn, 1) := by decide +kernel
theorem dX5_fault_44 : decode cX5_fault 44 = .ok (.iinc 1 1, 3) := by decide +kernel
theorem dX5_fault_47 : decode cX5_fault 47 = .ok (.goto (-35), 3) := by decide +kernel
theorem dX5_fault_50 : decode cX5_fault 50 = .ok (.aload_n 0, 1) := by decide +kernel
theorem dX5_fault_51 : decode cX5_fault 51 = .ok (.getfield 41, 3) := by decide +kernel
theorem dX5_fault_54 : decode cX5_fault 54 = .ok (.invokevirtual 105, 3) := by decide +kernel
theorem dX5_fault_57 : decode cX5_fault 57 = .ok (.ifCond .eq 8, 3) := by decide +kernel
theorem dX5_fault_60 : decode cX5_fault 60 = .ok (.bipush (-5), 2) := by decide +kernel
theorem dX5_fault_62 : decode cX5_fault 62 = .ok (.goto 7, 3) := by decide +kernel
theorem dX5_fault_65 : decode cX5_fault 65 = .ok (.aload_n 0, 1) := by decide +kernel
theorem dX5_fault_66 : decode cX5_fault 66 = .ok (.getfield 27, 3) := by decide +kernel
theorem dX5_fault_69 : decode cX5_fault 69 = .ok (.ireturn, 1) := by decide +kernel
set_option maxRecDepth 20000 in
theorem ggX5_meaning_X5_fault : GoodIn wsX5_meaning wsX5_fault := goodIn_r _ [5, 6, 7, 8, 9, 10, 11, 12, 13, 14, 15, 16, 17, 18, 19, 20, 21, 22, 23, 24, 25, 26, 27, 28, 29, 30, 31, 32, 33, 34, 35, 36, 37, 38, 39, 40, 41, 42, 43, 44, 45, 46, 47, 48, 49, 50, 51, 52, 53, 54, 55, 56, 57, 58, 59, 60, 61, 62, 63, 64, 65, 66, 67, 68, 69, 70, 99, 100, 101, 102, 103, 104, 105, 106, 107, 108, 109, 110, 111, 112, 113, 114, 115] (by decide +kernel) (by decide +kernel)
set_option maxRecDepth 20000 in
theorem gX5_meaning_X5_fault : GoodIn wsX5_meaning (wsV RX5 86 RX5 yX5_fault wsX5_fault) := goodIn_app (goodIn_of _ (by decide +kernel)) ggX5_meaning_X5_fault
set_option maxRecDepth 20000 in
theorem ggX5_meaning_X5_packedText : GoodIn wsX5_meaning wsX5_packedText := goodIn_r _ [74, 7, 8, 75, 76, 77, 78, 99, 100, 101, 102, 103, 104] (by decide +kernel) (by decide +kernel)
set_option maxRecDepth 20000 in
theorem gX5_meaning_X5_packedText : GoodIn wsX5_meaning (wsV RX5 90 RX5 yX5_packedText wsX5_packedText) := goodIn_app (goodIn_of _ (by decide +kernel)) ggX5_meaning_X5_packedText
set_option maxRecDepth 20000 in
theorem ggX5_meaning_X5_meant : GoodIn wsX5_meaning wsX5_meant := goodIn_r _ [82, 6, 9, 10, 11, 12, 13, 14, 15, 16, 17, 18, 19, 20, 21, 22, 23, 24, 83, 84, 85, 86, 87, 88, 77, 89, 90, 91, 92, 93, 26, 27, 28, 29, 30, 31, 32, 33, 34, 35, 36, 37, 38, 39, 40, 41, 42, 43, 44, 45, 46, 47, 48, 49, 50, 51, 52, 53, 54, 55, 56, 57, 58, 59, 60, 61, 62, 63, 64, 65, 66, 94, 68, 69, 70, 95, 96, 97, 98, 99, 100, 101, 102, 103, 104, 105, 106, 107, 108, 109, 110, 111, 112, 113, 114, 115] (by decide +kernel) (by decide +kernel)
set_option maxRecDepth 20000 in
theorem gX5_meaning_X5_meant : GoodIn wsX5_meaning (wsV RX5 94 RX5 yX5_meant wsX5_meant) := goodIn_app (goodIn_of _ (by decide +kernel)) ggX5_meaning_X5_meant
theorem dX5_meaning_0 : decode cX5_meaning 0 = .ok (.aload_n 0, 1) := by decide +kernel
theorem dX5_meaning_1 : decode cX5_meaning 1 = .ok (.invokevirtual 86, 3) := by decide +kernel
theorem dX5_meaning_4 : decode cX5_meaning 4 = .ok (.bipush (-5), 2) := by decide +kernel
theorem dX5_meaning_6 : decode cX5_meaning 6 = .ok (.if_icmp .eq 8, 3) := by decide +kernel
theorem dX5_meaning_9 : decode cX5_meaning 9 = .ok (.bipush (-3), 2) := by decide +kernel
theorem dX5_meaning_11 : decode cX5_meaning 11 = .ok (.goto 11, 3) := by decide +kernel
theorem dX5_meaning_14 : decode cX5_meaning 14 = .ok (.aload_n 0, 1) := by decide +kernel
theorem dX5_meaning_15 : decode cX5_meaning 15 = .ok (.aload_n 0, 1) := by decide +kernel
theorem dX5_meaning_16 : decode cX5_meaning 16 = .ok (.invokevirtual 90, 3) := by decide +kernel
theorem dX5_meaning_19 : decode cX5_meaning 19 = .ok (.invokevirtual 94, 3) := by decide +kernel
theorem dX5_meaning_22 : decode cX5_meaning 22 = .ok (.ireturn, 1) := by decide +kernel
set_option maxRecDepth 20000 in
theorem ggX5_undo_X1_restore : GoodIn wsX5_undo wsX1_restore := goodIn_r _ [7, 8, 9, 10, 11, 12, 13, 14, 15, 16, 17, 18, 19, 20, 21, 22, 23, 24, 31, 32, 33, 34, 35, 36, 37, 38] (by decide +kernel) (by decide +kernel)
set_option maxRecDepth 20000 in
theorem gX5_undo_X1_restore : GoodIn wsX5_undo (wsV RX5 109 RX1 yX1_restore wsX1_restore) := goodIn_app (goodIn_of _ (by decide +kernel)) ggX5_undo_X1_restore
theorem dX5_undo_0 : decode cX5_undo 0 = .ok (.aload_n 0, 1) := by decide +kernel
theorem dX5_undo_1 : decode cX5_undo 1 = .ok (.getfield 19, 3) := by decide +kernel
theorem dX5_undo_4 : decode cX5_undo 4 = .ok (.aload_n 0, 1) := by decide +kernel
theorem dX5_undo_5 : decode cX5_undo 5 = .ok (.getfield 10, 3) := by decide +kernel
theorem dX5_undo_8 : decode cX5_undo 8 = .ok (.invokevirtual 109, 3) := by decide +kernel
theorem dX5_undo_11 : decode cX5_undo 11 = .ok (.ireturn, 1) := by decide +kernel
set_option maxRecDepth 20000 in
theorem ggX5_ways_X5_isNumber : GoodIn wsX5_ways wsX5_isNumber := goodIn_r _ [6] (by decide +kernel) (by decide +kernel)
set_option maxRecDepth 20000 in
theorem gX5_ways_X5_isNumber : GoodIn wsX5_ways (va_wsS RX5 67 yX5_isNumber wsX5_isNumber) := goodIn_app (goodIn_of _ (by decide +kernel)) ggX5_ways_X5_isNumber
set_option maxRecDepth 20000 in
theorem ggX5_ways_X4_find : GoodIn wsX5_ways wsX4_find := goodIn_r _ [11, 12, 13, 14, 15, 16, 17, 18, 19, 20, 21, 22, 10, 23, 24, 25, 26, 27, 28, 29, 30, 31, 32, 33, 34, 35, 36, 37, 38, 39, 40, 41, 42, 43, 44, 45, 46, 53, 54] (by decide +kernel) (by decide +kernel)
set_option maxRecDepth 20000 in
theorem gX5_ways_X4_find : GoodIn wsX5_ways (wsV RX5 70 RX4 yX4_find wsX4_find) := goodIn_app (goodIn_of _ (by decide +kernel)) ggX5_ways_X4_find
theorem dX5_ways_0 : decode cX5_ways 0 = .ok (.iload_n 1, 1) := by decide +kernel
theorem dX5_ways_1 : decode cX5_ways 1 = .ok (.invokestatic 67, 3) := by decide +kernel
theorem dX5_ways_4 : decode cX5_ways 4 = .ok (.ifCond .ne 6, 3) := by decide +kernel
theorem dX5_ways_7 : decode cX5_ways 7 = .ok (.bipush (-2), 2) := by decide +kernel
theorem dX5_ways_9 : decode cX5_ways 9 = .ok (.ireturn, 1) := by decide +kernel
theorem dX5_ways_10 : decode cX5_ways 10 = .ok (.aload_n 0, 1) := by decide +kernel
theorem dX5_ways_11 : decode cX5_ways 11 = .ok (.getfield 34, 3) := by decide +kernel
theorem dX5_ways_14 : decode cX5_ways 14 = .ok (.iload_n 1, 1) := by decide +kernel
theorem dX5_ways_15 : decode cX5_ways 15 = .ok (.invokevirtual 70, 3) := by decide +kernel
theorem dX5_ways_18 : decode cX5_ways 18 = .ok (.aload_n 0, 1) := by decide +kernel
theorem dX5_ways_19 : decode cX5_ways 19 = .ok (.getfield 34, 3) := by decide +kernel
theorem dX5_ways_22 : decode cX5_ways 22 = .ok (.getfield 113, 3) := by decide +kernel
theorem dX5_ways_25 : decode cX5_ways 25 = .ok (.ireturn, 1) := by decide +kernel
set_option maxRecDepth 20000 in
theorem ggX5_wayLength_X5_isNumber : GoodIn wsX5_wayLength wsX5_isNumber := goodIn_r _ [6] (by decide +kernel) (by decide +kernel)
set_option maxRecDepth 20000 in
theorem gX5_wayLength_X5_isNumber : GoodIn wsX5_wayLength (va_wsS RX5 67 yX5_isNumber wsX5_isNumber) := goodIn_app (goodIn_of _ (by decide +kernel)) ggX5_wayLength_X5_isNumber
set_option maxRecDepth 20000 in
theorem ggX5_wayLength_X4_find : GoodIn wsX5_wayLength wsX4_find := goodIn_r _ [11, 12, 13, 14, 15, 16, 17, 18, 19, 20, 21, 22, 10, 23, 24, 25, 26, 27, 28, 29, 30, 31, 32, 33, 34, 35, 36, 37, 38, 39, 40, 41, 42, 43, 44, 45, 46, 60, 61] (by decide +kernel) (by decide +kernel)
set_option maxRecDepth 20000 in
theorem gX5_wayLength_X4_find : GoodIn wsX5_wayLength (wsV RX5 70 RX4 yX4_find wsX4_find) := goodIn_app (goodIn_of _ (by decide +kernel)) ggX5_wayLength_X4_find
set_option maxRecDepth 20000 in
theorem ggX5_wayLength_X4_at : GoodIn wsX5_wayLength wsX4_at := goodIn_r _ [50, 35, 60, 61] (by decide +kernel) (by decide +kernel)
set_option maxRecDepth 20000 in
theorem gX5_wayLength_X4_at : GoodIn wsX5_wayLength (wsV RX5 78 RX4 yX4_at wsX4_at) := goodIn_app (goodIn_of _ (by decide +kernel)) ggX5_wayLength_X4_at
set_option maxRecDepth 20000 in
theorem ggX5_wayLength_X2_length : GoodIn wsX5_wayLength wsX2_length := goodIn_r _ [53] (by decide +kernel) (by decide +kernel)
set_option maxRecDepth 20000 in
theorem gX5_wayLength_X2_length : GoodIn wsX5_wayLength (va_wsS RX5 116 yX2_length wsX2_length) := goodIn_app (goodIn_of _ (by decide +kernel)) ggX5_wayLength_X2_length
theorem dX5_wayLength_0 : decode cX5_wayLength 0 = .ok (.iload_n 1, 1) := by decide +kernel
theorem dX5_wayLength_1 : decode cX5_wayLength 1 = .ok (.invokestatic 67, 3) := by decide +kernel
theorem dX5_wayLength_4 : decode cX5_wayLength 4 = .ok (.ifCond .eq 7, 3) := by decide +kernel
theorem dX5_wayLength_7 : decode cX5_wayLength 7 = .ok (.iload_n 2, 1) := by decide +kernel
theorem dX5_wayLength_8 : decode cX5_wayLength 8 = .ok (.ifCond .ge 6, 3) := by decide +kernel
theorem dX5_wayLength_11 : decode cX5_wayLength 11 = .ok (.bipush (-2), 2) := by decide +kernel
theorem dX5_wayLength_13 : decode cX5_wayLength 13 = .ok (.ireturn, 1) := by decide +kernel
theorem dX5_wayLength_14 : decode cX5_wayLength 14 = .ok (.aload_n 0, 1) := by decide +kernel
theorem dX5_wayLength_15 : decode cX5_wayLength 15 = .ok (.getfield 34, 3) := by decide +kernel
theorem dX5_wayLength_18 : decode cX5_wayLength 18 = .ok (.iload_n 1, 1) := by decide +kernel
theorem dX5_wayLength_19 : decode cX5_wayLength 19 = .ok (.invokevirtual 70, 3) := by decide +kernel
theorem dX5_wayLength_22 : decode cX5_wayLength 22 = .ok (.iload_n 2, 1) := by decide +kernel
theorem dX5_wayLength_23 : decode cX5_wayLength 23 = .ok (.aload_n 0, 1) := by decide +kernel
theorem dX5_wayLength_24 : decode cX5_wayLength 24 = .ok (.getfield 34, 3) := by decide +kernel
theorem dX5_wayLength_27 : decode cX5_wayLength 27 = .ok (.getfield 113, 3) := by decide +kernel
theorem dX5_wayLength_30 : decode cX5_wayLength 30 = .ok (.if_icmp .ge 17, 3) := by decide +kernel
theorem dX5_wayLength_33 : decode cX5_wayLength 33 = .ok (.aload_n 0, 1) := by decide +kernel
theorem dX5_wayLength_34 : decode cX5_wayLength 34 = .ok (.getfield 34, 3) := by decide +kernel
theorem dX5_wayLength_37 : decode cX5_wayLength 37 = .ok (.iload_n 2, 1) := by decide +kernel
theorem dX5_wayLength_38 : decode cX5_wayLength 38 = .ok (.invokevirtual 78, 3) := by decide +kernel
theorem dX5_wayLength_41 : decode cX5_wayLength 41 = .ok (.invokestatic 116, 3) := by decide +kernel
theorem dX5_wayLength_44 : decode cX5_wayLength 44 = .ok (.goto 5, 3) := by decide +kernel
theorem dX5_wayLength_47 : decode cX5_wayLength 47 = .ok (.bipush (-5), 2) := by decide +kernel
theorem dX5_wayLength_49 : decode cX5_wayLength 49 = .ok (.ireturn, 1) := by decide +kernel
set_option maxRecDepth 20000 in
theorem ggX5_wayAt_X5_isNumber : GoodIn wsX5_wayAt wsX5_isNumber := goodIn_r _ [6] (by decide +kernel) (by decide +kernel)
set_option maxRecDepth 20000 in
theorem gX5_wayAt_X5_isNumber : GoodIn wsX5_wayAt (va_wsS RX5 67 yX5_isNumber wsX5_isNumber) := goodIn_app (goodIn_of _ (by decide +kernel)) ggX5_wayAt_X5_isNumber
set_option maxRecDepth 20000 in
theorem ggX5_wayAt_X4_find : GoodIn wsX5_wayAt wsX4_find := goodIn_r _ [11, 12, 13, 14, 15, 16, 17, 18, 19, 20, 21, 22, 10, 23, 24, 25, 26, 27, 28, 29, 30, 31, 32, 33, 34, 35, 36, 37, 38, 39, 40, 41, 42, 43, 44, 45, 46, 63, 64] (by decide +kernel) (by decide +kernel)
set_option maxRecDepth 20000 in
theorem gX5_wayAt_X4_find : GoodIn wsX5_wayAt (wsV RX5 70 RX4 yX4_find wsX4_find) := goodIn_app (goodIn_of _ (by decide +kernel)) ggX5_wayAt_X4_find
set_option maxRecDepth 20000 in
theorem ggX5_wayAt_X4_at : GoodIn wsX5_wayAt wsX4_at := goodIn_r _ [50, 35, 63, 64] (by decide +kernel) (by decide +kernel)
set_option maxRecDepth 20000 in
theorem gX5_wayAt_X4_at : GoodIn wsX5_wayAt (wsV RX5 78 RX4 yX4_at wsX4_at) := goodIn_app (goodIn_of _ (by decide +kernel)) ggX5_wayAt_X4_at
set_option maxRecDepth 20000 in
theorem ggX5_wayAt_X2_length : GoodIn wsX5_wayAt wsX2_length := goodIn_r _ [53] (by decide +kernel) (by decide +kernel)
set_option maxRecDepth 20000 in
theorem gX5_wayAt_X2_length : GoodIn wsX5_wayAt (va_wsS RX5 116 yX2_length wsX2_length) := goodIn_app (goodIn_of _ (by decide +kernel)) ggX5_wayAt_X2_length
set_option maxRecDepth 20000 in
theorem ggX5_wayAt_X2_character : GoodIn wsX5_wayAt wsX2_character := goodIn_r _ [56] (by decide +kernel) (by decide +kernel)
set_option maxRecDepth 20000 in
theorem gX5_wayAt_X2_character : GoodIn wsX5_wayAt (va_wsS RX5 121 yX2_character wsX2_character) := goodIn_app (goodIn_of _ (by decide +kernel)) ggX5_wayAt_X2_character
theorem dX5_wayAt_0 : decode cX5_wayAt 0 = .ok (.iload_n 1, 1) := by decide +kernel
theorem dX5_wayAt_1 : decode cX5_wayAt 1 = .ok (.invokestatic 67, 3) := by decide +kernel
theorem dX5_wayAt_4 : decode cX5_wayAt 4 = .ok (.ifCond .eq 11, 3) := by decide +kernel
theorem dX5_wayAt_7 : decode cX5_wayAt 7 = .ok (.iload_n 2, 1) := by decide +kernel
theorem dX5_wayAt_8 : decode cX5_wayAt 8 = .ok (.ifCond .lt 7, 3) := by decide +kernel
theorem dX5_wayAt_11 : decode cX5_wayAt 11 = .ok (.iload_n 3, 1) := by decide +kernel
theorem dX5_wayAt_12 : decode cX5_wayAt 12 = .ok (.ifCond .ge 6, 3) := by decide +kernel
theorem dX5_wayAt_15 : decode cX5_wayAt 15 = .ok (.bipush (-2), 2) := by decide +kernel
theorem dX5_wayAt_17 : decode cX5_wayAt 17 = .ok (.ireturn, 1) := by decide +kernel
theorem dX5_wayAt_18 : decode cX5_wayAt 18 = .ok (.aload_n 0, 1) := by decide +kernel
theorem dX5_wayAt_19 : decode cX5_wayAt 19 = .ok (.getfield 34, 3) := by decide +kernel
theorem dX5_wayAt_22 : decode cX5_wayAt 22 = .ok (.iload_n 1, 1) := by decide +kernel
theorem dX5_wayAt_23 : decode cX5_wayAt 23 = .ok (.invokevirtual 70, 3) := by decide +kernel
theorem dX5_wayAt_26 : decode cX5_wayAt 26 = .ok (.iload_n 2, 1) := by decide +kernel
theorem dX5_wayAt_27 : decode cX5_wayAt 27 = .ok (.aload_n 0, 1) := by decide +kernel
theorem dX5_wayAt_28 : decode cX5_wayAt 28 = .ok (.getfield 34, 3) := by decide +kernel
theorem dX5_wayAt_31 : decode cX5_wayAt 31 = .ok (.getfield 113, 3) := by decide +kernel
theorem dX5_wayAt_34 : decode cX5_wayAt 34 = .ok (.if_icmp .lt 6, 3) := by decide +kernel
theorem dX5_wayAt_37 : decode cX5_wayAt 37 = .ok (.bipush (-5), 2) := by decide +kernel
theorem dX5_wayAt_39 : decode cX5_wayAt 39 = .ok (.ireturn, 1) := by decide +kernel
theorem dX5_wayAt_40 : decode cX5_wayAt 40 = .ok (.aload_n 0, 1) := by decide +kernel
theorem dX5_wayAt_41 : decode cX5_wayAt 41 = .ok (.getfield 34, 3) := by decide +kernel
theorem dX5_wayAt_44 : decode cX5_wayAt 44 = .ok (.iload_n 2, 1) := by decide +kernel
theorem dX5_wayAt_45 : decode cX5_wayAt 45 = .ok (.invokevirtual 78, 3) := by decide +kernel
theorem dX5_wayAt_48 : decode cX5_wayAt 48 = .ok (.lstore 4, 2) := by decide +kernel
theorem dX5_wayAt_50 : decode cX5_wayAt 50 = .ok (.lload 4, 2) := by decide +kernel
theorem dX5_wayAt_52 : decode cX5_wayAt 52 = .ok (.invokestatic 116, 3) := by decide +kernel
theorem dX5_wayAt_55 : decode cX5_wayAt 55 = .ok (.istore 6, 2) := by decide +kernel
theorem dX5_wayAt_57 : decode cX5_wayAt 57 = .ok (.iload_n 3, 1) := by decide +kernel
theorem dX5_wayAt_58 : decode cX5_wayAt 58 = .ok (.iload 6, 2) := by decide +kernel
theorem dX5_wayAt_60 : decode cX5_wayAt 60 = .ok (.if_icmp .ge 17, 3) := by decide +kernel
theorem dX5_wayAt_63 : decode cX5_wayAt 63 = .ok (.lload 4, 2) := by decide +kernel
theorem dX5_wayAt_65 : decode cX5_wayAt 65 = .ok (.iload 6, 2) := by decide +kernel
theorem dX5_wayAt_67 : decode cX5_wayAt 67 = .ok (.iconst 1, 1) := by decide +kernel
theorem dX5_wayAt_68 : decode cX5_wayAt 68 = .ok (.isub, 1) := by decide +kernel
theorem dX5_wayAt_69 : decode cX5_wayAt 69 = .ok (.iload_n 3, 1) := by decide +kernel
theorem dX5_wayAt_70 : decode cX5_wayAt 70 = .ok (.isub, 1) := by decide +kernel
theorem dX5_wayAt_71 : decode cX5_wayAt 71 = .ok (.invokestatic 121, 3) := by decide +kernel
theorem dX5_wayAt_74 : decode cX5_wayAt 74 = .ok (.goto 5, 3) := by decide +kernel
theorem dX5_wayAt_77 : decode cX5_wayAt 77 = .ok (.bipush (-5), 2) := by decide +kernel
theorem dX5_wayAt_79 : decode cX5_wayAt 79 = .ok (.ireturn, 1) := by decide +kernel
set_option maxRecDepth 20000 in
theorem ggX5_styled_X5_isStyle : GoodIn wsX5_styled wsX5_isStyle := goodIn_r _ [5] (by decide +kernel) (by decide +kernel)
set_option maxRecDepth 20000 in
theorem gX5_styled_X5_isStyle : GoodIn wsX5_styled (va_wsS RX5 64 yX5_isStyle wsX5_isStyle) := goodIn_app (goodIn_of _ (by decide +kernel)) ggX5_styled_X5_isStyle
set_option maxRecDepth 20000 in
theorem ggX5_styled_X5_isNumber : GoodIn wsX5_styled wsX5_isNumber := goodIn_r _ [8] (by decide +kernel) (by decide +kernel)
set_option maxRecDepth 20000 in
theorem gX5_styled_X5_isNumber : GoodIn wsX5_styled (va_wsS RX5 67 yX5_isNumber wsX5_isNumber) := goodIn_app (goodIn_of _ (by decide +kernel)) ggX5_styled_X5_isNumber
set_option maxRecDepth 20000 in
theorem ggX5_styled_X4_find : GoodIn wsX5_styled wsX4_find := goodIn_r _ [13, 14, 15, 16, 17, 18, 19, 20, 21, 22, 23, 24, 12, 25, 26, 27, 28, 29, 30, 31, 32, 33, 34, 35, 36, 37, 38, 39, 40, 41, 42, 43, 44, 45, 46, 47, 48, 72, 73] (by decide +kernel) (by decide +kernel)
set_option maxRecDepth 20000 in
theorem gX5_styled_X4_find : GoodIn wsX5_styled (wsV RX5 70 RX4 yX4_find wsX4_find) := goodIn_app (goodIn_of _ (by decide +kernel)) ggX5_styled_X4_find
set_option maxRecDepth 20000 in
theorem ggX5_styled_X4_placeOfStyle : GoodIn wsX5_styled wsX4_placeOfStyle := goodIn_r _ [52, 14, 53, 54, 55, 12, 56, 37, 57, 58, 59, 60, 61, 31, 62, 63, 64, 65, 72, 73] (by decide +kernel) (by decide +kernel)
set_option maxRecDepth 20000 in
theorem gX5_styled_X4_placeOfStyle : GoodIn wsX5_styled (wsV RX5 74 RX4 yX4_placeOfStyle wsX4_placeOfStyle) := goodIn_app (goodIn_of _ (by decide +kernel)) ggX5_styled_X4_placeOfStyle
theorem dX5_styled_0 : decode cX5_styled 0 = .ok (.iload_n 2, 1) := by decide +kernel
theorem dX5_styled_1 : decode cX5_styled 1 = .ok (.invokestatic 64, 3) := by decide +kernel
theorem dX5_styled_4 : decode cX5_styled 4 = .ok (.ifCond .ne 5, 3) := by decide +kernel
theorem dX5_styled_7 : decode cX5_styled 7 = .ok (.iconst (-1), 1) := by decide +kernel
theorem dX5_styled_8 : decode cX5_styled 8 = .ok (.ireturn, 1) := by decide +kernel
theorem dX5_styled_9 : decode cX5_styled 9 = .ok (.iload_n 1, 1) := by decide +kernel
theorem dX5_styled_10 : decode cX5_styled 10 = .ok (.invokestatic 67, 3) := by decide +kernel
theorem dX5_styled_13 : decode cX5_styled 13 = .ok (.ifCond .ne 6, 3) := by decide +kernel
theorem dX5_styled_16 : decode cX5_styled 16 = .ok (.bipush (-2), 2) := by decide +kernel
theorem dX5_styled_18 : decode cX5_styled 18 = .ok (.ireturn, 1) := by decide +kernel
theorem dX5_styled_19 : decode cX5_styled 19 = .ok (.aload_n 0, 1) := by decide +kernel
theorem dX5_styled_20 : decode cX5_styled 20 = .ok (.getfield 34, 3) := by decide +kernel
theorem dX5_styled_23 : decode cX5_styled 23 = .ok (.iload_n 1, 1) := by decide +kernel
theorem dX5_styled_24 : decode cX5_styled 24 = .ok (.invokevirtual 70, 3) := by decide +kernel
theorem dX5_styled_27 : decode cX5_styled 27 = .ok (.aload_n 0, 1) := by decide +kernel
theorem dX5_styled_28 : decode cX5_styled 28 = .ok (.getfield 34, 3) := by decide +kernel
theorem dX5_styled_31 : decode cX5_styled 31 = .ok (.iload_n 2, 1) := by decide +kernel
theorem dX5_styled_32 : decode cX5_styled 32 = .ok (.invokevirtual 74, 3) := by decide +kernel
theorem dX5_styled_35 : decode cX5_styled 35 = .ok (.ireturn, 1) := by decide +kernel
set_option maxRecDepth 20000 in
theorem ggX5_placeOfText_X5_fault : GoodIn wsX5_placeOfText wsX5_fault := goodIn_r _ [6, 7, 8, 9, 10, 11, 12, 13, 14, 15, 16, 17, 18, 19, 20, 21, 22, 23, 24, 25, 26, 27, 28, 29, 30, 31, 32, 33, 34, 35, 36, 37, 38, 39, 40, 41, 42, 43, 44, 45, 46, 47, 48, 49, 50, 51, 52, 53, 54, 55, 56, 57, 58, 59, 60, 61, 62, 63, 64, 65, 66, 67, 68, 69, 70, 71, 141, 142, 143, 144, 145, 146, 147, 148, 149, 150, 151, 152, 153, 154, 155, 156, 157] (by decide +kernel) (by decide +kernel)
set_option maxRecDepth 20000 in
theorem gX5_placeOfText_X5_fault : GoodIn wsX5_placeOfText (wsV RX5 86 RX5 yX5_fault wsX5_fault) := goodIn_app (goodIn_of _ (by decide +kernel)) ggX5_placeOfText_X5_fault
set_option maxRecDepth 20000 in
theorem ggX5_placeOfText_X5_packedText : GoodIn wsX5_placeOfText wsX5_packedText := goodIn_r _ [75, 8, 9, 76, 77, 78, 79, 141, 142, 143, 144, 145, 146] (by decide +kernel) (by decide +kernel)
set_option maxRecDepth 20000 in
theorem gX5_placeOfText_X5_packedText : GoodIn wsX5_placeOfText (wsV RX5 90 RX5 yX5_packedText wsX5_packedText) := goodIn_app (goodIn_of _ (by decide +kernel)) ggX5_placeOfText_X5_packedText
set_option maxRecDepth 20000 in
theorem ggX5_placeOfText_X5_meant : GoodIn wsX5_placeOfText wsX5_meant := goodIn_r _ [83, 7, 10, 11, 12, 13, 14, 15, 16, 17, 18, 19, 20, 21, 22, 23, 24, 25, 84, 85, 86, 87, 88, 89, 78, 90, 91, 92, 93, 94, 27, 28, 29, 30, 31, 32, 33, 34, 35, 36, 37, 38, 39, 40, 41, 42, 43, 44, 45, 46, 47, 48, 49, 50, 51, 52, 53, 54, 55, 56, 57, 58, 59, 60, 61, 62, 63, 64, 65, 66, 67, 95, 69, 70, 71, 96, 97, 98, 99, 141, 142, 143, 144, 145, 146, 147, 148, 149, 150, 151, 152, 153, 154, 155, 156, 157] (by decide +kernel) (by decide +kernel)
set_option maxRecDepth 20000 in
theorem gX5_placeOfText_X5_meant : GoodIn wsX5_placeOfText (wsV RX5 94 RX5 yX5_meant wsX5_meant) := goodIn_app (goodIn_of _ (by decide +kernel)) ggX5_placeOfText_X5_meant
set_option maxRecDepth 20000 in
theorem ggX5_placeOfText_X4_find : GoodIn wsX5_placeOfText wsX4_find := goodIn_r _ [104, 105, 106, 107, 108, 109, 110, 111, 112, 113, 114, 115, 103, 116, 117, 118, 119, 120, 77, 78, 79, 121, 122, 123, 124, 125, 126, 127, 128, 129, 130, 131, 132, 133, 134, 135, 136, 158, 159] (by decide +kernel) (by decide +kernel)
set_option maxRecDepth 20000 in
theorem gX5_placeOfText_X4_find : GoodIn wsX5_placeOfText (wsV RX5 70 RX4 yX4_find wsX4_find) := goodIn_app (goodIn_of _ (by decide +kernel)) ggX5_placeOfText_X4_find
set_option maxRecDepth 20000 in
theorem ggX5_placeOfText_X4_placeOf : GoodIn wsX5_placeOfText wsX4_placeOf := goodIn_r _ [140, 105, 125, 158, 159] (by decide +kernel) (by decide +kernel)
set_option maxRecDepth 20000 in
theorem gX5_placeOfText_X4_placeOf : GoodIn wsX5_placeOfText (wsV RX5 125 RX4 yX4_placeOf wsX4_placeOf) := goodIn_app (goodIn_of _ (by decide +kernel)) ggX5_placeOfText_X4_placeOf
theorem dX5_placeOfText_0 : decode cX5_placeOfText 0 = .ok (.aload_n 0, 1) := by decide +kernel
theorem dX5_placeOfText_1 : decode cX5_placeOfText 1 = .ok (.invokevirtual 86, 3) := by decide +kernel
theorem dX5_placeOfText_4 : decode cX5_placeOfText 4 = .ok (.bipush (-5), 2) := by decide +kernel
theorem dX5_placeOfText_6 : decode cX5_placeOfText 6 = .ok (.if_icmp .eq 6, 3) := by decide +kernel
theorem dX5_placeOfText_9 : decode cX5_placeOfText 9 = .ok (.bipush (-3), 2) := by decide +kernel
theorem dX5_placeOfText_11 : decode cX5_placeOfText 11 = .ok (.ireturn, 1) := by decide +kernel
theorem dX5_placeOfText_12 : decode cX5_placeOfText 12 = .ok (.aload_n 0, 1) := by decide +kernel
theorem dX5_placeOfText_13 : decode cX5_placeOfText 13 = .ok (.invokevirtual 90, 3) := by decide +kernel
theorem dX5_placeOfText_16 : decode cX5_placeOfText 16 = .ok (.lstore_n 1, 1) := by decide +kernel
theorem dX5_placeOfText_17 : decode cX5_placeOfText 17 = .ok (.aload_n 0, 1) := by decide +kernel
theorem dX5_placeOfText_18 : decode cX5_placeOfText 18 = .ok (.getfield 34, 3) := by decide +kernel
theorem dX5_placeOfText_21 : decode cX5_placeOfText 21 = .ok (.aload_n 0, 1) := by decide +kernel
theorem dX5_placeOfText_22 : decode cX5_placeOfText 22 = .ok (.lload_n 1, 1) := by decide +kernel
theorem dX5_placeOfText_23 : decode cX5_placeOfText 23 = .ok (.invokevirtual 94, 3) := by decide +kernel
theorem dX5_placeOfText_26 : decode cX5_placeOfText 26 = .ok (.invokevirtual 70, 3) := by decide +kernel
theorem dX5_placeOfText_29 : decode cX5_placeOfText 29 = .ok (.aload_n 0, 1) := by decide +kernel
theorem dX5_placeOfText_30 : decode cX5_placeOfText 30 = .ok (.getfield 34, 3) := by decide +kernel
theorem dX5_placeOfText_33 : decode cX5_placeOfText 33 = .ok (.lload_n 1, 1) := by decide +kernel
theorem dX5_placeOfText_34 : decode cX5_placeOfText 34 = .ok (.invokevirtual 125, 3) := by decide +kernel
theorem dX5_placeOfText_37 : decode cX5_placeOfText 37 = .ok (.ireturn, 1) := by decide +kernel
set_option maxRecDepth 20000 in
theorem ggX5_hearer_X5_isHearer : GoodIn wsX5_hearer wsX5_isHearer := goodIn_r _ [6] (by decide +kernel) (by decide +kernel)
set_option maxRecDepth 20000 in
theorem gX5_hearer_X5_isHearer : GoodIn wsX5_hearer (va_wsS RX5 49 yX5_isHearer wsX5_isHearer) := goodIn_app (goodIn_of _ (by decide +kernel)) ggX5_hearer_X5_isHearer
theorem dX5_hearer_0 : decode cX5_hearer 0 = .ok (.iload_n 1, 1) := by decide +kernel
theorem dX5_hearer_1 : decode cX5_hearer 1 = .ok (.invokestatic 49, 3) := by decide +kernel
theorem dX5_hearer_4 : decode cX5_hearer 4 = .ok (.ifCond .ne 5, 3) := by decide +kernel
theorem dX5_hearer_7 : decode cX5_hearer 7 = .ok (.iconst (-1), 1) := by decide +kernel
theorem dX5_hearer_8 : decode cX5_hearer 8 = .ok (.ireturn, 1) := by decide +kernel
theorem dX5_hearer_9 : decode cX5_hearer 9 = .ok (.iload_n 2, 1) := by decide +kernel
theorem dX5_hearer_10 : decode cX5_hearer 10 = .ok (.ifCond .lt 9, 3) := by decide +kernel
theorem dX5_hearer_13 : decode cX5_hearer 13 = .ok (.iload_n 2, 1) := by decide +kernel
theorem dX5_hearer_14 : decode cX5_hearer 14 = .ok (.bipush 9, 2) := by decide +kernel
theorem dX5_hearer_16 : decode cX5_hearer 16 = .ok (.if_icmp .lt 6, 3) := by decide +kernel
theorem dX5_hearer_19 : decode cX5_hearer 19 = .ok (.bipush (-2), 2) := by decide +kernel
theorem dX5_hearer_21 : decode cX5_hearer 21 = .ok (.ireturn, 1) := by decide +kernel
theorem dX5_hearer_22 : decode cX5_hearer 22 = .ok (.aload_n 0, 1) := by decide +kernel
theorem dX5_hearer_23 : decode cX5_hearer 23 = .ok (.getfield 10, 3) := by decide +kernel
theorem dX5_hearer_26 : decode cX5_hearer 26 = .ok (.getfield 57, 3) := by decide +kernel
theorem dX5_hearer_29 : decode cX5_hearer 29 = .ok (.iload_n 1, 1) := by decide +kernel
theorem dX5_hearer_30 : decode cX5_hearer 30 = .ok (.aaload, 1) := by decide +kernel
theorem dX5_hearer_31 : decode cX5_hearer 31 = .ok (.iload_n 2, 1) := by decide +kernel
theorem dX5_hearer_32 : decode cX5_hearer 32 = .ok (.iaload, 1) := by decide +kernel
theorem dX5_hearer_33 : decode cX5_hearer 33 = .ok (.ireturn, 1) := by decide +kernel
set_option maxRecDepth 20000 in
theorem ggX5_understood_X5_isHearer : GoodIn wsX5_understood wsX5_isHearer := goodIn_r _ [6] (by decide +kernel) (by decide +kernel)
set_option maxRecDepth 20000 in
theorem gX5_understood_X5_isHearer : GoodIn wsX5_understood (va_wsS RX5 49 yX5_isHearer wsX5_isHearer) := goodIn_app (goodIn_of _ (by decide +kernel)) ggX5_understood_X5_isHearer
set_option maxRecDepth 20000 in
theorem ggX5_understood_X5_isNumber : GoodIn wsX5_understood wsX5_isNumber := goodIn_r _ [9] (by decide +kernel) (by decide +kernel)
set_option maxRecDepth 20000 in
theorem gX5_understood_X5_isNumber : GoodIn wsX5_understood (va_wsS RX5 67 yX5_isNumber wsX5_isNumber) := goodIn_app (goodIn_of _ (by decide +kernel)) ggX5_understood_X5_isNumber
set_option maxRecDepth 20000 in
theorem ggX5_understood_X4_find : GoodIn wsX5_understood wsX4_find := goodIn_r _ [14, 15, 16, 17, 18, 19, 20, 21, 22, 23, 24, 25, 13, 26, 27, 28, 29, 30, 31, 32, 33, 34, 35, 36, 37, 38, 39, 40, 41, 42, 43, 44, 45, 46, 47, 48, 49, 146, 147] (by decide +kernel) (by decide +kernel)
set_option maxRecDepth 20000 in
theorem gX5_understood_X4_find : GoodIn wsX5_understood (wsV RX5 70 RX4 yX4_find wsX4_find) := goodIn_app (goodIn_of _ (by decide +kernel)) ggX5_understood_X4_find
set_option maxRecDepth 20000 in
theorem ggX5_understood_X4_at : GoodIn wsX5_understood wsX4_at := goodIn_r _ [53, 38, 146, 147] (by decide +kernel) (by decide +kernel)
set_option maxRecDepth 20000 in
theorem gX5_understood_X4_at : GoodIn wsX5_understood (wsV RX5 78 RX4 yX4_at wsX4_at) := goodIn_app (goodIn_of _ (by decide +kernel)) ggX5_understood_X4_at
set_option maxRecDepth 20000 in
theorem ggX5_understood_X5_heard : GoodIn wsX5_understood wsX5_heard := goodIn_r _ [57, 58, 59, 60, 61, 62, 63, 64, 65, 66, 67, 68, 69, 70, 71, 72, 73, 74, 75, 76, 77, 78, 79, 80, 81, 82, 32, 83, 84, 85, 86, 87, 88, 89, 90, 91, 92, 93, 94, 95, 96, 97, 98, 99, 100, 101, 102, 103, 104, 105, 106, 107, 108, 109, 110, 111, 112, 113, 114, 115, 116, 117, 118, 119, 120, 121, 122, 123, 124, 125, 126, 127, 128, 129, 130, 131, 132, 133, 134, 135, 136, 140, 141, 142, 143, 144, 145, 148, 149, 150, 151, 152, 153, 154, 155, 156, 157, 158, 159, 160, 161, 162, 163] (by decide +kernel) (by decide +kernel)
set_option maxRecDepth 20000 in
theorem gX5_understood_X5_heard : GoodIn wsX5_understood (wsV RX5 128 RX5 yX5_heard wsX5_heard) := goodIn_app (goodIn_of _ (by decide +kernel)) ggX5_understood_X5_heard
set_option maxRecDepth 20000 in
theorem ggX5_understood_X5_orNone : GoodIn wsX5_understood wsX5_orNone := goodIn_r _ [139] (by decide +kernel) (by decide +kernel)
set_option maxRecDepth 20000 in
theorem gX5_understood_X5_orNone : GoodIn wsX5_understood (va_wsS RX5 132 yX5_orNone wsX5_orNone) := goodIn_app (goodIn_of _ (by decide +kernel)) ggX5_understood_X5_orNone
theorem dX5_understood_0 : decode cX5_understood 0 = .ok (.iload_n 1, 1) := by decide +kernel
theorem dX5_understood_1 : decode cX5_understood 1 = .ok (.invokestatic 49, 3) := by decide +kernel
theorem dX5_understood_4 : decode cX5_understood 4 = .ok (.ifCond .ne 5, 3) := by decide +kernel
theorem dX5_understood_7 : decode cX5_understood 7 = .ok (.iconst (-1), 1) := by decide +kernel
theorem dX5_understood_8 : decode cX5_understood 8 = .ok (.ireturn, 1) := by decide +kernel
theorem dX5_understood_9 : decode cX5_understood 9 = .ok (.iload_n 2, 1) := by decide +kernel
theorem dX5_understood_10 : decode cX5_understood 10 = .ok (.invokestatic 67, 3) := by decide +kernel
theorem dX5_understood_13 : decode cX5_understood 13 = .ok (.ifCond .eq 7, 3) := by decide +kernel
theorem dX5_understood_16 : decode cX5_understood 16 = .ok (.iload_n 3, 1) := by decide +kernel
theorem dX5_understood_17 : decode cX5_understood 17 = .ok (.ifCond .ge 6, 3) := by decide +kernel
theorem dX5_understood_20 : decode cX5_understood 20 = .ok (.bipush (-2), 2) := by decide +kernel
theorem dX5_understood_22 : decode cX5_understood 22 = .ok (.ireturn, 1) := by decide +kernel
theorem dX5_understood_23 : decode cX5_understood 23 = .ok (.aload_n 0, 1) := by decide +kernel
theorem dX5_understood_24 : decode cX5_understood 24 = .ok (.getfield 34, 3) := by decide +kernel
theorem dX5_understood_27 : decode cX5_understood 27 = .ok (.iload_n 2, 1) := by decide +kernel
theorem dX5_understood_28 : decode cX5_understood 28 = .ok (.invokevirtual 70, 3) := by decide +kernel
theorem dX5_understood_31 : decode cX5_understood 31 = .ok (.iload_n 3, 1) := by decide +kernel
theorem dX5_understood_32 : decode cX5_understood 32 = .ok (.aload_n 0, 1) := by decide +kernel
theorem dX5_understood_33 : decode cX5_understood 33 = .ok (.getfield 34, 3) := by decide +kernel
theorem dX5_understood_36 : decode cX5_understood 36 = .ok (.getfield 113, 3) := by decide +kernel
theorem dX5_understood_39 : decode cX5_understood 39 = .ok (.if_icmp .lt 6, 3) := by decide +kernel
theorem dX5_understood_42 : decode cX5_understood 42 = .ok (.bipush (-5), 2) := by decide +kernel
theorem dX5_understood_44 : decode cX5_understood 44 = .ok (.ireturn, 1) := by decide +kernel
theorem dX5_understood_45 : decode cX5_understood 45 = .ok (.aload_n 0, 1) := by decide +kernel
theorem dX5_understood_46 : decode cX5_understood 46 = .ok (.iload_n 1, 1) := by decide +kernel
theorem dX5_understood_47 : decode cX5_understood 47 = .ok (.aload_n 0, 1) := by decide +kernel
theorem dX5_understood_48 : decode cX5_understood 48 = .ok (.getfield 34, 3) := by decide +kernel
theorem dX5_understood_51 : decode cX5_understood 51 = .ok (.iload_n 3, 1) := by decide +kernel
theorem dX5_understood_52 : decode cX5_understood 52 = .ok (.invokevirtual 78, 3) := by decide +kernel
theorem dX5_understood_55 : decode cX5_understood 55 = .ok (.invokevirtual 128, 3) := by decide +kernel
theorem dX5_understood_58 : decode cX5_understood 58 = .ok (.invokestatic 132, 3) := by decide +kernel
theorem dX5_understood_61 : decode cX5_understood 61 = .ok (.ireturn, 1) := by decide +kernel
set_option maxRecDepth 20000 in
theorem ggX5_understoodText_X5_isHearer : GoodIn wsX5_understoodText wsX5_isHearer := goodIn_r _ [4] (by decide +kernel) (by decide +kernel)
set_option maxRecDepth 20000 in
theorem gX5_understoodText_X5_isHearer : GoodIn wsX5_understoodText (va_wsS RX5 49 yX5_isHearer wsX5_isHearer) := goodIn_app (goodIn_of _ (by decide +kernel)) ggX5_understoodText_X5_isHearer
set_option maxRecDepth 20000 in
theorem ggX5_understoodText_X5_fault : GoodIn wsX5_understoodText wsX5_fault := goodIn_r _ [8, 9, 10, 11, 12, 13, 14, 15, 16, 17, 18, 19, 20, 21, 22, 23, 24, 25, 26, 27, 28, 29, 30, 31, 32, 33, 34, 35, 36, 37, 38, 39, 40, 41, 42, 43, 44, 45, 46, 47, 48, 49, 50, 51, 52, 53, 54, 55, 56, 57, 58, 59, 60, 61, 62, 63, 64, 65, 66, 67, 68, 69, 70, 71, 72, 73, 107, 108, 109, 110, 111, 112, 113, 114, 115, 116, 117, 118, 119, 120, 121, 122, 123] (by decide +kernel) (by decide +kernel)
set_option maxRecDepth 20000 in
theorem gX5_understoodText_X5_fault : GoodIn wsX5_understoodText (wsV RX5 86 RX5 yX5_fault wsX5_fault) := goodIn_app (goodIn_of _ (by decide +kernel)) ggX5_understoodText_X5_fault
set_option maxRecDepth 20000 in
theorem ggX5_understoodText_X5_packedText : GoodIn wsX5_understoodText wsX5_packedText := goodIn_r _ [77, 10, 11, 78, 79, 80, 81, 107, 108, 109, 110, 111, 112] (by decide +kernel) (by decide +kernel)
set_option maxRecDepth 20000 in
theorem gX5_understoodText_X5_packedText : GoodIn wsX5_understoodText (wsV RX5 90 RX5 yX5_packedText wsX5_packedText) := goodIn_app (goodIn_of _ (by decide +kernel)) ggX5_understoodText_X5_packedText
set_option maxRecDepth 20000 in
theorem ggX5_understoodText_X5_heard : GoodIn wsX5_understoodText wsX5_heard := goodIn_r _ [85, 86, 87, 9, 12, 13, 14, 15, 16, 17, 18, 19, 20, 21, 22, 23, 24, 25, 26, 27, 88, 89, 90, 91, 92, 93, 80, 94, 95, 96, 97, 98, 29, 30, 31, 32, 33, 34, 35, 36, 37, 38, 39, 40, 41, 42, 43, 44, 45, 46, 47, 48, 49, 50, 51, 52, 53, 54, 55, 56, 57, 58, 59, 60, 61, 62, 63, 64, 65, 66, 67, 68, 69, 99, 71, 72, 73, 100, 101, 102, 103, 107, 108, 109, 110, 111, 112, 124, 125, 126, 127, 128, 113, 114, 115, 116, 117, 118, 119, 120, 121, 122, 123] (by decide +kernel) (by decide +kernel)
set_option maxRecDepth 20000 in
theorem gX5_understoodText_X5_heard : GoodIn wsX5_understoodText (wsV RX5 128 RX5 yX5_heard wsX5_heard) := goodIn_app (goodIn_of _ (by decide +kernel)) ggX5_understoodText_X5_heard
set_option maxRecDepth 20000 in
theorem ggX5_understoodText_X5_orNone : GoodIn wsX5_understoodText wsX5_orNone := goodIn_r _ [106] (by decide +kernel) (by decide +kernel)
set_option maxRecDepth 20000 in
theorem gX5_understoodText_X5_orNone : GoodIn wsX5_understoodText (va_wsS RX5 132 yX5_orNone wsX5_orNone) := goodIn_app (goodIn_of _ (by decide +kernel)) ggX5_understoodText_X5_orNone
theorem dX5_understoodText_0 : decode cX5_understoodText 0 = .ok (.iload_n 1, 1) := by decide +kernel
theorem dX5_understoodText_1 : decode cX5_understoodText 1 = .ok (.invokestatic 49, 3) := by decide +kernel
theorem dX5_understoodText_4 : decode cX5_understoodText 4 = .ok (.ifCond .ne 5, 3) := by decide +kernel
theorem dX5_understoodText_7 : decode cX5_understoodText 7 = .ok (.iconst (-1), 1) := by decide +kernel
theorem dX5_understoodText_8 : decode cX5_understoodText 8 = .ok (.ireturn, 1) := by decide +kernel
theorem dX5_understoodText_9 : decode cX5_understoodText 9 = .ok (.aload_n 0, 1) := by decide +kernel
theorem dX5_understoodText_10 : decode cX5_understoodText 10 = .ok (.invokevirtual 86, 3) := by decide +kernel
theorem dX5_understoodText_13 : decode cX5_understoodText 13 = .ok (.bipush (-5), 2) := by decide +kernel
theorem dX5_understoodText_15 : decode cX5_understoodText 15 = .ok (.if_icmp .eq 6, 3) := by decide +kernel
theorem dX5_understoodText_18 : decode cX5_understoodText 18 = .ok (.bipush (-3), 2) := by decide +kernel
theorem dX5_understoodText_20 : decode cX5_understoodText 20 = .ok (.ireturn, 1) := by decide +kernel
theorem dX5_understoodText_21 : decode cX5_understoodText 21 = .ok (.aload_n 0, 1) := by decide +kernel
theorem dX5_understoodText_22 : decode cX5_understoodText 22 = .ok (.iload_n 1, 1) := by decide +kernel
theorem dX5_understoodText_23 : decode cX5_understoodText 23 = .ok (.aload_n 0, 1) := by decide +kernel
theorem dX5_understoodText_24 : decode cX5_understoodText 24 = .ok (.invokevirtual 90, 3) := by decide +kernel
theorem dX5_understoodText_27 : decode cX5_understoodText 27 = .ok (.invokevirtual 128, 3) := by decide +kernel
theorem dX5_understoodText_30 : decode cX5_understoodText 30 = .ok (.invokestatic 132, 3) := by decide +kernel
theorem dX5_understoodText_33 : decode cX5_understoodText 33 = .ok (.ireturn, 1) := by decide +kernel
set_option maxRecDepth 20000 in
theorem ggX5_bestWay_X5_isHearer : GoodIn wsX5_bestWay wsX5_isHearer := goodIn_r _ [4] (by decide +kernel) (by decide +kernel)
set_option maxRecDepth 20000 in
theorem gX5_bestWay_X5_isHearer : GoodIn wsX5_bestWay (va_wsS RX5 49 yX5_isHearer wsX5_isHearer) := goodIn_app (goodIn_of _ (by decide +kernel)) ggX5_bestWay_X5_isHearer
set_option maxRecDepth 20000 in
theorem ggX5_bestWay_X5_isNumber : GoodIn wsX5_bestWay wsX5_isNumber := goodIn_r _ [7] (by decide +kernel) (by decide +kernel)
set_option maxRecDepth 20000 in
theorem gX5_bestWay_X5_isNumber : GoodIn wsX5_bestWay (va_wsS RX5 67 yX5_isNumber wsX5_isNumber) := goodIn_app (goodIn_of _ (by decide +kernel)) ggX5_bestWay_X5_isNumber
set_option maxRecDepth 20000 in
theorem ggX5_bestWay_X5_firstUnderstood : GoodIn wsX5_bestWay wsX5_firstUnderstood := goodIn_r _ [11, 12, 13, 14, 15, 16, 17, 18, 19, 20, 21, 22, 23, 24, 25, 26, 27, 28, 29, 30, 31, 32, 33, 34, 35, 36, 37, 38, 39, 40, 41, 42, 43, 44, 45, 46, 47, 48, 49, 50, 51, 52, 53, 54, 55, 56, 57, 58, 59, 60, 3, 61, 62, 63, 64, 65, 66, 67, 68, 69, 70, 71, 72, 73, 74, 75, 76, 77, 78, 79, 80, 81, 82, 83, 84, 85, 86, 87, 88, 89, 90, 91, 92, 93, 94, 95, 96, 97, 98, 99, 100, 101, 102, 103, 104, 105, 106, 107, 108, 109, 110, 111, 112, 113, 114, 115, 116, 117, 118, 119, 120, 121, 122, 123, 124, 125, 126, 127, 128, 129, 130, 131, 132, 133, 134, 135, 136, 137, 138, 139, 140, 141, 142, 143, 144, 145, 146, 147, 148, 149, 150, 151, 152, 153, 154, 155, 156, 157, 158, 159, 160, 161, 162, 163, 164] (by decide +kernel) (by decide +kernel)
set_option maxRecDepth 20000 in
theorem gX5_bestWay_X5_firstUnderstood : GoodIn wsX5_bestWay (wsV RX5 135 RX5 yX5_firstUnderstood wsX5_firstUnderstood) := goodIn_app (goodIn_of _ (by decide +kernel)) ggX5_bestWay_X5_firstUnderstood
theorem dX5_bestWay_0 : decode cX5_bestWay 0 = .ok (.iload_n 1, 1) := by decide +kernel
theorem dX5_bestWay_1 : decode cX5_bestWay 1 = .ok (.invokestatic 49, 3) := by decide +kernel
theorem dX5_bestWay_4 : decode cX5_bestWay 4 = .ok (.ifCond .ne 5, 3) := by decide +kernel
theorem dX5_bestWay_7 : decode cX5_bestWay 7 = .ok (.iconst (-1), 1) := by decide +kernel
theorem dX5_bestWay_8 : decode cX5_bestWay 8 = .ok (.ireturn, 1) := by decide +kernel
theorem dX5_bestWay_9 : decode cX5_bestWay 9 = .ok (.iload_n 2, 1) := by decide +kernel
theorem dX5_bestWay_10 : decode cX5_bestWay 10 = .ok (.invokestatic 67, 3) := by decide +kernel
theorem dX5_bestWay_13 : decode cX5_bestWay 13 = .ok (.ifCond .ne 6, 3) := by decide +kernel
theorem dX5_bestWay_16 : decode cX5_bestWay 16 = .ok (.bipush (-2), 2) := by decide +kernel
theorem dX5_bestWay_18 : decode cX5_bestWay 18 = .ok (.ireturn, 1) := by decide +kernel
theorem dX5_bestWay_19 : decode cX5_bestWay 19 = .ok (.aload_n 0, 1) := by decide +kernel
theorem dX5_bestWay_20 : decode cX5_bestWay 20 = .ok (.iload_n 1, 1) := by decide +kernel
theorem dX5_bestWay_21 : decode cX5_bestWay 21 = .ok (.iload_n 2, 1) := by decide +kernel
theorem dX5_bestWay_22 : decode cX5_bestWay 22 = .ok (.invokevirtual 135, 3) := by decide +kernel
theorem dX5_bestWay_25 : decode cX5_bestWay 25 = .ok (.ireturn, 1) := by decide +kernel
set_option maxRecDepth 20000 in
theorem ggX5_commonWay_X5_isNumber : GoodIn wsX5_commonWay wsX5_isNumber := goodIn_r _ [6] (by decide +kernel) (by decide +kernel)
set_option maxRecDepth 20000 in
theorem gX5_commonWay_X5_isNumber : GoodIn wsX5_commonWay (va_wsS RX5 67 yX5_isNumber wsX5_isNumber) := goodIn_app (goodIn_of _ (by decide +kernel)) ggX5_commonWay_X5_isNumber
set_option maxRecDepth 20000 in
theorem ggX5_commonWay_X4_find : GoodIn wsX5_commonWay wsX4_find := goodIn_r _ [11, 12, 13, 14, 15, 16, 17, 18, 19, 20, 21, 22, 10, 23, 24, 25, 26, 27, 28, 29, 30, 31, 32, 33, 34, 35, 36, 37, 38, 39, 40, 41, 42, 43, 44, 45, 46, 144, 145] (by decide +kernel) (by decide +kernel)
set_option maxRecDepth 20000 in
theorem gX5_commonWay_X4_find : GoodIn wsX5_commonWay (wsV RX5 70 RX4 yX4_find wsX4_find) := goodIn_app (goodIn_of _ (by decide +kernel)) ggX5_commonWay_X4_find
set_option maxRecDepth 20000 in
theorem ggX5_commonWay_X4_at : GoodIn wsX5_commonWay wsX4_at := goodIn_r _ [50, 35, 144, 145] (by decide +kernel) (by decide +kernel)
set_option maxRecDepth 20000 in
theorem gX5_commonWay_X4_at : GoodIn wsX5_commonWay (wsV RX5 78 RX4 yX4_at wsX4_at) := goodIn_app (goodIn_of _ (by decide +kernel)) ggX5_commonWay_X4_at
set_option maxRecDepth 20000 in
theorem ggX5_commonWay_X5_reached : GoodIn wsX5_commonWay wsX5_reached := goodIn_r _ [54, 55, 56, 57, 5, 58, 59, 60, 61, 62, 63, 64, 65, 66, 67, 68, 69, 70, 71, 72, 73, 74, 75, 76, 77, 78, 79, 80, 81, 82, 83, 29, 84, 85, 86, 87, 88, 89, 90, 91, 92, 93, 94, 95, 96, 97, 98, 99, 100, 101, 102, 103, 104, 105, 106, 107, 108, 109, 110, 111, 112, 113, 114, 115, 116, 117, 118, 119, 120, 121, 122, 123, 124, 125, 126, 127, 128, 129, 130, 131, 132, 133, 134, 135, 136, 137, 138, 139, 140, 141, 142, 143, 146, 147, 148, 149, 150, 151, 152, 153, 154, 155, 156, 157, 158, 159, 160, 161] (by decide +kernel) (by decide +kernel)
set_option maxRecDepth 20000 in
theorem gX5_commonWay_X5_reached : GoodIn wsX5_commonWay (wsV RX5 139 RX5 yX5_reached wsX5_reached) := goodIn_app (goodIn_of _ (by decide +kernel)) ggX5_commonWay_X5_reached
theorem dX5_commonWay_0 : decode cX5_commonWay 0 = .ok (.iload_n 1, 1) := by decide +kernel
theorem dX5_commonWay_1 : decode cX5_commonWay 1 = .ok (.invokestatic 67, 3) := by decide +kernel
theorem dX5_commonWay_4 : decode cX5_commonWay 4 = .ok (.ifCond .ne 6, 3) := by decide +kernel
theorem dX5_commonWay_7 : decode cX5_commonWay 7 = .ok (.bipush (-2), 2) := by decide +kernel
theorem dX5_commonWay_9 : decode cX5_commonWay 9 = .ok (.ireturn, 1) := by decide +kernel
theorem dX5_commonWay_10 : decode cX5_commonWay 10 = .ok (.aload_n 0, 1) := by decide +kernel
theorem dX5_commonWay_11 : decode cX5_commonWay 11 = .ok (.getfield 34, 3) := by decide +kernel
theorem dX5_commonWay_14 : decode cX5_commonWay 14 = .ok (.iload_n 1, 1) := by decide +kernel
theorem dX5_commonWay_15 : decode cX5_commonWay 15 = .ok (.invokevirtual 70, 3) := by decide +kernel
theorem dX5_commonWay_18 : decode cX5_commonWay 18 = .ok (.iconst 0, 1) := by decide +kernel
theorem dX5_commonWay_19 : decode cX5_commonWay 19 = .ok (.istore_n 2, 1) := by decide +kernel
theorem dX5_commonWay_20 : decode cX5_commonWay 20 = .ok (.iconst 0, 1) := by decide +kernel
theorem dX5_commonWay_21 : decode cX5_commonWay 21 = .ok (.istore_n 3, 1) := by decide +kernel
theorem dX5_commonWay_22 : decode cX5_commonWay 22 = .ok (.iconst 0, 1) := by decide +kernel
theorem dX5_commonWay_23 : decode cX5_commonWay 23 = .ok (.istore 4, 2) := by decide +kernel
theorem dX5_commonWay_25 : decode cX5_commonWay 25 = .ok (.iload 4, 2) := by decide +kernel
theorem dX5_commonWay_27 : decode cX5_commonWay 27 = .ok (.aload_n 0, 1) := by decide +kernel
theorem dX5_commonWay_28 : decode cX5_commonWay 28 = .ok (.getfield 34, 3) := by decide +kernel
theorem dX5_commonWay_31 : decode cX5_commonWay 31 = .ok (.getfield 113, 3) := by decide +kernel
theorem dX5_commonWay_34 : decode cX5_commonWay 34 = .ok (.if_icmp .ge 37, 3) := by decide +kernel
theorem dX5_commonWay_37 : decode cX5_commonWay 37 = .ok (.aload_n 0, 1) := by decide +kernel
theorem dX5_commonWay_38 : decode cX5_commonWay 38 = .ok (.iload_n 1, 1) := by decide +kernel
theorem dX5_commonWay_39 : decode cX5_commonWay 39 = .ok (.aload_n 0, 1) := by decide +kernel
theorem dX5_commonWay_40 : decode cX5_commonWay 40 = .ok (.getfield 34, 3) := by decide +kernel
theorem dX5_commonWay_43 : decode cX5_commonWay 43 = .ok (.iload 4, 2) := by decide +kernel
theorem dX5_commonWay_45 : decode cX5_commonWay 45 = .ok (.invokevirtual 78, 3) := by decide +kernel
theorem dX5_commonWay_48 : decode cX5_commonWay 48 = .ok (.invokevirtual 139, 3) := by decide +kernel
theorem dX5_commonWay_51 : decode cX5_commonWay 51 = .ok (.istore 5, 2) := by decide +kernel
theorem dX5_commonWay_53 : decode cX5_commonWay 53 = .ok (.iload 5, 2) := by decide +kernel
theorem dX5_commonWay_55 : decode cX5_commonWay 55 = .ok (.iload_n 3, 1) := by decide +kernel
theorem dX5_commonWay_56 : decode cX5_commonWay 56 = .ok (.if_icmp .le 9, 3) := by decide +kernel
theorem dX5_commonWay_59 : decode cX5_commonWay 59 = .ok (.iload 5, 2) := by decide +kernel
theorem dX5_commonWay_61 : decode cX5_commonWay 61 = .ok (.istore_n 3, 1) := by decide +kernel
theorem dX5_commonWay_62 : decode cX5_commonWay 62 = .ok (.iload 4, 2) := by decide +kernel
theorem dX5_commonWay_64 : decode cX5_commonWay 64 = .ok (.istore_n 2, 1) := by decide +kernel
theorem dX5_commonWay_65 : decode cX5_commonWay 65 = .ok (.iinc 4 1, 3) := by decide +kernel
theorem dX5_commonWay_68 : decode cX5_commonWay 68 = .ok (.goto (-43), 3) := by decide +kernel
theorem dX5_commonWay_71 : decode cX5_commonWay 71 = .ok (.iload_n 2, 1) := by decide +kernel
theorem dX5_commonWay_72 : decode cX5_commonWay 72 = .ok (.ireturn, 1) := by decide +kernel
set_option maxRecDepth 20000 in
theorem ggX5_reach_X5_isStyle : GoodIn wsX5_reach wsX5_isStyle := goodIn_r _ [5] (by decide +kernel) (by decide +kernel)
set_option maxRecDepth 20000 in
theorem gX5_reach_X5_isStyle : GoodIn wsX5_reach (va_wsS RX5 64 yX5_isStyle wsX5_isStyle) := goodIn_app (goodIn_of _ (by decide +kernel)) ggX5_reach_X5_isStyle
set_option maxRecDepth 20000 in
theorem ggX5_reach_X5_isNumber : GoodIn wsX5_reach wsX5_isNumber := goodIn_r _ [8] (by decide +kernel) (by decide +kernel)
set_option maxRecDepth 20000 in
theorem gX5_reach_X5_isNumber : GoodIn wsX5_reach (va_wsS RX5 67 yX5_isNumber wsX5_isNumber) := goodIn_app (goodIn_of _ (by decide +kernel)) ggX5_reach_X5_isNumber
set_option maxRecDepth 20000 in
theorem ggX5_reach_X4_find : GoodIn wsX5_reach wsX4_find := goodIn_r _ [13, 14, 15, 16, 17, 18, 19, 20, 21, 22, 23, 24, 12, 25, 26, 27, 28, 29, 30, 31, 32, 33, 34, 35, 36, 37, 38, 39, 40, 41, 42, 43, 44, 45, 46, 47, 48, 158, 159] (by decide +kernel) (by decide +kernel)
set_option maxRecDepth 20000 in
theorem gX5_reach_X4_find : GoodIn wsX5_reach (wsV RX5 70 RX4 yX4_find wsX4_find) := goodIn_app (goodIn_of _ (by decide +kernel)) ggX5_reach_X4_find
set_option maxRecDepth 20000 in
theorem ggX5_reach_X4_placeOfStyle : GoodIn wsX5_reach wsX4_placeOfStyle := goodIn_r _ [52, 14, 53, 54, 55, 12, 56, 37, 57, 58, 59, 60, 61, 31, 62, 63, 64, 65, 158, 159] (by decide +kernel) (by decide +kernel)
set_option maxRecDepth 20000 in
theorem gX5_reach_X4_placeOfStyle : GoodIn wsX5_reach (wsV RX5 74 RX4 yX4_placeOfStyle wsX4_placeOfStyle) := goodIn_app (goodIn_of _ (by decide +kernel)) ggX5_reach_X4_placeOfStyle
set_option maxRecDepth 20000 in
theorem ggX5_reach_X4_at : GoodIn wsX5_reach wsX4_at := goodIn_r _ [56, 37, 158, 159] (by decide +kernel) (by decide +kernel)
set_option maxRecDepth 20000 in
theorem gX5_reach_X4_at : GoodIn wsX5_reach (wsV RX5 78 RX4 yX4_at wsX4_at) := goodIn_app (goodIn_of _ (by decide +kernel)) ggX5_reach_X4_at
set_option maxRecDepth 20000 in
theorem ggX5_reach_X5_reached : GoodIn wsX5_reach wsX5_reached := goodIn_r _ [70, 71, 72, 73, 4, 74, 75, 76, 77, 78, 79, 80, 81, 82, 83, 84, 85, 86, 87, 88, 89, 90, 91, 92, 93, 94, 95, 96, 97, 98, 99, 31, 100, 101, 64, 65, 102, 103, 104, 105, 106, 107, 108, 109, 110, 111, 112, 113, 114, 115, 116, 117, 118, 119, 120, 121, 122, 123, 124, 125, 126, 127, 128, 129, 130, 131, 132, 133, 134, 135, 136, 137, 138, 139, 140, 141, 142, 143, 144, 145, 146, 147, 148, 149, 150, 151, 152, 153, 154, 155, 156, 157, 160, 161, 162, 163, 164, 165, 166, 167, 168, 169, 170, 171, 172, 173, 174, 175] (by decide +kernel) (by decide +kernel)
set_option maxRecDepth 20000 in
theorem gX5_reach_X5_reached : GoodIn wsX5_reach (wsV RX5 139 RX5 yX5_reached wsX5_reached) := goodIn_app (goodIn_of _ (by decide +kernel)) ggX5_reach_X5_reached
theorem dX5_reach_0 : decode cX5_reach 0 = .ok (.iload_n 2, 1) := by decide +kernel
theorem dX5_reach_1 : decode cX5_reach 1 = .ok (.invokestatic 64, 3) := by decide +kernel
theorem dX5_reach_4 : decode cX5_reach 4 = .ok (.ifCond .ne 5, 3) := by decide +kernel
theorem dX5_reach_7 : decode cX5_reach 7 = .ok (.iconst (-1), 1) := by decide +kernel
theorem dX5_reach_8 : decode cX5_reach 8 = .ok (.ireturn, 1) := by decide +kernel
theorem dX5_reach_9 : decode cX5_reach 9 = .ok (.iload_n 1, 1) := by decide +kernel
theorem dX5_reach_10 : decode cX5_reach 10 = .ok (.invokestatic 67, 3) := by decide +kernel
theorem dX5_reach_13 : decode cX5_reach 13 = .ok (.ifCond .ne 6, 3) := by decide +kernel
theorem dX5_reach_16 : decode cX5_reach 16 = .ok (.bipush (-2), 2) := by decide +kernel
theorem dX5_reach_18 : decode cX5_reach 18 = .ok (.ireturn, 1) := by decide +kernel
theorem dX5_reach_19 : decode cX5_reach 19 = .ok (.aload_n 0, 1) := by decide +kernel
theorem dX5_reach_20 : decode cX5_reach 20 = .ok (.getfield 34, 3) := by decide +kernel
theorem dX5_reach_23 : decode cX5_reach 23 = .ok (.iload_n 1, 1) := by decide +kernel
theorem dX5_reach_24 : decode cX5_reach 24 = .ok (.invokevirtual 70, 3) := by decide +kernel
theorem dX5_reach_27 : decode cX5_reach 27 = .ok (.aload_n 0, 1) := by decide +kernel
theorem dX5_reach_28 : decode cX5_reach 28 = .ok (.iload_n 1, 1) := by decide +kernel
theorem dX5_reach_29 : decode cX5_reach 29 = .ok (.aload_n 0, 1) := by decide +kernel
theorem dX5_reach_30 : decode cX5_reach 30 = .ok (.getfield 34, 3) := by decide +kernel
theorem dX5_reach_33 : decode cX5_reach 33 = .ok (.aload_n 0, 1) := by decide +kernel
theorem dX5_reach_34 : decode cX5_reach 34 = .ok (.getfield 34, 3) := by decide +kernel
theorem dX5_reach_37 : decode cX5_reach 37 = .ok (.iload_n 2, 1) := by decide +kernel
theorem dX5_reach_38 : decode cX5_reach 38 = .ok (.invokevirtual 74, 3) := by decide +kernel
theorem dX5_reach_41 : decode cX5_reach 41 = .ok (.invokevirtual 78, 3) := by decide +kernel
theorem dX5_reach_44 : decode cX5_reach 44 = .ok (.invokevirtual 139, 3) := by decide +kernel
theorem dX5_reach_47 : decode cX5_reach 47 = .ok (.ireturn, 1) := by decide +kernel
set_option maxRecDepth 20000 in
theorem ggX5_untellable_X5_isHearer : GoodIn wsX5_untellable wsX5_isHearer := goodIn_r _ [8] (by decide +kernel) (by decide +kernel)
set_option maxRecDepth 20000 in
theorem gX5_untellable_X5_isHearer : GoodIn wsX5_untellable (va_wsS RX5 49 yX5_isHearer wsX5_isHearer) := goodIn_app (goodIn_of _ (by decide +kernel)) ggX5_untellable_X5_isHearer
set_option maxRecDepth 20000 in
theorem ggX5_untellable_X5_isNumber : GoodIn wsX5_untellable wsX5_isNumber := goodIn_r _ [11] (by decide +kernel) (by decide +kernel)
set_option maxRecDepth 20000 in
theorem gX5_untellable_X5_isNumber : GoodIn wsX5_untellable (va_wsS RX5 67 yX5_isNumber wsX5_isNumber) := goodIn_app (goodIn_of _ (by decide +kernel)) ggX5_untellable_X5_isNumber
set_option maxRecDepth 20000 in
theorem ggX5_untellable_X5_firstUnderstood : GoodIn wsX5_untellable wsX5_firstUnderstood := goodIn_r _ [15, 16, 17, 18, 19, 20, 21, 22, 23, 24, 25, 3, 26, 27, 2, 4, 28, 29, 30, 31, 32, 33, 34, 35, 36, 37, 38, 39, 40, 41, 42, 43, 44, 45, 46, 47, 48, 49, 50, 51, 52, 53, 54, 55, 56, 57, 58, 59, 60, 61, 7, 62, 63, 64, 65, 66, 67, 68, 69, 70, 71, 72, 73, 74, 75, 76, 77, 78, 79, 80, 81, 82, 83, 84, 85, 86, 87, 88, 89, 90, 91, 92, 93, 94, 95, 96, 97, 98, 99, 100, 101, 102, 103, 104, 105, 106, 107, 108, 109, 110, 111, 112, 113, 114, 115, 116, 117, 118, 119, 120, 121, 122, 123, 124, 125, 126, 127, 128, 129, 130, 131, 132, 133, 134, 135, 136, 137, 138, 139, 140, 141, 142, 143, 144, 145, 146, 147, 148, 149, 150, 151, 152, 153, 154, 155, 156, 157, 158, 159, 160, 161, 162, 163, 164, 165] (by decide +kernel) (by decide +kernel)
set_option maxRecDepth 20000 in
theorem gX5_untellable_X5_firstUnderstood : GoodIn wsX5_untellable (wsV RX5 135 RX5 yX5_firstUnderstood wsX5_firstUnderstood) := goodIn_app (goodIn_of _ (by decide +kernel)) ggX5_untellable_X5_firstUnderstood
theorem dX5_untellable_0 : decode cX5_untellable 0 = .ok (.iload_n 1, 1) := by decide +kernel
theorem dX5_untellable_1 : decode cX5_untellable 1 = .ok (.invokestatic 49, 3) := by decide +kernel
theorem dX5_untellable_4 : decode cX5_untellable 4 = .ok (.ifCond .ne 5, 3) := by decide +kernel
theorem dX5_untellable_7 : decode cX5_untellable 7 = .ok (.iconst (-1), 1) := by decide +kernel
theorem dX5_untellable_8 : decode cX5_untellable 8 = .ok (.ireturn, 1) := by decide +kernel
theorem dX5_untellable_9 : decode cX5_untellable 9 = .ok (.iload_n 2, 1) := by decide +kernel
theorem dX5_untellable_10 : decode cX5_untellable 10 = .ok (.invokestatic 67, 3) := by decide +kernel
theorem dX5_untellable_13 : decode cX5_untellable 13 = .ok (.ifCond .eq 14, 3) := by decide +kernel
theorem dX5_untellable_16 : decode cX5_untellable 16 = .ok (.iload_n 3, 1) := by decide +kernel
theorem dX5_untellable_17 : decode cX5_untellable 17 = .ok (.iconst 1, 1) := by decide +kernel
theorem dX5_untellable_18 : decode cX5_untellable 18 = .ok (.if_icmp .lt 9, 3) := by decide +kernel
theorem dX5_untellable_21 : decode cX5_untellable 21 = .ok (.iload_n 3, 1) := by decide +kernel
theorem dX5_untellable_22 : decode cX5_untellable 22 = .ok (.bipush 40, 2) := by decide +kernel
theorem dX5_untellable_24 : decode cX5_untellable 24 = .ok (.if_icmp .le 6, 3) := by decide +kernel
theorem dX5_untellable_27 : decode cX5_untellable 27 = .ok (.bipush (-2), 2) := by decide +kernel
theorem dX5_untellable_29 : decode cX5_untellable 29 = .ok (.ireturn, 1) := by decide +kernel
theorem dX5_untellable_30 : decode cX5_untellable 30 = .ok (.iload_n 2, 1) := by decide +kernel
theorem dX5_untellable_31 : decode cX5_untellable 31 = .ok (.iload_n 3, 1) := by decide +kernel
theorem dX5_untellable_32 : decode cX5_untellable 32 = .ok (.iadd, 1) := by decide +kernel
theorem dX5_untellable_33 : decode cX5_untellable 33 = .ok (.iconst 1, 1) := by decide +kernel
theorem dX5_untellable_34 : decode cX5_untellable 34 = .ok (.isub, 1) := by decide +kernel
theorem dX5_untellable_35 : decode cX5_untellable 35 = .ok (.sipush 7999, 3) := by decide +kernel
theorem dX5_untellable_38 : decode cX5_untellable 38 = .ok (.invokestatic 142, 3) := by decide +kernel
theorem dX5_untellable_41 : decode cX5_untellable 41 = .ok (.istore 4, 2) := by decide +kernel
theorem dX5_untellable_43 : decode cX5_untellable 43 = .ok (.iconst 0, 1) := by decide +kernel
theorem dX5_untellable_44 : decode cX5_untellable 44 = .ok (.istore 5, 2) := by decide +kernel
theorem dX5_untellable_46 : decode cX5_untellable 46 = .ok (.iload_n 2, 1) := by decide +kernel
theorem dX5_untellable_47 : decode cX5_untellable 47 = .ok (.istore 6, 2) := by decide +kernel
theorem dX5_untellable_49 : decode cX5_untellable 49 = .ok (.iload 6, 2) := by decide +kernel
theorem dX5_untellable_51 : decode cX5_untellable 51 = .ok (.iload 4, 2) := by decide +kernel
theorem dX5_untellable_53 : decode cX5_untellable 53 = .ok (.if_icmp .gt 24, 3) := by decide +kernel
theorem dX5_untellable_56 : decode cX5_untellable 56 = .ok (.aload_n 0, 1) := by decide +kernel
theorem dX5_untellable_57 : decode cX5_untellable 57 = .ok (.iload_n 1, 1) := by decide +kernel
theorem dX5_untellable_58 : decode cX5_untellable 58 = .ok (.iload 6, 2) := by decide +kernel
theorem dX5_untellable_60 : decode cX5_untellable 60 = .ok (.invokevirtual 135, 3) := by decide +kernel
theorem dX5_untellable_63 : decode cX5_untellable 63 = .ok (.bipush (-5), 2) := by decide +kernel
theorem dX5_untellable_65 : decode cX5_untellable 65 = .ok (.if_icmp .ne 6, 3) := by decide +kernel
theorem dX5_untellable_68 : decode cX5_untellable 68 = .ok (.iinc 5 1, 3) := by decide +kernel
theorem dX5_untellable_71 : decode cX5_untellable 71 = .ok (.iinc 6 1, 3) := by decide +kernel
theorem dX5_untellable_74 : decode cX5_untellable 74 = .ok (.goto (-25), 3) := by decide +kernel
theorem dX5_untellable_77 : decode cX5_untellable 77 = .ok (.iload 5, 2) := by decide +kernel
theorem dX5_untellable_79 : decode cX5_untellable 79 = .ok (.ireturn, 1) := by decide +kernel
set_option maxRecDepth 20000 in
theorem ggX5_log_X3_told : GoodIn wsX5_log wsX3_told := goodIn_r _ [7, 8, 9, 16, 17, 18, 19, 20] (by decide +kernel) (by decide +kernel)
set_option maxRecDepth 20000 in
theorem gX5_log_X3_told : GoodIn wsX5_log (wsV RX5 150 RX3 yX3_told wsX3_told) := goodIn_app (goodIn_of _ (by decide +kernel)) ggX5_log_X3_told
theorem dX5_log_0 : decode cX5_log 0 = .ok (.iload_n 1, 1) := by decide +kernel
theorem dX5_log_1 : decode cX5_log 1 = .ok (.ifCond .lt 12, 3) := by decide +kernel
theorem dX5_log_4 : decode cX5_log 4 = .ok (.iload_n 2, 1) := by decide +kernel
theorem dX5_log_5 : decode cX5_log 5 = .ok (.ifCond .lt 8, 3) := by decide +kernel
theorem dX5_log_8 : decode cX5_log 8 = .ok (.iload_n 2, 1) := by decide +kernel
theorem dX5_log_9 : decode cX5_log 9 = .ok (.iconst 5, 1) := by decide +kernel
theorem dX5_log_10 : decode cX5_log 10 = .ok (.if_icmp .lt 6, 3) := by decide +kernel
theorem dX5_log_13 : decode cX5_log 13 = .ok (.bipush (-2), 2) := by decide +kernel
theorem dX5_log_15 : decode cX5_log 15 = .ok (.ireturn, 1) := by decide +kernel
theorem dX5_log_16 : decode cX5_log 16 = .ok (.iload_n 1, 1) := by decide +kernel
theorem dX5_log_17 : decode cX5_log 17 = .ok (.aload_n 0, 1) := by decide +kernel
theorem dX5_log_18 : decode cX5_log 18 = .ok (.getfield 10, 3) := by decide +kernel
theorem dX5_log_21 : decode cX5_log 21 = .ok (.getfield 147, 3) := by decide +kernel
theorem dX5_log_24 : decode cX5_log 24 = .ok (.if_icmp .ge 15, 3) := by decide +kernel
theorem dX5_log_27 : decode cX5_log 27 = .ok (.aload_n 0, 1) := by decide +kernel
theorem dX5_log_28 : decode cX5_log 28 = .ok (.getfield 10, 3) := by decide +kernel
theorem dX5_log_31 : decode cX5_log 31 = .ok (.iload_n 1, 1) := by decide +kernel
theorem dX5_log_32 : decode cX5_log 32 = .ok (.iload_n 2, 1) := by decide +kernel
theorem dX5_log_33 : decode cX5_log 33 = .ok (.invokevirtual 150, 3) := by decide +kernel
theorem dX5_log_36 : decode cX5_log 36 = .ok (.goto 5, 3) := by decide +kernel
theorem dX5_log_39 : decode cX5_log 39 = .ok (.bipush (-5), 2) := by decide +kernel
theorem dX5_log_41 : decode cX5_log 41 = .ok (.ireturn, 1) := by decide +kernel
set_option maxRecDepth 20000 in
theorem ggX5_sum_X3_total : GoodIn wsX5_sum wsX3_total := goodIn_r _ [6, 7, 14, 15, 16, 17, 18] (by decide +kernel) (by decide +kernel)
set_option maxRecDepth 20000 in
theorem gX5_sum_X3_total : GoodIn wsX5_sum (wsV RX5 153 RX3 yX3_total wsX3_total) := goodIn_app (goodIn_of _ (by decide +kernel)) ggX5_sum_X3_total
theorem dX5_sum_0 : decode cX5_sum 0 = .ok (.iload_n 1, 1) := by decide +kernel
theorem dX5_sum_1 : decode cX5_sum 1 = .ok (.tableswitch 73 0 3 #[31, 42, 53, 63], 31) := by decide +kernel
theorem dX5_sum_32 : decode cX5_sum 32 = .ok (.aload_n 0, 1) := by decide +kernel
theorem dX5_sum_33 : decode cX5_sum 33 = .ok (.getfield 10, 3) := by decide +kernel
theorem dX5_sum_36 : decode cX5_sum 36 = .ok (.bipush 7, 2) := by decide +kernel
theorem dX5_sum_38 : decode cX5_sum 38 = .ok (.iconst 1, 1) := by decide +kernel
theorem dX5_sum_39 : decode cX5_sum 39 = .ok (.invokevirtual 153, 3) := by decide +kernel
theorem dX5_sum_42 : decode cX5_sum 42 = .ok (.ireturn, 1) := by decide +kernel
theorem dX5_sum_43 : decode cX5_sum 43 = .ok (.aload_n 0, 1) := by decide +kernel
theorem dX5_sum_44 : decode cX5_sum 44 = .ok (.getfield 10, 3) := by decide +kernel
theorem dX5_sum_47 : decode cX5_sum 47 = .ok (.bipush 8, 2) := by decide +kernel
theorem dX5_sum_49 : decode cX5_sum 49 = .ok (.iconst 1, 1) := by decide +kernel
theorem dX5_sum_50 : decode cX5_sum 50 = .ok (.invokevirtual 153, 3) := by decide +kernel
theorem dX5_sum_53 : decode cX5_sum 53 = .ok (.ireturn, 1) := by decide +kernel
theorem dX5_sum_54 : decode cX5_sum 54 = .ok (.aload_n 0, 1) := by decide +kernel
theorem dX5_sum_55 : decode cX5_sum 55 = .ok (.getfield 10, 3) := by decide +kernel
theorem dX5_sum_58 : decode cX5_sum 58 = .ok (.iconst 0, 1) := by decide +kernel
theorem dX5_sum_59 : decode cX5_sum 59 = .ok (.iconst 3, 1) := by decide +kernel
theorem dX5_sum_60 : decode cX5_sum 60 = .ok (.invokevirtual 153, 3) := by decide +kernel
theorem dX5_sum_63 : decode cX5_sum 63 = .ok (.ireturn, 1) := by decide +kernel
theorem dX5_sum_64 : decode cX5_sum 64 = .ok (.aload_n 0, 1) := by decide +kernel
theorem dX5_sum_65 : decode cX5_sum 65 = .ok (.getfield 10, 3) := by decide +kernel
theorem dX5_sum_68 : decode cX5_sum 68 = .ok (.iconst 3, 1) := by decide +kernel
theorem dX5_sum_69 : decode cX5_sum 69 = .ok (.iconst 3, 1) := by decide +kernel
