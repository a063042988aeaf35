theorem dX6_append_0 : decode cX6_append 0 = .ok (.iload_n 1, 1) := by decide +kernel
theorem dX6_append_1 : decode cX6_append 1 = .ok (.bipush 32, 2) := by decide +kernel
theorem dX6_append_3 : decode cX6_append 3 = .ok (.bipush 126, 2) := by decide +kernel
theorem dX6_append_5 : decode cX6_append 5 = .ok (.invokestatic 32, 3) := by decide +kernel
theorem dX6_append_8 : decode cX6_append 8 = .ok (.ifCond .ne 6, 3) := by decide +kernel
theorem dX6_append_11 : decode cX6_append 11 = .ok (.bipush (-2), 2) := by decide +kernel
theorem dX6_append_13 : decode cX6_append 13 = .ok (.ireturn, 1) := by decide +kernel
theorem dX6_append_14 : decode cX6_append 14 = .ok (.aload_n 0, 1) := by decide +kernel
theorem dX6_append_15 : decode cX6_append 15 = .ok (.getfield 184, 3) := by decide +kernel
theorem dX6_append_18 : decode cX6_append 18 = .ok (.bipush 20, 2) := by decide +kernel
theorem dX6_append_20 : decode cX6_append 20 = .ok (.if_icmp .ne 6, 3) := by decide +kernel
theorem dX6_append_23 : decode cX6_append 23 = .ok (.bipush (-4), 2) := by decide +kernel
theorem dX6_append_25 : decode cX6_append 25 = .ok (.ireturn, 1) := by decide +kernel
theorem dX6_append_26 : decode cX6_append 26 = .ok (.aload_n 0, 1) := by decide +kernel
theorem dX6_append_27 : decode cX6_append 27 = .ok (.getfield 20, 3) := by decide +kernel
theorem dX6_append_30 : decode cX6_append 30 = .ok (.aload_n 0, 1) := by decide +kernel
theorem dX6_append_31 : decode cX6_append 31 = .ok (.getfield 184, 3) := by decide +kernel
theorem dX6_append_34 : decode cX6_append 34 = .ok (.iload_n 1, 1) := by decide +kernel
theorem dX6_append_35 : decode cX6_append 35 = .ok (.i2c, 1) := by decide +kernel
theorem dX6_append_36 : decode cX6_append 36 = .ok (.castore, 1) := by decide +kernel
theorem dX6_append_37 : decode cX6_append 37 = .ok (.aload_n 0, 1) := by decide +kernel
theorem dX6_append_38 : decode cX6_append 38 = .ok (.dup, 1) := by decide +kernel
theorem dX6_append_39 : decode cX6_append 39 = .ok (.getfield 184, 3) := by decide +kernel
theorem dX6_append_42 : decode cX6_append 42 = .ok (.iconst 1, 1) := by decide +kernel
theorem dX6_append_43 : decode cX6_append 43 = .ok (.iadd, 1) := by decide +kernel
theorem dX6_append_44 : decode cX6_append 44 = .ok (.putfield 184, 3) := by decide +kernel
theorem dX6_append_47 : decode cX6_append 47 = .ok (.aload_n 0, 1) := by decide +kernel
theorem dX6_append_48 : decode cX6_append 48 = .ok (.getfield 184, 3) := by decide +kernel
theorem dX6_append_51 : decode cX6_append 51 = .ok (.ireturn, 1) := by decide +kernel
theorem dX6_clearText_0 : decode cX6_clearText 0 = .ok (.aload_n 0, 1) := by decide +kernel
theorem dX6_clearText_1 : decode cX6_clearText 1 = .ok (.getfield 184, 3) := by decide +kernel
theorem dX6_clearText_4 : decode cX6_clearText 4 = .ok (.istore_n 1, 1) := by decide +kernel
theorem dX6_clearText_5 : decode cX6_clearText 5 = .ok (.aload_n 0, 1) := by decide +kernel
theorem dX6_clearText_6 : decode cX6_clearText 6 = .ok (.iconst 0, 1) := by decide +kernel
theorem dX6_clearText_7 : decode cX6_clearText 7 = .ok (.putfield 184, 3) := by decide +kernel
theorem dX6_clearText_10 : decode cX6_clearText 10 = .ok (.iload_n 1, 1) := by decide +kernel
theorem dX6_clearText_11 : decode cX6_clearText 11 = .ok (.ireturn, 1) := by decide +kernel
set_option maxRecDepth 20000 in
theorem ggX6_fault_X6_textFault : GoodIn wsX6_fault wsX6_textFault := goodIn_r _ [5, 6, 7, 8, 9, 10, 11, 4, 12, 13, 14, 15, 16, 17, 18, 19, 20, 21, 22, 23, 24, 25, 26, 27, 28, 29, 30, 31, 32, 33, 34, 35, 36, 37, 38, 39, 40, 41, 42, 43, 44, 45, 46, 47, 48, 49, 50, 51, 52, 53, 54, 55, 56, 57, 58, 59, 60, 61, 62, 63, 64, 65, 66, 67, 68, 69, 70, 71, 72, 73, 74, 75, 76, 77, 78] (by decide +kernel) (by decide +kernel)
set_option maxRecDepth 20000 in
theorem gX6_fault_X6_textFault : GoodIn wsX6_fault (wsV RX6 187 RX6 yX6_textFault wsX6_textFault) := goodIn_app (goodIn_of _ (by decide +kernel)) ggX6_fault_X6_textFault
theorem dX6_fault_0 : decode cX6_fault 0 = .ok (.aload_n 0, 1) := by decide +kernel
theorem dX6_fault_1 : decode cX6_fault 1 = .ok (.invokevirtual 187, 3) := by decide +kernel
theorem dX6_fault_4 : decode cX6_fault 4 = .ok (.istore_n 1, 1) := by decide +kernel
theorem dX6_fault_5 : decode cX6_fault 5 = .ok (.iload_n 1, 1) := by decide +kernel
theorem dX6_fault_6 : decode cX6_fault 6 = .ok (.ifCond .ge 8, 3) := by decide +kernel
theorem dX6_fault_9 : decode cX6_fault 9 = .ok (.bipush (-5), 2) := by decide +kernel
theorem dX6_fault_11 : decode cX6_fault 11 = .ok (.goto 4, 3) := by decide +kernel
theorem dX6_fault_14 : decode cX6_fault 14 = .ok (.iload_n 1, 1) := by decide +kernel
theorem dX6_fault_15 : decode cX6_fault 15 = .ok (.ireturn, 1) := by decide +kernel
set_option maxRecDepth 20000 in
theorem ggX6_meaning_X6_textFault : GoodIn wsX6_meaning wsX6_textFault := goodIn_r _ [5, 6, 7, 8, 9, 10, 11, 4, 12, 13, 14, 15, 16, 17, 18, 19, 20, 21, 22, 23, 24, 25, 26, 27, 28, 29, 30, 31, 32, 33, 34, 35, 36, 37, 38, 39, 40, 41, 42, 43, 44, 45, 46, 47, 48, 49, 50, 51, 52, 53, 54, 55, 56, 57, 58, 59, 60, 65, 66, 67, 68, 69, 70, 71, 72, 73, 74, 75, 76, 77, 78, 79, 80, 81, 82] (by decide +kernel) (by decide +kernel)
set_option maxRecDepth 20000 in
theorem gX6_meaning_X6_textFault : GoodIn wsX6_meaning (wsV RX6 187 RX6 yX6_textFault wsX6_textFault) := goodIn_app (goodIn_of _ (by decide +kernel)) ggX6_meaning_X6_textFault
set_option maxRecDepth 20000 in
theorem ggX6_meaning_X6_meaningBy : GoodIn wsX6_meaning wsX6_meaningBy := goodIn_r _ [64, 15, 18, 16, 19, 20, 17, 65, 66, 67, 68, 69, 70, 71, 72, 73, 74, 75, 76, 77, 78, 79, 80, 81, 82] (by decide +kernel) (by decide +kernel)
set_option maxRecDepth 20000 in
theorem gX6_meaning_X6_meaningBy : GoodIn wsX6_meaning (wsV RX6 103 RX6 yX6_meaningBy wsX6_meaningBy) := goodIn_app (goodIn_of _ (by decide +kernel)) ggX6_meaning_X6_meaningBy
theorem dX6_meaning_0 : decode cX6_meaning 0 = .ok (.aload_n 0, 1) := by decide +kernel
theorem dX6_meaning_1 : decode cX6_meaning 1 = .ok (.invokevirtual 187, 3) := by decide +kernel
theorem dX6_meaning_4 : decode cX6_meaning 4 = .ok (.ifCond .ge 13, 3) := by decide +kernel
theorem dX6_meaning_7 : decode cX6_meaning 7 = .ok (.aload_n 0, 1) := by decide +kernel
theorem dX6_meaning_8 : decode cX6_meaning 8 = .ok (.iconst 1, 1) := by decide +kernel
theorem dX6_meaning_9 : decode cX6_meaning 9 = .ok (.iconst 1, 1) := by decide +kernel
theorem dX6_meaning_10 : decode cX6_meaning 10 = .ok (.iconst 1, 1) := by decide +kernel
theorem dX6_meaning_11 : decode cX6_meaning 11 = .ok (.invokevirtual 103, 3) := by decide +kernel
theorem dX6_meaning_14 : decode cX6_meaning 14 = .ok (.goto 5, 3) := by decide +kernel
theorem dX6_meaning_17 : decode cX6_meaning 17 = .ok (.bipush (-3), 2) := by decide +kernel
theorem dX6_meaning_19 : decode cX6_meaning 19 = .ok (.ireturn, 1) := by decide +kernel
theorem dX6_undo_0 : decode cX6_undo 0 = .ok (.aload_n 0, 1) := by decide +kernel
theorem dX6_undo_1 : decode cX6_undo 1 = .ok (.getfield 36, 3) := by decide +kernel
theorem dX6_undo_4 : decode cX6_undo 4 = .ok (.ifCond .ne 6, 3) := by decide +kernel
theorem dX6_undo_7 : decode cX6_undo 7 = .ok (.bipush (-5), 2) := by decide +kernel
theorem dX6_undo_9 : decode cX6_undo 9 = .ok (.ireturn, 1) := by decide +kernel
theorem dX6_undo_10 : decode cX6_undo 10 = .ok (.aload_n 0, 1) := by decide +kernel
theorem dX6_undo_11 : decode cX6_undo 11 = .ok (.dup, 1) := by decide +kernel
theorem dX6_undo_12 : decode cX6_undo 12 = .ok (.getfield 36, 3) := by decide +kernel
theorem dX6_undo_15 : decode cX6_undo 15 = .ok (.iconst 1, 1) := by decide +kernel
theorem dX6_undo_16 : decode cX6_undo 16 = .ok (.isub, 1) := by decide +kernel
theorem dX6_undo_17 : decode cX6_undo 17 = .ok (.putfield 36, 3) := by decide +kernel
theorem dX6_undo_20 : decode cX6_undo 20 = .ok (.iconst 0, 1) := by decide +kernel
theorem dX6_undo_21 : decode cX6_undo 21 = .ok (.istore_n 1, 1) := by decide +kernel
theorem dX6_undo_22 : decode cX6_undo 22 = .ok (.iload_n 1, 1) := by decide +kernel
theorem dX6_undo_23 : decode cX6_undo 23 = .ok (.bipush 106, 2) := by decide +kernel
theorem dX6_undo_25 : decode cX6_undo 25 = .ok (.if_icmp .ge 29, 3) := by decide +kernel
theorem dX6_undo_28 : decode cX6_undo 28 = .ok (.aload_n 0, 1) := by decide +kernel
theorem dX6_undo_29 : decode cX6_undo 29 = .ok (.getfield 7, 3) := by decide +kernel
theorem dX6_undo_32 : decode cX6_undo 32 = .ok (.iload_n 1, 1) := by decide +kernel
theorem dX6_undo_33 : decode cX6_undo 33 = .ok (.aload_n 0, 1) := by decide +kernel
theorem dX6_undo_34 : decode cX6_undo 34 = .ok (.getfield 13, 3) := by decide +kernel
theorem dX6_undo_37 : decode cX6_undo 37 = .ok (.bipush 106, 2) := by decide +kernel
theorem dX6_undo_39 : decode cX6_undo 39 = .ok (.aload_n 0, 1) := by decide +kernel
theorem dX6_undo_40 : decode cX6_undo 40 = .ok (.getfield 36, 3) := by decide +kernel
theorem dX6_undo_43 : decode cX6_undo 43 = .ok (.imul, 1) := by decide +kernel
theorem dX6_undo_44 : decode cX6_undo 44 = .ok (.iload_n 1, 1) := by decide +kernel
theorem dX6_undo_45 : decode cX6_undo 45 = .ok (.iadd, 1) := by decide +kernel
theorem dX6_undo_46 : decode cX6_undo 46 = .ok (.iaload, 1) := by decide +kernel
theorem dX6_undo_47 : decode cX6_undo 47 = .ok (.iastore, 1) := by decide +kernel
theorem dX6_undo_48 : decode cX6_undo 48 = .ok (.iinc 1 1, 3) := by decide +kernel
theorem dX6_undo_51 : decode cX6_undo 51 = .ok (.goto (-29), 3) := by decide +kernel
theorem dX6_undo_54 : decode cX6_undo 54 = .ok (.aload_n 0, 1) := by decide +kernel
theorem dX6_undo_55 : decode cX6_undo 55 = .ok (.getfield 36, 3) := by decide +kernel
theorem dX6_undo_58 : decode cX6_undo 58 = .ok (.ireturn, 1) := by decide +kernel
set_option maxRecDepth 20000 in
theorem ggX6_ways_X6_isNumber : GoodIn wsX6_ways wsX6_isNumber := goodIn_r _ [5, 6, 7, 4, 8] (by decide +kernel) (by decide +kernel)
set_option maxRecDepth 20000 in
theorem gX6_ways_X6_isNumber : GoodIn wsX6_ways (va_wsS RX6 169 yX6_isNumber wsX6_isNumber) := goodIn_app (goodIn_of _ (by decide +kernel)) ggX6_ways_X6_isNumber
set_option maxRecDepth 20000 in
theorem ggX6_ways_X6_makes : GoodIn wsX6_ways wsX6_makes := goodIn_r _ [12, 1, 13, 14, 15, 16, 4, 17, 18, 19, 20, 21, 22, 23, 24, 25, 26, 27, 28, 29, 30, 31, 32, 33, 34, 6, 7, 8, 35, 36, 37, 38, 39, 40, 41, 42, 43, 44, 45, 46, 47, 48, 49, 50, 51, 52, 53, 54, 55, 56, 57, 58, 59, 60] (by decide +kernel) (by decide +kernel)
set_option maxRecDepth 20000 in
theorem gX6_ways_X6_makes : GoodIn wsX6_ways (wsV RX6 172 RX6 yX6_makes wsX6_makes) := goodIn_app (goodIn_of _ (by decide +kernel)) ggX6_ways_X6_makes
theorem dX6_ways_0 : decode cX6_ways 0 = .ok (.iload_n 1, 1) := by decide +kernel
theorem dX6_ways_1 : decode cX6_ways 1 = .ok (.invokestatic 169, 3) := by decide +kernel
theorem dX6_ways_4 : decode cX6_ways 4 = .ok (.ifCond .ne 6, 3) := by decide +kernel
theorem dX6_ways_7 : decode cX6_ways 7 = .ok (.bipush (-2), 2) := by decide +kernel
theorem dX6_ways_9 : decode cX6_ways 9 = .ok (.ireturn, 1) := by decide +kernel
theorem dX6_ways_10 : decode cX6_ways 10 = .ok (.aload_n 0, 1) := by decide +kernel
theorem dX6_ways_11 : decode cX6_ways 11 = .ok (.iload_n 1, 1) := by decide +kernel
theorem dX6_ways_12 : decode cX6_ways 12 = .ok (.invokevirtual 172, 3) := by decide +kernel
theorem dX6_ways_15 : decode cX6_ways 15 = .ok (.aload_n 0, 1) := by decide +kernel
theorem dX6_ways_16 : decode cX6_ways 16 = .ok (.getfield 107, 3) := by decide +kernel
theorem dX6_ways_19 : decode cX6_ways 19 = .ok (.ireturn, 1) := by decide +kernel
set_option maxRecDepth 20000 in
theorem ggX6_wayLength_X6_isNumber : GoodIn wsX6_wayLength wsX6_isNumber := goodIn_r _ [7, 8, 9, 6, 10] (by decide +kernel) (by decide +kernel)
set_option maxRecDepth 20000 in
theorem gX6_wayLength_X6_isNumber : GoodIn wsX6_wayLength (va_wsS RX6 169 yX6_isNumber wsX6_isNumber) := goodIn_app (goodIn_of _ (by decide +kernel)) ggX6_wayLength_X6_isNumber
set_option maxRecDepth 20000 in
theorem ggX6_wayLength_X6_makes : GoodIn wsX6_wayLength wsX6_makes := goodIn_r _ [14, 1, 3, 15, 16, 17, 6, 18, 2, 19, 20, 21, 22, 23, 24, 25, 26, 27, 28, 29, 30, 31, 32, 33, 34, 8, 9, 10, 35, 36, 37, 38, 39, 40, 41, 42, 43, 44, 45, 46, 47, 48, 49, 50, 51, 52, 53, 54, 55, 56, 57, 58, 59, 60] (by decide +kernel) (by decide +kernel)
set_option maxRecDepth 20000 in
theorem gX6_wayLength_X6_makes : GoodIn wsX6_wayLength (wsV RX6 172 RX6 yX6_makes wsX6_makes) := goodIn_app (goodIn_of _ (by decide +kernel)) ggX6_wayLength_X6_makes
theorem dX6_wayLength_0 : decode cX6_wayLength 0 = .ok (.iload_n 1, 1) := by decide +kernel
theorem dX6_wayLength_1 : decode cX6_wayLength 1 = .ok (.invokestatic 169, 3) := by decide +kernel
theorem dX6_wayLength_4 : decode cX6_wayLength 4 = .ok (.ifCond .eq 7, 3) := by decide +kernel
theorem dX6_wayLength_7 : decode cX6_wayLength 7 = .ok (.iload_n 2, 1) := by decide +kernel
theorem dX6_wayLength_8 : decode cX6_wayLength 8 = .ok (.ifCond .ge 6, 3) := by decide +kernel
theorem dX6_wayLength_11 : decode cX6_wayLength 11 = .ok (.bipush (-2), 2) := by decide +kernel
theorem dX6_wayLength_13 : decode cX6_wayLength 13 = .ok (.ireturn, 1) := by decide +kernel
theorem dX6_wayLength_14 : decode cX6_wayLength 14 = .ok (.aload_n 0, 1) := by decide +kernel
theorem dX6_wayLength_15 : decode cX6_wayLength 15 = .ok (.iload_n 1, 1) := by decide +kernel
theorem dX6_wayLength_16 : decode cX6_wayLength 16 = .ok (.invokevirtual 172, 3) := by decide +kernel
theorem dX6_wayLength_19 : decode cX6_wayLength 19 = .ok (.iload_n 2, 1) := by decide +kernel
theorem dX6_wayLength_20 : decode cX6_wayLength 20 = .ok (.aload_n 0, 1) := by decide +kernel
theorem dX6_wayLength_21 : decode cX6_wayLength 21 = .ok (.getfield 107, 3) := by decide +kernel
theorem dX6_wayLength_24 : decode cX6_wayLength 24 = .ok (.if_icmp .ge 17, 3) := by decide +kernel
theorem dX6_wayLength_27 : decode cX6_wayLength 27 = .ok (.aload_n 0, 1) := by decide +kernel
theorem dX6_wayLength_28 : decode cX6_wayLength 28 = .ok (.getfield 26, 3) := by decide +kernel
theorem dX6_wayLength_31 : decode cX6_wayLength 31 = .ok (.aload_n 0, 1) := by decide +kernel
theorem dX6_wayLength_32 : decode cX6_wayLength 32 = .ok (.getfield 29, 3) := by decide +kernel
theorem dX6_wayLength_35 : decode cX6_wayLength 35 = .ok (.iload_n 2, 1) := by decide +kernel
theorem dX6_wayLength_36 : decode cX6_wayLength 36 = .ok (.iaload, 1) := by decide +kernel
theorem dX6_wayLength_37 : decode cX6_wayLength 37 = .ok (.iaload, 1) := by decide +kernel
theorem dX6_wayLength_38 : decode cX6_wayLength 38 = .ok (.goto 5, 3) := by decide +kernel
theorem dX6_wayLength_41 : decode cX6_wayLength 41 = .ok (.bipush (-5), 2) := by decide +kernel
theorem dX6_wayLength_43 : decode cX6_wayLength 43 = .ok (.ireturn, 1) := by decide +kernel
set_option maxRecDepth 20000 in
theorem ggX6_wayAt_X6_isNumber : GoodIn wsX6_wayAt wsX6_isNumber := goodIn_r _ [8, 9, 10, 7, 11] (by decide +kernel) (by decide +kernel)
set_option maxRecDepth 20000 in
theorem gX6_wayAt_X6_isNumber : GoodIn wsX6_wayAt (va_wsS RX6 169 yX6_isNumber wsX6_isNumber) := goodIn_app (goodIn_of _ (by decide +kernel)) ggX6_wayAt_X6_isNumber
set_option maxRecDepth 20000 in
theorem ggX6_wayAt_X6_makes : GoodIn wsX6_wayAt wsX6_makes := goodIn_r _ [15, 1, 3, 16, 17, 18, 7, 19, 2, 20, 21, 22, 23, 24, 25, 26, 27, 4, 28, 29, 30, 31, 32, 33, 34, 9, 10, 11, 35, 36, 37, 38, 39, 40, 41, 42, 43, 44, 45, 46, 47, 48, 49, 50, 51, 52, 53, 54, 55, 56, 57, 58, 59, 60] (by decide +kernel) (by decide +kernel)
set_option maxRecDepth 20000 in
theorem gX6_wayAt_X6_makes : GoodIn wsX6_wayAt (wsV RX6 172 RX6 yX6_makes wsX6_makes) := goodIn_app (goodIn_of _ (by decide +kernel)) ggX6_wayAt_X6_makes
theorem dX6_wayAt_0 : decode cX6_wayAt 0 = .ok (.iload_n 1, 1) := by decide +kernel
theorem dX6_wayAt_1 : decode cX6_wayAt 1 = .ok (.invokestatic 169, 3) := by decide +kernel
theorem dX6_wayAt_4 : decode cX6_wayAt 4 = .ok (.ifCond .eq 11, 3) := by decide +kernel
theorem dX6_wayAt_7 : decode cX6_wayAt 7 = .ok (.iload_n 2, 1) := by decide +kernel
theorem dX6_wayAt_8 : decode cX6_wayAt 8 = .ok (.ifCond .lt 7, 3) := by decide +kernel
theorem dX6_wayAt_11 : decode cX6_wayAt 11 = .ok (.iload_n 3, 1) := by decide +kernel
theorem dX6_wayAt_12 : decode cX6_wayAt 12 = .ok (.ifCond .ge 6, 3) := by decide +kernel
theorem dX6_wayAt_15 : decode cX6_wayAt 15 = .ok (.bipush (-2), 2) := by decide +kernel
theorem dX6_wayAt_17 : decode cX6_wayAt 17 = .ok (.ireturn, 1) := by decide +kernel
theorem dX6_wayAt_18 : decode cX6_wayAt 18 = .ok (.aload_n 0, 1) := by decide +kernel
theorem dX6_wayAt_19 : decode cX6_wayAt 19 = .ok (.iload_n 1, 1) := by decide +kernel
theorem dX6_wayAt_20 : decode cX6_wayAt 20 = .ok (.invokevirtual 172, 3) := by decide +kernel
theorem dX6_wayAt_23 : decode cX6_wayAt 23 = .ok (.iload_n 2, 1) := by decide +kernel
theorem dX6_wayAt_24 : decode cX6_wayAt 24 = .ok (.aload_n 0, 1) := by decide +kernel
theorem dX6_wayAt_25 : decode cX6_wayAt 25 = .ok (.getfield 107, 3) := by decide +kernel
theorem dX6_wayAt_28 : decode cX6_wayAt 28 = .ok (.if_icmp .ge 37, 3) := by decide +kernel
theorem dX6_wayAt_31 : decode cX6_wayAt 31 = .ok (.iload_n 3, 1) := by decide +kernel
theorem dX6_wayAt_32 : decode cX6_wayAt 32 = .ok (.aload_n 0, 1) := by decide +kernel
theorem dX6_wayAt_33 : decode cX6_wayAt 33 = .ok (.getfield 26, 3) := by decide +kernel
theorem dX6_wayAt_36 : decode cX6_wayAt 36 = .ok (.aload_n 0, 1) := by decide +kernel
theorem dX6_wayAt_37 : decode cX6_wayAt 37 = .ok (.getfield 29, 3) := by decide +kernel
theorem dX6_wayAt_40 : decode cX6_wayAt 40 = .ok (.iload_n 2, 1) := by decide +kernel
theorem dX6_wayAt_41 : decode cX6_wayAt 41 = .ok (.iaload, 1) := by decide +kernel
theorem dX6_wayAt_42 : decode cX6_wayAt 42 = .ok (.iaload, 1) := by decide +kernel
theorem dX6_wayAt_43 : decode cX6_wayAt 43 = .ok (.if_icmp .ge 22, 3) := by decide +kernel
theorem dX6_wayAt_46 : decode cX6_wayAt 46 = .ok (.aload_n 0, 1) := by decide +kernel
theorem dX6_wayAt_47 : decode cX6_wayAt 47 = .ok (.getfield 23, 3) := by decide +kernel
theorem dX6_wayAt_50 : decode cX6_wayAt 50 = .ok (.bipush 10, 2) := by decide +kernel
theorem dX6_wayAt_52 : decode cX6_wayAt 52 = .ok (.aload_n 0, 1) := by decide +kernel
theorem dX6_wayAt_53 : decode cX6_wayAt 53 = .ok (.getfield 29, 3) := by decide +kernel
theorem dX6_wayAt_56 : decode cX6_wayAt 56 = .ok (.iload_n 2, 1) := by decide +kernel
theorem dX6_wayAt_57 : decode cX6_wayAt 57 = .ok (.iaload, 1) := by decide +kernel
theorem dX6_wayAt_58 : decode cX6_wayAt 58 = .ok (.imul, 1) := by decide +kernel
theorem dX6_wayAt_59 : decode cX6_wayAt 59 = .ok (.iload_n 3, 1) := by decide +kernel
theorem dX6_wayAt_60 : decode cX6_wayAt 60 = .ok (.iadd, 1) := by decide +kernel
theorem dX6_wayAt_61 : decode cX6_wayAt 61 = .ok (.caload, 1) := by decide +kernel
theorem dX6_wayAt_62 : decode cX6_wayAt 62 = .ok (.goto 5, 3) := by decide +kernel
theorem dX6_wayAt_65 : decode cX6_wayAt 65 = .ok (.bipush (-5), 2) := by decide +kernel
theorem dX6_wayAt_67 : decode cX6_wayAt 67 = .ok (.ireturn, 1) := by decide +kernel
set_option maxRecDepth 20000 in
theorem ggX6_styled_X6_in : GoodIn wsX6_styled wsX6_in := goodIn_r _ [4] (by decide +kernel) (by decide +kernel)
set_option maxRecDepth 20000 in
theorem gX6_styled_X6_in : GoodIn wsX6_styled (va_wsS RX6 32 yX6_in wsX6_in) := goodIn_app (goodIn_of _ (by decide +kernel)) ggX6_styled_X6_in
set_option maxRecDepth 20000 in
theorem ggX6_styled_X6_isNumber : GoodIn wsX6_styled wsX6_isNumber := goodIn_r _ [7, 1, 2, 3, 4] (by decide +kernel) (by decide +kernel)
set_option maxRecDepth 20000 in
theorem gX6_styled_X6_isNumber : GoodIn wsX6_styled (va_wsS RX6 169 yX6_isNumber wsX6_isNumber) := goodIn_app (goodIn_of _ (by decide +kernel)) ggX6_styled_X6_isNumber
set_option maxRecDepth 20000 in
theorem ggX6_styled_X6_makes : GoodIn wsX6_styled wsX6_makes := goodIn_r _ [11, 12, 13, 14, 15, 16, 3, 17, 18, 19, 20, 21, 22, 23, 24, 25, 26, 27, 28, 29, 30, 31, 32, 33, 34, 1, 2, 4, 35, 36, 37, 38, 39, 40, 41, 42, 51, 52, 53, 54, 55, 56, 57, 58, 59, 60, 61, 62, 63, 64, 65, 66, 67, 68] (by decide +kernel) (by decide +kernel)
set_option maxRecDepth 20000 in
theorem gX6_styled_X6_makes : GoodIn wsX6_styled (wsV RX6 172 RX6 yX6_makes wsX6_makes) := goodIn_app (goodIn_of _ (by decide +kernel)) ggX6_styled_X6_makes
set_option maxRecDepth 20000 in
theorem ggX6_styled_X6_placeOf : GoodIn wsX6_styled wsX6_placeOf := goodIn_r _ [46, 12, 13, 47, 48, 49, 3, 50, 18, 27, 51, 52, 53, 54, 55, 56, 57, 58, 59, 60, 61, 62, 63, 64, 65, 66, 67, 68] (by decide +kernel) (by decide +kernel)
set_option maxRecDepth 20000 in
theorem gX6_styled_X6_placeOf : GoodIn wsX6_styled (wsV RX6 175 RX6 yX6_placeOf wsX6_placeOf) := goodIn_app (goodIn_of _ (by decide +kernel)) ggX6_styled_X6_placeOf
theorem dX6_styled_0 : decode cX6_styled 0 = .ok (.iload_n 2, 1) := by decide +kernel
theorem dX6_styled_1 : decode cX6_styled 1 = .ok (.iconst 0, 1) := by decide +kernel
theorem dX6_styled_2 : decode cX6_styled 2 = .ok (.iconst 3, 1) := by decide +kernel
theorem dX6_styled_3 : decode cX6_styled 3 = .ok (.invokestatic 32, 3) := by decide +kernel
theorem dX6_styled_6 : decode cX6_styled 6 = .ok (.ifCond .ne 5, 3) := by decide +kernel
theorem dX6_styled_9 : decode cX6_styled 9 = .ok (.iconst (-1), 1) := by decide +kernel
theorem dX6_styled_10 : decode cX6_styled 10 = .ok (.ireturn, 1) := by decide +kernel
theorem dX6_styled_11 : decode cX6_styled 11 = .ok (.iload_n 1, 1) := by decide +kernel
theorem dX6_styled_12 : decode cX6_styled 12 = .ok (.invokestatic 169, 3) := by decide +kernel
theorem dX6_styled_15 : decode cX6_styled 15 = .ok (.ifCond .ne 6, 3) := by decide +kernel
theorem dX6_styled_18 : decode cX6_styled 18 = .ok (.bipush (-2), 2) := by decide +kernel
theorem dX6_styled_20 : decode cX6_styled 20 = .ok (.ireturn, 1) := by decide +kernel
theorem dX6_styled_21 : decode cX6_styled 21 = .ok (.aload_n 0, 1) := by decide +kernel
theorem dX6_styled_22 : decode cX6_styled 22 = .ok (.iload_n 1, 1) := by decide +kernel
theorem dX6_styled_23 : decode cX6_styled 23 = .ok (.invokevirtual 172, 3) := by decide +kernel
theorem dX6_styled_26 : decode cX6_styled 26 = .ok (.aload_n 0, 1) := by decide +kernel
theorem dX6_styled_27 : decode cX6_styled 27 = .ok (.iload_n 2, 1) := by decide +kernel
theorem dX6_styled_28 : decode cX6_styled 28 = .ok (.invokevirtual 175, 3) := by decide +kernel
theorem dX6_styled_31 : decode cX6_styled 31 = .ok (.ireturn, 1) := by decide +kernel
theorem dX6_isText_0 : decode cX6_isText 0 = .ok (.aload_n 0, 1) := by decide +kernel
theorem dX6_isText_1 : decode cX6_isText 1 = .ok (.getfield 26, 3) := by decide +kernel
theorem dX6_isText_4 : decode cX6_isText 4 = .ok (.iload_n 1, 1) := by decide +kernel
theorem dX6_isText_5 : decode cX6_isText 5 = .ok (.iaload, 1) := by decide +kernel
theorem dX6_isText_6 : decode cX6_isText 6 = .ok (.aload_n 0, 1) := by decide +kernel
theorem dX6_isText_7 : decode cX6_isText 7 = .ok (.getfield 184, 3) := by decide +kernel
theorem dX6_isText_10 : decode cX6_isText 10 = .ok (.if_icmp .ne 7, 3) := by decide +kernel
theorem dX6_isText_13 : decode cX6_isText 13 = .ok (.iconst 1, 1) := by decide +kernel
theorem dX6_isText_14 : decode cX6_isText 14 = .ok (.goto 4, 3) := by decide +kernel
theorem dX6_isText_17 : decode cX6_isText 17 = .ok (.iconst 0, 1) := by decide +kernel
theorem dX6_isText_18 : decode cX6_isText 18 = .ok (.istore_n 2, 1) := by decide +kernel
theorem dX6_isText_19 : decode cX6_isText 19 = .ok (.iconst 0, 1) := by decide +kernel
theorem dX6_isText_20 : decode cX6_isText 20 = .ok (.istore_n 3, 1) := by decide +kernel
theorem dX6_isText_21 : decode cX6_isText 21 = .ok (.iload_n 3, 1) := by decide +kernel
theorem dX6_isText_22 : decode cX6_isText 22 = .ok (.aload_n 0, 1) := by decide +kernel
theorem dX6_isText_23 : decode cX6_isText 23 = .ok (.getfield 184, 3) := by decide +kernel
theorem dX6_isText_26 : decode cX6_isText 26 = .ok (.if_icmp .ge 39, 3) := by decide +kernel
theorem dX6_isText_29 : decode cX6_isText 29 = .ok (.iload_n 2, 1) := by decide +kernel
theorem dX6_isText_30 : decode cX6_isText 30 = .ok (.ifCond .eq 35, 3) := by decide +kernel
theorem dX6_isText_33 : decode cX6_isText 33 = .ok (.aload_n 0, 1) := by decide +kernel
theorem dX6_isText_34 : decode cX6_isText 34 = .ok (.getfield 23, 3) := by decide +kernel
theorem dX6_isText_37 : decode cX6_isText 37 = .ok (.bipush 10, 2) := by decide +kernel
theorem dX6_isText_39 : decode cX6_isText 39 = .ok (.iload_n 1, 1) := by decide +kernel
theorem dX6_isText_40 : decode cX6_isText 40 = .ok (.imul, 1) := by decide +kernel
theorem dX6_isText_41 : decode cX6_isText 41 = .ok (.iload_n 3, 1) := by decide +kernel
theorem dX6_isText_42 : decode cX6_isText 42 = .ok (.iadd, 1) := by decide +kernel
theorem dX6_isText_43 : decode cX6_isText 43 = .ok (.caload, 1) := by decide +kernel
theorem dX6_isText_44 : decode cX6_isText 44 = .ok (.aload_n 0, 1) := by decide +kernel
theorem dX6_isText_45 : decode cX6_isText 45 = .ok (.getfield 20, 3) := by decide +kernel
theorem dX6_isText_48 : decode cX6_isText 48 = .ok (.iload_n 3, 1) := by decide +kernel
theorem dX6_isText_49 : decode cX6_isText 49 = .ok (.caload, 1) := by decide +kernel
theorem dX6_isText_50 : decode cX6_isText 50 = .ok (.if_icmp .ne 7, 3) := by decide +kernel
theorem dX6_isText_53 : decode cX6_isText 53 = .ok (.iconst 1, 1) := by decide +kernel
theorem dX6_isText_54 : decode cX6_isText 54 = .ok (.goto 4, 3) := by decide +kernel
theorem dX6_isText_57 : decode cX6_isText 57 = .ok (.iconst 0, 1) := by decide +kernel
theorem dX6_isText_58 : decode cX6_isText 58 = .ok (.istore_n 2, 1) := by decide +kernel
theorem dX6_isText_59 : decode cX6_isText 59 = .ok (.iinc 3 1, 3) := by decide +kernel
theorem dX6_isText_62 : decode cX6_isText 62 = .ok (.goto (-41), 3) := by decide +kernel
theorem dX6_isText_65 : decode cX6_isText 65 = .ok (.iload_n 2, 1) := by decide +kernel
theorem dX6_isText_66 : decode cX6_isText 66 = .ok (.ireturn, 1) := by decide +kernel
set_option maxRecDepth 20000 in
theorem ggX6_placeOfText_X6_textFault : GoodIn wsX6_placeOfText wsX6_textFault := goodIn_r _ [7, 8, 9, 10, 11, 12, 13, 6, 14, 15, 16, 17, 18, 19, 20, 21, 22, 23, 24, 25, 26, 27, 28, 29, 30, 31, 32, 33, 34, 35, 36, 37, 38, 39, 40, 41, 42, 43, 44, 45, 46, 47, 48, 49, 50, 51, 52, 53, 54, 55, 56, 57, 58, 59, 60, 61, 62, 107, 108, 109, 110, 111, 112, 113, 114, 115, 116, 117, 118, 119, 120, 121, 122, 123, 124] (by decide +kernel) (by decide +kernel)
set_option maxRecDepth 20000 in
theorem gX6_placeOfText_X6_textFault : GoodIn wsX6_placeOfText (wsV RX6 187 RX6 yX6_textFault wsX6_textFault) := goodIn_app (goodIn_of _ (by decide +kernel)) ggX6_placeOfText_X6_textFault
set_option maxRecDepth 20000 in
theorem ggX6_placeOfText_X6_meaningBy : GoodIn wsX6_placeOfText wsX6_meaningBy := goodIn_r _ [66, 17, 20, 18, 21, 22, 19, 107, 108, 109, 110, 111, 112, 113, 114, 115, 116, 117, 118, 119, 120, 121, 122, 123, 124] (by decide +kernel) (by decide +kernel)
set_option maxRecDepth 20000 in
theorem gX6_placeOfText_X6_meaningBy : GoodIn wsX6_placeOfText (wsV RX6 103 RX6 yX6_meaningBy wsX6_meaningBy) := goodIn_app (goodIn_of _ (by decide +kernel)) ggX6_placeOfText_X6_meaningBy
set_option maxRecDepth 20000 in
theorem ggX6_placeOfText_X6_makes : GoodIn wsX6_placeOfText wsX6_makes := goodIn_r _ [70, 1, 2, 71, 72, 73, 6, 74, 75, 76, 77, 78, 79, 80, 81, 82, 83, 84, 85, 86, 87, 88, 89, 90, 91, 92, 93, 94, 95, 96, 97, 98, 99, 100, 101, 102, 107, 108, 109, 110, 111, 112, 113, 114, 115, 116, 117, 118, 119, 120, 121, 122, 123, 124] (by decide +kernel) (by decide +kernel)
set_option maxRecDepth 20000 in
theorem gX6_placeOfText_X6_makes : GoodIn wsX6_placeOfText (wsV RX6 172 RX6 yX6_makes wsX6_makes) := goodIn_app (goodIn_of _ (by decide +kernel)) ggX6_placeOfText_X6_makes
set_option maxRecDepth 20000 in
theorem ggX6_placeOfText_X6_isText : GoodIn wsX6_placeOfText wsX6_isText := goodIn_r _ [106, 75, 8, 84, 10, 107, 108, 109, 110, 111, 112, 113, 114, 115, 116, 117, 118, 119, 120, 121, 122, 123, 124] (by decide +kernel) (by decide +kernel)
set_option maxRecDepth 20000 in
theorem gX6_placeOfText_X6_isText : GoodIn wsX6_placeOfText (wsV RX6 191 RX6 yX6_isText wsX6_isText) := goodIn_app (goodIn_of _ (by decide +kernel)) ggX6_placeOfText_X6_isText
theorem dX6_placeOfText_0 : decode cX6_placeOfText 0 = .ok (.aload_n 0, 1) := by decide +kernel
theorem dX6_placeOfText_1 : decode cX6_placeOfText 1 = .ok (.invokevirtual 187, 3) := by decide +kernel
theorem dX6_placeOfText_4 : decode cX6_placeOfText 4 = .ok (.ifCond .lt 6, 3) := by decide +kernel
theorem dX6_placeOfText_7 : decode cX6_placeOfText 7 = .ok (.bipush (-3), 2) := by decide +kernel
theorem dX6_placeOfText_9 : decode cX6_placeOfText 9 = .ok (.ireturn, 1) := by decide +kernel
theorem dX6_placeOfText_10 : decode cX6_placeOfText 10 = .ok (.aload_n 0, 1) := by decide +kernel
theorem dX6_placeOfText_11 : decode cX6_placeOfText 11 = .ok (.aload_n 0, 1) := by decide +kernel
theorem dX6_placeOfText_12 : decode cX6_placeOfText 12 = .ok (.iconst 1, 1) := by decide +kernel
theorem dX6_placeOfText_13 : decode cX6_placeOfText 13 = .ok (.iconst 1, 1) := by decide +kernel
theorem dX6_placeOfText_14 : decode cX6_placeOfText 14 = .ok (.iconst 1, 1) := by decide +kernel
theorem dX6_placeOfText_15 : decode cX6_placeOfText 15 = .ok (.invokevirtual 103, 3) := by decide +kernel
theorem dX6_placeOfText_18 : decode cX6_placeOfText 18 = .ok (.invokevirtual 172, 3) := by decide +kernel
theorem dX6_placeOfText_21 : decode cX6_placeOfText 21 = .ok (.bipush (-5), 2) := by decide +kernel
theorem dX6_placeOfText_23 : decode cX6_placeOfText 23 = .ok (.istore_n 1, 1) := by decide +kernel
theorem dX6_placeOfText_24 : decode cX6_placeOfText 24 = .ok (.iconst 0, 1) := by decide +kernel
theorem dX6_placeOfText_25 : decode cX6_placeOfText 25 = .ok (.istore_n 2, 1) := by decide +kernel
theorem dX6_placeOfText_26 : decode cX6_placeOfText 26 = .ok (.iload_n 2, 1) := by decide +kernel
theorem dX6_placeOfText_27 : decode cX6_placeOfText 27 = .ok (.aload_n 0, 1) := by decide +kernel
theorem dX6_placeOfText_28 : decode cX6_placeOfText 28 = .ok (.getfield 107, 3) := by decide +kernel
theorem dX6_placeOfText_31 : decode cX6_placeOfText 31 = .ok (.if_icmp .ge 28, 3) := by decide +kernel
theorem dX6_placeOfText_34 : decode cX6_placeOfText 34 = .ok (.aload_n 0, 1) := by decide +kernel
theorem dX6_placeOfText_35 : decode cX6_placeOfText 35 = .ok (.aload_n 0, 1) := by decide +kernel
theorem dX6_placeOfText_36 : decode cX6_placeOfText 36 = .ok (.getfield 29, 3) := by decide +kernel
theorem dX6_placeOfText_39 : decode cX6_placeOfText 39 = .ok (.iload_n 2, 1) := by decide +kernel
theorem dX6_placeOfText_40 : decode cX6_placeOfText 40 = .ok (.iaload, 1) := by decide +kernel
theorem dX6_placeOfText_41 : decode cX6_placeOfText 41 = .ok (.invokevirtual 191, 3) := by decide +kernel
theorem dX6_placeOfText_44 : decode cX6_placeOfText 44 = .ok (.ifCond .eq 7, 3) := by decide +kernel
theorem dX6_placeOfText_47 : decode cX6_placeOfText 47 = .ok (.iload_n 2, 1) := by decide +kernel
theorem dX6_placeOfText_48 : decode cX6_placeOfText 48 = .ok (.goto 4, 3) := by decide +kernel
theorem dX6_placeOfText_51 : decode cX6_placeOfText 51 = .ok (.iload_n 1, 1) := by decide +kernel
theorem dX6_placeOfText_52 : decode cX6_placeOfText 52 = .ok (.istore_n 1, 1) := by decide +kernel
theorem dX6_placeOfText_53 : decode cX6_placeOfText 53 = .ok (.iinc 2 1, 3) := by decide +kernel
theorem dX6_placeOfText_56 : decode cX6_placeOfText 56 = .ok (.goto (-30), 3) := by decide +kernel
theorem dX6_placeOfText_59 : decode cX6_placeOfText 59 = .ok (.iload_n 1, 1) := by decide +kernel
theorem dX6_placeOfText_60 : decode cX6_placeOfText 60 = .ok (.ireturn, 1) := by decide +kernel
set_option maxRecDepth 20000 in
theorem ggX6_hearer_X6_isHearer : GoodIn wsX6_hearer wsX6_isHearer := goodIn_r _ [5, 6, 7, 4, 8] (by decide +kernel) (by decide +kernel)
set_option maxRecDepth 20000 in
theorem gX6_hearer_X6_isHearer : GoodIn wsX6_hearer (va_wsS RX6 141 yX6_isHearer wsX6_isHearer) := goodIn_app (goodIn_of _ (by decide +kernel)) ggX6_hearer_X6_isHearer
set_option maxRecDepth 20000 in
theorem ggX6_hearer_X6_in : GoodIn wsX6_hearer wsX6_in := goodIn_r _ [8] (by decide +kernel) (by decide +kernel)
set_option maxRecDepth 20000 in
theorem gX6_hearer_X6_in : GoodIn wsX6_hearer (va_wsS RX6 32 yX6_in wsX6_in) := goodIn_app (goodIn_of _ (by decide +kernel)) ggX6_hearer_X6_in
theorem dX6_hearer_0 : decode cX6_hearer 0 = .ok (.iload_n 1, 1) := by decide +kernel
theorem dX6_hearer_1 : decode cX6_hearer 1 = .ok (.invokestatic 141, 3) := by decide +kernel
theorem dX6_hearer_4 : decode cX6_hearer 4 = .ok (.ifCond .ne 7, 3) := by decide +kernel
theorem dX6_hearer_7 : decode cX6_hearer 7 = .ok (.iconst (-1), 1) := by decide +kernel
theorem dX6_hearer_8 : decode cX6_hearer 8 = .ok (.goto 29, 3) := by decide +kernel
theorem dX6_hearer_11 : decode cX6_hearer 11 = .ok (.iload_n 2, 1) := by decide +kernel
theorem dX6_hearer_12 : decode cX6_hearer 12 = .ok (.iconst 0, 1) := by decide +kernel
theorem dX6_hearer_13 : decode cX6_hearer 13 = .ok (.bipush 8, 2) := by decide +kernel
theorem dX6_hearer_15 : decode cX6_hearer 15 = .ok (.invokestatic 32, 3) := by decide +kernel
theorem dX6_hearer_18 : decode cX6_hearer 18 = .ok (.ifCond .eq 17, 3) := by decide +kernel
theorem dX6_hearer_21 : decode cX6_hearer 21 = .ok (.aload_n 0, 1) := by decide +kernel
theorem dX6_hearer_22 : decode cX6_hearer 22 = .ok (.getfield 7, 3) := by decide +kernel
theorem dX6_hearer_25 : decode cX6_hearer 25 = .ok (.bipush 9, 2) := by decide +kernel
theorem dX6_hearer_27 : decode cX6_hearer 27 = .ok (.iload_n 1, 1) := by decide +kernel
theorem dX6_hearer_28 : decode cX6_hearer 28 = .ok (.imul, 1) := by decide +kernel
theorem dX6_hearer_29 : decode cX6_hearer 29 = .ok (.iload_n 2, 1) := by decide +kernel
theorem dX6_hearer_30 : decode cX6_hearer 30 = .ok (.iadd, 1) := by decide +kernel
theorem dX6_hearer_31 : decode cX6_hearer 31 = .ok (.iaload, 1) := by decide +kernel
theorem dX6_hearer_32 : decode cX6_hearer 32 = .ok (.goto 5, 3) := by decide +kernel
theorem dX6_hearer_35 : decode cX6_hearer 35 = .ok (.bipush (-2), 2) := by decide +kernel
theorem dX6_hearer_37 : decode cX6_hearer 37 = .ok (.ireturn, 1) := by decide +kernel
set_option maxRecDepth 20000 in
theorem ggX6_understood_X6_isHearer : GoodIn wsX6_understood wsX6_isHearer := goodIn_r _ [5, 6, 7, 4, 8] (by decide +kernel) (by decide +kernel)
set_option maxRecDepth 20000 in
theorem gX6_understood_X6_isHearer : GoodIn wsX6_understood (va_wsS RX6 141 yX6_isHearer wsX6_isHearer) := goodIn_app (goodIn_of _ (by decide +kernel)) ggX6_understood_X6_isHearer
set_option maxRecDepth 20000 in
theorem ggX6_understood_X6_isNumber : GoodIn wsX6_understood wsX6_isNumber := goodIn_r _ [11, 6, 7, 4, 8] (by decide +kernel) (by decide +kernel)
set_option maxRecDepth 20000 in
theorem gX6_understood_X6_isNumber : GoodIn wsX6_understood (va_wsS RX6 169 yX6_isNumber wsX6_isNumber) := goodIn_app (goodIn_of _ (by decide +kernel)) ggX6_understood_X6_isNumber
set_option maxRecDepth 20000 in
theorem ggX6_understood_X6_makes : GoodIn wsX6_understood wsX6_makes := goodIn_r _ [15, 1, 16, 17, 18, 19, 4, 20, 21, 22, 23, 24, 25, 26, 27, 28, 29, 30, 31, 32, 33, 34, 35, 36, 37, 6, 7, 8, 38, 39, 40, 41, 42, 43, 44, 45, 112, 113, 114, 115, 116, 117, 118, 119, 120, 121, 122, 123, 124, 125, 126, 127, 128, 129] (by decide +kernel) (by decide +kernel)
set_option maxRecDepth 20000 in
theorem gX6_understood_X6_makes : GoodIn wsX6_understood (wsV RX6 172 RX6 yX6_makes wsX6_makes) := goodIn_app (goodIn_of _ (by decide +kernel)) ggX6_understood_X6_makes
set_option maxRecDepth 20000 in
theorem ggX6_understood_X6_says : GoodIn wsX6_understood wsX6_says := goodIn_r _ [49, 16, 21, 50, 30, 112, 113, 114, 115, 116, 117, 118, 119, 120, 121, 122, 123, 124, 125, 126, 127, 128, 129] (by decide +kernel) (by decide +kernel)
set_option maxRecDepth 20000 in
theorem gX6_understood_X6_says : GoodIn wsX6_understood (wsV RX6 178 RX6 yX6_says wsX6_says) := goodIn_app (goodIn_of _ (by decide +kernel)) ggX6_understood_X6_says
set_option maxRecDepth 20000 in
theorem ggX6_understood_X6_understands : GoodIn wsX6_understood wsX6_understands := goodIn_r _ [54, 55, 56, 57, 58, 4, 59, 60, 61, 62, 63, 64, 65, 66, 67, 68, 69, 70, 71, 72, 73, 74, 75, 76, 77, 78, 79, 50, 80, 81, 82, 83, 84, 85, 86, 87, 88, 89, 90, 91, 92, 93, 94, 95, 96, 97, 98, 99, 100, 101, 102, 103, 104, 105, 106, 107, 108, 109, 110, 111, 112, 113, 114, 115, 116, 117, 118, 119, 120, 121, 122, 123, 124, 125, 126, 127, 128, 129] (by decide +kernel) (by decide +kernel)
set_option maxRecDepth 20000 in
theorem gX6_understood_X6_understands : GoodIn wsX6_understood (wsV RX6 154 RX6 yX6_understands wsX6_understands) := goodIn_app (goodIn_of _ (by decide +kernel)) ggX6_understood_X6_understands
theorem dX6_understood_0 : decode cX6_understood 0 = .ok (.iload_n 1, 1) := by decide +kernel
theorem dX6_understood_1 : decode cX6_understood 1 = .ok (.invokestatic 141, 3) := by decide +kernel
theorem dX6_understood_4 : decode cX6_understood 4 = .ok (.ifCond .ne 5, 3) := by decide +kernel
theorem dX6_understood_7 : decode cX6_understood 7 = .ok (.iconst (-1), 1) := by decide +kernel
theorem dX6_understood_8 : decode cX6_understood 8 = .ok (.ireturn, 1) := by decide +kernel
theorem dX6_understood_9 : decode cX6_understood 9 = .ok (.iload_n 2, 1) := by decide +kernel
theorem dX6_understood_10 : decode cX6_understood 10 = .ok (.invokestatic 169, 3) := by decide +kernel
theorem dX6_understood_13 : decode cX6_understood 13 = .ok (.ifCond .eq 7, 3) := by decide +kernel
theorem dX6_understood_16 : decode cX6_understood 16 = .ok (.iload_n 3, 1) := by decide +kernel
theorem dX6_understood_17 : decode cX6_understood 17 = .ok (.ifCond .ge 6, 3) := by decide +kernel
theorem dX6_understood_20 : decode cX6_understood 20 = .ok (.bipush (-2), 2) := by decide +kernel
theorem dX6_understood_22 : decode cX6_understood 22 = .ok (.ireturn, 1) := by decide +kernel
theorem dX6_understood_23 : decode cX6_understood 23 = .ok (.aload_n 0, 1) := by decide +kernel
theorem dX6_understood_24 : decode cX6_understood 24 = .ok (.iload_n 2, 1) := by decide +kernel
theorem dX6_understood_25 : decode cX6_understood 25 = .ok (.invokevirtual 172, 3) := by decide +kernel
theorem dX6_understood_28 : decode cX6_understood 28 = .ok (.iload_n 3, 1) := by decide +kernel
theorem dX6_understood_29 : decode cX6_understood 29 = .ok (.aload_n 0, 1) := by decide +kernel
theorem dX6_understood_30 : decode cX6_understood 30 = .ok (.getfield 107, 3) := by decide +kernel
theorem dX6_understood_33 : decode cX6_understood 33 = .ok (.if_icmp .lt 6, 3) := by decide +kernel
theorem dX6_understood_36 : decode cX6_understood 36 = .ok (.bipush (-5), 2) := by decide +kernel
theorem dX6_understood_38 : decode cX6_understood 38 = .ok (.ireturn, 1) := by decide +kernel
theorem dX6_understood_39 : decode cX6_understood 39 = .ok (.aload_n 0, 1) := by decide +kernel
theorem dX6_understood_40 : decode cX6_understood 40 = .ok (.iload_n 1, 1) := by decide +kernel
theorem dX6_understood_41 : decode cX6_understood 41 = .ok (.aload_n 0, 1) := by decide +kernel
theorem dX6_understood_42 : decode cX6_understood 42 = .ok (.iload_n 3, 1) := by decide +kernel
theorem dX6_understood_43 : decode cX6_understood 43 = .ok (.invokevirtual 178, 3) := by decide +kernel
theorem dX6_understood_46 : decode cX6_understood 46 = .ok (.invokevirtual 154, 3) := by decide +kernel
theorem dX6_understood_49 : decode cX6_understood 49 = .ok (.istore 4, 2) := by decide +kernel
theorem dX6_understood_51 : decode cX6_understood 51 = .ok (.iload 4, 2) := by decide +kernel
theorem dX6_understood_53 : decode cX6_understood 53 = .ok (.ifCond .ne 8, 3) := by decide +kernel
theorem dX6_understood_56 : decode cX6_understood 56 = .ok (.bipush (-5), 2) := by decide +kernel
theorem dX6_understood_58 : decode cX6_understood 58 = .ok (.goto 5, 3) := by decide +kernel
theorem dX6_understood_61 : decode cX6_understood 61 = .ok (.iload 4, 2) := by decide +kernel
theorem dX6_understood_63 : decode cX6_understood 63 = .ok (.ireturn, 1) := by decide +kernel
set_option maxRecDepth 20000 in
theorem ggX6_understoodText_X6_isHearer : GoodIn wsX6_understoodText wsX6_isHearer := goodIn_r _ [5, 6, 7, 4, 8] (by decide +kernel) (by decide +kernel)
set_option maxRecDepth 20000 in
theorem gX6_understoodText_X6_isHearer : GoodIn wsX6_understoodText (va_wsS RX6 141 yX6_isHearer wsX6_isHearer) := goodIn_app (goodIn_of _ (by decide +kernel)) ggX6_understoodText_X6_isHearer
set_option maxRecDepth 20000 in
theorem ggX6_understoodText_X6_textFault : GoodIn wsX6_understoodText wsX6_textFault := goodIn_r _ [12, 1, 13, 14, 15, 16, 17, 4, 18, 19, 20, 21, 22, 23, 24, 25, 26, 27, 28, 29, 30, 31, 32, 33, 34, 35, 36, 37, 38, 39, 40, 41, 42, 43, 44, 45, 46, 47, 48, 49, 50, 51, 52, 53, 54, 55, 56, 57, 58, 59, 60, 61, 62, 63, 64, 65, 66, 76, 77, 78, 79, 80, 81, 82, 83, 84, 85, 86, 87, 88, 89, 90, 91, 92, 93] (by decide +kernel) (by decide +kernel)
set_option maxRecDepth 20000 in
theorem gX6_understoodText_X6_textFault : GoodIn wsX6_understoodText (wsV RX6 187 RX6 yX6_textFault wsX6_textFault) := goodIn_app (goodIn_of _ (by decide +kernel)) ggX6_understoodText_X6_textFault
set_option maxRecDepth 20000 in
theorem ggX6_understoodText_X6_understands : GoodIn wsX6_understoodText wsX6_understands := goodIn_r _ [70, 71, 15, 16, 17, 4, 18, 19, 20, 21, 22, 23, 24, 25, 26, 27, 28, 29, 30, 31, 32, 33, 34, 35, 36, 37, 38, 13, 39, 40, 41, 42, 43, 44, 45, 46, 47, 48, 49, 50, 51, 52, 53, 54, 55, 56, 57, 58, 59, 60, 61, 62, 63, 64, 65, 66, 72, 73, 74, 75, 76, 77, 78, 79, 80, 81, 82, 83, 84, 85, 86, 87, 88, 89, 90, 91, 92, 93] (by decide +kernel) (by decide +kernel)
set_option maxRecDepth 20000 in
theorem gX6_understoodText_X6_understands : GoodIn wsX6_understoodText (wsV RX6 154 RX6 yX6_understands wsX6_understands) := goodIn_app (goodIn_of _ (by decide +kernel)) ggX6_understoodText_X6_understands
theorem dX6_understoodText_0 : decode cX6_understoodText 0 = .ok (.iload_n 1, 1) := by decide +kernel
theorem dX6_understoodText_1 : decode cX6_understoodText 1 = .ok (.invokestatic 141, 3) := by decide +kernel
theorem dX6_understoodText_4 : decode cX6_understoodText 4 = .ok (.ifCond .ne 5, 3) := by decide +kernel
theorem dX6_understoodText_7 : decode cX6_understoodText 7 = .ok (.iconst (-1), 1) := by decide +kernel
theorem dX6_understoodText_8 : decode cX6_understoodText 8 = .ok (.ireturn, 1) := by decide +kernel
theorem dX6_understoodText_9 : decode cX6_understoodText 9 = .ok (.aload_n 0, 1) := by decide +kernel
theorem dX6_understoodText_10 : decode cX6_understoodText 10 = .ok (.invokevirtual 187, 3) := by decide +kernel
theorem dX6_understoodText_13 : decode cX6_understoodText 13 = .ok (.ifCond .lt 6, 3) := by decide +kernel
theorem dX6_understoodText_16 : decode cX6_understoodText 16 = .ok (.bipush (-3), 2) := by decide +kernel
theorem dX6_understoodText_18 : decode cX6_understoodText 18 = .ok (.ireturn, 1) := by decide +kernel
theorem dX6_understoodText_19 : decode cX6_understoodText 19 = .ok (.aload_n 0, 1) := by decide +kernel
theorem dX6_understoodText_20 : decode cX6_understoodText 20 = .ok (.iload_n 1, 1) := by decide +kernel
theorem dX6_understoodText_21 : decode cX6_understoodText 21 = .ok (.aload_n 0, 1) := by decide +kernel
theorem dX6_understoodText_22 : decode cX6_understoodText 22 = .ok (.getfield 184, 3) := by decide +kernel
theorem dX6_understoodText_25 : decode cX6_understoodText 25 = .ok (.invokevirtual 154, 3) := by decide +kernel
theorem dX6_understoodText_28 : decode cX6_understoodText 28 = .ok (.istore_n 2, 1) := by decide +kernel
theorem dX6_understoodText_29 : decode cX6_understoodText 29 = .ok (.iload_n 2, 1) := by decide +kernel
theorem dX6_understoodText_30 : decode cX6_understoodText 30 = .ok (.ifCond .ne 8, 3) := by decide +kernel
theorem dX6_understoodText_33 : decode cX6_understoodText 33 = .ok (.bipush (-5), 2) := by decide +kernel
theorem dX6_understoodText_35 : decode cX6_understoodText 35 = .ok (.goto 4, 3) := by decide +kernel
theorem dX6_understoodText_38 : decode cX6_understoodText 38 = .ok (.iload_n 2, 1) := by decide +kernel
theorem dX6_understoodText_39 : decode cX6_understoodText 39 = .ok (.ireturn, 1) := by decide +kernel
set_option maxRecDepth 20000 in
theorem ggX6_best_X6_makes : GoodIn wsX6_best wsX6_makes := goodIn_r _ [6, 1, 7, 8, 9, 10, 5, 11, 12, 13, 14, 15, 16, 17, 18, 19, 20, 21, 22, 23, 24, 25, 26, 27, 28, 29, 30, 31, 32, 33, 34, 35, 36, 37, 38, 39, 106, 107, 108, 109, 110, 111, 112, 113, 114, 115, 116, 117, 118, 119, 120, 121, 122, 123] (by decide +kernel) (by decide +kernel)
set_option maxRecDepth 20000 in
theorem gX6_best_X6_makes : GoodIn wsX6_best (wsV RX6 172 RX6 yX6_makes wsX6_makes) := goodIn_app (goodIn_of _ (by decide +kernel)) ggX6_best_X6_makes
set_option maxRecDepth 20000 in
theorem ggX6_best_X6_says : GoodIn wsX6_best wsX6_says := goodIn_r _ [43, 7, 12, 44, 21, 106, 107, 108, 109, 110, 111, 112, 113, 114, 115, 116, 117, 118, 119, 120, 121, 122, 123] (by decide +kernel) (by decide +kernel)
set_option maxRecDepth 20000 in
theorem gX6_best_X6_says : GoodIn wsX6_best (wsV RX6 178 RX6 yX6_says wsX6_says) := goodIn_app (goodIn_of _ (by decide +kernel)) ggX6_best_X6_says
set_option maxRecDepth 20000 in
theorem ggX6_best_X6_understands : GoodIn wsX6_best wsX6_understands := goodIn_r _ [48, 49, 50, 51, 52, 5, 53, 54, 55, 56, 57, 58, 59, 60, 61, 62, 63, 64, 65, 66, 67, 68, 69, 70, 71, 72, 73, 44, 74, 75, 76, 77, 78, 79, 80, 81, 82, 83, 84, 85, 86, 87, 88, 89, 90, 91, 92, 93, 94, 95, 96, 97, 98, 99, 100, 101, 102, 103, 104, 105, 106, 107, 108, 109, 110, 111, 112, 113, 114, 115, 116, 117, 118, 119, 120, 121, 122, 123] (by decide +kernel) (by decide +kernel)
set_option maxRecDepth 20000 in
theorem gX6_best_X6_understands : GoodIn wsX6_best (wsV RX6 154 RX6 yX6_understands wsX6_understands) := goodIn_app (goodIn_of _ (by decide +kernel)) ggX6_best_X6_understands
theorem dX6_best_0 : decode cX6_best 0 = .ok (.aload_n 0, 1) := by decide +kernel
theorem dX6_best_1 : decode cX6_best 1 = .ok (.iload_n 2, 1) := by decide +kernel
theorem dX6_best_2 : decode cX6_best 2 = .ok (.invokevirtual 172, 3) := by decide +kernel
theorem dX6_best_5 : decode cX6_best 5 = .ok (.bipush (-5), 2) := by decide +kernel
theorem dX6_best_7 : decode cX6_best 7 = .ok (.istore_n 3, 1) := by decide +kernel
theorem dX6_best_8 : decode cX6_best 8 = .ok (.aload_n 0, 1) := by decide +kernel
theorem dX6_best_9 : decode cX6_best 9 = .ok (.getfield 107, 3) := by decide +kernel
theorem dX6_best_12 : decode cX6_best 12 = .ok (.iconst 1, 1) := by decide +kernel
theorem dX6_best_13 : decode cX6_best 13 = .ok (.isub, 1) := by decide +kernel
theorem dX6_best_14 : decode cX6_best 14 = .ok (.istore 4, 2) := by decide +kernel
theorem dX6_best_16 : decode cX6_best 16 = .ok (.iload 4, 2) := by decide +kernel
theorem dX6_best_18 : decode cX6_best 18 = .ok (.ifCond .lt 31, 3) := by decide +kernel
theorem dX6_best_21 : decode cX6_best 21 = .ok (.aload_n 0, 1) := by decide +kernel
theorem dX6_best_22 : decode cX6_best 22 = .ok (.iload_n 1, 1) := by decide +kernel
theorem dX6_best_23 : decode cX6_best 23 = .ok (.aload_n 0, 1) := by decide +kernel
theorem dX6_best_24 : decode cX6_best 24 = .ok (.iload 4, 2) := by decide +kernel
theorem dX6_best_26 : decode cX6_best 26 = .ok (.invokevirtual 178, 3) := by decide +kernel
theorem dX6_best_29 : decode cX6_best 29 = .ok (.invokevirtual 154, 3) := by decide +kernel
theorem dX6_best_32 : decode cX6_best 32 = .ok (.iload_n 2, 1) := by decide +kernel
theorem dX6_best_33 : decode cX6_best 33 = .ok (.if_icmp .ne 8, 3) := by decide +kernel
theorem dX6_best_36 : decode cX6_best 36 = .ok (.iload 4, 2) := by decide +kernel
theorem dX6_best_38 : decode cX6_best 38 = .ok (.goto 4, 3) := by decide +kernel
theorem dX6_best_41 : decode cX6_best 41 = .ok (.iload_n 3, 1) := by decide +kernel
theorem dX6_best_42 : decode cX6_best 42 = .ok (.istore_n 3, 1) := by decide +kernel
theorem dX6_best_43 : decode cX6_best 43 = .ok (.iinc 4 (-1), 3) := by decide +kernel
theorem dX6_best_46 : decode cX6_best 46 = .ok (.goto (-30), 3) := by decide +kernel
theorem dX6_best_49 : decode cX6_best 49 = .ok (.iload_n 3, 1) := by decide +kernel
theorem dX6_best_50 : decode cX6_best 50 = .ok (.ireturn, 1) := by decide +kernel
set_option maxRecDepth 20000 in
theorem ggX6_bestWay_X6_isHearer : GoodIn wsX6_bestWay wsX6_isHearer := goodIn_r _ [4, 5, 6, 3, 7] (by decide +kernel) (by decide +kernel)
set_option maxRecDepth 20000 in
theorem gX6_bestWay_X6_isHearer : GoodIn wsX6_bestWay (va_wsS RX6 141 yX6_isHearer wsX6_isHearer) := goodIn_app (goodIn_of _ (by decide +kernel)) ggX6_bestWay_X6_isHearer
set_option maxRecDepth 20000 in
theorem ggX6_bestWay_X6_isNumber : GoodIn wsX6_bestWay wsX6_isNumber := goodIn_r _ [10, 5, 6, 3, 7] (by decide +kernel) (by decide +kernel)
set_option maxRecDepth 20000 in
theorem gX6_bestWay_X6_isNumber : GoodIn wsX6_bestWay (va_wsS RX6 169 yX6_isNumber wsX6_isNumber) := goodIn_app (goodIn_of _ (by decide +kernel)) ggX6_bestWay_X6_isNumber
set_option maxRecDepth 20000 in
theorem ggX6_bestWay_X6_best : GoodIn wsX6_bestWay wsX6_best := goodIn_r _ [14, 15, 16, 17, 18, 3, 19, 20, 21, 22, 23, 24, 25, 26, 27, 28, 29, 30, 31, 32, 33, 34, 35, 36, 37, 38, 39, 40, 41, 5, 6, 7, 42, 43, 44, 45, 46, 47, 48, 49, 50, 51, 52, 53, 54, 55, 56, 57, 58, 59, 60, 61, 62, 63, 64, 65, 66, 67, 68, 69, 70, 71, 72, 73, 74, 75, 76, 77, 78, 79, 80, 81, 82, 83, 84, 85, 86, 87, 88, 89, 90, 91, 92, 93, 94, 95, 96, 97, 98, 99, 100, 101, 102, 103, 104, 105, 106, 107, 108, 109, 110, 111, 112, 113, 114, 115, 116, 117, 118, 119, 120, 121, 122, 123, 124, 125, 126, 127, 128, 129, 130, 131, 132, 133] (by decide +kernel) (by decide +kernel)
set_option maxRecDepth 20000 in
theorem gX6_bestWay_X6_best : GoodIn wsX6_bestWay (wsV RX6 194 RX6 yX6_best wsX6_best) := goodIn_app (goodIn_of _ (by decide +kernel)) ggX6_bestWay_X6_best
theorem dX6_bestWay_0 : decode cX6_bestWay 0 = .ok (.iload_n 1, 1) := by decide +kernel
theorem dX6_bestWay_1 : decode cX6_bestWay 1 = .ok (.invokestatic 141, 3) := by decide +kernel
theorem dX6_bestWay_4 : decode cX6_bestWay 4 = .ok (.ifCond .ne 7, 3) := by decide +kernel
theorem dX6_bestWay_7 : decode cX6_bestWay 7 = .ok (.iconst (-1), 1) := by decide +kernel
theorem dX6_bestWay_8 : decode cX6_bestWay 8 = .ok (.goto 21, 3) := by decide +kernel
theorem dX6_bestWay_11 : decode cX6_bestWay 11 = .ok (.iload_n 2, 1) := by decide +kernel
theorem dX6_bestWay_12 : decode cX6_bestWay 12 = .ok (.invokestatic 169, 3) := by decide +kernel
theorem dX6_bestWay_15 : decode cX6_bestWay 15 = .ok (.ifCond .eq 12, 3) := by decide +kernel
theorem dX6_bestWay_18 : decode cX6_bestWay 18 = .ok (.aload_n 0, 1) := by decide +kernel
theorem dX6_bestWay_19 : decode cX6_bestWay 19 = .ok (.iload_n 1, 1) := by decide +kernel
theorem dX6_bestWay_20 : decode cX6_bestWay 20 = .ok (.iload_n 2, 1) := by decide +kernel
theorem dX6_bestWay_21 : decode cX6_bestWay 21 = .ok (.invokevirtual 194, 3) := by decide +kernel
theorem dX6_bestWay_24 : decode cX6_bestWay 24 = .ok (.goto 5, 3) := by decide +kernel
theorem dX6_bestWay_27 : decode cX6_bestWay 27 = .ok (.bipush (-2), 2) := by decide +kernel
theorem dX6_bestWay_29 : decode cX6_bestWay 29 = .ok (.ireturn, 1) := by decide +kernel
set_option maxRecDepth 20000 in
theorem ggX6_reached_X6_says : GoodIn wsX6_reached wsX6_says := goodIn_r _ [5, 6, 7, 8, 9, 71, 72, 73, 74, 75, 76, 77, 78, 79, 80, 81, 82, 83, 84, 85, 86, 87, 88] (by decide +kernel) (by decide +kernel)
set_option maxRecDepth 20000 in
theorem gX6_reached_X6_says : GoodIn wsX6_reached (wsV RX6 178 RX6 yX6_says wsX6_says) := goodIn_app (goodIn_of _ (by decide +kernel)) ggX6_reached_X6_says
set_option maxRecDepth 20000 in
theorem ggX6_reached_X6_understands : GoodIn wsX6_reached wsX6_understands := goodIn_r _ [13, 14, 15, 16, 17, 4, 18, 19, 20, 21, 22, 23, 24, 25, 26, 27, 28, 29, 30, 31, 32, 33, 34, 35, 36, 37, 38, 8, 39, 40, 41, 42, 43, 44, 45, 46, 47, 48, 49, 50, 51, 52, 53, 54, 55, 56, 57, 58, 59, 60, 61, 62, 63, 64, 65, 66, 67, 68, 69, 70, 71, 72, 73, 74, 75, 76, 77, 78, 79, 80, 81, 82, 83, 84, 85, 86, 87, 88] (by decide +kernel) (by decide +kernel)
set_option maxRecDepth 20000 in
theorem gX6_reached_X6_understands : GoodIn wsX6_reached (wsV RX6 154 RX6 yX6_understands wsX6_understands) := goodIn_app (goodIn_of _ (by decide +kernel)) ggX6_reached_X6_understands
theorem dX6_reached_0 : decode cX6_reached 0 = .ok (.aload_n 0, 1) := by decide +kernel
theorem dX6_reached_1 : decode cX6_reached 1 = .ok (.iload_n 1, 1) := by decide +kernel
theorem dX6_reached_2 : decode cX6_reached 2 = .ok (.invokevirtual 178, 3) := by decide +kernel
theorem dX6_reached_5 : decode cX6_reached 5 = .ok (.istore_n 3, 1) := by decide +kernel
theorem dX6_reached_6 : decode cX6_reached 6 = .ok (.iconst 0, 1) := by decide +kernel
theorem dX6_reached_7 : decode cX6_reached 7 = .ok (.istore 4, 2) := by decide +kernel
theorem dX6_reached_9 : decode cX6_reached 9 = .ok (.iconst 0, 1) := by decide +kernel
theorem dX6_reached_10 : decode cX6_reached 10 = .ok (.istore 5, 2) := by decide +kernel
theorem dX6_reached_12 : decode cX6_reached 12 = .ok (.iload 5, 2) := by decide +kernel
theorem dX6_reached_14 : decode cX6_reached 14 = .ok (.bipush 6, 2) := by decide +kernel
theorem dX6_reached_16 : decode cX6_reached 16 = .ok (.if_icmp .ge 30, 3) := by decide +kernel
theorem dX6_reached_19 : decode cX6_reached 19 = .ok (.iload 4, 2) := by decide +kernel
theorem dX6_reached_21 : decode cX6_reached 21 = .ok (.aload_n 0, 1) := by decide +kernel
theorem dX6_reached_22 : decode cX6_reached 22 = .ok (.iload 5, 2) := by decide +kernel
theorem dX6_reached_24 : decode cX6_reached 24 = .ok (.iload_n 3, 1) := by decide +kernel
theorem dX6_reached_25 : decode cX6_reached 25 = .ok (.invokevirtual 154, 3) := by decide +kernel
theorem dX6_reached_28 : decode cX6_reached 28 = .ok (.iload_n 2, 1) := by decide +kernel
theorem dX6_reached_29 : decode cX6_reached 29 = .ok (.if_icmp .ne 7, 3) := by decide +kernel
theorem dX6_reached_32 : decode cX6_reached 32 = .ok (.iconst 1, 1) := by decide +kernel
theorem dX6_reached_33 : decode cX6_reached 33 = .ok (.goto 4, 3) := by decide +kernel
theorem dX6_reached_36 : decode cX6_reached 36 = .ok (.iconst 0, 1) := by decide +kernel
theorem dX6_reached_37 : decode cX6_reached 37 = .ok (.iadd, 1) := by decide +kernel
theorem dX6_reached_38 : decode cX6_reached 38 = .ok (.istore 4, 2) := by decide +kernel
theorem dX6_reached_40 : decode cX6_reached 40 = .ok (.iinc 5 1, 3) := by decide +kernel
theorem dX6_reached_43 : decode cX6_reached 43 = .ok (.goto (-31), 3) := by decide +kernel
theorem dX6_reached_46 : decode cX6_reached 46 = .ok (.iload 4, 2) := by decide +kernel
theorem dX6_reached_48 : decode cX6_reached 48 = .ok (.ireturn, 1) := by decide +kernel
set_option maxRecDepth 20000 in
theorem ggX6_commonWay_X6_isNumber : GoodIn wsX6_commonWay wsX6_isNumber := goodIn_r _ [5, 6, 7, 4, 8] (by decide +kernel) (by decide +kernel)
set_option maxRecDepth 20000 in
theorem gX6_commonWay_X6_isNumber : GoodIn wsX6_commonWay (va_wsS RX6 169 yX6_isNumber wsX6_isNumber) := goodIn_app (goodIn_of _ (by decide +kernel)) ggX6_commonWay_X6_isNumber
set_option maxRecDepth 20000 in
theorem ggX6_commonWay_X6_makes : GoodIn wsX6_commonWay wsX6_makes := goodIn_r _ [12, 1, 13, 14, 15, 16, 4, 17, 18, 19, 20, 21, 22, 23, 24, 25, 26, 27, 28, 29, 30, 31, 32, 33, 34, 6, 7, 8, 35, 36, 37, 38, 39, 40, 41, 42, 113, 114, 115, 116, 117, 118, 119, 120, 121, 122, 123, 124, 125, 126, 127, 128, 129, 130] (by decide +kernel) (by decide +kernel)
set_option maxRecDepth 20000 in
theorem gX6_commonWay_X6_makes : GoodIn wsX6_commonWay (wsV RX6 172 RX6 yX6_makes wsX6_makes) := goodIn_app (goodIn_of _ (by decide +kernel)) ggX6_commonWay_X6_makes
set_option maxRecDepth 20000 in
theorem ggX6_commonWay_X6_reached : GoodIn wsX6_commonWay wsX6_reached := goodIn_r _ [46, 47, 48, 49, 4, 50, 13, 18, 51, 27, 52, 53, 54, 55, 56, 57, 58, 59, 60, 61, 62, 63, 64, 65, 66, 67, 68, 69, 70, 71, 72, 73, 74, 75, 76, 77, 78, 79, 80, 81, 82, 83, 84, 85, 86, 87, 88, 89, 90, 91, 92, 93, 94, 95, 96, 97, 98, 99, 100, 101, 102, 103, 104, 105, 106, 107, 108, 109, 110, 111, 112, 113, 114, 115, 116, 117, 118, 119, 120, 121, 122, 123, 124, 125, 126, 127, 128, 129, 130] (by decide +kernel) (by decide +kernel)
set_option maxRecDepth 20000 in
theorem gX6_commonWay_X6_reached : GoodIn wsX6_commonWay (wsV RX6 197 RX6 yX6_reached wsX6_reached) := goodIn_app (goodIn_of _ (by decide +kernel)) ggX6_commonWay_X6_reached
theorem dX6_commonWay_0 : decode cX6_commonWay 0 = .ok (.iload_n 1, 1) := by decide +kernel
theorem dX6_commonWay_1 : decode cX6_commonWay 1 = .ok (.invokestatic 169, 3) := by decide +kernel
theorem dX6_commonWay_4 : decode cX6_commonWay 4 = .ok (.ifCond .ne 6, 3) := by decide +kernel
theorem dX6_commonWay_7 : decode cX6_commonWay 7 = .ok (.bipush (-2), 2) := by decide +kernel
theorem dX6_commonWay_9 : decode cX6_commonWay 9 = .ok (.ireturn, 1) := by decide +kernel
theorem dX6_commonWay_10 : decode cX6_commonWay 10 = .ok (.aload_n 0, 1) := by decide +kernel
theorem dX6_commonWay_11 : decode cX6_commonWay 11 = .ok (.iload_n 1, 1) := by decide +kernel
theorem dX6_commonWay_12 : decode cX6_commonWay 12 = .ok (.invokevirtual 172, 3) := by decide +kernel
theorem dX6_commonWay_15 : decode cX6_commonWay 15 = .ok (.iconst 0, 1) := by decide +kernel
theorem dX6_commonWay_16 : decode cX6_commonWay 16 = .ok (.istore_n 2, 1) := by decide +kernel
theorem dX6_commonWay_17 : decode cX6_commonWay 17 = .ok (.iconst (-1), 1) := by decide +kernel
theorem dX6_commonWay_18 : decode cX6_commonWay 18 = .ok (.istore_n 3, 1) := by decide +kernel
theorem dX6_commonWay_19 : decode cX6_commonWay 19 = .ok (.iconst 0, 1) := by decide +kernel
theorem dX6_commonWay_20 : decode cX6_commonWay 20 = .ok (.istore 4, 2) := by decide +kernel
theorem dX6_commonWay_22 : decode cX6_commonWay 22 = .ok (.iload 4, 2) := by decide +kernel
theorem dX6_commonWay_24 : decode cX6_commonWay 24 = .ok (.aload_n 0, 1) := by decide +kernel
theorem dX6_commonWay_25 : decode cX6_commonWay 25 = .ok (.getfield 107, 3) := by decide +kernel
theorem dX6_commonWay_28 : decode cX6_commonWay 28 = .ok (.if_icmp .ge 44, 3) := by decide +kernel
theorem dX6_commonWay_31 : decode cX6_commonWay 31 = .ok (.aload_n 0, 1) := by decide +kernel
theorem dX6_commonWay_32 : decode cX6_commonWay 32 = .ok (.iload 4, 2) := by decide +kernel
theorem dX6_commonWay_34 : decode cX6_commonWay 34 = .ok (.iload_n 1, 1) := by decide +kernel
theorem dX6_commonWay_35 : decode cX6_commonWay 35 = .ok (.invokevirtual 197, 3) := by decide +kernel
theorem dX6_commonWay_38 : decode cX6_commonWay 38 = .ok (.istore 5, 2) := by decide +kernel
theorem dX6_commonWay_40 : decode cX6_commonWay 40 = .ok (.iload 5, 2) := by decide +kernel
theorem dX6_commonWay_42 : decode cX6_commonWay 42 = .ok (.iload_n 3, 1) := by decide +kernel
theorem dX6_commonWay_43 : decode cX6_commonWay 43 = .ok (.if_icmp .le 8, 3) := by decide +kernel
theorem dX6_commonWay_46 : decode cX6_commonWay 46 = .ok (.iload 4, 2) := by decide +kernel
theorem dX6_commonWay_48 : decode cX6_commonWay 48 = .ok (.goto 4, 3) := by decide +kernel
theorem dX6_commonWay_51 : decode cX6_commonWay 51 = .ok (.iload_n 2, 1) := by decide +kernel
theorem dX6_commonWay_52 : decode cX6_commonWay 52 = .ok (.istore_n 2, 1) := by decide +kernel
theorem dX6_commonWay_53 : decode cX6_commonWay 53 = .ok (.iload 5, 2) := by decide +kernel
theorem dX6_commonWay_55 : decode cX6_commonWay 55 = .ok (.iload_n 3, 1) := by decide +kernel
theorem dX6_commonWay_56 : decode cX6_commonWay 56 = .ok (.if_icmp .le 8, 3) := by decide +kernel
theorem dX6_commonWay_59 : decode cX6_commonWay 59 = .ok (.iload 5, 2) := by decide +kernel
theorem dX6_commonWay_61 : decode cX6_commonWay 61 = .ok (.goto 4, 3) := by decide +kernel
theorem dX6_commonWay_64 : decode cX6_commonWay 64 = .ok (.iload_n 3, 1) := by decide +kernel
theorem dX6_commonWay_65 : decode cX6_commonWay 65 = .ok (.istore_n 3, 1) := by decide +kernel
theorem dX6_commonWay_66 : decode cX6_commonWay 66 = .ok (.iinc 4 1, 3) := by decide +kernel
theorem dX6_commonWay_69 : decode cX6_commonWay 69 = .ok (.goto (-47), 3) := by decide +kernel
theorem dX6_commonWay_72 : decode cX6_commonWay 72 = .ok (.iload_n 2, 1) := by decide +kernel
theorem dX6_commonWay_73 : decode cX6_commonWay 73 = .ok (.ireturn, 1) := by decide +kernel
set_option maxRecDepth 20000 in
theorem ggX6_reach_X6_in : GoodIn wsX6_reach wsX6_in := goodIn_r _ [4] (by decide +kernel) (by decide +kernel)
set_option maxRecDepth 20000 in
theorem gX6_reach_X6_in : GoodIn wsX6_reach (va_wsS RX6 32 yX6_in wsX6_in) := goodIn_app (goodIn_of _ (by decide +kernel)) ggX6_reach_X6_in
set_option maxRecDepth 20000 in
theorem ggX6_reach_X6_isNumber : GoodIn wsX6_reach wsX6_isNumber := goodIn_r _ [7, 1, 2, 3, 4] (by decide +kernel) (by decide +kernel)
set_option maxRecDepth 20000 in
theorem gX6_reach_X6_isNumber : GoodIn wsX6_reach (va_wsS RX6 169 yX6_isNumber wsX6_isNumber) := goodIn_app (goodIn_of _ (by decide +kernel)) ggX6_reach_X6_isNumber
set_option maxRecDepth 20000 in
theorem ggX6_reach_X6_makes : GoodIn wsX6_reach wsX6_makes := goodIn_r _ [11, 12, 13, 14, 15, 16, 3, 17, 18, 19, 20, 21, 22, 23, 24, 25, 26, 27, 28, 29, 30, 31, 32, 33, 34, 1, 2, 4, 35, 36, 37, 38, 39, 40, 41, 42, 121, 122, 123, 124, 125, 126, 127, 128, 129, 130, 131, 132, 133, 134, 135, 136, 137, 138] (by decide +kernel) (by decide +kernel)
set_option maxRecDepth 20000 in
theorem gX6_reach_X6_makes : GoodIn wsX6_reach (wsV RX6 172 RX6 yX6_makes wsX6_makes) := goodIn_app (goodIn_of _ (by decide +kernel)) ggX6_reach_X6_makes
set_option maxRecDepth 20000 in
theorem ggX6_reach_X6_placeOf : GoodIn wsX6_reach wsX6_placeOf := goodIn_r _ [46, 12, 13, 47, 48, 49, 3, 50, 18, 27, 121, 122, 123, 124, 125, 126, 127, 128, 129, 130, 131, 132, 133, 134, 135, 136, 137, 138] (by decide +kernel) (by decide +kernel)
set_option maxRecDepth 20000 in
theorem gX6_reach_X6_placeOf : GoodIn wsX6_reach (wsV RX6 175 RX6 yX6_placeOf wsX6_placeOf) := goodIn_app (goodIn_of _ (by decide +kernel)) ggX6_reach_X6_placeOf
set_option maxRecDepth 20000 in
theorem ggX6_reach_X6_reached : GoodIn wsX6_reach wsX6_reached := goodIn_r _ [54, 55, 56, 57, 3, 58, 13, 18, 59, 27, 60, 61, 62, 63, 64, 65, 66, 67, 68, 69, 70, 71, 72, 73, 74, 75, 76, 77, 78, 79, 80, 81, 82, 83, 84, 85, 86, 87, 88, 89, 90, 91, 92, 93, 94, 95, 96, 97, 98, 99, 100, 101, 102, 103, 104, 105, 106, 107, 108, 109, 110, 111, 112, 113, 114, 115, 116, 117, 118, 119, 120, 121, 122, 123, 124, 125, 126, 127, 128, 129, 130, 131, 132, 133, 134, 135, 136, 137, 138] (by decide +kernel) (by decide +kernel)
set_option maxRecDepth 20000 in
theorem gX6_reach_X6_reached : GoodIn wsX6_reach (wsV RX6 197 RX6 yX6_reached wsX6_reached) := goodIn_app (goodIn_of _ (by decide +kernel)) ggX6_reach_X6_reached
theorem dX6_reach_0 : decode cX6_reach 0 = .ok (.iload_n 2, 1) := by decide +kernel
theorem dX6_reach_1 : decode cX6_reach 1 = .ok (.iconst 0, 1) := by decide +kernel
theorem dX6_reach_2 : decode cX6_reach 2 = .ok (.iconst 3, 1) := by decide +kernel
theorem dX6_reach_3 : decode cX6_reach 3 = .ok (.invokestatic 32, 3) := by decide +kernel
theorem dX6_reach_6 : decode cX6_reach 6 = .ok (.ifCond .ne 5, 3) := by decide +kernel
theorem dX6_reach_9 : decode cX6_reach 9 = .ok (.iconst (-1), 1) := by decide +kernel
theorem dX6_reach_10 : decode cX6_reach 10 = .ok (.ireturn, 1) := by decide +kernel
theorem dX6_reach_11 : decode cX6_reach 11 = .ok (.iload_n 1, 1) := by decide +kernel
theorem dX6_reach_12 : decode cX6_reach 12 = .ok (.invokestatic 169, 3) := by decide +kernel
theorem dX6_reach_15 : decode cX6_reach 15 = .ok (.ifCond .ne 6, 3) := by decide +kernel
theorem dX6_reach_18 : decode cX6_reach 18 = .ok (.bipush (-2), 2) := by decide +kernel
theorem dX6_reach_20 : decode cX6_reach 20 = .ok (.ireturn, 1) := by decide +kernel
theorem dX6_reach_21 : decode cX6_reach 21 = .ok (.aload_n 0, 1) := by decide +kernel
theorem dX6_reach_22 : decode cX6_reach 22 = .ok (.iload_n 1, 1) := by decide +kernel
theorem dX6_reach_23 : decode cX6_reach 23 = .ok (.invokevirtual 172, 3) := by decide +kernel
theorem dX6_reach_26 : decode cX6_reach 26 = .ok (.aload_n 0, 1) := by decide +kernel
theorem dX6_reach_27 : decode cX6_reach 27 = .ok (.aload_n 0, 1) := by decide +kernel
theorem dX6_reach_28 : decode cX6_reach 28 = .ok (.iload_n 2, 1) := by decide +kernel
theorem dX6_reach_29 : decode cX6_reach 29 = .ok (.invokevirtual 175, 3) := by decide +kernel
theorem dX6_reach_32 : decode cX6_reach 32 = .ok (.iload_n 1, 1) := by decide +kernel
theorem dX6_reach_33 : decode cX6_reach 33 = .ok (.invokevirtual 197, 3) := by decide +kernel
theorem dX6_reach_36 : decode cX6_reach 36 = .ok (.ireturn, 1) := by decide +kernel
set_option maxRecDepth 20000 in
theorem ggX6_untellable_X6_isHearer : GoodIn wsX6_untellable wsX6_isHearer := goodIn_r _ [4, 5, 6, 3, 7] (by decide +kernel) (by decide +kernel)
set_option maxRecDepth 20000 in
theorem gX6_untellable_X6_isHearer : GoodIn wsX6_untellable (va_wsS RX6 141 yX6_isHearer wsX6_isHearer) := goodIn_app (goodIn_of _ (by decide +kernel)) ggX6_untellable_X6_isHearer
set_option maxRecDepth 20000 in
theorem ggX6_untellable_X6_isNumber : GoodIn wsX6_untellable wsX6_isNumber := goodIn_r _ [10, 5, 6, 3, 7] (by decide +kernel) (by decide +kernel)
set_option maxRecDepth 20000 in
theorem gX6_untellable_X6_isNumber : GoodIn wsX6_untellable (va_wsS RX6 169 yX6_isNumber wsX6_isNumber) := goodIn_app (goodIn_of _ (by decide +kernel)) ggX6_untellable_X6_isNumber
set_option maxRecDepth 20000 in
theorem ggX6_untellable_X6_in : GoodIn wsX6_untellable wsX6_in := goodIn_r _ [7] (by decide +kernel) (by decide +kernel)
set_option maxRecDepth 20000 in
theorem gX6_untellable_X6_in : GoodIn wsX6_untellable (va_wsS RX6 32 yX6_in wsX6_in) := goodIn_app (goodIn_of _ (by decide +kernel)) ggX6_untellable_X6_in
set_option maxRecDepth 20000 in
theorem ggX6_untellable_X6_best : GoodIn wsX6_untellable wsX6_best := goodIn_r _ [14, 15, 16, 17, 18, 3, 19, 20, 21, 22, 23, 24, 25, 26, 27, 28, 29, 30, 31, 32, 33, 34, 35, 36, 37, 38, 39, 40, 41, 5, 6, 7, 42, 43, 44, 45, 46, 47, 48, 49, 50, 51, 52, 53, 54, 55, 56, 57, 58, 59, 60, 61, 62, 63, 64, 65, 66, 67, 68, 69, 70, 71, 72, 73, 74, 75, 76, 77, 78, 79, 80, 81, 82, 83, 84, 85, 86, 87, 88, 89, 90, 91, 92, 93, 94, 95, 96, 97, 98, 99, 100, 101, 102, 103, 104, 105, 106, 107, 108, 109, 110, 111, 112, 113, 114, 115, 116, 117, 118, 119, 120, 121, 122, 123, 124, 125, 126, 127, 128, 129, 130, 131, 132, 133] (by decide +kernel) (by decide +kernel)
set_option maxRecDepth 20000 in
theorem gX6_untellable_X6_best : GoodIn wsX6_untellable (wsV RX6 194 RX6 yX6_best wsX6_best) := goodIn_app (goodIn_of _ (by decide +kernel)) ggX6_untellable_X6_best
theorem dX6_untellable_0 : decode cX6_untellable 0 = .ok (.iload_n 1, 1) := by decide +kernel
theorem dX6_untellable_1 : decode cX6_untellable 1 = .ok (.invokestatic 141, 3) := by decide +kernel
theorem dX6_untellable_4 : decode cX6_untellable 4 = .ok (.ifCond .ne 5, 3) := by decide +kernel
theorem dX6_untellable_7 : decode cX6_untellable 7 = .ok (.iconst (-1), 1) := by decide +kernel
theorem dX6_untellable_8 : decode cX6_untellable 8 = .ok (.ireturn, 1) := by decide +kernel
theorem dX6_untellable_9 : decode cX6_untellable 9 = .ok (.iload_n 2, 1) := by decide +kernel
theorem dX6_untellable_10 : decode cX6_untellable 10 = .ok (.invokestatic 169, 3) := by decide +kernel
theorem dX6_untellable_13 : decode cX6_untellable 13 = .ok (.ifCond .eq 13, 3) := by decide +kernel
theorem dX6_untellable_16 : decode cX6_untellable 16 = .ok (.iload_n 3, 1) := by decide +kernel
theorem dX6_untellable_17 : decode cX6_untellable 17 = .ok (.iconst 1, 1) := by decide +kernel
theorem dX6_untellable_18 : decode cX6_untellable 18 = .ok (.bipush 40, 2) := by decide +kernel
theorem dX6_untellable_20 : decode cX6_untellable 20 = .ok (.invokestatic 32, 3) := by decide +kernel
theorem dX6_untellable_23 : decode cX6_untellable 23 = .ok (.ifCond .ne 6, 3) := by decide +kernel
theorem dX6_untellable_26 : decode cX6_untellable 26 = .ok (.bipush (-2), 2) := by decide +kernel
theorem dX6_untellable_28 : decode cX6_untellable 28 = .ok (.ireturn, 1) := by decide +kernel
theorem dX6_untellable_29 : decode cX6_untellable 29 = .ok (.iconst 0, 1) := by decide +kernel
theorem dX6_untellable_30 : decode cX6_untellable 30 = .ok (.istore 4, 2) := by decide +kernel
theorem dX6_untellable_32 : decode cX6_untellable 32 = .ok (.iload_n 2, 1) := by decide +kernel
theorem dX6_untellable_33 : decode cX6_untellable 33 = .ok (.istore 5, 2) := by decide +kernel
theorem dX6_untellable_35 : decode cX6_untellable 35 = .ok (.iload 5, 2) := by decide +kernel
theorem dX6_untellable_37 : decode cX6_untellable 37 = .ok (.iload_n 2, 1) := by decide +kernel
theorem dX6_untellable_38 : decode cX6_untellable 38 = .ok (.iload_n 3, 1) := by decide +kernel
theorem dX6_untellable_39 : decode cX6_untellable 39 = .ok (.iadd, 1) := by decide +kernel
theorem dX6_untellable_40 : decode cX6_untellable 40 = .ok (.if_icmp .ge 39, 3) := by decide +kernel
theorem dX6_untellable_43 : decode cX6_untellable 43 = .ok (.iload 5, 2) := by decide +kernel
theorem dX6_untellable_45 : decode cX6_untellable 45 = .ok (.sipush 8000, 3) := by decide +kernel
theorem dX6_untellable_48 : decode cX6_untellable 48 = .ok (.if_icmp .ge 31, 3) := by decide +kernel
theorem dX6_untellable_51 : decode cX6_untellable 51 = .ok (.iload 4, 2) := by decide +kernel
theorem dX6_untellable_53 : decode cX6_untellable 53 = .ok (.aload_n 0, 1) := by decide +kernel
theorem dX6_untellable_54 : decode cX6_untellable 54 = .ok (.iload_n 1, 1) := by decide +kernel
theorem dX6_untellable_55 : decode cX6_untellable 55 = .ok (.iload 5, 2) := by decide +kernel
theorem dX6_untellable_57 : decode cX6_untellable 57 = .ok (.invokevirtual 194, 3) := by decide +kernel
theorem dX6_untellable_60 : decode cX6_untellable 60 = .ok (.bipush (-5), 2) := by decide +kernel
theorem dX6_untellable_62 : decode cX6_untellable 62 = .ok (.if_icmp .ne 7, 3) := by decide +kernel
theorem dX6_untellable_65 : decode cX6_untellable 65 = .ok (.iconst 1, 1) := by decide +kernel
theorem dX6_untellable_66 : decode cX6_untellable 66 = .ok (.goto 4, 3) := by decide +kernel
theorem dX6_untellable_69 : decode cX6_untellable 69 = .ok (.iconst 0, 1) := by decide +kernel
theorem dX6_untellable_70 : decode cX6_untellable 70 = .ok (.iadd, 1) := by decide +kernel
theorem dX6_untellable_71 : decode cX6_untellable 71 = .ok (.istore 4, 2) := by decide +kernel
theorem dX6_untellable_73 : decode cX6_untellable 73 = .ok (.iinc 5 1, 3) := by decide +kernel
theorem dX6_untellable_76 : decode cX6_untellable 76 = .ok (.goto (-41), 3) := by decide +kernel
theorem dX6_untellable_79 : decode cX6_untellable 79 = .ok (.iload 4, 2) := by decide +kernel
theorem dX6_untellable_81 : decode cX6_untellable 81 = .ok (.ireturn, 1) := by decide +kernel
set_option maxRecDepth 20000 in
theorem ggX6_log_X6_in : GoodIn wsX6_log wsX6_in := goodIn_r _ [5] (by decide +kernel) (by decide +kernel)
set_option maxRecDepth 20000 in
theorem gX6_log_X6_in : GoodIn wsX6_log (va_wsS RX6 32 yX6_in wsX6_in) := goodIn_app (goodIn_of _ (by decide +kernel)) ggX6_log_X6_in
theorem dX6_log_0 : decode cX6_log 0 = .ok (.iload_n 1, 1) := by decide +kernel
theorem dX6_log_1 : decode cX6_log 1 = .ok (.ifCond .lt 12, 3) := by decide +kernel
theorem dX6_log_4 : decode cX6_log 4 = .ok (.iload_n 2, 1) := by decide +kernel
theorem dX6_log_5 : decode cX6_log 5 = .ok (.iconst 0, 1) := by decide +kernel
theorem dX6_log_6 : decode cX6_log 6 = .ok (.iconst 4, 1) := by decide +kernel
theorem dX6_log_7 : decode cX6_log 7 = .ok (.invokestatic 32, 3) := by decide +kernel
theorem dX6_log_10 : decode cX6_log 10 = .ok (.ifCond .ne 6, 3) := by decide +kernel
theorem dX6_log_13 : decode cX6_log 13 = .ok (.bipush (-2), 2) := by decide +kernel
theorem dX6_log_15 : decode cX6_log 15 = .ok (.ireturn, 1) := by decide +kernel
theorem dX6_log_16 : decode cX6_log 16 = .ok (.iload_n 1, 1) := by decide +kernel
theorem dX6_log_17 : decode cX6_log 17 = .ok (.aload_n 0, 1) := by decide +kernel
theorem dX6_log_18 : decode cX6_log 18 = .ok (.getfield 7, 3) := by decide +kernel
theorem dX6_log_21 : decode cX6_log 21 = .ok (.bipush 55, 2) := by decide +kernel
theorem dX6_log_23 : decode cX6_log 23 = .ok (.iaload, 1) := by decide +kernel
theorem dX6_log_24 : decode cX6_log 24 = .ok (.if_icmp .ge 29, 3) := by decide +kernel
theorem dX6_log_27 : decode cX6_log 27 = .ok (.aload_n 0, 1) := by decide +kernel
theorem dX6_log_28 : decode cX6_log 28 = .ok (.getfield 7, 3) := by decide +kernel
theorem dX6_log_31 : decode cX6_log 31 = .ok (.bipush 56, 2) := by decide +kernel
theorem dX6_log_33 : decode cX6_log 33 = .ok (.iconst 5, 1) := by decide +kernel
theorem dX6_log_34 : decode cX6_log 34 = .ok (.aload_n 0, 1) := by decide +kernel
theorem dX6_log_35 : decode cX6_log 35 = .ok (.getfield 7, 3) := by decide +kernel
theorem dX6_log_38 : decode cX6_log 38 = .ok (.bipush 55, 2) := by decide +kernel
theorem dX6_log_40 : decode cX6_log 40 = .ok (.iaload, 1) := by decide +kernel
theorem dX6_log_41 : decode cX6_log 41 = .ok (.iconst 1, 1) := by decide +kernel
theorem dX6_log_42 : decode cX6_log 42 = .ok (.isub, 1) := by decide +kernel
theorem dX6_log_43 : decode cX6_log 43 = .ok (.iload_n 1, 1) := by decide +kernel
theorem dX6_log_44 : decode cX6_log 44 = .ok (.isub, 1) := by decide +kernel
theorem dX6_log_45 : decode cX6_log 45 = .ok (.imul, 1) := by decide +kernel
theorem dX6_log_46 : decode cX6_log 46 = .ok (.iadd, 1) := by decide +kernel
theorem dX6_log_47 : decode cX6_log 47 = .ok (.iload_n 2, 1) := by decide +kernel
theorem dX6_log_48 : decode cX6_log 48 = .ok (.iadd, 1) := by decide +kernel
theorem dX6_log_49 : decode cX6_log 49 = .ok (.iaload, 1) := by decide +kernel
theorem dX6_log_50 : decode cX6_log 50 = .ok (.goto 5, 3) := by decide +kernel
theorem dX6_log_53 : decode cX6_log 53 = .ok (.bipush (-5), 2) := by decide +kernel
theorem dX6_log_55 : decode cX6_log 55 = .ok (.ireturn, 1) := by decide +kernel
set_option maxRecDepth 20000 in
theorem ggX6_sumOf_X6_known : GoodIn wsX6_sumOf wsX6_known := goodIn_r _ [6, 1, 7, 8, 9, 10, 11, 12, 13, 14, 15, 16, 17, 18, 19, 20, 21, 22, 23, 24] (by decide +kernel) (by decide +kernel)
set_option maxRecDepth 20000 in
theorem gX6_sumOf_X6_known : GoodIn wsX6_sumOf (wsV RX6 147 RX6 yX6_known wsX6_known) := goodIn_app (goodIn_of _ (by decide +kernel)) ggX6_sumOf_X6_known
theorem dX6_sumOf_0 : decode cX6_sumOf 0 = .ok (.iconst 0, 1) := by decide +kernel
theorem dX6_sumOf_1 : decode cX6_sumOf 1 = .ok (.istore_n 2, 1) := by decide +kernel
theorem dX6_sumOf_2 : decode cX6_sumOf 2 = .ok (.iconst 0, 1) := by decide +kernel
theorem dX6_sumOf_3 : decode cX6_sumOf 3 = .ok (.istore_n 3, 1) := by decide +kernel
theorem dX6_sumOf_4 : decode cX6_sumOf 4 = .ok (.iload_n 3, 1) := by decide +kernel
theorem dX6_sumOf_5 : decode cX6_sumOf 5 = .ok (.bipush 6, 2) := by decide +kernel
theorem dX6_sumOf_7 : decode cX6_sumOf 7 = .ok (.if_icmp .ge 99, 3) := by decide +kernel
theorem dX6_sumOf_10 : decode cX6_sumOf 10 = .ok (.bipush 9, 2) := by decide +kernel
theorem dX6_sumOf_12 : decode cX6_sumOf 12 = .ok (.iload_n 3, 1) := by decide +kernel
theorem dX6_sumOf_13 : decode cX6_sumOf 13 = .ok (.imul, 1) := by decide +kernel
theorem dX6_sumOf_14 : decode cX6_sumOf 14 = .ok (.istore 4, 2) := by decide +kernel
theorem dX6_sumOf_16 : decode cX6_sumOf 16 = .ok (.iload_n 2, 1) := by decide +kernel
theorem dX6_sumOf_17 : decode cX6_sumOf 17 = .ok (.iload_n 1, 1) := by decide +kernel
theorem dX6_sumOf_18 : decode cX6_sumOf 18 = .ok (.ifCond .ne 16, 3) := by decide +kernel
theorem dX6_sumOf_21 : decode cX6_sumOf 21 = .ok (.aload_n 0, 1) := by decide +kernel
theorem dX6_sumOf_22 : decode cX6_sumOf 22 = .ok (.getfield 7, 3) := by decide +kernel
theorem dX6_sumOf_25 : decode cX6_sumOf 25 = .ok (.iload 4, 2) := by decide +kernel
theorem dX6_sumOf_27 : decode cX6_sumOf 27 = .ok (.bipush 7, 2) := by decide +kernel
theorem dX6_sumOf_29 : decode cX6_sumOf 29 = .ok (.iadd, 1) := by decide +kernel
theorem dX6_sumOf_30 : decode cX6_sumOf 30 = .ok (.iaload, 1) := by decide +kernel
theorem dX6_sumOf_31 : decode cX6_sumOf 31 = .ok (.goto 67, 3) := by decide +kernel
theorem dX6_sumOf_34 : decode cX6_sumOf 34 = .ok (.iload_n 1, 1) := by decide +kernel
theorem dX6_sumOf_35 : decode cX6_sumOf 35 = .ok (.iconst 1, 1) := by decide +kernel
theorem dX6_sumOf_36 : decode cX6_sumOf 36 = .ok (.if_icmp .ne 16, 3) := by decide +kernel
theorem dX6_sumOf_39 : decode cX6_sumOf 39 = .ok (.aload_n 0, 1) := by decide +kernel
theorem dX6_sumOf_40 : decode cX6_sumOf 40 = .ok (.getfield 7, 3) := by decide +kernel
theorem dX6_sumOf_43 : decode cX6_sumOf 43 = .ok (.iload 4, 2) := by decide +kernel
theorem dX6_sumOf_45 : decode cX6_sumOf 45 = .ok (.bipush 8, 2) := by decide +kernel
theorem dX6_sumOf_47 : decode cX6_sumOf 47 = .ok (.iadd, 1) := by decide +kernel
theorem dX6_sumOf_48 : decode cX6_sumOf 48 = .ok (.iaload, 1) := by decide +kernel
theorem dX6_sumOf_49 : decode cX6_sumOf 49 = .ok (.goto 49, 3) := by decide +kernel
theorem dX6_sumOf_52 : decode cX6_sumOf 52 = .ok (.iload_n 1, 1) := by decide +kernel
theorem dX6_sumOf_53 : decode cX6_sumOf 53 = .ok (.iconst 2, 1) := by decide +kernel
theorem dX6_sumOf_54 : decode cX6_sumOf 54 = .ok (.if_icmp .ne 11, 3) := by decide +kernel
theorem dX6_sumOf_57 : decode cX6_sumOf 57 = .ok (.aload_n 0, 1) := by decide +kernel
theorem dX6_sumOf_58 : decode cX6_sumOf 58 = .ok (.iload_n 3, 1) := by decide +kernel
theorem dX6_sumOf_59 : decode cX6_sumOf 59 = .ok (.invokevirtual 147, 3) := by decide +kernel
theorem dX6_sumOf_62 : decode cX6_sumOf 62 = .ok (.goto 36, 3) := by decide +kernel
theorem dX6_sumOf_65 : decode cX6_sumOf 65 = .ok (.aload_n 0, 1) := by decide +kernel
theorem dX6_sumOf_66 : decode cX6_sumOf 66 = .ok (.getfield 7, 3) := by decide +kernel
theorem dX6_sumOf_69 : decode cX6_sumOf 69 = .ok (.iload 4, 2) := by decide +kernel
theorem dX6_sumOf_71 : decode cX6_sumOf 71 = .ok (.iconst 3, 1) := by decide +kernel
theorem dX6_sumOf_72 : decode cX6_sumOf 72 = .ok (.iadd, 1) := by decide +kernel
theorem dX6_sumOf_73 : decode cX6_sumOf 73 = .ok (.iaload, 1) := by decide +kernel
theorem dX6_sumOf_74 : decode cX6_sumOf 74 = .ok (.aload_n 0, 1) := by decide +kernel
theorem dX6_sumOf_75 : decode cX6_sumOf 75 = .ok (.getfield 7, 3) := by decide +kernel
theorem dX6_sumOf_78 : decode cX6_sumOf 78 = .ok (.iload 4, 2) := by decide +kernel
theorem dX6_sumOf_80 : decode cX6_sumOf 80 = .ok (.iconst 3, 1) := by decide +kernel
theorem dX6_sumOf_81 : decode cX6_sumOf 81 = .ok (.iadd, 1) := by decide +kernel
theorem dX6_sumOf_82 : decode cX6_sumOf 82 = .ok (.iconst 1, 1) := by decide +kernel
theorem dX6_sumOf_83 : decode cX6_sumOf 83 = .ok (.iadd, 1) := by decide +kernel
theorem dX6_sumOf_84 : decode cX6_sumOf 84 = .ok (.iaload, 1) := by decide +kernel
theorem dX6_sumOf_85 : decode cX6_sumOf 85 = .ok (.iadd, 1) := by decide +kernel
theorem dX6_sumOf_86 : decode cX6_sumOf 86 = .ok (.aload_n 0, 1) := by decide +kernel
theorem dX6_sumOf_87 : decode cX6_sumOf 87 = .ok (.getfield 7, 3) := by decide +kernel
theorem dX6_sumOf_90 : decode cX6_sumOf 90 = .ok (.iload 4, 2) := by decide +kernel
theorem dX6_sumOf_92 : decode cX6_sumOf 92 = .ok (.iconst 3, 1) := by decide +kernel
theorem dX6_sumOf_93 : decode cX6_sumOf 93 = .ok (.iadd, 1) := by decide +kernel
theorem dX6_sumOf_94 : decode cX6_sumOf 94 = .ok (.iconst 2, 1) := by decide +kernel
theorem dX6_sumOf_95 : decode cX6_sumOf 95 = .ok (.iadd, 1) := by decide +kernel
theorem dX6_sumOf_96 : decode cX6_sumOf 96 = .ok (.iaload, 1) := by decide +kernel
theorem dX6_sumOf_97 : decode cX6_sumOf 97 = .ok (.iadd, 1) := by decide +kernel
theorem dX6_sumOf_98 : decode cX6_sumOf 98 = .ok (.iadd, 1) := by decide +kernel
theorem dX6_sumOf_99 : decode cX6_sumOf 99 = .ok (.istore_n 2, 1) := by decide +kernel
theorem dX6_sumOf_100 : decode cX6_sumOf 100 = .ok (.iinc 3 1, 3) := by decide +kernel
theorem dX6_sumOf_103 : decode cX6_sumOf 103 = .ok (.goto (-99), 3) := by decide +kernel
theorem dX6_sumOf_106 : decode cX6_sumOf 106 = .ok (.iload_n 2, 1) := by decide +kernel
theorem dX6_sumOf_107 : decode cX6_sumOf 107 = .ok (.ireturn, 1) := by decide +kernel
set_option maxRecDepth 20000 in
theorem ggX6_sum_X6_in : GoodIn wsX6_sum wsX6_in := goodIn_r _ [4] (by decide +kernel) (by decide +kernel)
set_option maxRecDepth 20000 in
theorem gX6_sum_X6_in : GoodIn wsX6_sum (va_wsS RX6 32 yX6_in wsX6_in) := goodIn_app (goodIn_of _ (by decide +kernel)) ggX6_sum_X6_in
set_option maxRecDepth 20000 in
theorem ggX6_sum_X6_sumOf : GoodIn wsX6_sum wsX6_sumOf := goodIn_r _ [8, 9, 10, 11, 12, 3, 13, 14, 15, 16, 17, 18, 19, 20, 21, 22, 23, 24, 25, 26, 27, 28, 29, 30, 31] (by decide +kernel) (by decide +kernel)
set_option maxRecDepth 20000 in
theorem gX6_sum_X6_sumOf : GoodIn wsX6_sum (wsV RX6 200 RX6 yX6_sumOf wsX6_sumOf) := goodIn_app (goodIn_of _ (by decide +kernel)) ggX6_sum_X6_sumOf
theorem dX6_sum_0 : decode cX6_sum 0 = .ok (.iload_n 1, 1) := by decide +kernel
theorem dX6_sum_1 : decode cX6_sum 1 = .ok (.iconst 0, 1) := by decide +kernel
theorem dX6_sum_2 : decode cX6_sum 2 = .ok (.iconst 3, 1) := by decide +kernel
theorem dX6_sum_3 : decode cX6_sum 3 = .ok (.invokestatic 32, 3) := by decide +kernel
theorem dX6_sum_6 : decode cX6_sum 6 = .ok (.ifCond .eq 11, 3) := by decide +kernel
theorem dX6_sum_9 : decode cX6_sum 9 = .ok (.aload_n 0, 1) := by decide +kernel
theorem dX6_sum_10 : decode cX6_sum 10 = .ok (.iload_n 1, 1) := by decide +kernel
theorem dX6_sum_11 : decode cX6_sum 11 = .ok (.invokevirtual 200, 3) := by decide +kernel
theorem dX6_sum_14 : decode cX6_sum 14 = .ok (.goto 5, 3) := by decide +kernel
theorem dX6_sum_17 : decode cX6_sum 17 = .ok (.bipush (-2), 2) := by decide +kernel
theorem dX6_sum_19 : decode cX6_sum 19 = .ok (.ireturn, 1) := by decide +kernel
theorem dX6_patience_0 : decode cX6_patience 0 = .ok (.aload_n 0, 1) := by decide +kernel
theorem dX6_patience_1 : decode cX6_patience 1 = .ok (.getfield 7, 3) := by decide +kernel
theorem dX6_patience_4 : decode cX6_patience 4 = .ok (.bipush 54, 2) := by decide +kernel
theorem dX6_patience_6 : decode cX6_patience 6 = .ok (.iaload, 1) := by decide +kernel
theorem dX6_patience_7 : decode cX6_patience 7 = .ok (.ireturn, 1) := by decide +kernel
set_option maxRecDepth 20000 in
theorem ggX6_share_X6_sumOf : GoodIn wsX6_share wsX6_sumOf := goodIn_r _ [5, 6, 7, 8, 9, 4, 10, 11, 12, 13, 14, 15, 16, 17, 18, 19, 20, 21, 22, 23, 24, 25, 26, 27, 28] (by decide +kernel) (by decide +kernel)
set_option maxRecDepth 20000 in
theorem gX6_share_X6_sumOf : GoodIn wsX6_share (wsV RX6 200 RX6 yX6_sumOf wsX6_sumOf) := goodIn_app (goodIn_of _ (by decide +kernel)) ggX6_share_X6_sumOf
theorem dX6_share_0 : decode cX6_share 0 = .ok (.aload_n 0, 1) := by decide +kernel
theorem dX6_share_1 : decode cX6_share 1 = .ok (.iconst 0, 1) := by decide +kernel
theorem dX6_share_2 : decode cX6_share 2 = .ok (.invokevirtual 200, 3) := by decide +kernel
theorem dX6_share_5 : decode cX6_share 5 = .ok (.istore_n 1, 1) := by decide +kernel
theorem dX6_share_6 : decode cX6_share 6 = .ok (.iload_n 1, 1) := by decide +kernel
theorem dX6_share_7 : decode cX6_share 7 = .ok (.ifCond .ne 7, 3) := by decide +kernel
theorem dX6_share_10 : decode cX6_share 10 = .ok (.fconst 1, 1) := by decide +kernel
theorem dX6_share_11 : decode cX6_share 11 = .ok (.goto 14, 3) := by decide +kernel
theorem dX6_share_14 : decode cX6_share 14 = .ok (.iload_n 1, 1) := by decide +kernel
theorem dX6_share_15 : decode cX6_share 15 = .ok (.aload_n 0, 1) := by decide +kernel
theorem dX6_share_16 : decode cX6_share 16 = .ok (.iconst 1, 1) := by decide +kernel
theorem dX6_share_17 : decode cX6_share 17 = .ok (.invokevirtual 200, 3) := by decide +kernel
theorem dX6_share_20 : decode cX6_share 20 = .ok (.isub, 1) := by decide +kernel
theorem dX6_share_21 : decode cX6_share 21 = .ok (.i2f, 1) := by decide +kernel
theorem dX6_share_22 : decode cX6_share 22 = .ok (.iload_n 1, 1) := by decide +kernel
theorem dX6_share_23 : decode cX6_share 23 = .ok (.i2f, 1) := by decide +kernel
theorem dX6_share_24 : decode cX6_share 24 = .ok (.fdiv, 1) := by decide +kernel
theorem dX6_share_25 : decode cX6_share 25 = .ok (.freturn, 1) := by decide +kernel
theorem dJ9_max_7cf53_0 : decode cJ9_max_7cf53 0 = .ok (.iload_n 0, 1) := by decide +kernel
theorem dJ9_max_7cf53_1 : decode cJ9_max_7cf53 1 = .ok (.iload_n 1, 1) := by decide +kernel
theorem dJ9_max_7cf53_2 : decode cJ9_max_7cf53 2 = .ok (.if_icmp .lt 7, 3) := by decide +kernel
theorem dJ9_max_7cf53_5 : decode cJ9_max_7cf53 5 = .ok (.iload_n 0, 1) := by decide +kernel
theorem dJ9_max_7cf53_6 : decode cJ9_max_7cf53 6 = .ok (.goto 4, 3) := by decide +kernel
theorem dJ9_max_7cf53_9 : decode cJ9_max_7cf53 9 = .ok (.iload_n 1, 1) := by decide +kernel
theorem dJ9_max_7cf53_10 : decode cJ9_max_7cf53 10 = .ok (.ireturn, 1) := by decide +kernel
theorem dJ9_min_7cf53_0 : decode cJ9_min_7cf53 0 = .ok (.iload_n 0, 1) := by decide +kernel
theorem dJ9_min_7cf53_1 : decode cJ9_min_7cf53 1 = .ok (.iload_n 1, 1) := by decide +kernel
theorem dJ9_min_7cf53_2 : decode cJ9_min_7cf53 2 = .ok (.if_icmp .gt 7, 3) := by decide +kernel
