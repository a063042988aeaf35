theorem dX5_wayAt_44 : decode cX5_wayAt 44 = .ok (.iload_n 2, 1) := by decide +kernel
theorem dX5_wayAt_45 : decode cX5_wayAt 45 = .ok (.invokevirtual 78, 3) := by decide +kernel
theorem dX5_wayAt_48 : decode cX5_wayAt 48 = .ok (.lstore 4, 2) := by decide +kernel
theorem dX5_wayAt_50 : decode cX5_wayAt 50 = .ok (.lload 4, 2) := by decide +kernel
theorem dX5_wayAt_52 : decode cX5_wayAt 52 = .ok (.invokestatic 116, 3) := by decide +kernel
theorem dX5_wayAt_55 : decode cX5_wayAt 55 = .ok (.istore 6, 2) := by decide +kernel
theorem dX5_wayAt_57 : decode cX5_wayAt 57 = .ok (.iload_n 3, 1) := by decide +kernel
theorem dX5_wayAt_58 : decode cX5_wayAt 58 = .ok (.iload 6, 2) := by decide +kernel
theorem dX5_wayAt_60 : decode cX5_wayAt 60 = .ok (.if_icmp .ge 17, 3) := by decide +kernel
theorem dX5_wayAt_63 : decode cX5_wayAt 63 = .ok (.lload 4, 2) := by decide +kernel
theorem dX5_wayAt_65 : decode cX5_wayAt 65 = .ok (.iload 6, 2) := by decide +kernel
theorem dX5_wayAt_67 : decode cX5_wayAt 67 = .ok (.iconst 1, 1) := by decide +kernel
theorem dX5_wayAt_68 : decode cX5_wayAt 68 = .ok (.isub, 1) := by decide +kernel
theorem dX5_wayAt_69 : decode cX5_wayAt 69 = .ok (.iload_n 3, 1) := by decide +kernel
theorem dX5_wayAt_70 : decode cX5_wayAt 70 = .ok (.isub, 1) := by decide +kernel
theorem dX5_wayAt_71 : decode cX5_wayAt 71 = .ok (.invokestatic 121, 3) := by decide +kernel
theorem dX5_wayAt_74 : decode cX5_wayAt 74 = .ok (.goto 5, 3) := by decide +kernel
theorem dX5_wayAt_77 : decode cX5_wayAt 77 = .ok (.bipush (-5), 2) := by decide +kernel
theorem dX5_wayAt_79 : decode cX5_wayAt 79 = .ok (.ireturn, 1) := by decide +kernel
set_option maxRecDepth 20000 in
theorem ggX5_styled_X5_isStyle : GoodIn wsX5_styled wsX5_isStyle := goodIn_r _ [5] (by decide +kernel) (by decide +kernel)
set_option maxRecDepth 20000 in
theorem gX5_styled_X5_isStyle : GoodIn wsX5_styled (va_wsS RX5 64 yX5_isStyle wsX5_isStyle) := goodIn_app (goodIn_of _ (by decide +kernel)) ggX5_styled_X5_isStyle
set_option maxRecDepth 20000 in
theorem ggX5_styled_X5_isNumber : GoodIn wsX5_styled wsX5_isNumber := goodIn_r _ [8] (by decide +kernel) (by decide +kernel)
set_option maxRecDepth 20000 in
theorem gX5_styled_X5_isNumber : GoodIn wsX5_styled (va_wsS RX5 67 yX5_isNumber wsX5_isNumber) := goodIn_app (goodIn_of _ (by decide +kernel)) ggX5_styled_X5_isNumber
set_option maxRecDepth 20000 in
theorem ggX5_styled_X4_find : GoodIn wsX5_styled wsX4_find := goodIn_r _ [13, 14, 15, 16, 17, 18, 19, 20, 21, 22, 23, 24, 12, 25, 26, 27, 28, 29, 30, 31, 32, 33, 34, 35, 36, 37, 38, 39, 40, 41, 42, 43, 44, 45, 46, 47, 48, 72, 73] (by decide +kernel) (by decide +kernel)
set_option maxRecDepth 20000 in
theorem gX5_styled_X4_find : GoodIn wsX5_styled (wsV RX5 70 RX4 yX4_find wsX4_find) := goodIn_app (goodIn_of _ (by decide +kernel)) ggX5_styled_X4_find
set_option maxRecDepth 20000 in
theorem ggX5_styled_X4_placeOfStyle : GoodIn wsX5_styled wsX4_placeOfStyle := goodIn_r _ [52, 14, 53, 54, 55, 12, 56, 37, 57, 58, 59, 60, 61, 31, 62, 63, 64, 65, 72, 73] (by decide +kernel) (by decide +kernel)
set_option maxRecDepth 20000 in
theorem gX5_styled_X4_placeOfStyle : GoodIn wsX5_styled (wsV RX5 74 RX4 yX4_placeOfStyle wsX4_placeOfStyle) := goodIn_app (goodIn_of _ (by decide +kernel)) ggX5_styled_X4_placeOfStyle
theorem dX5_styled_0 : decode cX5_styled 0 = .ok (.iload_n 2, 1) := by decide +kernel
theorem dX5_styled_1 : decode cX5_styled 1 = .ok (.invokestatic 64, 3) := by decide +kernel
theorem dX5_styled_4 : decode cX5_styled 4 = .ok (.ifCond .ne 5, 3) := by decide +kernel
theorem dX5_styled_7 : decode cX5_styled 7 = .ok (.iconst (-1), 1) := by decide +kernel
theorem dX5_styled_8 : decode cX5_styled 8 = .ok (.ireturn, 1) := by decide +kernel
theorem dX5_styled_9 : decode cX5_styled 9 = .ok (.iload_n 1, 1) := by decide +kernel
theorem dX5_styled_10 : decode cX5_styled 10 = .ok (.invokestatic 67, 3) := by decide +kernel
theorem dX5_styled_13 : decode cX5_styled 13 = .ok (.ifCond .ne 6, 3) := by decide +kernel
theorem dX5_styled_16 : decode cX5_styled 16 = .ok (.bipush (-2), 2) := by decide +kernel
theorem dX5_styled_18 : decode cX5_styled 18 = .ok (.ireturn, 1) := by decide +kernel
theorem dX5_styled_19 : decode cX5_styled 19 = .ok (.aload_n 0, 1) := by decide +kernel
theorem dX5_styled_20 : decode cX5_styled 20 = .ok (.getfield 34, 3) := by decide +kernel
theorem dX5_styled_23 : decode cX5_styled 23 = .ok (.iload_n 1, 1) := by decide +kernel
theorem dX5_styled_24 : decode cX5_styled 24 = .ok (.invokevirtual 70, 3) := by decide +kernel
theorem dX5_styled_27 : decode cX5_styled 27 = .ok (.aload_n 0, 1) := by decide +kernel
theorem dX5_styled_28 : decode cX5_styled 28 = .ok (.getfield 34, 3) := by decide +kernel
theorem dX5_styled_31 : decode cX5_styled 31 = .ok (.iload_n 2, 1) := by decide +kernel
theorem dX5_styled_32 : decode cX5_styled 32 = .ok (.invokevirtual 74, 3) := by decide +kernel
theorem dX5_styled_35 : decode cX5_styled 35 = .ok (.ireturn, 1) := by decide +kernel
set_option maxRecDepth 20000 in
theorem ggX5_placeOfText_X5_fault : GoodIn wsX5_placeOfText wsX5_fault := goodIn_r _ [6, 7, 8, 9, 10, 11, 12, 13, 14, 15, 16, 17, 18, 19, 20, 21, 22, 23, 24, 25, 26, 27, 28, 29, 30, 31, 32, 33, 34, 35, 36, 37, 38, 39, 40, 41, 42, 43, 44, 45, 46, 47, 48, 49, 50, 51, 52, 53, 54, 55, 56, 57, 58, 59, 60, 61, 62, 63, 64, 65, 66, 67, 68, 69, 70, 71, 141, 142, 143, 144, 145, 146, 147, 148, 149, 150, 151, 152, 153, 154, 155, 156, 157] (by decide +kernel) (by decide +kernel)
set_option maxRecDepth 20000 in
theorem gX5_placeOfText_X5_fault : GoodIn wsX5_placeOfText (wsV RX5 86 RX5 yX5_fault wsX5_fault) := goodIn_app (goodIn_of _ (by decide +kernel)) ggX5_placeOfText_X5_fault
set_option maxRecDepth 20000 in
theorem ggX5_placeOfText_X5_packedText : GoodIn wsX5_placeOfText wsX5_packedText := goodIn_r _ [75, 8, 9, 76, 77, 78, 79, 141, 142, 143, 144, 145, 146] (by decide +kernel) (by decide +kernel)
set_option maxRecDepth 20000 in
theorem gX5_placeOfText_X5_packedText : GoodIn wsX5_placeOfText (wsV RX5 90 RX5 yX5_packedText wsX5_packedText) := goodIn_app (goodIn_of _ (by decide +kernel)) ggX5_placeOfText_X5_packedText
set_option maxRecDepth 20000 in
theorem ggX5_placeOfText_X5_meant : GoodIn wsX5_placeOfText wsX5_meant := goodIn_r _ [83, 7, 10, 11, 12, 13, 14, 15, 16, 17, 18, 19, 20, 21, 22, 23, 24, 25, 84, 85, 86, 87, 88, 89, 78, 90, 91, 92, 93, 94, 27, 28, 29, 30, 31, 32, 33, 34, 35, 36, 37, 38, 39, 40, 41, 42, 43, 44, 45, 46, 47, 48, 49, 50, 51, 52, 53, 54, 55, 56, 57, 58, 59, 60, 61, 62, 63, 64, 65, 66, 67, 95, 69, 70, 71, 96, 97, 98, 99, 141, 142, 143, 144, 145, 146, 147, 148, 149, 150, 151, 152, 153, 154, 155, 156, 157] (by decide +kernel) (by decide +kernel)
set_option maxRecDepth 20000 in
theorem gX5_placeOfText_X5_meant : GoodIn wsX5_placeOfText (wsV RX5 94 RX5 yX5_meant wsX5_meant) := goodIn_app (goodIn_of _ (by decide +kernel)) ggX5_placeOfText_X5_meant
set_option maxRecDepth 20000 in
theorem ggX5_placeOfText_X4_find : GoodIn wsX5_placeOfText wsX4_find := goodIn_r _ [104, 105, 106, 107, 108, 109, 110, 111, 112, 113, 114, 115, 103, 116, 117, 118, 119, 120, 77, 78, 79, 121, 122, 123, 124, 125, 126, 127, 128, 129, 130, 131, 132, 133, 134, 135, 136, 158, 159] (by decide +kernel) (by decide +kernel)
set_option maxRecDepth 20000 in
theorem gX5_placeOfText_X4_find : GoodIn wsX5_placeOfText (wsV RX5 70 RX4 yX4_find wsX4_find) := goodIn_app (goodIn_of _ (by decide +kernel)) ggX5_placeOfText_X4_find
set_option maxRecDepth 20000 in
theorem ggX5_placeOfText_X4_placeOf : GoodIn wsX5_placeOfText wsX4_placeOf := goodIn_r _ [140, 105, 125, 158, 159] (by decide +kernel) (by decide +kernel)
set_option maxRecDepth 20000 in
theorem gX5_placeOfText_X4_placeOf : GoodIn wsX5_placeOfText (wsV RX5 125 RX4 yX4_placeOf wsX4_placeOf) := goodIn_app (goodIn_of _ (by decide +kernel)) ggX5_placeOfText_X4_placeOf
theorem dX5_placeOfText_0 : decode cX5_placeOfText 0 = .ok (.aload_n 0, 1) := by decide +kernel
theorem dX5_placeOfText_1 : decode cX5_placeOfText 1 = .ok (.invokevirtual 86, 3) := by decide +kernel
theorem dX5_placeOfText_4 : decode cX5_placeOfText 4 = .ok (.bipush (-5), 2) := by decide +kernel
theorem dX5_placeOfText_6 : decode cX5_placeOfText 6 = .ok (.if_icmp .eq 6, 3) := by decide +kernel
theorem dX5_placeOfText_9 : decode cX5_placeOfText 9 = .ok (.bipush (-3), 2) := by decide +kernel
theorem dX5_placeOfText_11 : decode cX5_placeOfText 11 = .ok (.ireturn, 1) := by decide +kernel
theorem dX5_placeOfText_12 : decode cX5_placeOfText 12 = .ok (.aload_n 0, 1) := by decide +kernel
theorem dX5_placeOfText_13 : decode cX5_placeOfText 13 = .ok (.invokevirtual 90, 3) := by decide +kernel
theorem dX5_placeOfText_16 : decode cX5_placeOfText 16 = .ok (.lstore_n 1, 1) := by decide +kernel
theorem dX5_placeOfText_17 : decode cX5_placeOfText 17 = .ok (.aload_n 0, 1) := by decide +kernel
theorem dX5_placeOfText_18 : decode cX5_placeOfText 18 = .ok (.getfield 34, 3) := by decide +kernel
theorem dX5_placeOfText_21 : decode cX5_placeOfText 21 = .ok (.aload_n 0, 1) := by decide +kernel
theorem dX5_placeOfText_22 : decode cX5_placeOfText 22 = .ok (.lload_n 1, 1) := by decide +kernel
theorem dX5_placeOfText_23 : decode cX5_placeOfText 23 = .ok (.invokevirtual 94, 3) := by decide +kernel
theorem dX5_placeOfText_26 : decode cX5_placeOfText 26 = .ok (.invokevirtual 70, 3) := by decide +kernel
theorem dX5_placeOfText_29 : decode cX5_placeOfText 29 = .ok (.aload_n 0, 1) := by decide +kernel
theorem dX5_placeOfText_30 : decode cX5_placeOfText 30 = .ok (.getfield 34, 3) := by decide +kernel
theorem dX5_placeOfText_33 : decode cX5_placeOfText 33 = .ok (.lload_n 1, 1) := by decide +kernel
theorem dX5_placeOfText_34 : decode cX5_placeOfText 34 = .ok (.invokevirtual 125, 3) := by decide +kernel
theorem dX5_placeOfText_37 : decode cX5_placeOfText 37 = .ok (.ireturn, 1) := by decide +kernel
set_option maxRecDepth 20000 in
theorem ggX5_hearer_X5_isHearer : GoodIn wsX5_hearer wsX5_isHearer := goodIn_r _ [6] (by decide +kernel) (by decide +kernel)
set_option maxRecDepth 20000 in
theorem gX5_hearer_X5_isHearer : GoodIn wsX5_hearer (va_wsS RX5 49 yX5_isHearer wsX5_isHearer) := goodIn_app (goodIn_of _ (by decide +kernel)) ggX5_hearer_X5_isHearer
theorem dX5_hearer_0 : decode cX5_hearer 0 = .ok (.iload_n 1, 1) := by decide +kernel
theorem dX5_hearer_1 : decode cX5_hearer 1 = .ok (.invokestatic 49, 3) := by decide +kernel
theorem dX5_hearer_4 : decode cX5_hearer 4 = .ok (.ifCond .ne 5, 3) := by decide +kernel
theorem dX5_hearer_7 : decode cX5_hearer 7 = .ok (.iconst (-1), 1) := by decide +kernel
theorem dX5_hearer_8 : decode cX5_hearer 8 = .ok (.ireturn, 1) := by decide +kernel
theorem dX5_hearer_9 : decode cX5_hearer 9 = .ok (.iload_n 2, 1) := by decide +kernel
theorem dX5_hearer_10 : decode cX5_hearer 10 = .ok (.ifCond .lt 9, 3) := by decide +kernel
theorem dX5_hearer_13 : decode cX5_hearer 13 = .ok (.iload_n 2, 1) := by decide +kernel
theorem dX5_hearer_14 : decode cX5_hearer 14 = .ok (.bipush 9, 2) := by decide +kernel
theorem dX5_hearer_16 : decode cX5_hearer 16 = .ok (.if_icmp .lt 6, 3) := by decide +kernel
theorem dX5_hearer_19 : decode cX5_hearer 19 = .ok (.bipush (-2), 2) := by decide +kernel
theorem dX5_hearer_21 : decode cX5_hearer 21 = .ok (.ireturn, 1) := by decide +kernel
theorem dX5_hearer_22 : decode cX5_hearer 22 = .ok (.aload_n 0, 1) := by decide +kernel
theorem dX5_hearer_23 : decode cX5_hearer 23 = .ok (.getfield 10, 3) := by decide +kernel
theorem dX5_hearer_26 : decode cX5_hearer 26 = .ok (.getfield 57, 3) := by decide +kernel
theorem dX5_hearer_29 : decode cX5_hearer 29 = .ok (.iload_n 1, 1) := by decide +kernel
theorem dX5_hearer_30 : decode cX5_hearer 30 = .ok (.aaload, 1) := by decide +kernel
theorem dX5_hearer_31 : decode cX5_hearer 31 = .ok (.iload_n 2, 1) := by decide +kernel
theorem dX5_hearer_32 : decode cX5_hearer 32 = .ok (.iaload, 1) := by decide +kernel
theorem dX5_hearer_33 : decode cX5_hearer 33 = .ok (.ireturn, 1) := by decide +kernel
set_option maxRecDepth 20000 in
theorem ggX5_understood_X5_isHearer : GoodIn wsX5_understood wsX5_isHearer := goodIn_r _ [6] (by decide +kernel) (by decide +kernel)
set_option maxRecDepth 20000 in
theorem gX5_understood_X5_isHearer : GoodIn wsX5_understood (va_wsS RX5 49 yX5_isHearer wsX5_isHearer) := goodIn_app (goodIn_of _ (by decide +kernel)) ggX5_understood_X5_isHearer
set_option maxRecDepth 20000 in
theorem ggX5_understood_X5_isNumber : GoodIn wsX5_understood wsX5_isNumber := goodIn_r _ [9] (by decide +kernel) (by decide +kernel)
set_option maxRecDepth 20000 in
theorem gX5_understood_X5_isNumber : GoodIn wsX5_understood (va_wsS RX5 67 yX5_isNumber wsX5_isNumber) := goodIn_app (goodIn_of _ (by decide +kernel)) ggX5_understood_X5_isNumber
set_option maxRecDepth 20000 in
theorem ggX5_understood_X4_find : GoodIn wsX5_understood wsX4_find := goodIn_r _ [14, 15, 16, 17, 18, 19, 20, 21, 22, 23, 24, 25, 13, 26, 27, 28, 29, 30, 31, 32, 33, 34, 35, 36, 37, 38, 39, 40, 41, 42, 43, 44, 45, 46, 47, 48, 49, 146, 147] (by decide +kernel) (by decide +kernel)
set_option maxRecDepth 20000 in
theorem gX5_understood_X4_find : GoodIn wsX5_understood (wsV RX5 70 RX4 yX4_find wsX4_find) := goodIn_app (goodIn_of _ (by decide +kernel)) ggX5_understood_X4_find
set_option maxRecDepth 20000 in
theorem ggX5_understood_X4_at : GoodIn wsX5_understood wsX4_at := goodIn_r _ [53, 38, 146, 147] (by decide +kernel) (by decide +kernel)
set_option maxRecDepth 20000 in
theorem gX5_understood_X4_at : GoodIn wsX5_understood (wsV RX5 78 RX4 yX4_at wsX4_at) := goodIn_app (goodIn_of _ (by decide +kernel)) ggX5_understood_X4_at
set_option maxRecDepth 20000 in
theorem ggX5_understood_X5_heard : GoodIn wsX5_understood wsX5_heard := goodIn_r _ [57, 58, 59, 60, 61, 62, 63, 64, 65, 66, 67, 68, 69, 70, 71, 72, 73, 74, 75, 76, 77, 78, 79, 80, 81, 82, 32, 83, 84, 85, 86, 87, 88, 89, 90, 91, 92, 93, 94, 95, 96, 97, 98, 99, 100, 101, 102, 103, 104, 105, 106, 107, 108, 109, 110, 111, 112, 113, 114, 115, 116, 117, 118, 119, 120, 121, 122, 123, 124, 125, 126, 127, 128, 129, 130, 131, 132, 133, 134, 135, 136, 140, 141, 142, 143, 144, 145, 148, 149, 150, 151, 152, 153, 154, 155, 156, 157, 158, 159, 160, 161, 162, 163] (by decide +kernel) (by decide +kernel)
set_option maxRecDepth 20000 in
theorem gX5_understood_X5_heard : GoodIn wsX5_understood (wsV RX5 128 RX5 yX5_heard wsX5_heard) := goodIn_app (goodIn_of _ (by decide +kernel)) ggX5_understood_X5_heard
set_option maxRecDepth 20000 in
theorem ggX5_understood_X5_orNone : GoodIn wsX5_understood wsX5_orNone := goodIn_r _ [139] (by decide +kernel) (by decide +kernel)
set_option maxRecDepth 20000 in
theorem gX5_understood_X5_orNone : GoodIn wsX5_understood (va_wsS RX5 132 yX5_orNone wsX5_orNone) := goodIn_app (goodIn_of _ (by decide +kernel)) ggX5_understood_X5_orNone
theorem dX5_understood_0 : decode cX5_understood 0 = .ok (.iload_n 1, 1) := by decide +kernel
theorem dX5_understood_1 : decode cX5_understood 1 = .ok (.invokestatic 49, 3) := by decide +kernel
theorem dX5_understood_4 : decode cX5_understood 4 = .ok (.ifCond .ne 5, 3) := by decide +kernel
theorem dX5_understood_7 : decode cX5_understood 7 = .ok (.iconst (-1), 1) := by decide +kernel
theorem dX5_understood_8 : decode cX5_understood 8 = .ok (.ireturn, 1) := by decide +kernel
theorem dX5_understood_9 : decode cX5_understood 9 = .ok (.iload_n 2, 1) := by decide +kernel
theorem dX5_understood_10 : decode cX5_understood 10 = .ok (.invokestatic 67, 3) := by decide +kernel
theorem dX5_understood_13 : decode cX5_understood 13 = .ok (.ifCond .eq 7, 3) := by decide +kernel
theorem dX5_understood_16 : decode cX5_understood 16 = .ok (.iload_n 3, 1) := by decide +kernel
theorem dX5_understood_17 : decode cX5_understood 17 = .ok (.ifCond .ge 6, 3) := by decide +kernel
theorem dX5_understood_20 : decode cX5_understood 20 = .ok (.bipush (-2), 2) := by decide +kernel
theorem dX5_understood_22 : decode cX5_understood 22 = .ok (.ireturn, 1) := by decide +kernel
theorem dX5_understood_23 : decode cX5_understood 23 = .ok (.aload_n 0, 1) := by decide +kernel
theorem dX5_understood_24 : decode cX5_understood 24 = .ok (.getfield 34, 3) := by decide +kernel
theorem dX5_understood_27 : decode cX5_understood 27 = .ok (.iload_n 2, 1) := by decide +kernel
theorem dX5_understood_28 : decode cX5_understood 28 = .ok (.invokevirtual 70, 3) := by decide +kernel
theorem dX5_understood_31 : decode cX5_understood 31 = .ok (.iload_n 3, 1) := by decide +kernel
theorem dX5_understood_32 : decode cX5_understood 32 = .ok (.aload_n 0, 1) := by decide +kernel
theorem dX5_understood_33 : decode cX5_understood 33 = .ok (.getfield 34, 3) := by decide +kernel
theorem dX5_understood_36 : decode cX5_understood 36 = .ok (.getfield 113, 3) := by decide +kernel
theorem dX5_understood_39 : decode cX5_understood 39 = .ok (.if_icmp .lt 6, 3) := by decide +kernel
theorem dX5_understood_42 : decode cX5_understood 42 = .ok (.bipush (-5), 2) := by decide +kernel
theorem dX5_understood_44 : decode cX5_understood 44 = .ok (.ireturn, 1) := by decide +kernel
theorem dX5_understood_45 : decode cX5_understood 45 = .ok (.aload_n 0, 1) := by decide +kernel
theorem dX5_understood_46 : decode cX5_understood 46 = .ok (.iload_n 1, 1) := by decide +kernel
theorem dX5_understood_47 : decode cX5_understood 47 = .ok (.aload_n 0, 1) := by decide +kernel
theorem dX5_understood_48 : decode cX5_understood 48 = .ok (.getfield 34, 3) := by decide +kernel
theorem dX5_understood_51 : decode cX5_understood 51 = .ok (.iload_n 3, 1) := by decide +kernel
theorem dX5_understood_52 : decode cX5_understood 52 = .ok (.invokevirtual 78, 3) := by decide +kernel
theorem dX5_understood_55 : decode cX5_understood 55 = .ok (.invokevirtual 128, 3) := by decide +kernel
theorem dX5_understood_58 : decode cX5_understood 58 = .ok (.invokestatic 132, 3) := by decide +kernel
theorem dX5_understood_61 : decode cX5_understood 61 = .ok (.ireturn, 1) := by decide +kernel
set_option maxRecDepth 20000 in
theorem ggX5_understoodText_X5_isHearer : GoodIn wsX5_understoodText wsX5_isHearer := goodIn_r _ [4] (by decide +kernel) (by decide +kernel)
set_option maxRecDepth 20000 in
theorem gX5_understoodText_X5_isHearer : GoodIn wsX5_understoodText (va_wsS RX5 49 yX5_isHearer wsX5_isHearer) := goodIn_app (goodIn_of _ (by decide +kernel)) ggX5_understoodText_X5_isHearer
set_option maxRecDepth 20000 in
theorem ggX5_understoodText_X5_fault : GoodIn wsX5_understoodText wsX5_fault := goodIn_r _ [8, 9, 10, 11, 12, 13, 14, 15, 16, 17, 18, 19, 20, 21, 22, 23, 24, 25, 26, 27, 28, 29, 30, 31, 32, 33, 34, 35, 36, 37, 38, 39, 40, 41, 42, 43, 44, 45, 46, 47, 48, 49, 50, 51, 52, 53, 54, 55, 56, 57, 58, 59, 60, 61, 62, 63, 64, 65, 66, 67, 68, 69, 70, 71, 72, 73, 107, 108, 109, 110, 111, 112, 113, 114, 115, 116, 117, 118, 119, 120, 121, 122, 123] (by decide +kernel) (by decide +kernel)
set_option maxRecDepth 20000 in
theorem gX5_understoodText_X5_fault : GoodIn wsX5_understoodText (wsV RX5 86 RX5 yX5_fault wsX5_fault) := goodIn_app (goodIn_of _ (by decide +kernel)) ggX5_understoodText_X5_fault
set_option maxRecDepth 20000 in
theorem ggX5_understoodText_X5_packedText : GoodIn wsX5_understoodText wsX5_packedText := goodIn_r _ [77, 10, 11, 78, 79, 80, 81, 107, 108, 109, 110, 111, 112] (by decide +kernel) (by decide +kernel)
set_option maxRecDepth 20000 in
theorem gX5_understoodText_X5_packedText : GoodIn wsX5_understoodText (wsV RX5 90 RX5 yX5_packedText wsX5_packedText) := goodIn_app (goodIn_of _ (by decide +kernel)) ggX5_understoodText_X5_packedText
set_option maxRecDepth 20000 in
theorem ggX5_understoodText_X5_heard : GoodIn wsX5_understoodText wsX5_heard := goodIn_r _ [85, 86, 87, 9, 12, 13, 14, 15, 16, 17, 18, 19, 20, 21, 22, 23, 24, 25, 26, 27, 88, 89, 90, 91, 92, 93, 80, 94, 95, 96, 97, 98, 29, 30, 31, 32, 33, 34, 35, 36, 37, 38, 39, 40, 41, 42, 43, 44, 45, 46, 47, 48, 49, 50, 51, 52, 53, 54, 55, 56, 57, 58, 59, 60, 61, 62, 63, 64, 65, 66, 67, 68, 69, 99, 71, 72, 73, 100, 101, 102, 103, 107, 108, 109, 110, 111, 112, 124, 125, 126, 127, 128, 113, 114, 115, 116, 117, 118, 119, 120, 121, 122, 123] (by decide +kernel) (by decide +kernel)
set_option maxRecDepth 20000 in
theorem gX5_understoodText_X5_heard : GoodIn wsX5_understoodText (wsV RX5 128 RX5 yX5_heard wsX5_heard) := goodIn_app (goodIn_of _ (by decide +kernel)) ggX5_understoodText_X5_heard
set_option maxRecDepth 20000 in
theorem ggX5_understoodText_X5_orNone : GoodIn wsX5_understoodText wsX5_orNone := goodIn_r _ [106] (by decide +kernel) (by decide +kernel)
set_option maxRecDepth 20000 in
theorem gX5_understoodText_X5_orNone : GoodIn wsX5_understoodText (va_wsS RX5 132 yX5_orNone wsX5_orNone) := goodIn_app (goodIn_of _ (by decide +kernel)) ggX5_understoodText_X5_orNone
theorem dX5_understoodText_0 : decode cX5_understoodText 0 = .ok (.iload_n 1, 1) := by decide +kernel
theorem dX5_understoodText_1 : decode cX5_understoodText 1 = .ok (.invokestatic 49, 3) := by decide +kernel
theorem dX5_understoodText_4 : decode cX5_understoodText 4 = .ok (.ifCond .ne 5, 3) := by decide +kernel
theorem dX5_understoodText_7 : decode cX5_understoodText 7 = .ok (.iconst (-1), 1) := by decide +kernel
theorem dX5_understoodText_8 : decode cX5_understoodText 8 = .ok (.ireturn, 1) := by decide +kernel
theorem dX5_understoodText_9 : decode cX5_understoodText 9 = .ok (.aload_n 0, 1) := by decide +kernel
theorem dX5_understoodText_10 : decode cX5_understoodText 10 = .ok (.invokevirtual 86, 3) := by decide +kernel
theorem dX5_understoodText_13 : decode cX5_understoodText 13 = .ok (.bipush (-5), 2) := by decide +kernel
theorem dX5_understoodText_15 : decode cX5_understoodText 15 = .ok (.if_icmp .eq 6, 3) := by decide +kernel
theorem dX5_understoodText_18 : decode cX5_understoodText 18 = .ok (.bipush (-3), 2) := by decide +kernel
theorem dX5_understoodText_20 : decode cX5_understoodText 20 = .ok (.ireturn, 1) := by decide +kernel
theorem dX5_understoodText_21 : decode cX5_understoodText 21 = .ok (.aload_n 0, 1) := by decide +kernel
theorem dX5_understoodText_22 : decode cX5_understoodText 22 = .ok (.iload_n 1, 1) := by decide +kernel
theorem dX5_understoodText_23 : decode cX5_understoodText 23 = .ok (.aload_n 0, 1) := by decide +kernel
theorem dX5_understoodText_24 : decode cX5_understoodText 24 = .ok (.invokevirtual 90, 3) := by decide +kernel
theorem dX5_understoodText_27 : decode cX5_understoodText 27 = .ok (.invokevirtual 128, 3) := by decide +kernel
theorem dX5_understoodText_30 : decode cX5_understoodText 30 = .ok (.invokestatic 132, 3) := by decide +kernel
theorem dX5_understoodText_33 : decode cX5_understoodText 33 = .ok (.ireturn, 1) := by decide +kernel
set_option maxRecDepth 20000 in
theorem ggX5_bestWay_X5_isHearer : GoodIn wsX5_bestWay wsX5_isHearer := goodIn_r _ [4] (by decide +kernel) (by decide +kernel)
set_option maxRecDepth 20000 in
theorem gX5_bestWay_X5_isHearer : GoodIn wsX5_bestWay (va_wsS RX5 49 yX5_isHearer wsX5_isHearer) := goodIn_app (goodIn_of _ (by decide +kernel)) ggX5_bestWay_X5_isHearer
set_option maxRecDepth 20000 in
theorem ggX5_bestWay_X5_isNumber : GoodIn wsX5_bestWay wsX5_isNumber := goodIn_r _ [7] (by decide +kernel) (by decide +kernel)
set_option maxRecDepth 20000 in
theorem gX5_bestWay_X5_isNumber : GoodIn wsX5_bestWay (va_wsS RX5 67 yX5_isNumber wsX5_isNumber) := goodIn_app (goodIn_of _ (by decide +kernel)) ggX5_bestWay_X5_isNumber
set_option maxRecDepth 20000 in
theorem ggX5_bestWay_X5_firstUnderstood : GoodIn wsX5_bestWay wsX5_firstUnderstood := goodIn_r _ [11, 12, 13, 14, 15, 16, 17, 18, 19, 20, 21, 22, 23, 24, 25, 26, 27, 28, 29, 30, 31, 32, 33, 34, 35, 36, 37, 38, 39, 40, 41, 42, 43, 44, 45, 46, 47, 48, 49, 50, 51, 52, 53, 54, 55, 56, 57, 58, 59, 60, 3, 61, 62, 63, 64, 65, 66, 67, 68, 69, 70, 71, 72, 73, 74, 75, 76, 77, 78, 79, 80, 81, 82, 83, 84, 85, 86, 87, 88, 89, 90, 91, 92, 93, 94, 95, 96, 97, 98, 99, 100, 101, 102, 103, 104, 105, 106, 107, 108, 109, 110, 111, 112, 113, 114, 115, 116, 117, 118, 119, 120, 121, 122, 123, 124, 125, 126, 127, 128, 129, 130, 131, 132, 133, 134, 135, 136, 137, 138, 139, 140, 141, 142, 143, 144, 145, 146, 147, 148, 149, 150, 151, 152, 153, 154, 155, 156, 157, 158, 159, 160, 161, 162, 163, 164] (by decide +kernel) (by decide +kernel)
set_option maxRecDepth 20000 in
theorem gX5_bestWay_X5_firstUnderstood : GoodIn wsX5_bestWay (wsV RX5 135 RX5 yX5_firstUnderstood wsX5_firstUnderstood) := goodIn_app (goodIn_of _ (by decide +kernel)) ggX5_bestWay_X5_firstUnderstood
theorem dX5_bestWay_0 : decode cX5_bestWay 0 = .ok (.iload_n 1, 1) := by decide +kernel
theorem dX5_bestWay_1 : decode cX5_bestWay 1 = .ok (.invokestatic 49, 3) := by decide +kernel
theorem dX5_bestWay_4 : decode cX5_bestWay 4 = .ok (.ifCond .ne 5, 3) := by decide +kernel
theorem dX5_bestWay_7 : decode cX5_bestWay 7 = .ok (.iconst (-1), 1) := by decide +kernel
theorem dX5_bestWay_8 : decode cX5_bestWay 8 = .ok (.ireturn, 1) := by decide +kernel
theorem dX5_bestWay_9 : decode cX5_bestWay 9 = .ok (.iload_n 2, 1) := by decide +kernel
theorem dX5_bestWay_10 : decode cX5_bestWay 10 = .ok (.invokestatic 67, 3) := by decide +kernel
theorem dX5_bestWay_13 : decode cX5_bestWay 13 = .ok (.ifCond .ne 6, 3) := by decide +kernel
theorem dX5_bestWay_16 : decode cX5_bestWay 16 = .ok (.bipush (-2), 2) := by decide +kernel
theorem dX5_bestWay_18 : decode cX5_bestWay 18 = .ok (.ireturn, 1) := by decide +kernel
theorem dX5_bestWay_19 : decode cX5_bestWay 19 = .ok (.aload_n 0, 1) := by decide +kernel
theorem dX5_bestWay_20 : decode cX5_bestWay 20 = .ok (.iload_n 1, 1) := by decide +kernel
theorem dX5_bestWay_21 : decode cX5_bestWay 21 = .ok (.iload_n 2, 1) := by decide +kernel
theorem dX5_bestWay_22 : decode cX5_bestWay 22 = .ok (.invokevirtual 135, 3) := by decide +kernel
theorem dX5_bestWay_25 : decode cX5_bestWay 25 = .ok (.ireturn, 1) := by decide +kernel
set_option maxRecDepth 20000 in
theorem ggX5_commonWay_X5_isNumber : GoodIn wsX5_commonWay wsX5_isNumber := goodIn_r _ [6] (by decide +kernel) (by decide +kernel)
set_option maxRecDepth 20000 in
theorem gX5_commonWay_X5_isNumber : GoodIn wsX5_commonWay (va_wsS RX5 67 yX5_isNumber wsX5_isNumber) := goodIn_app (goodIn_of _ (by decide +kernel)) ggX5_commonWay_X5_isNumber
set_option maxRecDepth 20000 in
theorem ggX5_commonWay_X4_find : GoodIn wsX5_commonWay wsX4_find := goodIn_r _ [11, 12, 13, 14, 15, 16, 17, 18, 19, 20, 21, 22, 10, 23, 24, 25, 26, 27, 28, 29, 30, 31, 32, 33, 34, 35, 36, 37, 38, 39, 40, 41, 42, 43, 44, 45, 46, 144, 145] (by decide +kernel) (by decide +kernel)
set_option maxRecDepth 20000 in
theorem gX5_commonWay_X4_find : GoodIn wsX5_commonWay (wsV RX5 70 RX4 yX4_find wsX4_find) := goodIn_app (goodIn_of _ (by decide +kernel)) ggX5_commonWay_X4_find
set_option maxRecDepth 20000 in
theorem ggX5_commonWay_X4_at : GoodIn wsX5_commonWay wsX4_at := goodIn_r _ [50, 35, 144, 145] (by decide +kernel) (by decide +kernel)
set_option maxRecDepth 20000 in
theorem gX5_commonWay_X4_at : GoodIn wsX5_commonWay (wsV RX5 78 RX4 yX4_at wsX4_at) := goodIn_app (goodIn_of _ (by decide +kernel)) ggX5_commonWay_X4_at
set_option maxRecDepth 20000 in
theorem ggX5_commonWay_X5_reached : GoodIn wsX5_commonWay wsX5_reached := goodIn_r _ [54, 55, 56, 57, 5, 58, 59, 60, 61, 62, 63, 64, 65, 66, 67, 68, 69, 70, 71, 72, 73, 74, 75, 76, 77, 78, 79, 80, 81, 82, 83, 29, 84, 85, 86, 87, 88, 89, 90, 91, 92, 93, 94, 95, 96, 97, 98, 99, 100, 101, 102, 103, 104, 105, 106, 107, 108, 109, 110, 111, 112, 113, 114, 115, 116, 117, 118, 119, 120, 121, 122, 123, 124, 125, 126, 127, 128, 129, 130, 131, 132, 133, 134, 135, 136, 137, 138, 139, 140, 141, 142, 143, 146, 147, 148, 149, 150, 151, 152, 153, 154, 155, 156, 157, 158, 159, 160, 161] (by decide +kernel) (by decide +kernel)
set_option maxRecDepth 20000 in
theorem gX5_commonWay_X5_reached : GoodIn wsX5_commonWay (wsV RX5 139 RX5 yX5_reached wsX5_reached) := goodIn_app (goodIn_of _ (by decide +kernel)) ggX5_commonWay_X5_reached
theorem dX5_commonWay_0 : decode cX5_commonWay 0 = .ok (.iload_n 1, 1) := by decide +kernel
theorem dX5_commonWay_1 : decode cX5_commonWay 1 = .ok (.invokestatic 67, 3) := by decide +kernel
theorem dX5_commonWay_4 : decode cX5_commonWay 4 = .ok (.ifCond .ne 6, 3) := by decide +kernel
theorem dX5_commonWay_7 : decode cX5_commonWay 7 = .ok (.bipush (-2), 2) := by decide +kernel
theorem dX5_commonWay_9 : decode cX5_commonWay 9 = .ok (.ireturn, 1) := by decide +kernel
theorem dX5_commonWay_10 : decode cX5_commonWay 10 = .ok (.aload_n 0, 1) := by decide +kernel
theorem dX5_commonWay_11 : decode cX5_commonWay 11 = .ok (.getfield 34, 3) := by decide +kernel
theorem dX5_commonWay_14 : decode cX5_commonWay 14 = .ok (.iload_n 1, 1) := by decide +kernel
theorem dX5_commonWay_15 : decode cX5_commonWay 15 = .ok (.invokevirtual 70, 3) := by decide +kernel
theorem dX5_commonWay_18 : decode cX5_commonWay 18 = .ok (.iconst 0, 1) := by decide +kernel
theorem dX5_commonWay_19 : decode cX5_commonWay 19 = .ok (.istore_n 2, 1) := by decide +kernel
theorem dX5_commonWay_20 : decode cX5_commonWay 20 = .ok (.iconst 0, 1) := by decide +kernel
theorem dX5_commonWay_21 : decode cX5_commonWay 21 = .ok (.istore_n 3, 1) := by decide +kernel
theorem dX5_commonWay_22 : decode cX5_commonWay 22 = .ok (.iconst 0, 1) := by decide +kernel
theorem dX5_commonWay_23 : decode cX5_commonWay 23 = .ok (.istore 4, 2) := by decide +kernel
theorem dX5_commonWay_25 : decode cX5_commonWay 25 = .ok (.iload 4, 2) := by decide +kernel
theorem dX5_commonWay_27 : decode cX5_commonWay 27 = .ok (.aload_n 0, 1) := by decide +kernel
theorem dX5_commonWay_28 : decode cX5_commonWay 28 = .ok (.getfield 34, 3) := by decide +kernel
theorem dX5_commonWay_31 : decode cX5_commonWay 31 = .ok (.getfield 113, 3) := by decide +kernel
theorem dX5_commonWay_34 : decode cX5_commonWay 34 = .ok (.if_icmp .ge 37, 3) := by decide +kernel
theorem dX5_commonWay_37 : decode cX5_commonWay 37 = .ok (.aload_n 0, 1) := by decide +kernel
theorem dX5_commonWay_38 : decode cX5_commonWay 38 = .ok (.iload_n 1, 1) := by decide +kernel
theorem dX5_commonWay_39 : decode cX5_commonWay 39 = .ok (.aload_n 0, 1) := by decide +kernel
theorem dX5_commonWay_40 : decode cX5_commonWay 40 = .ok (.getfield 34, 3) := by decide +kernel
theorem dX5_commonWay_43 : decode cX5_commonWay 43 = .ok (.iload 4, 2) := by decide +kernel
theorem dX5_commonWay_45 : decode cX5_commonWay 45 = .ok (.invokevirtual 78, 3) := by decide +kernel
theorem dX5_commonWay_48 : decode cX5_commonWay 48 = .ok (.invokevirtual 139, 3) := by decide +kernel
theorem dX5_commonWay_51 : decode cX5_commonWay 51 = .ok (.istore 5, 2) := by decide +kernel
theorem dX5_commonWay_53 : decode cX5_commonWay 53 = .ok (.iload 5, 2) := by decide +kernel
theorem dX5_commonWay_55 : decode cX5_commonWay 55 = .ok (.iload_n 3, 1) := by decide +kernel
theorem dX5_commonWay_56 : decode cX5_commonWay 56 = .ok (.if_icmp .le 9, 3) := by decide +kernel
theorem dX5_commonWay_59 : decode cX5_commonWay 59 = .ok (.iload 5, 2) := by decide +kernel
theorem dX5_commonWay_61 : decode cX5_commonWay 61 = .ok (.istore_n 3, 1) := by decide +kernel
theorem dX5_commonWay_62 : decode cX5_commonWay 62 = .ok (.iload 4, 2) := by decide +kernel
theorem dX5_commonWay_64 : decode cX5_commonWay 64 = .ok (.istore_n 2, 1) := by decide +kernel
theorem dX5_commonWay_65 : decode cX5_commonWay 65 = .ok (.iinc 4 1, 3) := by decide +kernel
theorem dX5_commonWay_68 : decode cX5_commonWay 68 = .ok (.goto (-43), 3) := by decide +kernel
theorem dX5_commonWay_71 : decode cX5_commonWay 71 = .ok (.iload_n 2, 1) := by decide +kernel
theorem dX5_commonWay_72 : decode cX5_commonWay 72 = .ok (.ireturn, 1) := by decide +kernel
set_option maxRecDepth 20000 in
theorem ggX5_reach_X5_isStyle : GoodIn wsX5_reach wsX5_isStyle := goodIn_r _ [5] (by decide +kernel) (by decide +kernel)
set_option maxRecDepth 20000 in
theorem gX5_reach_X5_isStyle : GoodIn wsX5_reach (va_wsS RX5 64 yX5_isStyle wsX5_isStyle) := goodIn_app (goodIn_of _ (by decide +kernel)) ggX5_reach_X5_isStyle
set_option maxRecDepth 20000 in
theorem ggX5_reach_X5_isNumber : GoodIn wsX5_reach wsX5_isNumber := goodIn_r _ [8] (by decide +kernel) (by decide +kernel)
set_option maxRecDepth 20000 in
theorem gX5_reach_X5_isNumber : GoodIn wsX5_reach (va_wsS RX5 67 yX5_isNumber wsX5_isNumber) := goodIn_app (goodIn_of _ (by decide +kernel)) ggX5_reach_X5_isNumber
set_option maxRecDepth 20000 in
theorem ggX5_reach_X4_find : GoodIn wsX5_reach wsX4_find := goodIn_r _ [13, 14, 15, 16, 17, 18, 19, 20, 21, 22, 23, 24, 12, 25, 26, 27, 28, 29, 30, 31, 32, 33, 34, 35, 36, 37, 38, 39, 40, 41, 42, 43, 44, 45, 46, 47, 48, 158, 159] (by decide +kernel) (by decide +kernel)
set_option maxRecDepth 20000 in
theorem gX5_reach_X4_find : GoodIn wsX5_reach (wsV RX5 70 RX4 yX4_find wsX4_find) := goodIn_app (goodIn_of _ (by decide +kernel)) ggX5_reach_X4_find
set_option maxRecDepth 20000 in
theorem ggX5_reach_X4_placeOfStyle : GoodIn wsX5_reach wsX4_placeOfStyle := goodIn_r _ [52, 14, 53, 54, 55, 12, 56, 37, 57, 58, 59, 60, 61, 31, 62, 63, 64, 65, 158, 159] (by decide +kernel) (by decide +kernel)
set_option maxRecDepth 20000 in
theorem gX5_reach_X4_placeOfStyle : GoodIn wsX5_reach (wsV RX5 74 RX4 yX4_placeOfStyle wsX4_placeOfStyle) := goodIn_app (goodIn_of _ (by decide +kernel)) ggX5_reach_X4_placeOfStyle
set_option maxRecDepth 20000 in
theorem ggX5_reach_X4_at : GoodIn wsX5_reach wsX4_at := goodIn_r _ [56, 37, 158, 159] (by decide +kernel) (by decide +kernel)
set_option maxRecDepth 20000 in
theorem gX5_reach_X4_at : GoodIn wsX5_reach (wsV RX5 78 RX4 yX4_at wsX4_at) := goodIn_app (goodIn_of _ (by decide +kernel)) ggX5_reach_X4_at
set_option maxRecDepth 20000 in
theorem ggX5_reach_X5_reached : GoodIn wsX5_reach wsX5_reached := goodIn_r _ [70, 71, 72, 73, 4, 74, 75, 76, 77, 78, 79, 80, 81, 82, 83, 84, 85, 86, 87, 88, 89, 90, 91, 92, 93, 94, 95, 96, 97, 98, 99, 31, 100, 101, 64, 65, 102, 103, 104, 105, 106, 107, 108, 109, 110, 111, 112, 113, 114, 115, 116, 117, 118, 119, 120, 121, 122, 123, 124, 125, 126, 127, 128, 129, 130, 131, 132, 133, 134, 135, 136, 137, 138, 139, 140, 141, 142, 143, 144, 145, 146, 147, 148, 149, 150, 151, 152, 153, 154, 155, 156, 157, 160, 161, 162, 163, 164, 165, 166, 167, 168, 169, 170, 171, 172, 173, 174, 175] (by decide +kernel) (by decide +kernel)
set_option maxRecDepth 20000 in
theorem gX5_reach_X5_reached : GoodIn wsX5_reach (wsV RX5 139 RX5 yX5_reached wsX5_reached) := goodIn_app (goodIn_of _ (by decide +kernel)) ggX5_reach_X5_reached
theorem dX5_reach_0 : decode cX5_reach 0 = .ok (.iload_n 2, 1) := by decide +kernel
theorem dX5_reach_1 : decode cX5_reach 1 = .ok (.invokestatic 64, 3) := by decide +kernel
theorem dX5_reach_4 : decode cX5_reach 4 = .ok (.ifCond .ne 5, 3) := by decide +kernel
theorem dX5_reach_7 : decode cX5_reach 7 = .ok (.iconst (-1), 1) := by decide +kernel
theorem dX5_reach_8 : decode cX5_reach 8 = .ok (.ireturn, 1) := by decide +kernel
theorem dX5_reach_9 : decode cX5_reach 9 = .ok (.iload_n 1, 1) := by decide +kernel
theorem dX5_reach_10 : decode cX5_reach 10 = .ok (.invokestatic 67, 3) := by decide +kernel
theorem dX5_reach_13 : decode cX5_reach 13 = .ok (.ifCond .ne 6, 3) := by decide +kernel
theorem dX5_reach_16 : decode cX5_reach 16 = .ok (.bipush (-2), 2) := by decide +kernel
theorem dX5_reach_18 : decode cX5_reach 18 = .ok (.ireturn, 1) := by decide +kernel
theorem dX5_reach_19 : decode cX5_reach 19 = .ok (.aload_n 0, 1) := by decide +kernel
theorem dX5_reach_20 : decode cX5_reach 20 = .ok (.getfield 34, 3) := by decide +kernel
theorem dX5_reach_23 : decode cX5_reach 23 = .ok (.iload_n 1, 1) := by decide +kernel
theorem dX5_reach_24 : decode cX5_reach 24 = .ok (.invokevirtual 70, 3) := by decide +kernel
theorem dX5_reach_27 : decode cX5_reach 27 = .ok (.aload_n 0, 1) := by decide +kernel
theorem dX5_reach_28 : decode cX5_reach 28 = .ok (.iload_n 1, 1) := by decide +kernel
theorem dX5_reach_29 : decode cX5_reach 29 = .ok (.aload_n 0, 1) := by decide +kernel
theorem dX5_reach_30 : decode cX5_reach 30 = .ok (.getfield 34, 3) := by decide +kernel
theorem dX5_reach_33 : decode cX5_reach 33 = .ok (.aload_n 0, 1) := by decide +kernel
theorem dX5_reach_34 : decode cX5_reach 34 = .ok (.getfield 34, 3) := by decide +kernel
theorem dX5_reach_37 : decode cX5_reach 37 = .ok (.iload_n 2, 1) := by decide +kernel
theorem dX5_reach_38 : decode cX5_reach 38 = .ok (.invokevirtual 74, 3) := by decide +kernel
theorem dX5_reach_41 : decode cX5_reach 41 = .ok (.invokevirtual 78, 3) := by decide +kernel
theorem dX5_reach_44 : decode cX5_reach 44 = .ok (.invokevirtual 139, 3) := by decide +kernel
theorem dX5_reach_47 : decode cX5_reach 47 = .ok (.ireturn, 1) := by decide +kernel
set_option maxRecDepth 20000 in
theorem ggX5_untellable_X5_isHearer : GoodIn wsX5_untellable wsX5_isHearer := goodIn_r _ [8] (by decide +kernel) (by decide +kernel)
set_option maxRecDepth 20000 in
theorem gX5_untellable_X5_isHearer : GoodIn wsX5_untellable (va_wsS RX5 49 yX5_isHearer wsX5_isHearer) := goodIn_app (goodIn_of _ (by decide +kernel)) ggX5_untellable_X5_isHearer
set_option maxRecDepth 20000 in
theorem ggX5_untellable_X5_isNumber : GoodIn wsX5_untellable wsX5_isNumber := goodIn_r _ [11] (by decide +kernel) (by decide +kernel)
set_option maxRecDepth 20000 in
theorem gX5_untellable_X5_isNumber : GoodIn wsX5_untellable (va_wsS RX5 67 yX5_isNumber wsX5_isNumber) := goodIn_app (goodIn_of _ (by decide +kernel)) ggX5_untellable_X5_isNumber
set_option maxRecDepth 20000 in
theorem ggX5_untellable_X5_firstUnderstood : GoodIn wsX5_untellable wsX5_firstUnderstood := goodIn_r _ [15, 16, 17, 18, 19, 20, 21, 22, 23, 24, 25, 3, 26, 27, 2, 4, 28, 29, 30, 31, 32, 33, 34, 35, 36, 37, 38, 39, 40, 41, 42, 43, 44, 45, 46, 47, 48, 49, 50, 51, 52, 53, 54, 55, 56, 57, 58, 59, 60, 61, 7, 62, 63, 64, 65, 66, 67, 68, 69, 70, 71, 72, 73, 74, 75, 76, 77, 78, 79, 80, 81, 82, 83, 84, 85, 86, 87, 88, 89, 90, 91, 92, 93, 94, 95, 96, 97, 98, 99, 100, 101, 102, 103, 104, 105, 106, 107, 108, 109, 110, 111, 112, 113, 114, 115, 116, 117, 118, 119, 120, 121, 122, 123, 124, 125, 126, 127, 128, 129, 130, 131, 132, 133, 134, 135, 136, 137, 138, 139, 140, 141, 142, 143, 144, 145, 146, 147, 148, 149, 150, 151, 152, 153, 154, 155, 156, 157, 158, 159, 160, 161, 162, 163, 164, 165] (by decide +kernel) (by decide +kernel)
set_option maxRecDepth 20000 in
theorem gX5_untellable_X5_firstUnderstood : GoodIn wsX5_untellable (wsV RX5 135 RX5 yX5_firstUnderstood wsX5_firstUnderstood) := goodIn_app (goodIn_of _ (by decide +kernel)) ggX5_untellable_X5_firstUnderstood
theorem dX5_untellable_0 : decode cX5_untellable 0 = .ok (.iload_n 1, 1) := by decide +kernel
theorem dX5_untellable_1 : decode cX5_untellable 1 = .ok (.invokestatic 49, 3) := by decide +kernel
theorem dX5_untellable_4 : decode cX5_untellable 4 = .ok (.ifCond .ne 5, 3) := by decide +kernel
theorem dX5_untellable_7 : decode cX5_untellable 7 = .ok (.iconst (-1), 1) := by decide +kernel
theorem dX5_untellable_8 : decode cX5_untellable 8 = .ok (.ireturn, 1) := by decide +kernel
theorem dX5_untellable_9 : decode cX5_untellable 9 = .ok (.iload_n 2, 1) := by decide +kernel
theorem dX5_untellable_10 : decode cX5_untellable 10 = .ok (.invokestatic 67, 3) := by decide +kernel
theorem dX5_untellable_13 : decode cX5_untellable 13 = .ok (.ifCond .eq 14, 3) := by decide +kernel
theorem dX5_untellable_16 : decode cX5_untellable 16 = .ok (.iload_n 3, 1) := by decide +kernel
theorem dX5_untellable_17 : decode cX5_untellable 17 = .ok (.iconst 1, 1) := by decide +kernel
theorem dX5_untellable_18 : decode cX5_untellable 18 = .ok (.if_icmp .lt 9, 3) := by decide +kernel
theorem dX5_untellable_21 : decode cX5_untellable 21 = .ok (.iload_n 3, 1) := by decide +kernel
theorem dX5_untellable_22 : decode cX5_untellable 22 = .ok (.bipush 40, 2) := by decide +kernel
theorem dX5_untellable_24 : decode cX5_untellable 24 = .ok (.if_icmp .le 6, 3) := by decide +kernel
theorem dX5_untellable_27 : decode cX5_untellable 27 = .ok (.bipush (-2), 2) := by decide +kernel
theorem dX5_untellable_29 : decode cX5_untellable 29 = .ok (.ireturn, 1) := by decide +kernel
theorem dX5_untellable_30 : decode cX5_untellable 30 = .ok (.iload_n 2, 1) := by decide +kernel
theorem dX5_untellable_31 : decode cX5_untellable 31 = .ok (.iload_n 3, 1) := by decide +kernel
theorem dX5_untellable_32 : decode cX5_untellable 32 = .ok (.iadd, 1) := by decide +kernel
theorem dX5_untellable_33 : decode cX5_untellable 33 = .ok (.iconst 1, 1) := by decide +kernel
theorem dX5_untellable_34 : decode cX5_untellable 34 = .ok (.isub, 1) := by decide +kernel
theorem dX5_untellable_35 : decode cX5_untellable 35 = .ok (.sipush 7999, 3) := by decide +kernel
theorem dX5_untellable_38 : decode cX5_untellable 38 = .ok (.invokestatic 142, 3) := by decide +kernel
theorem dX5_untellable_41 : decode cX5_untellable 41 = .ok (.istore 4, 2) := by decide +kernel
theorem dX5_untellable_43 : decode cX5_untellable 43 = .ok (.iconst 0, 1) := by decide +kernel
theorem dX5_untellable_44 : decode cX5_untellable 44 = .ok (.istore 5, 2) := by decide +kernel
theorem dX5_untellable_46 : decode cX5_untellable 46 = .ok (.iload_n 2, 1) := by decide +kernel
theorem dX5_untellable_47 : decode cX5_untellable 47 = .ok (.istore 6, 2) := by decide +kernel
theorem dX5_untellable_49 : decode cX5_untellable 49 = .ok (.iload 6, 2) := by decide +kernel
theorem dX5_untellable_51 : decode cX5_untellable 51 = .ok (.iload 4, 2) := by decide +kernel
theorem dX5_untellable_53 : decode cX5_untellable 53 = .ok (.if_icmp .gt 24, 3) := by decide +kernel
theorem dX5_untellable_56 : decode cX5_untellable 56 = .ok (.aload_n 0, 1) := by decide +kernel
theorem dX5_untellable_57 : decode cX5_untellable 57 = .ok (.iload_n 1, 1) := by decide +kernel
theorem dX5_untellable_58 : decode cX5_untellable 58 = .ok (.iload 6, 2) := by decide +kernel
theorem dX5_untellable_60 : decode cX5_untellable 60 = .ok (.invokevirtual 135, 3) := by decide +kernel
theorem dX5_untellable_63 : decode cX5_untellable 63 = .ok (.bipush (-5), 2) := by decide +kernel
theorem dX5_untellable_65 : decode cX5_untellable 65 = .ok (.if_icmp .ne 6, 3) := by decide +kernel
theorem dX5_untellable_68 : decode cX5_untellable 68 = .ok (.iinc 5 1, 3) := by decide +kernel
theorem dX5_untellable_71 : decode cX5_untellable 71 = .ok (.iinc 6 1, 3) := by decide +kernel
theorem dX5_untellable_74 : decode cX5_untellable 74 = .ok (.goto (-25), 3) := by decide +kernel
theorem dX5_untellable_77 : decode cX5_untellable 77 = .ok (.iload 5, 2) := by decide +kernel
theorem dX5_untellable_79 : decode cX5_untellable 79 = .ok (.ireturn, 1) := by decide +kernel
set_option maxRecDepth 20000 in
theorem ggX5_log_X3_told : GoodIn wsX5_log wsX3_told := goodIn_r _ [7, 8, 9, 16, 17, 18, 19, 20] (by decide +kernel) (by decide +kernel)
set_option maxRecDepth 20000 in
theorem gX5_log_X3_told : GoodIn wsX5_log (wsV RX5 150 RX3 yX3_told wsX3_told) := goodIn_app (goodIn_of _ (by decide +kernel)) ggX5_log_X3_told
theorem dX5_log_0 : decode cX5_log 0 = .ok (.iload_n 1, 1) := by decide +kernel
theorem dX5_log_1 : decode cX5_log 1 = .ok (.ifCond .lt 12, 3) := by decide +kernel
theorem dX5_log_4 : decode cX5_log 4 = .ok (.iload_n 2, 1) := by decide +kernel
theorem dX5_log_5 : decode cX5_log 5 = .ok (.ifCond .lt 8, 3) := by decide +kernel
theorem dX5_log_8 : decode cX5_log 8 = .ok (.iload_n 2, 1) := by decide +kernel
theorem dX5_log_9 : decode cX5_log 9 = .ok (.iconst 5, 1) := by decide +kernel
theorem dX5_log_10 : decode cX5_log 10 = .ok (.if_icmp .lt 6, 3) := by decide +kernel
theorem dX5_log_13 : decode cX5_log 13 = .ok (.bipush (-2), 2) := by decide +kernel
theorem dX5_log_15 : decode cX5_log 15 = .ok (.ireturn, 1) := by decide +kernel
theorem dX5_log_16 : decode cX5_log 16 = .ok (.iload_n 1, 1) := by decide +kernel
theorem dX5_log_17 : decode cX5_log 17 = .ok (.aload_n 0, 1) := by decide +kernel
theorem dX5_log_18 : decode cX5_log 18 = .ok (.getfield 10, 3) := by decide +kernel
theorem dX5_log_21 : decode cX5_log 21 = .ok (.getfield 147, 3) := by decide +kernel
theorem dX5_log_24 : decode cX5_log 24 = .ok (.if_icmp .ge 15, 3) := by decide +kernel
theorem dX5_log_27 : decode cX5_log 27 = .ok (.aload_n 0, 1) := by decide +kernel
theorem dX5_log_28 : decode cX5_log 28 = .ok (.getfield 10, 3) := by decide +kernel
theorem dX5_log_31 : decode cX5_log 31 = .ok (.iload_n 1, 1) := by decide +kernel
theorem dX5_log_32 : decode cX5_log 32 = .ok (.iload_n 2, 1) := by decide +kernel
theorem dX5_log_33 : decode cX5_log 33 = .ok (.invokevirtual 150, 3) := by decide +kernel
theorem dX5_log_36 : decode cX5_log 36 = .ok (.goto 5, 3) := by decide +kernel
theorem dX5_log_39 : decode cX5_log 39 = .ok (.bipush (-5), 2) := by decide +kernel
theorem dX5_log_41 : decode cX5_log 41 = .ok (.ireturn, 1) := by decide +kernel
set_option maxRecDepth 20000 in
theorem ggX5_sum_X3_total : GoodIn wsX5_sum wsX3_total := goodIn_r _ [6, 7, 14, 15, 16, 17, 18] (by decide +kernel) (by decide +kernel)
set_option maxRecDepth 20000 in
theorem gX5_sum_X3_total : GoodIn wsX5_sum (wsV RX5 153 RX3 yX3_total wsX3_total) := goodIn_app (goodIn_of _ (by decide +kernel)) ggX5_sum_X3_total
theorem dX5_sum_0 : decode cX5_sum 0 = .ok (.iload_n 1, 1) := by decide +kernel
theorem dX5_sum_1 : decode cX5_sum 1 = .ok (.tableswitch 73 0 3 #[31, 42, 53, 63], 31) := by decide +kernel
theorem dX5_sum_32 : decode cX5_sum 32 = .ok (.aload_n 0, 1) := by decide +kernel
theorem dX5_sum_33 : decode cX5_sum 33 = .ok (.getfield 10, 3) := by decide +kernel
theorem dX5_sum_36 : decode cX5_sum 36 = .ok (.bipush 7, 2) := by decide +kernel
theorem dX5_sum_38 : decode cX5_sum 38 = .ok (.iconst 1, 1) := by decide +kernel
theorem dX5_sum_39 : decode cX5_sum 39 = .ok (.invokevirtual 153, 3) := by decide +kernel
theorem dX5_sum_42 : decode cX5_sum 42 = .ok (.ireturn, 1) := by decide +kernel
theorem dX5_sum_43 : decode cX5_sum 43 = .ok (.aload_n 0, 1) := by decide +kernel
theorem dX5_sum_44 : decode cX5_sum 44 = .ok (.getfield 10, 3) := by decide +kernel
theorem dX5_sum_47 : decode cX5_sum 47 = .ok (.bipush 8, 2) := by decide +kernel
theorem dX5_sum_49 : decode cX5_sum 49 = .ok (.iconst 1, 1) := by decide +kernel
theorem dX5_sum_50 : decode cX5_sum 50 = .ok (.invokevirtual 153, 3) := by decide +kernel
theorem dX5_sum_53 : decode cX5_sum 53 = .ok (.ireturn, 1) := by decide +kernel
theorem dX5_sum_54 : decode cX5_sum 54 = .ok (.aload_n 0, 1) := by decide +kernel
theorem dX5_sum_55 : decode cX5_sum 55 = .ok (.getfield 10, 3) := by decide +kernel
theorem dX5_sum_58 : decode cX5_sum 58 = .ok (.iconst 0, 1) := by decide +kernel
theorem dX5_sum_59 : decode cX5_sum 59 = .ok (.iconst 3, 1) := by decide +kernel
theorem dX5_sum_60 : decode cX5_sum 60 = .ok (.invokevirtual 153, 3) := by decide +kernel
theorem dX5_sum_63 : decode cX5_sum 63 = .ok (.ireturn, 1) := by decide +kernel
theorem dX5_sum_64 : decode cX5_sum 64 = .ok (.aload_n 0, 1) := by decide +kernel
theorem dX5_sum_65 : decode cX5_sum 65 = .ok (.getfield 10, 3) := by decide +kernel
theorem dX5_sum_68 : decode cX5_sum 68 = .ok (.iconst 3, 1) := by decide +kernel
theorem dX5_sum_69 : decode cX5_sum 69 = .ok (.iconst 3, 1) := by decide +kernel
theorem dX5_sum_70 : decode cX5_sum 70 = .ok (.invokevirtual 153, 3) := by decide +kernel
theorem dX5_sum_73 : decode cX5_sum 73 = .ok (.ireturn, 1) := by decide +kernel
theorem dX5_sum_74 : decode cX5_sum 74 = .ok (.bipush (-2), 2) := by decide +kernel
theorem dX5_sum_76 : decode cX5_sum 76 = .ok (.ireturn, 1) := by decide +kernel
theorem dX5_patience_0 : decode cX5_patience 0 = .ok (.aload_n 0, 1) := by decide +kernel
theorem dX5_patience_1 : decode cX5_patience 1 = .ok (.getfield 10, 3) := by decide +kernel
theorem dX5_patience_4 : decode cX5_patience 4 = .ok (.getfield 61, 3) := by decide +kernel
theorem dX5_patience_7 : decode cX5_patience 7 = .ok (.ireturn, 1) := by decide +kernel
set_option maxRecDepth 20000 in
theorem ggX5_share_X3_total : GoodIn wsX5_share wsX3_total := goodIn_r _ [6, 7, 14, 15, 16, 17, 18] (by decide +kernel) (by decide +kernel)
set_option maxRecDepth 20000 in
theorem gX5_share_X3_total : GoodIn wsX5_share (wsV RX5 153 RX3 yX3_total wsX3_total) := goodIn_app (goodIn_of _ (by decide +kernel)) ggX5_share_X3_total
theorem dX5_share_0 : decode cX5_share 0 = .ok (.aload_n 0, 1) := by decide +kernel
theorem dX5_share_1 : decode cX5_share 1 = .ok (.getfield 10, 3) := by decide +kernel
theorem dX5_share_4 : decode cX5_share 4 = .ok (.bipush 7, 2) := by decide +kernel
theorem dX5_share_6 : decode cX5_share 6 = .ok (.iconst 1, 1) := by decide +kernel
theorem dX5_share_7 : decode cX5_share 7 = .ok (.invokevirtual 153, 3) := by decide +kernel
theorem dX5_share_10 : decode cX5_share 10 = .ok (.istore_n 1, 1) := by decide +kernel
theorem dX5_share_11 : decode cX5_share 11 = .ok (.iload_n 1, 1) := by decide +kernel
theorem dX5_share_12 : decode cX5_share 12 = .ok (.ifCond .gt 5, 3) := by decide +kernel
theorem dX5_share_15 : decode cX5_share 15 = .ok (.fconst 1, 1) := by decide +kernel
theorem dX5_share_16 : decode cX5_share 16 = .ok (.freturn, 1) := by decide +kernel
theorem dX5_share_17 : decode cX5_share 17 = .ok (.iload_n 1, 1) := by decide +kernel
theorem dX5_share_18 : decode cX5_share 18 = .ok (.aload_n 0, 1) := by decide +kernel
theorem dX5_share_19 : decode cX5_share 19 = .ok (.getfield 10, 3) := by decide +kernel
theorem dX5_share_22 : decode cX5_share 22 = .ok (.bipush 8, 2) := by decide +kernel
theorem dX5_share_24 : decode cX5_share 24 = .ok (.iconst 1, 1) := by decide +kernel
theorem dX5_share_25 : decode cX5_share 25 = .ok (.invokevirtual 153, 3) := by decide +kernel
theorem dX5_share_28 : decode cX5_share 28 = .ok (.isub, 1) := by decide +kernel
theorem dX5_share_29 : decode cX5_share 29 = .ok (.istore_n 2, 1) := by decide +kernel
theorem dX5_share_30 : decode cX5_share 30 = .ok (.iload_n 2, 1) := by decide +kernel
theorem dX5_share_31 : decode cX5_share 31 = .ok (.i2f, 1) := by decide +kernel
theorem dX5_share_32 : decode cX5_share 32 = .ok (.iload_n 1, 1) := by decide +kernel
theorem dX5_share_33 : decode cX5_share 33 = .ok (.i2f, 1) := by decide +kernel
theorem dX5_share_34 : decode cX5_share 34 = .ok (.fdiv, 1) := by decide +kernel
theorem dX5_share_35 : decode cX5_share 35 = .ok (.freturn, 1) := by decide +kernel
theorem dX5_isHearer_0 : decode cX5_isHearer 0 = .ok (.iload_n 0, 1) := by decide +kernel
theorem dX5_isHearer_1 : decode cX5_isHearer 1 = .ok (.ifCond .lt 13, 3) := by decide +kernel
theorem dX5_isHearer_4 : decode cX5_isHearer 4 = .ok (.iload_n 0, 1) := by decide +kernel
theorem dX5_isHearer_5 : decode cX5_isHearer 5 = .ok (.bipush 6, 2) := by decide +kernel
theorem dX5_isHearer_7 : decode cX5_isHearer 7 = .ok (.if_icmp .ge 7, 3) := by decide +kernel
theorem dX5_isHearer_10 : decode cX5_isHearer 10 = .ok (.iconst 1, 1) := by decide +kernel
theorem dX5_isHearer_11 : decode cX5_isHearer 11 = .ok (.goto 4, 3) := by decide +kernel
theorem dX5_isHearer_14 : decode cX5_isHearer 14 = .ok (.iconst 0, 1) := by decide +kernel
theorem dX5_isHearer_15 : decode cX5_isHearer 15 = .ok (.ireturn, 1) := by decide +kernel
theorem dX5_isWord_0 : decode cX5_isWord 0 = .ok (.iload_n 0, 1) := by decide +kernel
theorem dX5_isWord_1 : decode cX5_isWord 1 = .ok (.ifCond .lt 12, 3) := by decide +kernel
theorem dX5_isWord_4 : decode cX5_isWord 4 = .ok (.iload_n 0, 1) := by decide +kernel
theorem dX5_isWord_5 : decode cX5_isWord 5 = .ok (.iconst 3, 1) := by decide +kernel
theorem dX5_isWord_6 : decode cX5_isWord 6 = .ok (.if_icmp .ge 7, 3) := by decide +kernel
theorem dX5_isWord_9 : decode cX5_isWord 9 = .ok (.iconst 1, 1) := by decide +kernel
theorem dX5_isWord_10 : decode cX5_isWord 10 = .ok (.goto 4, 3) := by decide +kernel
theorem dX5_isWord_13 : decode cX5_isWord 13 = .ok (.iconst 0, 1) := by decide +kernel
theorem dX5_isWord_14 : decode cX5_isWord 14 = .ok (.ireturn, 1) := by decide +kernel
theorem dX5_isStyle_0 : decode cX5_isStyle 0 = .ok (.iload_n 0, 1) := by decide +kernel
theorem dX5_isStyle_1 : decode cX5_isStyle 1 = .ok (.ifCond .lt 12, 3) := by decide +kernel
theorem dX5_isStyle_4 : decode cX5_isStyle 4 = .ok (.iload_n 0, 1) := by decide +kernel
theorem dX5_isStyle_5 : decode cX5_isStyle 5 = .ok (.iconst 4, 1) := by decide +kernel
theorem dX5_isStyle_6 : decode cX5_isStyle 6 = .ok (.if_icmp .ge 7, 3) := by decide +kernel
theorem dX5_isStyle_9 : decode cX5_isStyle 9 = .ok (.iconst 1, 1) := by decide +kernel
theorem dX5_isStyle_10 : decode cX5_isStyle 10 = .ok (.goto 4, 3) := by decide +kernel
theorem dX5_isStyle_13 : decode cX5_isStyle 13 = .ok (.iconst 0, 1) := by decide +kernel
theorem dX5_isStyle_14 : decode cX5_isStyle 14 = .ok (.ireturn, 1) := by decide +kernel
theorem dX5_isNumber_0 : decode cX5_isNumber 0 = .ok (.iload_n 0, 1) := by decide +kernel
theorem dX5_isNumber_1 : decode cX5_isNumber 1 = .ok (.iconst 1, 1) := by decide +kernel
theorem dX5_isNumber_2 : decode cX5_isNumber 2 = .ok (.if_icmp .lt 14, 3) := by decide +kernel
theorem dX5_isNumber_5 : decode cX5_isNumber 5 = .ok (.iload_n 0, 1) := by decide +kernel
theorem dX5_isNumber_6 : decode cX5_isNumber 6 = .ok (.sipush 7999, 3) := by decide +kernel
theorem dX5_isNumber_9 : decode cX5_isNumber 9 = .ok (.if_icmp .gt 7, 3) := by decide +kernel
theorem dX5_isNumber_12 : decode cX5_isNumber 12 = .ok (.iconst 1, 1) := by decide +kernel
theorem dX5_isNumber_13 : decode cX5_isNumber 13 = .ok (.goto 4, 3) := by decide +kernel
theorem dX5_isNumber_16 : decode cX5_isNumber 16 = .ok (.iconst 0, 1) := by decide +kernel
theorem dX5_isNumber_17 : decode cX5_isNumber 17 = .ok (.ireturn, 1) := by decide +kernel
theorem dX5_orNone_0 : decode cX5_orNone 0 = .ok (.iload_n 0, 1) := by decide +kernel
theorem dX5_orNone_1 : decode cX5_orNone 1 = .ok (.ifCond .ne 8, 3) := by decide +kernel
theorem dX5_orNone_4 : decode cX5_orNone 4 = .ok (.bipush (-5), 2) := by decide +kernel
theorem dX5_orNone_6 : decode cX5_orNone 6 = .ok (.goto 4, 3) := by decide +kernel
theorem dX5_orNone_9 : decode cX5_orNone 9 = .ok (.iload_n 0, 1) := by decide +kernel
theorem dX5_orNone_10 : decode cX5_orNone 10 = .ok (.ireturn, 1) := by decide +kernel
set_option maxRecDepth 20000 in
theorem ggX5_putWord_X5_isHearer : GoodIn wsX5_putWord wsX5_isHearer := goodIn_r _ [7] (by decide +kernel) (by decide +kernel)
set_option maxRecDepth 20000 in
theorem gX5_putWord_X5_isHearer : GoodIn wsX5_putWord (va_wsS RX5 49 yX5_isHearer wsX5_isHearer) := goodIn_app (goodIn_of _ (by decide +kernel)) ggX5_putWord_X5_isHearer
set_option maxRecDepth 20000 in
theorem ggX5_putWord_X5_isWord : GoodIn wsX5_putWord wsX5_isWord := goodIn_r _ [10] (by decide +kernel) (by decide +kernel)
set_option maxRecDepth 20000 in
theorem gX5_putWord_X5_isWord : GoodIn wsX5_putWord (va_wsS RX5 156 yX5_isWord wsX5_isWord) := goodIn_app (goodIn_of _ (by decide +kernel)) ggX5_putWord_X5_isWord
set_option maxRecDepth 20000 in
theorem ggX5_putWord_X1_record : GoodIn wsX5_putWord wsX1_record := goodIn_r _ [15, 16, 17, 18, 19, 20, 21, 22, 23, 24, 25, 26, 27, 28, 29, 30, 31, 32, 33, 34, 35, 36, 48, 49, 50, 43, 44, 45, 46, 47] (by decide +kernel) (by decide +kernel)
set_option maxRecDepth 20000 in
theorem gX5_putWord_X1_record : GoodIn wsX5_putWord (wsV RX5 53 RX1 yX1_record wsX1_record) := goodIn_app (goodIn_of _ (by decide +kernel)) ggX5_putWord_X1_record
theorem dX5_putWord_0 : decode cX5_putWord 0 = .ok (.iload_n 1, 1) := by decide +kernel
theorem dX5_putWord_1 : decode cX5_putWord 1 = .ok (.invokestatic 49, 3) := by decide +kernel
theorem dX5_putWord_4 : decode cX5_putWord 4 = .ok (.ifCond .eq 10, 3) := by decide +kernel
theorem dX5_putWord_7 : decode cX5_putWord 7 = .ok (.iload_n 2, 1) := by decide +kernel
theorem dX5_putWord_8 : decode cX5_putWord 8 = .ok (.invokestatic 156, 3) := by decide +kernel
theorem dX5_putWord_11 : decode cX5_putWord 11 = .ok (.ifCond .ne 5, 3) := by decide +kernel
theorem dX5_putWord_14 : decode cX5_putWord 14 = .ok (.iconst (-1), 1) := by decide +kernel
theorem dX5_putWord_15 : decode cX5_putWord 15 = .ok (.ireturn, 1) := by decide +kernel
theorem dX5_putWord_16 : decode cX5_putWord 16 = .ok (.aload_n 0, 1) := by decide +kernel
theorem dX5_putWord_17 : decode cX5_putWord 17 = .ok (.getfield 19, 3) := by decide +kernel
theorem dX5_putWord_20 : decode cX5_putWord 20 = .ok (.aload_n 0, 1) := by decide +kernel
theorem dX5_putWord_21 : decode cX5_putWord 21 = .ok (.getfield 10, 3) := by decide +kernel
theorem dX5_putWord_24 : decode cX5_putWord 24 = .ok (.invokevirtual 53, 3) := by decide +kernel
theorem dX5_putWord_27 : decode cX5_putWord 27 = .ok (.aload_n 0, 1) := by decide +kernel
theorem dX5_putWord_28 : decode cX5_putWord 28 = .ok (.getfield 10, 3) := by decide +kernel
theorem dX5_putWord_31 : decode cX5_putWord 31 = .ok (.getfield 57, 3) := by decide +kernel
theorem dX5_putWord_34 : decode cX5_putWord 34 = .ok (.iload_n 1, 1) := by decide +kernel
theorem dX5_putWord_35 : decode cX5_putWord 35 = .ok (.aaload, 1) := by decide +kernel
theorem dX5_putWord_36 : decode cX5_putWord 36 = .ok (.astore 4, 2) := by decide +kernel
theorem dX5_putWord_38 : decode cX5_putWord 38 = .ok (.aload 4, 2) := by decide +kernel
theorem dX5_putWord_40 : decode cX5_putWord 40 = .ok (.iconst 0, 1) := by decide +kernel
theorem dX5_putWord_41 : decode cX5_putWord 41 = .ok (.iload_n 2, 1) := by decide +kernel
theorem dX5_putWord_42 : decode cX5_putWord 42 = .ok (.iadd, 1) := by decide +kernel
theorem dX5_putWord_43 : decode cX5_putWord 43 = .ok (.iload_n 3, 1) := by decide +kernel
theorem dX5_putWord_44 : decode cX5_putWord 44 = .ok (.iastore, 1) := by decide +kernel
theorem dX5_putWord_45 : decode cX5_putWord 45 = .ok (.aload 4, 2) := by decide +kernel
theorem dX5_putWord_47 : decode cX5_putWord 47 = .ok (.iconst 3, 1) := by decide +kernel
theorem dX5_putWord_48 : decode cX5_putWord 48 = .ok (.iload_n 2, 1) := by decide +kernel
theorem dX5_putWord_49 : decode cX5_putWord 49 = .ok (.iadd, 1) := by decide +kernel
theorem dX5_putWord_50 : decode cX5_putWord 50 = .ok (.iconst 0, 1) := by decide +kernel
theorem dX5_putWord_51 : decode cX5_putWord 51 = .ok (.iastore, 1) := by decide +kernel
theorem dX5_putWord_52 : decode cX5_putWord 52 = .ok (.iconst 0, 1) := by decide +kernel
theorem dX5_putWord_53 : decode cX5_putWord 53 = .ok (.istore 5, 2) := by decide +kernel
theorem dX5_putWord_55 : decode cX5_putWord 55 = .ok (.iconst 0, 1) := by decide +kernel
theorem dX5_putWord_56 : decode cX5_putWord 56 = .ok (.istore 6, 2) := by decide +kernel
theorem dX5_putWord_58 : decode cX5_putWord 58 = .ok (.iload 6, 2) := by decide +kernel
theorem dX5_putWord_60 : decode cX5_putWord 60 = .ok (.iconst 3, 1) := by decide +kernel
theorem dX5_putWord_61 : decode cX5_putWord 61 = .ok (.if_icmp .ge 21, 3) := by decide +kernel
theorem dX5_putWord_64 : decode cX5_putWord 64 = .ok (.iload 5, 2) := by decide +kernel
theorem dX5_putWord_66 : decode cX5_putWord 66 = .ok (.aload 4, 2) := by decide +kernel
theorem dX5_putWord_68 : decode cX5_putWord 68 = .ok (.iconst 0, 1) := by decide +kernel
theorem dX5_putWord_69 : decode cX5_putWord 69 = .ok (.iload 6, 2) := by decide +kernel
theorem dX5_putWord_71 : decode cX5_putWord 71 = .ok (.iadd, 1) := by decide +kernel
theorem dX5_putWord_72 : decode cX5_putWord 72 = .ok (.iaload, 1) := by decide +kernel
theorem dX5_putWord_73 : decode cX5_putWord 73 = .ok (.iadd, 1) := by decide +kernel
theorem dX5_putWord_74 : decode cX5_putWord 74 = .ok (.istore 5, 2) := by decide +kernel
theorem dX5_putWord_76 : decode cX5_putWord 76 = .ok (.iinc 6 1, 3) := by decide +kernel
theorem dX5_putWord_79 : decode cX5_putWord 79 = .ok (.goto (-21), 3) := by decide +kernel
theorem dX5_putWord_82 : decode cX5_putWord 82 = .ok (.iload 5, 2) := by decide +kernel
theorem dX5_putWord_84 : decode cX5_putWord 84 = .ok (.ireturn, 1) := by decide +kernel
set_option maxRecDepth 20000 in
theorem ggX5_packedText_X2_then : GoodIn wsX5_packedText wsX2_then := goodIn_r _ [6] (by decide +kernel) (by decide +kernel)
set_option maxRecDepth 20000 in
theorem gX5_packedText_X2_then : GoodIn wsX5_packedText (va_wsS RX5 159 yX2_then wsX2_then) := goodIn_app (goodIn_of _ (by decide +kernel)) ggX5_packedText_X2_then
theorem dX5_packedText_0 : decode cX5_packedText 0 = .ok (.lconst 0, 1) := by decide +kernel
theorem dX5_packedText_1 : decode cX5_packedText 1 = .ok (.lstore_n 1, 1) := by decide +kernel
theorem dX5_packedText_2 : decode cX5_packedText 2 = .ok (.iconst 0, 1) := by decide +kernel
theorem dX5_packedText_3 : decode cX5_packedText 3 = .ok (.istore_n 3, 1) := by decide +kernel
theorem dX5_packedText_4 : decode cX5_packedText 4 = .ok (.iload_n 3, 1) := by decide +kernel
theorem dX5_packedText_5 : decode cX5_packedText 5 = .ok (.aload_n 0, 1) := by decide +kernel
theorem dX5_packedText_6 : decode cX5_packedText 6 = .ok (.getfield 27, 3) := by decide +kernel
theorem dX5_packedText_9 : decode cX5_packedText 9 = .ok (.if_icmp .ge 26, 3) := by decide +kernel
theorem dX5_packedText_12 : decode cX5_packedText 12 = .ok (.iload_n 3, 1) := by decide +kernel
theorem dX5_packedText_13 : decode cX5_packedText 13 = .ok (.bipush 20, 2) := by decide +kernel
theorem dX5_packedText_15 : decode cX5_packedText 15 = .ok (.if_icmp .ge 20, 3) := by decide +kernel
theorem dX5_packedText_18 : decode cX5_packedText 18 = .ok (.lload_n 1, 1) := by decide +kernel
theorem dX5_packedText_19 : decode cX5_packedText 19 = .ok (.aload_n 0, 1) := by decide +kernel
theorem dX5_packedText_20 : decode cX5_packedText 20 = .ok (.getfield 23, 3) := by decide +kernel
theorem dX5_packedText_23 : decode cX5_packedText 23 = .ok (.iload_n 3, 1) := by decide +kernel
theorem dX5_packedText_24 : decode cX5_packedText 24 = .ok (.caload, 1) := by decide +kernel
theorem dX5_packedText_25 : decode cX5_packedText 25 = .ok (.invokestatic 159, 3) := by decide +kernel
theorem dX5_packedText_28 : decode cX5_packedText 28 = .ok (.lstore_n 1, 1) := by decide +kernel
theorem dX5_packedText_29 : decode cX5_packedText 29 = .ok (.iinc 3 1, 3) := by decide +kernel
theorem dX5_packedText_32 : decode cX5_packedText 32 = .ok (.goto (-28), 3) := by decide +kernel
theorem dX5_packedText_35 : decode cX5_packedText 35 = .ok (.lload_n 1, 1) := by decide +kernel
theorem dX5_packedText_36 : decode cX5_packedText 36 = .ok (.lreturn, 1) := by decide +kernel
set_option maxRecDepth 20000 in
theorem ggX5_meant_X0_listen : GoodIn wsX5_meant wsX0_listen := goodIn_r _ [6, 7, 8, 9, 10, 11, 12, 13, 14, 15, 16, 17, 85, 86, 87, 88, 89, 90, 91, 92, 93, 94, 95] (by decide +kernel) (by decide +kernel)
set_option maxRecDepth 20000 in
theorem gX5_meant_X0_listen : GoodIn wsX5_meant (wsV RX5 98 RX0 yX0_listen wsX0_listen) := goodIn_app (goodIn_of _ (by decide +kernel)) ggX5_meant_X0_listen
set_option maxRecDepth 20000 in
theorem ggX5_meant_X0_hear : GoodIn wsX5_meant wsX0_hear := goodIn_r _ [21, 22, 23, 24, 25, 26, 27, 28, 29, 30, 31, 5, 32, 10, 33, 34, 35, 36, 37, 38, 39, 40, 11, 41, 42, 43, 44, 45, 46, 47, 48, 49, 50, 51, 52, 53, 54, 55, 56, 57, 58, 12, 13, 14, 16, 9, 15, 59, 60, 61, 62, 17, 63, 64, 65, 66, 7, 67, 68, 69, 70, 71, 72, 73, 74, 75, 76, 77, 78, 8, 85, 86, 87, 88, 89, 90, 91, 92, 93, 94, 95] (by decide +kernel) (by decide +kernel)
set_option maxRecDepth 20000 in
theorem gX5_meant_X0_hear : GoodIn wsX5_meant (wsV RX5 163 RX0 yX0_hear wsX0_hear) := goodIn_app (goodIn_of _ (by decide +kernel)) ggX5_meant_X0_hear
theorem dX5_meant_0 : decode cX5_meant 0 = .ok (.aload_n 0, 1) := by decide +kernel
theorem dX5_meant_1 : decode cX5_meant 1 = .ok (.getfield 41, 3) := by decide +kernel
theorem dX5_meant_4 : decode cX5_meant 4 = .ok (.iconst 1, 1) := by decide +kernel
theorem dX5_meant_5 : decode cX5_meant 5 = .ok (.iconst 1, 1) := by decide +kernel
theorem dX5_meant_6 : decode cX5_meant 6 = .ok (.iconst 1, 1) := by decide +kernel
theorem dX5_meant_7 : decode cX5_meant 7 = .ok (.invokevirtual 98, 3) := by decide +kernel
theorem dX5_meant_10 : decode cX5_meant 10 = .ok (.aload_n 0, 1) := by decide +kernel
theorem dX5_meant_11 : decode cX5_meant 11 = .ok (.getfield 41, 3) := by decide +kernel
theorem dX5_meant_14 : decode cX5_meant 14 = .ok (.lload_n 1, 1) := by decide +kernel
theorem dX5_meant_15 : decode cX5_meant 15 = .ok (.bipush 12, 2) := by decide +kernel
theorem dX5_meant_17 : decode cX5_meant 17 = .ok (.invokevirtual 163, 3) := by decide +kernel
theorem dX5_meant_20 : decode cX5_meant 20 = .ok (.ireturn, 1) := by decide +kernel
set_option maxRecDepth 20000 in
theorem ggX5_heard_X0_listen : GoodIn wsX5_heard wsX0_listen := goodIn_r _ [8, 9, 10, 11, 12, 13, 14, 15, 16, 17, 18, 19, 92, 93, 94, 95, 96, 97, 98, 99, 100, 101, 102] (by decide +kernel) (by decide +kernel)
set_option maxRecDepth 20000 in
theorem gX5_heard_X0_listen : GoodIn wsX5_heard (wsV RX5 98 RX0 yX0_listen wsX0_listen) := goodIn_app (goodIn_of _ (by decide +kernel)) ggX5_heard_X0_listen
set_option maxRecDepth 20000 in
theorem ggX5_heard_X0_hear : GoodIn wsX5_heard wsX0_hear := goodIn_r _ [23, 24, 25, 26, 27, 28, 29, 30, 31, 32, 33, 7, 34, 12, 35, 36, 37, 38, 39, 40, 41, 42, 13, 43, 44, 45, 46, 47, 48, 49, 50, 51, 52, 53, 54, 55, 56, 57, 58, 59, 60, 14, 15, 16, 18, 11, 17, 61, 62, 63, 64, 19, 65, 66, 67, 68, 9, 69, 70, 71, 72, 73, 74, 75, 76, 77, 78, 79, 80, 10, 92, 93, 94, 95, 96, 97, 98, 99, 100, 101, 102] (by decide +kernel) (by decide +kernel)
set_option maxRecDepth 20000 in
theorem gX5_heard_X0_hear : GoodIn wsX5_heard (wsV RX5 163 RX0 yX0_hear wsX0_hear) := goodIn_app (goodIn_of _ (by decide +kernel)) ggX5_heard_X0_hear
theorem dX5_heard_0 : decode cX5_heard 0 = .ok (.aload_n 0, 1) := by decide +kernel
theorem dX5_heard_1 : decode cX5_heard 1 = .ok (.getfield 10, 3) := by decide +kernel
theorem dX5_heard_4 : decode cX5_heard 4 = .ok (.getfield 57, 3) := by decide +kernel
theorem dX5_heard_7 : decode cX5_heard 7 = .ok (.iload_n 1, 1) := by decide +kernel
theorem dX5_heard_8 : decode cX5_heard 8 = .ok (.aaload, 1) := by decide +kernel
theorem dX5_heard_9 : decode cX5_heard 9 = .ok (.astore 4, 2) := by decide +kernel
theorem dX5_heard_11 : decode cX5_heard 11 = .ok (.aload_n 0, 1) := by decide +kernel
theorem dX5_heard_12 : decode cX5_heard 12 = .ok (.getfield 41, 3) := by decide +kernel
theorem dX5_heard_15 : decode cX5_heard 15 = .ok (.aload 4, 2) := by decide +kernel
theorem dX5_heard_17 : decode cX5_heard 17 = .ok (.iconst 0, 1) := by decide +kernel
theorem dX5_heard_18 : decode cX5_heard 18 = .ok (.iaload, 1) := by decide +kernel
theorem dX5_heard_19 : decode cX5_heard 19 = .ok (.iconst 1, 1) := by decide +kernel
theorem dX5_heard_20 : decode cX5_heard 20 = .ok (.if_icmp .ne 7, 3) := by decide +kernel
theorem dX5_heard_23 : decode cX5_heard 23 = .ok (.iconst 1, 1) := by decide +kernel
theorem dX5_heard_24 : decode cX5_heard 24 = .ok (.goto 4, 3) := by decide +kernel
theorem dX5_heard_27 : decode cX5_heard 27 = .ok (.iconst 0, 1) := by decide +kernel
theorem dX5_heard_28 : decode cX5_heard 28 = .ok (.aload 4, 2) := by decide +kernel
theorem dX5_heard_30 : decode cX5_heard 30 = .ok (.iconst 1, 1) := by decide +kernel
theorem dX5_heard_31 : decode cX5_heard 31 = .ok (.iaload, 1) := by decide +kernel
theorem dX5_heard_32 : decode cX5_heard 32 = .ok (.iconst 1, 1) := by decide +kernel
theorem dX5_heard_33 : decode cX5_heard 33 = .ok (.if_icmp .ne 7, 3) := by decide +kernel
theorem dX5_heard_36 : decode cX5_heard 36 = .ok (.iconst 1, 1) := by decide +kernel
theorem dX5_heard_37 : decode cX5_heard 37 = .ok (.goto 4, 3) := by decide +kernel
theorem dX5_heard_40 : decode cX5_heard 40 = .ok (.iconst 0, 1) := by decide +kernel
theorem dX5_heard_41 : decode cX5_heard 41 = .ok (.aload 4, 2) := by decide +kernel
theorem dX5_heard_43 : decode cX5_heard 43 = .ok (.iconst 2, 1) := by decide +kernel
theorem dX5_heard_44 : decode cX5_heard 44 = .ok (.iaload, 1) := by decide +kernel
theorem dX5_heard_45 : decode cX5_heard 45 = .ok (.iconst 1, 1) := by decide +kernel
theorem dX5_heard_46 : decode cX5_heard 46 = .ok (.if_icmp .ne 7, 3) := by decide +kernel
theorem dX5_heard_49 : decode cX5_heard 49 = .ok (.iconst 1, 1) := by decide +kernel
theorem dX5_heard_50 : decode cX5_heard 50 = .ok (.goto 4, 3) := by decide +kernel
theorem dX5_heard_53 : decode cX5_heard 53 = .ok (.iconst 0, 1) := by decide +kernel
theorem dX5_heard_54 : decode cX5_heard 54 = .ok (.invokevirtual 98, 3) := by decide +kernel
theorem dX5_heard_57 : decode cX5_heard 57 = .ok (.aload_n 0, 1) := by decide +kernel
theorem dX5_heard_58 : decode cX5_heard 58 = .ok (.getfield 41, 3) := by decide +kernel
theorem dX5_heard_61 : decode cX5_heard 61 = .ok (.lload_n 2, 1) := by decide +kernel
theorem dX5_heard_62 : decode cX5_heard 62 = .ok (.aload 4, 2) := by decide +kernel
theorem dX5_heard_64 : decode cX5_heard 64 = .ok (.bipush 6, 2) := by decide +kernel
theorem dX5_heard_66 : decode cX5_heard 66 = .ok (.iaload, 1) := by decide +kernel
theorem dX5_heard_67 : decode cX5_heard 67 = .ok (.invokevirtual 163, 3) := by decide +kernel
theorem dX5_heard_70 : decode cX5_heard 70 = .ok (.ireturn, 1) := by decide +kernel
set_option maxRecDepth 20000 in
theorem ggX5_reached_X5_heard : GoodIn wsX5_reached wsX5_heard := goodIn_r _ [5, 6, 7, 8, 9, 10, 11, 12, 13, 14, 15, 16, 17, 18, 19, 20, 21, 22, 23, 24, 25, 26, 27, 28, 29, 30, 31, 32, 33, 34, 35, 36, 37, 38, 39, 40, 41, 42, 43, 44, 45, 46, 47, 48, 49, 50, 51, 52, 53, 54, 55, 56, 57, 58, 59, 60, 61, 62, 63, 64, 65, 66, 67, 68, 69, 70, 71, 72, 73, 74, 75, 76, 77, 78, 79, 80, 81, 82, 83, 84, 85, 86, 87, 88, 89, 90, 91, 92, 93, 94, 95, 96, 97, 98, 99, 100, 101, 102, 103, 104, 105, 106, 107] (by decide +kernel) (by decide +kernel)
set_option maxRecDepth 20000 in
theorem gX5_reached_X5_heard : GoodIn wsX5_reached (wsV RX5 128 RX5 yX5_heard wsX5_heard) := goodIn_app (goodIn_of _ (by decide +kernel)) ggX5_reached_X5_heard
theorem dX5_reached_0 : decode cX5_reached 0 = .ok (.iconst 0, 1) := by decide +kernel
theorem dX5_reached_1 : decode cX5_reached 1 = .ok (.istore 4, 2) := by decide +kernel
theorem dX5_reached_3 : decode cX5_reached 3 = .ok (.iconst 0, 1) := by decide +kernel
theorem dX5_reached_4 : decode cX5_reached 4 = .ok (.istore 5, 2) := by decide +kernel
theorem dX5_reached_6 : decode cX5_reached 6 = .ok (.iload 5, 2) := by decide +kernel
theorem dX5_reached_8 : decode cX5_reached 8 = .ok (.bipush 6, 2) := by decide +kernel
theorem dX5_reached_10 : decode cX5_reached 10 = .ok (.if_icmp .ge 23, 3) := by decide +kernel
theorem dX5_reached_13 : decode cX5_reached 13 = .ok (.aload_n 0, 1) := by decide +kernel
theorem dX5_reached_14 : decode cX5_reached 14 = .ok (.iload 5, 2) := by decide +kernel
theorem dX5_reached_16 : decode cX5_reached 16 = .ok (.lload_n 2, 1) := by decide +kernel
theorem dX5_reached_17 : decode cX5_reached 17 = .ok (.invokevirtual 128, 3) := by decide +kernel
theorem dX5_reached_20 : decode cX5_reached 20 = .ok (.iload_n 1, 1) := by decide +kernel
theorem dX5_reached_21 : decode cX5_reached 21 = .ok (.if_icmp .ne 6, 3) := by decide +kernel
theorem dX5_reached_24 : decode cX5_reached 24 = .ok (.iinc 4 1, 3) := by decide +kernel
theorem dX5_reached_27 : decode cX5_reached 27 = .ok (.iinc 5 1, 3) := by decide +kernel
theorem dX5_reached_30 : decode cX5_reached 30 = .ok (.goto (-24), 3) := by decide +kernel
theorem dX5_reached_33 : decode cX5_reached 33 = .ok (.iload 4, 2) := by decide +kernel
theorem dX5_reached_35 : decode cX5_reached 35 = .ok (.ireturn, 1) := by decide +kernel
set_option maxRecDepth 20000 in
theorem ggX5_firstUnderstood_X4_find : GoodIn wsX5_firstUnderstood wsX4_find := goodIn_r _ [7, 8, 9, 10, 11, 12, 13, 14, 15, 16, 17, 18, 6, 19, 20, 21, 22, 23, 24, 25, 26, 27, 28, 29, 30, 31, 32, 33, 34, 35, 36, 37, 38, 39, 40, 41, 42, 137, 138] (by decide +kernel) (by decide +kernel)
set_option maxRecDepth 20000 in
theorem gX5_firstUnderstood_X4_find : GoodIn wsX5_firstUnderstood (wsV RX5 70 RX4 yX4_find wsX4_find) := goodIn_app (goodIn_of _ (by decide +kernel)) ggX5_firstUnderstood_X4_find
set_option maxRecDepth 20000 in
theorem ggX5_firstUnderstood_X4_at : GoodIn wsX5_firstUnderstood wsX4_at := goodIn_r _ [46, 31, 137, 138] (by decide +kernel) (by decide +kernel)
set_option maxRecDepth 20000 in
theorem gX5_firstUnderstood_X4_at : GoodIn wsX5_firstUnderstood (wsV RX5 78 RX4 yX4_at wsX4_at) := goodIn_app (goodIn_of _ (by decide +kernel)) ggX5_firstUnderstood_X4_at
set_option maxRecDepth 20000 in
theorem ggX5_firstUnderstood_X5_heard : GoodIn wsX5_firstUnderstood wsX5_heard := goodIn_r _ [51, 52, 53, 54, 55, 56, 57, 58, 59, 60, 61, 62, 63, 64, 65, 66, 67, 68, 69, 70, 71, 72, 73, 74, 75, 76, 25, 77, 78, 79, 80, 81, 82, 83, 84, 85, 86, 87, 88, 89, 90, 91, 92, 93, 94, 95, 96, 97, 98, 99, 100, 101, 102, 103, 104, 105, 106, 107, 108, 109, 110, 111, 112, 113, 114, 115, 116, 117, 118, 119, 120, 121, 122, 123, 124, 125, 126, 127, 128, 129, 130, 131, 132, 133, 134, 135, 136, 139, 140, 141, 142, 143, 144, 145, 146, 147, 148, 149, 150, 151, 152, 153, 154] (by decide +kernel) (by decide +kernel)
set_option maxRecDepth 20000 in
theorem gX5_firstUnderstood_X5_heard : GoodIn wsX5_firstUnderstood (wsV RX5 128 RX5 yX5_heard wsX5_heard) := goodIn_app (goodIn_of _ (by decide +kernel)) ggX5_firstUnderstood_X5_heard
theorem dX5_firstUnderstood_0 : decode cX5_firstUnderstood 0 = .ok (.aload_n 0, 1) := by decide +kernel
theorem dX5_firstUnderstood_1 : decode cX5_firstUnderstood 1 = .ok (.getfield 34, 3) := by decide +kernel
theorem dX5_firstUnderstood_4 : decode cX5_firstUnderstood 4 = .ok (.iload_n 2, 1) := by decide +kernel
theorem dX5_firstUnderstood_5 : decode cX5_firstUnderstood 5 = .ok (.invokevirtual 70, 3) := by decide +kernel
theorem dX5_firstUnderstood_8 : decode cX5_firstUnderstood 8 = .ok (.iconst 0, 1) := by decide +kernel
theorem dX5_firstUnderstood_9 : decode cX5_firstUnderstood 9 = .ok (.istore_n 3, 1) := by decide +kernel
theorem dX5_firstUnderstood_10 : decode cX5_firstUnderstood 10 = .ok (.iload_n 3, 1) := by decide +kernel
theorem dX5_firstUnderstood_11 : decode cX5_firstUnderstood 11 = .ok (.aload_n 0, 1) := by decide +kernel
theorem dX5_firstUnderstood_12 : decode cX5_firstUnderstood 12 = .ok (.getfield 34, 3) := by decide +kernel
theorem dX5_firstUnderstood_15 : decode cX5_firstUnderstood 15 = .ok (.getfield 113, 3) := by decide +kernel
theorem dX5_firstUnderstood_18 : decode cX5_firstUnderstood 18 = .ok (.if_icmp .ge 28, 3) := by decide +kernel
theorem dX5_firstUnderstood_21 : decode cX5_firstUnderstood 21 = .ok (.aload_n 0, 1) := by decide +kernel
theorem dX5_firstUnderstood_22 : decode cX5_firstUnderstood 22 = .ok (.iload_n 1, 1) := by decide +kernel
theorem dX5_firstUnderstood_23 : decode cX5_firstUnderstood 23 = .ok (.aload_n 0, 1) := by decide +kernel
theorem dX5_firstUnderstood_24 : decode cX5_firstUnderstood 24 = .ok (.getfield 34, 3) := by decide +kernel
theorem dX5_firstUnderstood_27 : decode cX5_firstUnderstood 27 = .ok (.iload_n 3, 1) := by decide +kernel
theorem dX5_firstUnderstood_28 : decode cX5_firstUnderstood 28 = .ok (.invokevirtual 78, 3) := by decide +kernel
theorem dX5_firstUnderstood_31 : decode cX5_firstUnderstood 31 = .ok (.invokevirtual 128, 3) := by decide +kernel
theorem dX5_firstUnderstood_34 : decode cX5_firstUnderstood 34 = .ok (.iload_n 2, 1) := by decide +kernel
theorem dX5_firstUnderstood_35 : decode cX5_firstUnderstood 35 = .ok (.if_icmp .ne 5, 3) := by decide +kernel
theorem dX5_firstUnderstood_38 : decode cX5_firstUnderstood 38 = .ok (.iload_n 3, 1) := by decide +kernel
theorem dX5_firstUnderstood_39 : decode cX5_firstUnderstood 39 = .ok (.ireturn, 1) := by decide +kernel
theorem dX5_firstUnderstood_40 : decode cX5_firstUnderstood 40 = .ok (.iinc 3 1, 3) := by decide +kernel
theorem dX5_firstUnderstood_43 : decode cX5_firstUnderstood 43 = .ok (.goto (-33), 3) := by decide +kernel
theorem dX5_firstUnderstood_46 : decode cX5_firstUnderstood 46 = .ok (.bipush (-5), 2) := by decide +kernel
theorem dX5_firstUnderstood_48 : decode cX5_firstUnderstood 48 = .ok (.ireturn, 1) := by decide +kernel
set_option maxRecDepth 20000 in
theorem ggX5_say_X1_record : GoodIn wsX5_say wsX1_record := goodIn_r _ [8, 9, 10, 11, 12, 13, 14, 15, 16, 17, 18, 19, 20, 21, 22, 23, 24, 25, 26, 27, 28, 29, 142, 143, 144, 137, 138, 139, 140, 141] (by decide +kernel) (by decide +kernel)
set_option maxRecDepth 20000 in
theorem gX5_say_X1_record : GoodIn wsX5_say (wsV RX5 53 RX1 yX1_record wsX1_record) := goodIn_app (goodIn_of _ (by decide +kernel)) ggX5_say_X1_record
set_option maxRecDepth 20000 in
theorem ggX5_say_X5_heard : GoodIn wsX5_say wsX5_heard := goodIn_r _ [34, 2, 3, 35, 36, 37, 38, 39, 40, 41, 42, 43, 44, 45, 46, 47, 48, 49, 50, 51, 52, 53, 54, 55, 56, 57, 58, 59, 60, 61, 62, 63, 64, 65, 66, 67, 68, 69, 70, 71, 72, 73, 74, 75, 76, 77, 78, 79, 80, 81, 82, 83, 84, 85, 86, 87, 88, 89, 90, 91, 92, 93, 94, 95, 96, 97, 98, 99, 100, 101, 102, 103, 104, 105, 106, 107, 108, 109, 110, 111, 112, 131, 132, 133, 134, 135, 136, 137, 138, 139, 140, 141, 145, 146, 147, 148, 149, 150, 151, 152, 153, 154, 155] (by decide +kernel) (by decide +kernel)
set_option maxRecDepth 20000 in
theorem gX5_say_X5_heard : GoodIn wsX5_say (wsV RX5 128 RX5 yX5_heard wsX5_heard) := goodIn_app (goodIn_of _ (by decide +kernel)) ggX5_say_X5_heard
set_option maxRecDepth 20000 in
theorem ggX5_say_X5_doubtWords : GoodIn wsX5_say wsX5_doubtWords := goodIn_r _ [116, 2, 117, 118, 119, 33, 120, 121, 122, 58, 123, 124, 61, 62, 131, 132, 133, 134, 135, 136, 137, 138, 139, 140, 141] (by decide +kernel) (by decide +kernel)
set_option maxRecDepth 20000 in
theorem gX5_say_X5_doubtWords : GoodIn wsX5_say (wsV RX5 166 RX5 yX5_doubtWords wsX5_doubtWords) := goodIn_app (goodIn_of _ (by decide +kernel)) ggX5_say_X5_doubtWords
set_option maxRecDepth 20000 in
theorem ggX5_say_X3_nextLine : GoodIn wsX5_say wsX3_nextLine := goodIn_r _ [128, 27, 28, 129, 13, 14, 15, 26, 137, 138, 139, 140, 141] (by decide +kernel) (by decide +kernel)
set_option maxRecDepth 20000 in
theorem gX5_say_X3_nextLine : GoodIn wsX5_say (wsV RX5 170 RX3 yX3_nextLine wsX3_nextLine) := goodIn_app (goodIn_of _ (by decide +kernel)) ggX5_say_X3_nextLine
set_option maxRecDepth 20000 in
theorem ggX5_say_X2_length : GoodIn wsX5_say wsX2_length := goodIn_r _ [59] (by decide +kernel) (by decide +kernel)
set_option maxRecDepth 20000 in
theorem gX5_say_X2_length : GoodIn wsX5_say (va_wsS RX5 116 yX2_length wsX2_length) := goodIn_app (goodIn_of _ (by decide +kernel)) ggX5_say_X2_length
theorem dX5_say_0 : decode cX5_say 0 = .ok (.aload_n 0, 1) := by decide +kernel
theorem dX5_say_1 : decode cX5_say 1 = .ok (.getfield 19, 3) := by decide +kernel
theorem dX5_say_4 : decode cX5_say 4 = .ok (.aload_n 0, 1) := by decide +kernel
theorem dX5_say_5 : decode cX5_say 5 = .ok (.getfield 10, 3) := by decide +kernel
theorem dX5_say_8 : decode cX5_say 8 = .ok (.invokevirtual 53, 3) := by decide +kernel
theorem dX5_say_11 : decode cX5_say 11 = .ok (.aload_n 0, 1) := by decide +kernel
theorem dX5_say_12 : decode cX5_say 12 = .ok (.iload_n 1, 1) := by decide +kernel
theorem dX5_say_13 : decode cX5_say 13 = .ok (.lload_n 3, 1) := by decide +kernel
theorem dX5_say_14 : decode cX5_say 14 = .ok (.invokevirtual 128, 3) := by decide +kernel
theorem dX5_say_17 : decode cX5_say 17 = .ok (.istore 5, 2) := by decide +kernel
theorem dX5_say_19 : decode cX5_say 19 = .ok (.iload 5, 2) := by decide +kernel
theorem dX5_say_21 : decode cX5_say 21 = .ok (.iload_n 2, 1) := by decide +kernel
theorem dX5_say_22 : decode cX5_say 22 = .ok (.if_icmp .eq 7, 3) := by decide +kernel
theorem dX5_say_25 : decode cX5_say 25 = .ok (.iconst 1, 1) := by decide +kernel
theorem dX5_say_26 : decode cX5_say 26 = .ok (.goto 4, 3) := by decide +kernel
theorem dX5_say_29 : decode cX5_say 29 = .ok (.iconst 0, 1) := by decide +kernel
theorem dX5_say_30 : decode cX5_say 30 = .ok (.istore 6, 2) := by decide +kernel
theorem dX5_say_32 : decode cX5_say 32 = .ok (.aload_n 0, 1) := by decide +kernel
theorem dX5_say_33 : decode cX5_say 33 = .ok (.getfield 10, 3) := by decide +kernel
theorem dX5_say_36 : decode cX5_say 36 = .ok (.getfield 57, 3) := by decide +kernel
theorem dX5_say_39 : decode cX5_say 39 = .ok (.iload_n 1, 1) := by decide +kernel
theorem dX5_say_40 : decode cX5_say 40 = .ok (.aaload, 1) := by decide +kernel
theorem dX5_say_41 : decode cX5_say 41 = .ok (.astore 7, 2) := by decide +kernel
theorem dX5_say_43 : decode cX5_say 43 = .ok (.aload 7, 2) := by decide +kernel
theorem dX5_say_45 : decode cX5_say 45 = .ok (.bipush 7, 2) := by decide +kernel
theorem dX5_say_47 : decode cX5_say 47 = .ok (.dup2, 1) := by decide +kernel
theorem dX5_say_48 : decode cX5_say 48 = .ok (.iaload, 1) := by decide +kernel
theorem dX5_say_49 : decode cX5_say 49 = .ok (.iconst 1, 1) := by decide +kernel
theorem dX5_say_50 : decode cX5_say 50 = .ok (.iadd, 1) := by decide +kernel
theorem dX5_say_51 : decode cX5_say 51 = .ok (.iastore, 1) := by decide +kernel
theorem dX5_say_52 : decode cX5_say 52 = .ok (.iconst 0, 1) := by decide +kernel
theorem dX5_say_53 : decode cX5_say 53 = .ok (.istore 8, 2) := by decide +kernel
theorem dX5_say_55 : decode cX5_say 55 = .ok (.iload 6, 2) := by decide +kernel
theorem dX5_say_57 : decode cX5_say 57 = .ok (.ifCond .eq 21, 3) := by decide +kernel
theorem dX5_say_60 : decode cX5_say 60 = .ok (.aload 7, 2) := by decide +kernel
theorem dX5_say_62 : decode cX5_say 62 = .ok (.bipush 8, 2) := by decide +kernel
theorem dX5_say_64 : decode cX5_say 64 = .ok (.dup2, 1) := by decide +kernel
theorem dX5_say_65 : decode cX5_say 65 = .ok (.iaload, 1) := by decide +kernel
theorem dX5_say_66 : decode cX5_say 66 = .ok (.iconst 1, 1) := by decide +kernel
theorem dX5_say_67 : decode cX5_say 67 = .ok (.iadd, 1) := by decide +kernel
theorem dX5_say_68 : decode cX5_say 68 = .ok (.iastore, 1) := by decide +kernel
theorem dX5_say_69 : decode cX5_say 69 = .ok (.aload_n 0, 1) := by decide +kernel
theorem dX5_say_70 : decode cX5_say 70 = .ok (.aload 7, 2) := by decide +kernel
theorem dX5_say_72 : decode cX5_say 72 = .ok (.lload_n 3, 1) := by decide +kernel
theorem dX5_say_73 : decode cX5_say 73 = .ok (.invokevirtual 166, 3) := by decide +kernel
theorem dX5_say_76 : decode cX5_say 76 = .ok (.istore 8, 2) := by decide +kernel
theorem dX5_say_78 : decode cX5_say 78 = .ok (.aload_n 0, 1) := by decide +kernel
theorem dX5_say_79 : decode cX5_say 79 = .ok (.getfield 10, 3) := by decide +kernel
theorem dX5_say_82 : decode cX5_say 82 = .ok (.invokevirtual 170, 3) := by decide +kernel
theorem dX5_say_85 : decode cX5_say 85 = .ok (.astore 9, 2) := by decide +kernel
theorem dX5_say_87 : decode cX5_say 87 = .ok (.aload 9, 2) := by decide +kernel
theorem dX5_say_89 : decode cX5_say 89 = .ok (.iconst 0, 1) := by decide +kernel
theorem dX5_say_90 : decode cX5_say 90 = .ok (.iload_n 1, 1) := by decide +kernel
theorem dX5_say_91 : decode cX5_say 91 = .ok (.iastore, 1) := by decide +kernel
theorem dX5_say_92 : decode cX5_say 92 = .ok (.aload 9, 2) := by decide +kernel
theorem dX5_say_94 : decode cX5_say 94 = .ok (.iconst 1, 1) := by decide +kernel
theorem dX5_say_95 : decode cX5_say 95 = .ok (.iload_n 2, 1) := by decide +kernel
theorem dX5_say_96 : decode cX5_say 96 = .ok (.iastore, 1) := by decide +kernel
theorem dX5_say_97 : decode cX5_say 97 = .ok (.aload 9, 2) := by decide +kernel
theorem dX5_say_99 : decode cX5_say 99 = .ok (.iconst 2, 1) := by decide +kernel
theorem dX5_say_100 : decode cX5_say 100 = .ok (.lload_n 3, 1) := by decide +kernel
theorem dX5_say_101 : decode cX5_say 101 = .ok (.invokestatic 116, 3) := by decide +kernel
theorem dX5_say_104 : decode cX5_say 104 = .ok (.iastore, 1) := by decide +kernel
theorem dX5_say_105 : decode cX5_say 105 = .ok (.aload 9, 2) := by decide +kernel
theorem dX5_say_107 : decode cX5_say 107 = .ok (.iconst 3, 1) := by decide +kernel
theorem dX5_say_108 : decode cX5_say 108 = .ok (.iload 5, 2) := by decide +kernel
theorem dX5_say_110 : decode cX5_say 110 = .ok (.iastore, 1) := by decide +kernel
theorem dX5_say_111 : decode cX5_say 111 = .ok (.aload 9, 2) := by decide +kernel
theorem dX5_say_113 : decode cX5_say 113 = .ok (.iconst 4, 1) := by decide +kernel
theorem dX5_say_114 : decode cX5_say 114 = .ok (.iload 8, 2) := by decide +kernel
theorem dX5_say_116 : decode cX5_say 116 = .ok (.ifCond .eq 7, 3) := by decide +kernel
theorem dX5_say_119 : decode cX5_say 119 = .ok (.iconst 1, 1) := by decide +kernel
theorem dX5_say_120 : decode cX5_say 120 = .ok (.goto 4, 3) := by decide +kernel
theorem dX5_say_123 : decode cX5_say 123 = .ok (.iconst 0, 1) := by decide +kernel
theorem dX5_say_124 : decode cX5_say 124 = .ok (.iastore, 1) := by decide +kernel
theorem dX5_say_125 : decode cX5_say 125 = .ok (.iload 6, 2) := by decide +kernel
theorem dX5_say_127 : decode cX5_say 127 = .ok (.ifCond .eq 7, 3) := by decide +kernel
theorem dX5_say_130 : decode cX5_say 130 = .ok (.iconst 0, 1) := by decide +kernel
theorem dX5_say_131 : decode cX5_say 131 = .ok (.goto 4, 3) := by decide +kernel
theorem dX5_say_134 : decode cX5_say 134 = .ok (.iconst 1, 1) := by decide +kernel
theorem dX5_say_135 : decode cX5_say 135 = .ok (.ireturn, 1) := by decide +kernel
set_option maxRecDepth 20000 in
theorem ggX5_doubtWords_X5_wordCharacter : GoodIn wsX5_doubtWords wsX5_wordCharacter := goodIn_r _ [6] (by decide +kernel) (by decide +kernel)
set_option maxRecDepth 20000 in
theorem gX5_doubtWords_X5_wordCharacter : GoodIn wsX5_doubtWords (va_wsS RX5 174 yX5_wordCharacter wsX5_wordCharacter) := goodIn_app (goodIn_of _ (by decide +kernel)) ggX5_doubtWords_X5_wordCharacter
set_option maxRecDepth 20000 in
theorem ggX5_doubtWords_X2_has : GoodIn wsX5_doubtWords wsX2_has := goodIn_r _ [10, 11, 12, 9, 13] (by decide +kernel) (by decide +kernel)
set_option maxRecDepth 20000 in
theorem gX5_doubtWords_X2_has : GoodIn wsX5_doubtWords (va_wsS RX5 178 yX2_has wsX2_has) := goodIn_app (goodIn_of _ (by decide +kernel)) ggX5_doubtWords_X2_has
theorem dX5_doubtWords_0 : decode cX5_doubtWords 0 = .ok (.iconst 0, 1) := by decide +kernel
theorem dX5_doubtWords_1 : decode cX5_doubtWords 1 = .ok (.istore 4, 2) := by decide +kernel
theorem dX5_doubtWords_3 : decode cX5_doubtWords 3 = .ok (.iconst 0, 1) := by decide +kernel
theorem dX5_doubtWords_4 : decode cX5_doubtWords 4 = .ok (.istore 5, 2) := by decide +kernel
theorem dX5_doubtWords_6 : decode cX5_doubtWords 6 = .ok (.iload 5, 2) := by decide +kernel
theorem dX5_doubtWords_8 : decode cX5_doubtWords 8 = .ok (.iconst 3, 1) := by decide +kernel
theorem dX5_doubtWords_9 : decode cX5_doubtWords 9 = .ok (.if_icmp .ge 73, 3) := by decide +kernel
theorem dX5_doubtWords_12 : decode cX5_doubtWords 12 = .ok (.aload_n 1, 1) := by decide +kernel
theorem dX5_doubtWords_13 : decode cX5_doubtWords 13 = .ok (.iconst 0, 1) := by decide +kernel
theorem dX5_doubtWords_14 : decode cX5_doubtWords 14 = .ok (.iload 5, 2) := by decide +kernel
theorem dX5_doubtWords_16 : decode cX5_doubtWords 16 = .ok (.iadd, 1) := by decide +kernel
theorem dX5_doubtWords_17 : decode cX5_doubtWords 17 = .ok (.iaload, 1) := by decide +kernel
theorem dX5_doubtWords_18 : decode cX5_doubtWords 18 = .ok (.ifCond .ne 58, 3) := by decide +kernel
theorem dX5_doubtWords_21 : decode cX5_doubtWords 21 = .ok (.lload_n 2, 1) := by decide +kernel
theorem dX5_doubtWords_22 : decode cX5_doubtWords 22 = .ok (.iload 5, 2) := by decide +kernel
theorem dX5_doubtWords_24 : decode cX5_doubtWords 24 = .ok (.invokestatic 174, 3) := by decide +kernel
theorem dX5_doubtWords_27 : decode cX5_doubtWords 27 = .ok (.invokestatic 178, 3) := by decide +kernel
theorem dX5_doubtWords_30 : decode cX5_doubtWords 30 = .ok (.ifCond .eq 46, 3) := by decide +kernel
theorem dX5_doubtWords_33 : decode cX5_doubtWords 33 = .ok (.aload_n 1, 1) := by decide +kernel
theorem dX5_doubtWords_34 : decode cX5_doubtWords 34 = .ok (.iconst 3, 1) := by decide +kernel
theorem dX5_doubtWords_35 : decode cX5_doubtWords 35 = .ok (.iload 5, 2) := by decide +kernel
theorem dX5_doubtWords_37 : decode cX5_doubtWords 37 = .ok (.iadd, 1) := by decide +kernel
theorem dX5_doubtWords_38 : decode cX5_doubtWords 38 = .ok (.dup2, 1) := by decide +kernel
theorem dX5_doubtWords_39 : decode cX5_doubtWords 39 = .ok (.iaload, 1) := by decide +kernel
theorem dX5_doubtWords_40 : decode cX5_doubtWords 40 = .ok (.iconst 1, 1) := by decide +kernel
theorem dX5_doubtWords_41 : decode cX5_doubtWords 41 = .ok (.iadd, 1) := by decide +kernel
theorem dX5_doubtWords_42 : decode cX5_doubtWords 42 = .ok (.iastore, 1) := by decide +kernel
theorem dX5_doubtWords_43 : decode cX5_doubtWords 43 = .ok (.aload_n 1, 1) := by decide +kernel
theorem dX5_doubtWords_44 : decode cX5_doubtWords 44 = .ok (.iconst 3, 1) := by decide +kernel
theorem dX5_doubtWords_45 : decode cX5_doubtWords 45 = .ok (.iload 5, 2) := by decide +kernel
theorem dX5_doubtWords_47 : decode cX5_doubtWords 47 = .ok (.iadd, 1) := by decide +kernel
theorem dX5_doubtWords_48 : decode cX5_doubtWords 48 = .ok (.iaload, 1) := by decide +kernel
theorem dX5_doubtWords_49 : decode cX5_doubtWords 49 = .ok (.aload_n 0, 1) := by decide +kernel
theorem dX5_doubtWords_50 : decode cX5_doubtWords 50 = .ok (.getfield 10, 3) := by decide +kernel
theorem dX5_doubtWords_53 : decode cX5_doubtWords 53 = .ok (.getfield 61, 3) := by decide +kernel
theorem dX5_doubtWords_56 : decode cX5_doubtWords 56 = .ok (.if_icmp .lt 20, 3) := by decide +kernel
theorem dX5_doubtWords_59 : decode cX5_doubtWords 59 = .ok (.aload_n 1, 1) := by decide +kernel
theorem dX5_doubtWords_60 : decode cX5_doubtWords 60 = .ok (.iconst 0, 1) := by decide +kernel
theorem dX5_doubtWords_61 : decode cX5_doubtWords 61 = .ok (.iload 5, 2) := by decide +kernel
theorem dX5_doubtWords_63 : decode cX5_doubtWords 63 = .ok (.iadd, 1) := by decide +kernel
theorem dX5_doubtWords_64 : decode cX5_doubtWords 64 = .ok (.iconst 1, 1) := by decide +kernel
theorem dX5_doubtWords_65 : decode cX5_doubtWords 65 = .ok (.iastore, 1) := by decide +kernel
theorem dX5_doubtWords_66 : decode cX5_doubtWords 66 = .ok (.aload_n 1, 1) := by decide +kernel
theorem dX5_doubtWords_67 : decode cX5_doubtWords 67 = .ok (.iconst 3, 1) := by decide +kernel
