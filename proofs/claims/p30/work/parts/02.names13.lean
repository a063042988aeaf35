theorem dX5_sum_70 : decode cX5_sum 70 = .ok (.invokevirtual 153, 3) := by decide +kernel
theorem dX5_sum_73 : decode cX5_sum 73 = .ok (.ireturn, 1) := by decide +kernel
theorem dX5_sum_74 : decode cX5_sum 74 = .ok (.bipush (-2), 2) := by decide +kernel
theorem dX5_sum_76 : decode cX5_sum 76 = .ok (.ireturn, 1) := by decide +kernel
theorem dX5_patience_0 : decode cX5_patience 0 = .ok (.aload_n 0, 1) := by decide +kernel
theorem dX5_patience_1 : decode cX5_patience 1 = .ok (.getfield 10, 3) := by decide +kernel
theorem dX5_patience_4 : decode cX5_patience 4 = .ok (.getfield 61, 3) := by decide +kernel
theorem dX5_patience_7 : decode cX5_patience 7 = .ok (.ireturn, 1) := by decide +kernel
set_option maxRecDepth 20000 in
theorem ggX5_share_X3_total : GoodIn wsX5_share wsX3_total := goodIn_r _ [6, 7, 14, 15, 16, 17, 18] (by decide +kernel) (by decide +kernel)
set_option maxRecDepth 20000 in
theorem gX5_share_X3_total : GoodIn wsX5_share (wsV RX5 153 RX3 yX3_total wsX3_total) := goodIn_app (goodIn_of _ (by decide +kernel)) ggX5_share_X3_total
theorem dX5_share_0 : decode cX5_share 0 = .ok (.aload_n 0, 1) := by decide +kernel
theorem dX5_share_1 : decode cX5_share 1 = .ok (.getfield 10, 3) := by decide +kernel
theorem dX5_share_4 : decode cX5_share 4 = .ok (.bipush 7, 2) := by decide +kernel
theorem dX5_share_6 : decode cX5_share 6 = .ok (.iconst 1, 1) := by decide +kernel
theorem dX5_share_7 : decode cX5_share 7 = .ok (.invokevirtual 153, 3) := by decide +kernel
theorem dX5_share_10 : decode cX5_share 10 = .ok (.istore_n 1, 1) := by decide +kernel
theorem dX5_share_11 : decode cX5_share 11 = .ok (.iload_n 1, 1) := by decide +kernel
theorem dX5_share_12 : decode cX5_share 12 = .ok (.ifCond .gt 5, 3) := by decide +kernel
theorem dX5_share_15 : decode cX5_share 15 = .ok (.fconst 1, 1) := by decide +kernel
theorem dX5_share_16 : decode cX5_share 16 = .ok (.freturn, 1) := by decide +kernel
theorem dX5_share_17 : decode cX5_share 17 = .ok (.iload_n 1, 1) := by decide +kernel
theorem dX5_share_18 : decode cX5_share 18 = .ok (.aload_n 0, 1) := by decide +kernel
theorem dX5_share_19 : decode cX5_share 19 = .ok (.getfield 10, 3) := by decide +kernel
theorem dX5_share_22 : decode cX5_share 22 = .ok (.bipush 8, 2) := by decide +kernel
theorem dX5_share_24 : decode cX5_share 24 = .ok (.iconst 1, 1) := by decide +kernel
theorem dX5_share_25 : decode cX5_share 25 = .ok (.invokevirtual 153, 3) := by decide +kernel
theorem dX5_share_28 : decode cX5_share 28 = .ok (.isub, 1) := by decide +kernel
theorem dX5_share_29 : decode cX5_share 29 = .ok (.istore_n 2, 1) := by decide +kernel
theorem dX5_share_30 : decode cX5_share 30 = .ok (.iload_n 2, 1) := by decide +kernel
theorem dX5_share_31 : decode cX5_share 31 = .ok (.i2f, 1) := by decide +kernel
theorem dX5_share_32 : decode cX5_share 32 = .ok (.iload_n 1, 1) := by decide +kernel
theorem dX5_share_33 : decode cX5_share 33 = .ok (.i2f, 1) := by decide +kernel
theorem dX5_share_34 : decode cX5_share 34 = .ok (.fdiv, 1) := by decide +kernel
theorem dX5_share_35 : decode cX5_share 35 = .ok (.freturn, 1) := by decide +kernel
theorem dX5_isHearer_0 : decode cX5_isHearer 0 = .ok (.iload_n 0, 1) := by decide +kernel
theorem dX5_isHearer_1 : decode cX5_isHearer 1 = .ok (.ifCond .lt 13, 3) := by decide +kernel
theorem dX5_isHearer_4 : decode cX5_isHearer 4 = .ok (.iload_n 0, 1) := by decide +kernel
theorem dX5_isHearer_5 : decode cX5_isHearer 5 = .ok (.bipush 6, 2) := by decide +kernel
theorem dX5_isHearer_7 : decode cX5_isHearer 7 = .ok (.if_icmp .ge 7, 3) := by decide +kernel
theorem dX5_isHearer_10 : decode cX5_isHearer 10 = .ok (.iconst 1, 1) := by decide +kernel
theorem dX5_isHearer_11 : decode cX5_isHearer 11 = .ok (.goto 4, 3) := by decide +kernel
theorem dX5_isHearer_14 : decode cX5_isHearer 14 = .ok (.iconst 0, 1) := by decide +kernel
theorem dX5_isHearer_15 : decode cX5_isHearer 15 = .ok (.ireturn, 1) := by decide +kernel
theorem dX5_isWord_0 : decode cX5_isWord 0 = .ok (.iload_n 0, 1) := by decide +kernel
theorem dX5_isWord_1 : decode cX5_isWord 1 = .ok (.ifCond .lt 12, 3) := by decide +kernel
theorem dX5_isWord_4 : decode cX5_isWord 4 = .ok (.iload_n 0, 1) := by decide +kernel
theorem dX5_isWord_5 : decode cX5_isWord 5 = .ok (.iconst 3, 1) := by decide +kernel
theorem dX5_isWord_6 : decode cX5_isWord 6 = .ok (.if_icmp .ge 7, 3) := by decide +kernel
theorem dX5_isWord_9 : decode cX5_isWord 9 = .ok (.iconst 1, 1) := by decide +kernel
theorem dX5_isWord_10 : decode cX5_isWord 10 = .ok (.goto 4, 3) := by decide +kernel
theorem dX5_isWord_13 : decode cX5_isWord 13 = .ok (.iconst 0, 1) := by decide +kernel
theorem dX5_isWord_14 : decode cX5_isWord 14 = .ok (.ireturn, 1) := by decide +kernel
theorem dX5_isStyle_0 : decode cX5_isStyle 0 = .ok (.iload_n 0, 1) := by decide +kernel
theorem dX5_isStyle_1 : decode cX5_isStyle 1 = .ok (.ifCond .lt 12, 3) := by decide +kernel
theorem dX5_isStyle_4 : decode cX5_isStyle 4 = .ok (.iload_n 0, 1) := by decide +kernel
theorem dX5_isStyle_5 : decode cX5_isStyle 5 = .ok (.iconst 4, 1) := by decide +kernel
theorem dX5_isStyle_6 : decode cX5_isStyle 6 = .ok (.if_icmp .ge 7, 3) := by decide +kernel
theorem dX5_isStyle_9 : decode cX5_isStyle 9 = .ok (.iconst 1, 1) := by decide +kernel
theorem dX5_isStyle_10 : decode cX5_isStyle 10 = .ok (.goto 4, 3) := by decide +kernel
theorem dX5_isStyle_13 : decode cX5_isStyle 13 = .ok (.iconst 0, 1) := by decide +kernel
theorem dX5_isStyle_14 : decode cX5_isStyle 14 = .ok (.ireturn, 1) := by decide +kernel
theorem dX5_isNumber_0 : decode cX5_isNumber 0 = .ok (.iload_n 0, 1) := by decide +kernel
theorem dX5_isNumber_1 : decode cX5_isNumber 1 = .ok (.iconst 1, 1) := by decide +kernel
theorem dX5_isNumber_2 : decode cX5_isNumber 2 = .ok (.if_icmp .lt 14, 3) := by decide +kernel
theorem dX5_isNumber_5 : decode cX5_isNumber 5 = .ok (.iload_n 0, 1) := by decide +kernel
theorem dX5_isNumber_6 : decode cX5_isNumber 6 = .ok (.sipush 7999, 3) := by decide +kernel
theorem dX5_isNumber_9 : decode cX5_isNumber 9 = .ok (.if_icmp .gt 7, 3) := by decide +kernel
theorem dX5_isNumber_12 : decode cX5_isNumber 12 = .ok (.iconst 1, 1) := by decide +kernel
theorem dX5_isNumber_13 : decode cX5_isNumber 13 = .ok (.goto 4, 3) := by decide +kernel
theorem dX5_isNumber_16 : decode cX5_isNumber 16 = .ok (.iconst 0, 1) := by decide +kernel
theorem dX5_isNumber_17 : decode cX5_isNumber 17 = .ok (.ireturn, 1) := by decide +kernel
theorem dX5_orNone_0 : decode cX5_orNone 0 = .ok (.iload_n 0, 1) := by decide +kernel
theorem dX5_orNone_1 : decode cX5_orNone 1 = .ok (.ifCond .ne 8, 3) := by decide +kernel
theorem dX5_orNone_4 : decode cX5_orNone 4 = .ok (.bipush (-5), 2) := by decide +kernel
theorem dX5_orNone_6 : decode cX5_orNone 6 = .ok (.goto 4, 3) := by decide +kernel
theorem dX5_orNone_9 : decode cX5_orNone 9 = .ok (.iload_n 0, 1) := by decide +kernel
theorem dX5_orNone_10 : decode cX5_orNone 10 = .ok (.ireturn, 1) := by decide +kernel
set_option maxRecDepth 20000 in
theorem ggX5_putWord_X5_isHearer : GoodIn wsX5_putWord wsX5_isHearer := goodIn_r _ [7] (by decide +kernel) (by decide +kernel)
set_option maxRecDepth 20000 in
theorem gX5_putWord_X5_isHearer : GoodIn wsX5_putWord (va_wsS RX5 49 yX5_isHearer wsX5_isHearer) := goodIn_app (goodIn_of _ (by decide +kernel)) ggX5_putWord_X5_isHearer
set_option maxRecDepth 20000 in
theorem ggX5_putWord_X5_isWord : GoodIn wsX5_putWord wsX5_isWord := goodIn_r _ [10] (by decide +kernel) (by decide +kernel)
set_option maxRecDepth 20000 in
theorem gX5_putWord_X5_isWord : GoodIn wsX5_putWord (va_wsS RX5 156 yX5_isWord wsX5_isWord) := goodIn_app (goodIn_of _ (by decide +kernel)) ggX5_putWord_X5_isWord
set_option maxRecDepth 20000 in
theorem ggX5_putWord_X1_record : GoodIn wsX5_putWord wsX1_record := goodIn_r _ [15, 16, 17, 18, 19, 20, 21, 22, 23, 24, 25, 26, 27, 28, 29, 30, 31, 32, 33, 34, 35, 36, 48, 49, 50, 43, 44, 45, 46, 47] (by decide +kernel) (by decide +kernel)
set_option maxRecDepth 20000 in
theorem gX5_putWord_X1_record : GoodIn wsX5_putWord (wsV RX5 53 RX1 yX1_record wsX1_record) := goodIn_app (goodIn_of _ (by decide +kernel)) ggX5_putWord_X1_record
theorem dX5_putWord_0 : decode cX5_putWord 0 = .ok (.iload_n 1, 1) := by decide +kernel
theorem dX5_putWord_1 : decode cX5_putWord 1 = .ok (.invokestatic 49, 3) := by decide +kernel
theorem dX5_putWord_4 : decode cX5_putWord 4 = .ok (.ifCond .eq 10, 3) := by decide +kernel
theorem dX5_putWord_7 : decode cX5_putWord 7 = .ok (.iload_n 2, 1) := by decide +kernel
theorem dX5_putWord_8 : decode cX5_putWord 8 = .ok (.invokestatic 156, 3) := by decide +kernel
theorem dX5_putWord_11 : decode cX5_putWord 11 = .ok (.ifCond .ne 5, 3) := by decide +kernel
theorem dX5_putWord_14 : decode cX5_putWord 14 = .ok (.iconst (-1), 1) := by decide +kernel
theorem dX5_putWord_15 : decode cX5_putWord 15 = .ok (.ireturn, 1) := by decide +kernel
theorem dX5_putWord_16 : decode cX5_putWord 16 = .ok (.aload_n 0, 1) := by decide +kernel
theorem dX5_putWord_17 : decode cX5_putWord 17 = .ok (.getfield 19, 3) := by decide +kernel
theorem dX5_putWord_20 : decode cX5_putWord 20 = .ok (.aload_n 0, 1) := by decide +kernel
theorem dX5_putWord_21 : decode cX5_putWord 21 = .ok (.getfield 10, 3) := by decide +kernel
theorem dX5_putWord_24 : decode cX5_putWord 24 = .ok (.invokevirtual 53, 3) := by decide +kernel
theorem dX5_putWord_27 : decode cX5_putWord 27 = .ok (.aload_n 0, 1) := by decide +kernel
theorem dX5_putWord_28 : decode cX5_putWord 28 = .ok (.getfield 10, 3) := by decide +kernel
theorem dX5_putWord_31 : decode cX5_putWord 31 = .ok (.getfield 57, 3) := by decide +kernel
theorem dX5_putWord_34 : decode cX5_putWord 34 = .ok (.iload_n 1, 1) := by decide +kernel
theorem dX5_putWord_35 : decode cX5_putWord 35 = .ok (.aaload, 1) := by decide +kernel
theorem dX5_putWord_36 : decode cX5_putWord 36 = .ok (.astore 4, 2) := by decide +kernel
theorem dX5_putWord_38 : decode cX5_putWord 38 = .ok (.aload 4, 2) := by decide +kernel
theorem dX5_putWord_40 : decode cX5_putWord 40 = .ok (.iconst 0, 1) := by decide +kernel
theorem dX5_putWord_41 : decode cX5_putWord 41 = .ok (.iload_n 2, 1) := by decide +kernel
theorem dX5_putWord_42 : decode cX5_putWord 42 = .ok (.iadd, 1) := by decide +kernel
theorem dX5_putWord_43 : decode cX5_putWord 43 = .ok (.iload_n 3, 1) := by decide +kernel
theorem dX5_putWord_44 : decode cX5_putWord 44 = .ok (.iastore, 1) := by decide +kernel
theorem dX5_putWord_45 : decode cX5_putWord 45 = .ok (.aload 4, 2) := by decide +kernel
theorem dX5_putWord_47 : decode cX5_putWord 47 = .ok (.iconst 3, 1) := by decide +kernel
theorem dX5_putWord_48 : decode cX5_putWord 48 = .ok (.iload_n 2, 1) := by decide +kernel
theorem dX5_putWord_49 : decode cX5_putWord 49 = .ok (.iadd, 1) := by decide +kernel
theorem dX5_putWord_50 : decode cX5_putWord 50 = .ok (.iconst 0, 1) := by decide +kernel
theorem dX5_putWord_51 : decode cX5_putWord 51 = .ok (.iastore, 1) := by decide +kernel
theorem dX5_putWord_52 : decode cX5_putWord 52 = .ok (.iconst 0, 1) := by decide +kernel
theorem dX5_putWord_53 : decode cX5_putWord 53 = .ok (.istore 5, 2) := by decide +kernel
theorem dX5_putWord_55 : decode cX5_putWord 55 = .ok (.iconst 0, 1) := by decide +kernel
theorem dX5_putWord_56 : decode cX5_putWord 56 = .ok (.istore 6, 2) := by decide +kernel
theorem dX5_putWord_58 : decode cX5_putWord 58 = .ok (.iload 6, 2) := by decide +kernel
theorem dX5_putWord_60 : decode cX5_putWord 60 = .ok (.iconst 3, 1) := by decide +kernel
theorem dX5_putWord_61 : decode cX5_putWord 61 = .ok (.if_icmp .ge 21, 3) := by decide +kernel
theorem dX5_putWord_64 : decode cX5_putWord 64 = .ok (.iload 5, 2) := by decide +kernel
theorem dX5_putWord_66 : decode cX5_putWord 66 = .ok (.aload 4, 2) := by decide +kernel
theorem dX5_putWord_68 : decode cX5_putWord 68 = .ok (.iconst 0, 1) := by decide +kernel
theorem dX5_putWord_69 : decode cX5_putWord 69 = .ok (.iload 6, 2) := by decide +kernel
theorem dX5_putWord_71 : decode cX5_putWord 71 = .ok (.iadd, 1) := by decide +kernel
theorem dX5_putWord_72 : decode cX5_putWord 72 = .ok (.iaload, 1) := by decide +kernel
theorem dX5_putWord_73 : decode cX5_putWord 73 = .ok (.iadd, 1) := by decide +kernel
theorem dX5_putWord_74 : decode cX5_putWord 74 = .ok (.istore 5, 2) := by decide +kernel
theorem dX5_putWord_76 : decode cX5_putWord 76 = .ok (.iinc 6 1, 3) := by decide +kernel
theorem dX5_putWord_79 : decode cX5_putWord 79 = .ok (.goto (-21), 3) := by decide +kernel
theorem dX5_putWord_82 : decode cX5_putWord 82 = .ok (.iload 5, 2) := by decide +kernel
theorem dX5_putWord_84 : decode cX5_putWord 84 = .ok (.ireturn, 1) := by decide +kernel
set_option maxRecDepth 20000 in
theorem ggX5_packedText_X2_then : GoodIn wsX5_packedText wsX2_then := goodIn_r _ [6] (by decide +kernel) (by decide +kernel)
set_option maxRecDepth 20000 in
theorem gX5_packedText_X2_then : GoodIn wsX5_packedText (va_wsS RX5 159 yX2_then wsX2_then) := goodIn_app (goodIn_of _ (by decide +kernel)) ggX5_packedText_X2_then
theorem dX5_packedText_0 : decode cX5_packedText 0 = .ok (.lconst 0, 1) := by decide +kernel
theorem dX5_packedText_1 : decode cX5_packedText 1 = .ok (.lstore_n 1, 1) := by decide +kernel
theorem dX5_packedText_2 : decode cX5_packedText 2 = .ok (.iconst 0, 1) := by decide +kernel
theorem dX5_packedText_3 : decode cX5_packedText 3 = .ok (.istore_n 3, 1) := by decide +kernel
theorem dX5_packedText_4 : decode cX5_packedText 4 = .ok (.iload_n 3, 1) := by decide +kernel
theorem dX5_packedText_5 : decode cX5_packedText 5 = .ok (.aload_n 0, 1) := by decide +kernel
theorem dX5_packedText_6 : decode cX5_packedText 6 = .ok (.getfield 27, 3) := by decide +kernel
theorem dX5_packedText_9 : decode cX5_packedText 9 = .ok (.if_icmp .ge 26, 3) := by decide +kernel
theorem dX5_packedText_12 : decode cX5_packedText 12 = .ok (.iload_n 3, 1) := by decide +kernel
theorem dX5_packedText_13 : decode cX5_packedText 13 = .ok (.bipush 20, 2) := by decide +kernel
theorem dX5_packedText_15 : decode cX5_packedText 15 = .ok (.if_icmp .ge 20, 3) := by decide +kernel
theorem dX5_packedText_18 : decode cX5_packedText 18 = .ok (.lload_n 1, 1) := by decide +kernel
theorem dX5_packedText_19 : decode cX5_packedText 19 = .ok (.aload_n 0, 1) := by decide +kernel
theorem dX5_packedText_20 : decode cX5_packedText 20 = .ok (.getfield 23, 3) := by decide +kernel
theorem dX5_packedText_23 : decode cX5_packedText 23 = .ok (.iload_n 3, 1) := by decide +kernel
theorem dX5_packedText_24 : decode cX5_packedText 24 = .ok (.caload, 1) := by decide +kernel
theorem dX5_packedText_25 : decode cX5_packedText 25 = .ok (.invokestatic 159, 3) := by decide +kernel
theorem dX5_packedText_28 : decode cX5_packedText 28 = .ok (.lstore_n 1, 1) := by decide +kernel
theorem dX5_packedText_29 : decode cX5_packedText 29 = .ok (.iinc 3 1, 3) := by decide +kernel
theorem dX5_packedText_32 : decode cX5_packedText 32 = .ok (.goto (-28), 3) := by decide +kernel
theorem dX5_packedText_35 : decode cX5_packedText 35 = .ok (.lload_n 1, 1) := by decide +kernel
theorem dX5_packedText_36 : decode cX5_packedText 36 = .ok (.lreturn, 1) := by decide +kernel
set_option maxRecDepth 20000 in
theorem ggX5_meant_X0_listen : GoodIn wsX5_meant wsX0_listen := goodIn_r _ [6, 7, 8, 9, 10, 11, 12, 13, 14, 15, 16, 17, 85, 86, 87, 88, 89, 90, 91, 92, 93, 94, 95] (by decide +kernel) (by decide +kernel)
set_option maxRecDepth 20000 in
theorem gX5_meant_X0_listen : GoodIn wsX5_meant (wsV RX5 98 RX0 yX0_listen wsX0_listen) := goodIn_app (goodIn_of _ (by decide +kernel)) ggX5_meant_X0_listen
set_option maxRecDepth 20000 in
theorem ggX5_meant_X0_hear : GoodIn wsX5_meant wsX0_hear := goodIn_r _ [21, 22, 23, 24, 25, 26, 27, 28, 29, 30, 31, 5, 32, 10, 33, 34, 35, 36, 37, 38, 39, 40, 11, 41, 42, 43, 44, 45, 46, 47, 48, 49, 50, 51, 52, 53, 54, 55, 56, 57, 58, 12, 13, 14, 16, 9, 15, 59, 60, 61, 62, 17, 63, 64, 65, 66, 7, 67, 68, 69, 70, 71, 72, 73, 74, 75, 76, 77, 78, 8, 85, 86, 87, 88, 89, 90, 91, 92, 93, 94, 95] (by decide +kernel) (by decide +kernel)
set_option maxRecDepth 20000 in
theorem gX5_meant_X0_hear : GoodIn wsX5_meant (wsV RX5 163 RX0 yX0_hear wsX0_hear) := goodIn_app (goodIn_of _ (by decide +kernel)) ggX5_meant_X0_hear
theorem dX5_meant_0 : decode cX5_meant 0 = .ok (.aload_n 0, 1) := by decide +kernel
theorem dX5_meant_1 : decode cX5_meant 1 = .ok (.getfield 41, 3) := by decide +kernel
theorem dX5_meant_4 : decode cX5_meant 4 = .ok (.iconst 1, 1) := by decide +kernel
theorem dX5_meant_5 : decode cX5_meant 5 = .ok (.iconst 1, 1) := by decide +kernel
theorem dX5_meant_6 : decode cX5_meant 6 = .ok (.iconst 1, 1) := by decide +kernel
theorem dX5_meant_7 : decode cX5_meant 7 = .ok (.invokevirtual 98, 3) := by decide +kernel
theorem dX5_meant_10 : decode cX5_meant 10 = .ok (.aload_n 0, 1) := by decide +kernel
theorem dX5_meant_11 : decode cX5_meant 11 = .ok (.getfield 41, 3) := by decide +kernel
theorem dX5_meant_14 : decode cX5_meant 14 = .ok (.lload_n 1, 1) := by decide +kernel
theorem dX5_meant_15 : decode cX5_meant 15 = .ok (.bipush 12, 2) := by decide +kernel
theorem dX5_meant_17 : decode cX5_meant 17 = .ok (.invokevirtual 163, 3) := by decide +kernel
theorem dX5_meant_20 : decode cX5_meant 20 = .ok (.ireturn, 1) := by decide +kernel
set_option maxRecDepth 20000 in
theorem ggX5_heard_X0_listen : GoodIn wsX5_heard wsX0_listen := goodIn_r _ [8, 9, 10, 11, 12, 13, 14, 15, 16, 17, 18, 19, 92, 93, 94, 95, 96, 97, 98, 99, 100, 101, 102] (by decide +kernel) (by decide +kernel)
set_option maxRecDepth 20000 in
theorem gX5_heard_X0_listen : GoodIn wsX5_heard (wsV RX5 98 RX0 yX0_listen wsX0_listen) := goodIn_app (goodIn_of _ (by decide +kernel)) ggX5_heard_X0_listen
set_option maxRecDepth 20000 in
theorem ggX5_heard_X0_hear : GoodIn wsX5_heard wsX0_hear := goodIn_r _ [23, 24, 25, 26, 27, 28, 29, 30, 31, 32, 33, 7, 34, 12, 35, 36, 37, 38, 39, 40, 41, 42, 13, 43, 44, 45, 46, 47, 48, 49, 50, 51, 52, 53, 54, 55, 56, 57, 58, 59, 60, 14, 15, 16, 18, 11, 17, 61, 62, 63, 64, 19, 65, 66, 67, 68, 9, 69, 70, 71, 72, 73, 74, 75, 76, 77, 78, 79, 80, 10, 92, 93, 94, 95, 96, 97, 98, 99, 100, 101, 102] (by decide +kernel) (by decide +kernel)
set_option maxRecDepth 20000 in
theorem gX5_heard_X0_hear : GoodIn wsX5_heard (wsV RX5 163 RX0 yX0_hear wsX0_hear) := goodIn_app (goodIn_of _ (by decide +kernel)) ggX5_heard_X0_hear
theorem dX5_heard_0 : decode cX5_heard 0 = .ok (.aload_n 0, 1) := by decide +kernel
theorem dX5_heard_1 : decode cX5_heard 1 = .ok (.getfield 10, 3) := by decide +kernel
theorem dX5_heard_4 : decode cX5_heard 4 = .ok (.getfield 57, 3) := by decide +kernel
theorem dX5_heard_7 : decode cX5_heard 7 = .ok (.iload_n 1, 1) := by decide +kernel
theorem dX5_heard_8 : decode cX5_heard 8 = .ok (.aaload, 1) := by decide +kernel
theorem dX5_heard_9 : decode cX5_heard 9 = .ok (.astore 4, 2) := by decide +kernel
theorem dX5_heard_11 : decode cX5_heard 11 = .ok (.aload_n 0, 1) := by decide +kernel
theorem dX5_heard_12 : decode cX5_heard 12 = .ok (.getfield 41, 3) := by decide +kernel
theorem dX5_heard_15 : decode cX5_heard 15 = .ok (.aload 4, 2) := by decide +kernel
theorem dX5_heard_17 : decode cX5_heard 17 = .ok (.iconst 0, 1) := by decide +kernel
theorem dX5_heard_18 : decode cX5_heard 18 = .ok (.iaload, 1) := by decide +kernel
theorem dX5_heard_19 : decode cX5_heard 19 = .ok (.iconst 1, 1) := by decide +kernel
theorem dX5_heard_20 : decode cX5_heard 20 = .ok (.if_icmp .ne 7, 3) := by decide +kernel
theorem dX5_heard_23 : decode cX5_heard 23 = .ok (.iconst 1, 1) := by decide +kernel
theorem dX5_heard_24 : decode cX5_heard 24 = .ok (.goto 4, 3) := by decide +kernel
theorem dX5_heard_27 : decode cX5_heard 27 = .ok (.iconst 0, 1) := by decide +kernel
theorem dX5_heard_28 : decode cX5_heard 28 = .ok (.aload 4, 2) := by decide +kernel
theorem dX5_heard_30 : decode cX5_heard 30 = .ok (.iconst 1, 1) := by decide +kernel
theorem dX5_heard_31 : decode cX5_heard 31 = .ok (.iaload, 1) := by decide +kernel
theorem dX5_heard_32 : decode cX5_heard 32 = .ok (.iconst 1, 1) := by decide +kernel
theorem dX5_heard_33 : decode cX5_heard 33 = .ok (.if_icmp .ne 7, 3) := by decide +kernel
theorem dX5_heard_36 : decode cX5_heard 36 = .ok (.iconst 1, 1) := by decide +kernel
theorem dX5_heard_37 : decode cX5_heard 37 = .ok (.goto 4, 3) := by decide +kernel
theorem dX5_heard_40 : decode cX5_heard 40 = .ok (.iconst 0, 1) := by decide +kernel
theorem dX5_heard_41 : decode cX5_heard 41 = .ok (.aload 4, 2) := by decide +kernel
theorem dX5_heard_43 : decode cX5_heard 43 = .ok (.iconst 2, 1) := by decide +kernel
theorem dX5_heard_44 : decode cX5_heard 44 = .ok (.iaload, 1) := by decide +kernel
theorem dX5_heard_45 : decode cX5_heard 45 = .ok (.iconst 1, 1) := by decide +kernel
theorem dX5_heard_46 : decode cX5_heard 46 = .ok (.if_icmp .ne 7, 3) := by decide +kernel
theorem dX5_heard_49 : decode cX5_heard 49 = .ok (.iconst 1, 1) := by decide +kernel
theorem dX5_heard_50 : decode cX5_heard 50 = .ok (.goto 4, 3) := by decide +kernel
theorem dX5_heard_53 : decode cX5_heard 53 = .ok (.iconst 0, 1) := by decide +kernel
theorem dX5_heard_54 : decode cX5_heard 54 = .ok (.invokevirtual 98, 3) := by decide +kernel
theorem dX5_heard_57 : decode cX5_heard 57 = .ok (.aload_n 0, 1) := by decide +kernel
theorem dX5_heard_58 : decode cX5_heard 58 = .ok (.getfield 41, 3) := by decide +kernel
theorem dX5_heard_61 : decode cX5_heard 61 = .ok (.lload_n 2, 1) := by decide +kernel
theorem dX5_heard_62 : decode cX5_heard 62 = .ok (.aload 4, 2) := by decide +kernel
theorem dX5_heard_64 : decode cX5_heard 64 = .ok (.bipush 6, 2) := by decide +kernel
theorem dX5_heard_66 : decode cX5_heard 66 = .ok (.iaload, 1) := by decide +kernel
theorem dX5_heard_67 : decode cX5_heard 67 = .ok (.invokevirtual 163, 3) := by decide +kernel
theorem dX5_heard_70 : decode cX5_heard 70 = .ok (.ireturn, 1) := by decide +kernel
set_option maxRecDepth 20000 in
theorem ggX5_reached_X5_heard : GoodIn wsX5_reached wsX5_heard := goodIn_r _ [5, 6, 7, 8, 9, 10, 11, 12, 13, 14, 15, 16, 17, 18, 19, 20, 21, 22, 23, 24, 25, 26, 27, 28, 29, 30, 31, 32, 33, 34, 35, 36, 37, 38, 39, 40, 41, 42, 43, 44, 45, 46, 47, 48, 49, 50, 51, 52, 53, 54, 55, 56, 57, 58, 59, 60, 61, 62, 63, 64, 65, 66, 67, 68, 69, 70, 71, 72, 73, 74, 75, 76, 77, 78, 79, 80, 81, 82, 83, 84, 85, 86, 87, 88, 89, 90, 91, 92, 93, 94, 95, 96, 97, 98, 99, 100, 101, 102, 103, 104, 105, 106, 107] (by decide +kernel) (by decide +kernel)
set_option maxRecDepth 20000 in
theorem gX5_reached_X5_heard : GoodIn wsX5_reached (wsV RX5 128 RX5 yX5_heard wsX5_heard) := goodIn_app (goodIn_of _ (by decide +kernel)) ggX5_reached_X5_heard
theorem dX5_reached_0 : decode cX5_reached 0 = .ok (.iconst 0, 1) := by decide +kernel
theorem dX5_reached_1 : decode cX5_reached 1 = .ok (.istore 4, 2) := by decide +kernel
theorem dX5_reached_3 : decode cX5_reached 3 = .ok (.iconst 0, 1) := by decide +kernel
theorem dX5_reached_4 : decode cX5_reached 4 = .ok (.istore 5, 2) := by decide +kernel
theorem dX5_reached_6 : decode cX5_reached 6 = .ok (.iload 5, 2) := by decide +kernel
theorem dX5_reached_8 : decode cX5_reached 8 = .ok (.bipush 6, 2) := by decide +kernel
theorem dX5_reached_10 : decode cX5_reached 10 = .ok (.if_icmp .ge 23, 3) := by decide +kernel
theorem dX5_reached_13 : decode cX5_reached 13 = .ok (.aload_n 0, 1) := by decide +kernel
theorem dX5_reached_14 : decode cX5_reached 14 = .ok (.iload 5, 2) := by decide +kernel
theorem dX5_reached_16 : decode cX5_reached 16 = .ok (.lload_n 2, 1) := by decide +kernel
theorem dX5_reached_17 : decode cX5_reached 17 = .ok (.invokevirtual 128, 3) := by decide +kernel
theorem dX5_reached_20 : decode cX5_reached 20 = .ok (.iload_n 1, 1) := by decide +kernel
theorem dX5_reached_21 : decode cX5_reached 21 = .ok (.if_icmp .ne 6, 3) := by decide +kernel
theorem dX5_reached_24 : decode cX5_reached 24 = .ok (.iinc 4 1, 3) := by decide +kernel
theorem dX5_reached_27 : decode cX5_reached 27 = .ok (.iinc 5 1, 3) := by decide +kernel
theorem dX5_reached_30 : decode cX5_reached 30 = .ok (.goto (-24), 3) := by decide +kernel
theorem dX5_reached_33 : decode cX5_reached 33 = .ok (.iload 4, 2) := by decide +kernel
theorem dX5_reached_35 : decode cX5_reached 35 = .ok (.ireturn, 1) := by decide +kernel
set_option maxRecDepth 20000 in
theorem ggX5_firstUnderstood_X4_find : GoodIn wsX5_firstUnderstood wsX4_find := goodIn_r _ [7, 8, 9, 10, 11, 12, 13, 14, 15, 16, 17, 18, 6, 19, 20, 21, 22, 23, 24, 25, 26, 27, 28, 29, 30, 31, 32, 33, 34, 35, 36, 37, 38, 39, 40, 41, 42, 137, 138] (by decide +kernel) (by decide +kernel)
set_option maxRecDepth 20000 in
theorem gX5_firstUnderstood_X4_find : GoodIn wsX5_firstUnderstood (wsV RX5 70 RX4 yX4_find wsX4_find) := goodIn_app (goodIn_of _ (by decide +kernel)) ggX5_firstUnderstood_X4_find
set_option maxRecDepth 20000 in
theorem ggX5_firstUnderstood_X4_at : GoodIn wsX5_firstUnderstood wsX4_at := goodIn_r _ [46, 31, 137, 138] (by decide +kernel) (by decide +kernel)
set_option maxRecDepth 20000 in
theorem gX5_firstUnderstood_X4_at : GoodIn wsX5_firstUnderstood (wsV RX5 78 RX4 yX4_at wsX4_at) := goodIn_app (goodIn_of _ (by decide +kernel)) ggX5_firstUnderstood_X4_at
set_option maxRecDepth 20000 in
theorem ggX5_firstUnderstood_X5_heard : GoodIn wsX5_firstUnderstood wsX5_heard := goodIn_r _ [51, 52, 53, 54, 55, 56, 57, 58, 59, 60, 61, 62, 63, 64, 65, 66, 67, 68, 69, 70, 71, 72, 73, 74, 75, 76, 25, 77, 78, 79, 80, 81, 82, 83, 84, 85, 86, 87, 88, 89, 90, 91, 92, 93, 94, 95, 96, 97, 98, 99, 100, 101, 102, 103, 104, 105, 106, 107, 108, 109, 110, 111, 112, 113, 114, 115, 116, 117, 118, 119, 120, 121, 122, 123, 124, 125, 126, 127, 128, 129, 130, 131, 132, 133, 134, 135, 136, 139, 140, 141, 142, 143, 144, 145, 146, 147, 148, 149, 150, 151, 152, 153, 154] (by decide +kernel) (by decide +kernel)
set_option maxRecDepth 20000 in
theorem gX5_firstUnderstood_X5_heard : GoodIn wsX5_firstUnderstood (wsV RX5 128 RX5 yX5_heard wsX5_heard) := goodIn_app (goodIn_of _ (by decide +kernel)) ggX5_firstUnderstood_X5_heard
theorem dX5_firstUnderstood_0 : decode cX5_firstUnderstood 0 = .ok (.aload_n 0, 1) := by decide +kernel
theorem dX5_firstUnderstood_1 : decode cX5_firstUnderstood 1 = .ok (.getfield 34, 3) := by decide +kernel
theorem dX5_firstUnderstood_4 : decode cX5_firstUnderstood 4 = .ok (.iload_n 2, 1) := by decide +kernel
theorem dX5_firstUnderstood_5 : decode cX5_firstUnderstood 5 = .ok (.invokevirtual 70, 3) := by decide +kernel
theorem dX5_firstUnderstood_8 : decode cX5_firstUnderstood 8 = .ok (.iconst 0, 1) := by decide +kernel
theorem dX5_firstUnderstood_9 : decode cX5_firstUnderstood 9 = .ok (.istore_n 3, 1) := by decide +kernel
theorem dX5_firstUnderstood_10 : decode cX5_firstUnderstood 10 = .ok (.iload_n 3, 1) := by decide +kernel
theorem dX5_firstUnderstood_11 : decode cX5_firstUnderstood 11 = .ok (.aload_n 0, 1) := by decide +kernel
theorem dX5_firstUnderstood_12 : decode cX5_firstUnderstood 12 = .ok (.getfield 34, 3) := by decide +kernel
theorem dX5_firstUnderstood_15 : decode cX5_firstUnderstood 15 = .ok (.getfield 113, 3) := by decide +kernel
theorem dX5_firstUnderstood_18 : decode cX5_firstUnderstood 18 = .ok (.if_icmp .ge 28, 3) := by decide +kernel
theorem dX5_firstUnderstood_21 : decode cX5_firstUnderstood 21 = .ok (.aload_n 0, 1) := by decide +kernel
theorem dX5_firstUnderstood_22 : decode cX5_firstUnderstood 22 = .ok (.iload_n 1, 1) := by decide +kernel
theorem dX5_firstUnderstood_23 : decode cX5_firstUnderstood 23 = .ok (.aload_n 0, 1) := by decide +kernel
theorem dX5_firstUnderstood_24 : decode cX5_firstUnderstood 24 = .ok (.getfield 34, 3) := by decide +kernel
theorem dX5_firstUnderstood_27 : decode cX5_firstUnderstood 27 = .ok (.iload_n 3, 1) := by decide +kernel
theorem dX5_firstUnderstood_28 : decode cX5_firstUnderstood 28 = .ok (.invokevirtual 78, 3) := by decide +kernel
theorem dX5_firstUnderstood_31 : decode cX5_firstUnderstood 31 = .ok (.invokevirtual 128, 3) := by decide +kernel
theorem dX5_firstUnderstood_34 : decode cX5_firstUnderstood 34 = .ok (.iload_n 2, 1) := by decide +kernel
theorem dX5_firstUnderstood_35 : decode cX5_firstUnderstood 35 = .ok (.if_icmp .ne 5, 3) := by decide +kernel
theorem dX5_firstUnderstood_38 : decode cX5_firstUnderstood 38 = .ok (.iload_n 3, 1) := by decide +kernel
theorem dX5_firstUnderstood_39 : decode cX5_firstUnderstood 39 = .ok (.ireturn, 1) := by decide +kernel
theorem dX5_firstUnderstood_40 : decode cX5_firstUnderstood 40 = .ok (.iinc 3 1, 3) := by decide +kernel
theorem dX5_firstUnderstood_43 : decode cX5_firstUnderstood 43 = .ok (.goto (-33), 3) := by decide +kernel
theorem dX5_firstUnderstood_46 : decode cX5_firstUnderstood 46 = .ok (.bipush (-5), 2) := by decide +kernel
theorem dX5_firstUnderstood_48 : decode cX5_firstUnderstood 48 = .ok (.ireturn, 1) := by decide +kernel
set_option maxRecDepth 20000 in
theorem ggX5_say_X1_record : GoodIn wsX5_say wsX1_record := goodIn_r _ [8, 9, 10, 11, 12, 13, 14, 15, 16, 17, 18, 19, 20, 21, 22, 23, 24, 25, 26, 27, 28, 29, 142, 143, 144, 137, 138, 139, 140, 141] (by decide +kernel) (by decide +kernel)
set_option maxRecDepth 20000 in
theorem gX5_say_X1_record : GoodIn wsX5_say (wsV RX5 53 RX1 yX1_record wsX1_record) := goodIn_app (goodIn_of _ (by decide +kernel)) ggX5_say_X1_record
set_option maxRecDepth 20000 in
theorem ggX5_say_X5_heard : GoodIn wsX5_say wsX5_heard := goodIn_r _ [34, 2, 3, 35, 36, 37, 38, 39, 40, 41, 42, 43, 44, 45, 46, 47, 48, 49, 50, 51, 52, 53, 54, 55, 56, 57, 58, 59, 60, 61, 62, 63, 64, 65, 66, 67, 68, 69, 70, 71, 72, 73, 74, 75, 76, 77, 78, 79, 80, 81, 82, 83, 84, 85, 86, 87, 88, 89, 90, 91, 92, 93, 94, 95, 96, 97, 98, 99, 100, 101, 102, 103, 104, 105, 106, 107, 108, 109, 110, 111, 112, 131, 132, 133, 134, 135, 136, 137, 138, 139, 140, 141, 145, 146, 147, 148, 149, 150, 151, 152, 153, 154, 155] (by decide +kernel) (by decide +kernel)
set_option maxRecDepth 20000 in
theorem gX5_say_X5_heard : GoodIn wsX5_say (wsV RX5 128 RX5 yX5_heard wsX5_heard) := goodIn_app (goodIn_of _ (by decide +kernel)) ggX5_say_X5_heard
set_option maxRecDepth 20000 in
theorem ggX5_say_X5_doubtWords : GoodIn wsX5_say wsX5_doubtWords := goodIn_r _ [116, 2, 117, 118, 119, 33, 120, 121, 122, 58, 123, 124, 61, 62, 131, 132, 133, 134, 135, 136, 137, 138, 139, 140, 141] (by decide +kernel) (by decide +kernel)
set_option maxRecDepth 20000 in
theorem gX5_say_X5_doubtWords : GoodIn wsX5_say (wsV RX5 166 RX5 yX5_doubtWords wsX5_doubtWords) := goodIn_app (goodIn_of _ (by decide +kernel)) ggX5_say_X5_doubtWords
set_option maxRecDepth 20000 in
theorem ggX5_say_X3_nextLine : GoodIn wsX5_say wsX3_nextLine := goodIn_r _ [128, 27, 28, 129, 13, 14, 15, 26, 137, 138, 139, 140, 141] (by decide +kernel) (by decide +kernel)
set_option maxRecDepth 20000 in
theorem gX5_say_X3_nextLine : GoodIn wsX5_say (wsV RX5 170 RX3 yX3_nextLine wsX3_nextLine) := goodIn_app (goodIn_of _ (by decide +kernel)) ggX5_say_X3_nextLine
set_option maxRecDepth 20000 in
theorem ggX5_say_X2_length : GoodIn wsX5_say wsX2_length := goodIn_r _ [59] (by decide +kernel) (by decide +kernel)
set_option maxRecDepth 20000 in
theorem gX5_say_X2_length : GoodIn wsX5_say (va_wsS RX5 116 yX2_length wsX2_length) := goodIn_app (goodIn_of _ (by decide +kernel)) ggX5_say_X2_length
theorem dX5_say_0 : decode cX5_say 0 = .ok (.aload_n 0, 1) := by decide +kernel
theorem dX5_say_1 : decode cX5_say 1 = .ok (.getfield 19, 3) := by decide +kernel
theorem dX5_say_4 : decode cX5_say 4 = .ok (.aload_n 0, 1) := by decide +kernel
theorem dX5_say_5 : decode cX5_say 5 = .ok (.getfield 10, 3) := by decide +kernel
theorem dX5_say_8 : decode cX5_say 8 = .ok (.invokevirtual 53, 3) := by decide +kernel
theorem dX5_say_11 : decode cX5_say 11 = .ok (.aload_n 0, 1) := by decide +kernel
theorem dX5_say_12 : decode cX5_say 12 = .ok (.iload_n 1, 1) := by decide +kernel
theorem dX5_say_13 : decode cX5_say 13 = .ok (.lload_n 3, 1) := by decide +kernel
theorem dX5_say_14 : decode cX5_say 14 = .ok (.invokevirtual 128, 3) := by decide +kernel
theorem dX5_say_17 : decode cX5_say 17 = .ok (.istore 5, 2) := by decide +kernel
theorem dX5_say_19 : decode cX5_say 19 = .ok (.iload 5, 2) := by decide +kernel
theorem dX5_say_21 : decode cX5_say 21 = .ok (.iload_n 2, 1) := by decide +kernel
theorem dX5_say_22 : decode cX5_say 22 = .ok (.if_icmp .eq 7, 3) := by decide +kernel
theorem dX5_say_25 : decode cX5_say 25 = .ok (.iconst 1, 1) := by decide +kernel
theorem dX5_say_26 : decode cX5_say 26 = .ok (.goto 4, 3) := by decide +kernel
theorem dX5_say_29 : decode cX5_say 29 = .ok (.iconst 0, 1) := by decide +kernel
theorem dX5_say_30 : decode cX5_say 30 = .ok (.istore 6, 2) := by decide +kernel
theorem dX5_say_32 : decode cX5_say 32 = .ok (.aload_n 0, 1) := by decide +kernel
theorem dX5_say_33 : decode cX5_say 33 = .ok (.getfield 10, 3) := by decide +kernel
theorem dX5_say_36 : decode cX5_say 36 = .ok (.getfield 57, 3) := by decide +kernel
theorem dX5_say_39 : decode cX5_say 39 = .ok (.iload_n 1, 1) := by decide +kernel
theorem dX5_say_40 : decode cX5_say 40 = .ok (.aaload, 1) := by decide +kernel
theorem dX5_say_41 : decode cX5_say 41 = .ok (.astore 7, 2) := by decide +kernel
theorem dX5_say_43 : decode cX5_say 43 = .ok (.aload 7, 2) := by decide +kernel
theorem dX5_say_45 : decode cX5_say 45 = .ok (.bipush 7, 2) := by decide +kernel
theorem dX5_say_47 : decode cX5_say 47 = .ok (.dup2, 1) := by decide +kernel
theorem dX5_say_48 : decode cX5_say 48 = .ok (.iaload, 1) := by decide +kernel
theorem dX5_say_49 : decode cX5_say 49 = .ok (.iconst 1, 1) := by decide +kernel
theorem dX5_say_50 : decode cX5_say 50 = .ok (.iadd, 1) := by decide +kernel
theorem dX5_say_51 : decode cX5_say 51 = .ok (.iastore, 1) := by decide +kernel
theorem dX5_say_52 : decode cX5_say 52 = .ok (.iconst 0, 1) := by decide +kernel
theorem dX5_say_53 : decode cX5_say 53 = .ok (.istore 8, 2) := by decide +kernel
theorem dX5_say_55 : decode cX5_say 55 = .ok (.iload 6, 2) := by decide +kernel
theorem dX5_say_57 : decode cX5_say 57 = .ok (.ifCond .eq 21, 3) := by decide +kernel
theorem dX5_say_60 : decode cX5_say 60 = .ok (.aload 7, 2) := by decide +kernel
theorem dX5_say_62 : decode cX5_say 62 = .ok (.bipush 8, 2) := by decide +kernel
theorem dX5_say_64 : decode cX5_say 64 = .ok (.dup2, 1) := by decide +kernel
theorem dX5_say_65 : decode cX5_say 65 = .ok (.iaload, 1) := by decide +kernel
theorem dX5_say_66 : decode cX5_say 66 = .ok (.iconst 1, 1) := by decide +kernel
theorem dX5_say_67 : decode cX5_say 67 = .ok (.iadd, 1) := by decide +kernel
theorem dX5_say_68 : decode cX5_say 68 = .ok (.iastore, 1) := by decide +kernel
theorem dX5_say_69 : decode cX5_say 69 = .ok (.aload_n 0, 1) := by decide +kernel
theorem dX5_say_70 : decode cX5_say 70 = .ok (.aload 7, 2) := by decide +kernel
theorem dX5_say_72 : decode cX5_say 72 = .ok (.lload_n 3, 1) := by decide +kernel
theorem dX5_say_73 : decode cX5_say 73 = .ok (.invokevirtual 166, 3) := by decide +kernel
theorem dX5_say_76 : decode cX5_say 76 = .ok (.istore 8, 2) := by decide +kernel
theorem dX5_say_78 : decode cX5_say 78 = .ok (.aload_n 0, 1) := by decide +kernel
theorem dX5_say_79 : decode cX5_say 79 = .ok (.getfield 10, 3) := by decide +kernel
theorem dX5_say_82 : decode cX5_say 82 = .ok (.invokevirtual 170, 3) := by decide +kernel
theorem dX5_say_85 : decode cX5_say 85 = .ok (.astore 9, 2) := by decide +kernel
theorem dX5_say_87 : decode cX5_say 87 = .ok (.aload 9, 2) := by decide +kernel
theorem dX5_say_89 : decode cX5_say 89 = .ok (.iconst 0, 1) := by decide +kernel
theorem dX5_say_90 : decode cX5_say 90 = .ok (.iload_n 1, 1) := by decide +kernel
theorem dX5_say_91 : decode cX5_say 91 = .ok (.iastore, 1) := by decide +kernel
theorem dX5_say_92 : decode cX5_say 92 = .ok (.aload 9, 2) := by decide +kernel
theorem dX5_say_94 : decode cX5_say 94 = .ok (.iconst 1, 1) := by decide +kernel
theorem dX5_say_95 : decode cX5_say 95 = .ok (.iload_n 2, 1) := by decide +kernel
theorem dX5_say_96 : decode cX5_say 96 = .ok (.iastore, 1) := by decide +kernel
theorem dX5_say_97 : decode cX5_say 97 = .ok (.aload 9, 2) := by decide +kernel
theorem dX5_say_99 : decode cX5_say 99 = .ok (.iconst 2, 1) := by decide +kernel
theorem dX5_say_100 : decode cX5_say 100 = .ok (.lload_n 3, 1) := by decide +kernel
theorem dX5_say_101 : decode cX5_say 101 = .ok (.invokestatic 116, 3) := by decide +kernel
theorem dX5_say_104 : decode cX5_say 104 = .ok (.iastore, 1) := by decide +kernel
theorem dX5_say_105 : decode cX5_say 105 = .ok (.aload 9, 2) := by decide +kernel
theorem dX5_say_107 : decode cX5_say 107 = .ok (.iconst 3, 1) := by decide +kernel
theorem dX5_say_108 : decode cX5_say 108 = .ok (.iload 5, 2) := by decide +kernel
theorem dX5_say_110 : decode cX5_say 110 = .ok (.iastore, 1) := by decide +kernel
theorem dX5_say_111 : decode cX5_say 111 = .ok (.aload 9, 2) := by decide +kernel
theorem dX5_say_113 : decode cX5_say 113 = .ok (.iconst 4, 1) := by decide +kernel
theorem dX5_say_114 : decode cX5_say 114 = .ok (.iload 8, 2) := by decide +kernel
theorem dX5_say_116 : decode cX5_say 116 = .ok (.ifCond .eq 7, 3) := by decide +kernel
theorem dX5_say_119 : decode cX5_say 119 = .ok (.iconst 1, 1) := by decide +kernel
theorem dX5_say_120 : decode cX5_say 120 = .ok (.goto 4, 3) := by decide +kernel
theorem dX5_say_123 : decode cX5_say 123 = .ok (.iconst 0, 1) := by decide +kernel
theorem dX5_say_124 : decode cX5_say 124 = .ok (.iastore, 1) := by decide +kernel
theorem dX5_say_125 : decode cX5_say 125 = .ok (.iload 6, 2) := by decide +kernel
theorem dX5_say_127 : decode cX5_say 127 = .ok (.ifCond .eq 7, 3) := by decide +kernel
theorem dX5_say_130 : decode cX5_say 130 = .ok (.iconst 0, 1) := by decide +kernel
theorem dX5_say_131 : decode cX5_say 131 = .ok (.goto 4, 3) := by decide +kernel
theorem dX5_say_134 : decode cX5_say 134 = .ok (.iconst 1, 1) := by decide +kernel
theorem dX5_say_135 : decode cX5_say 135 = .ok (.ireturn, 1) := by decide +kernel
set_option maxRecDepth 20000 in
theorem ggX5_doubtWords_X5_wordCharacter : GoodIn wsX5_doubtWords wsX5_wordCharacter := goodIn_r _ [6] (by decide +kernel) (by decide +kernel)
set_option maxRecDepth 20000 in
theorem gX5_doubtWords_X5_wordCharacter : GoodIn wsX5_doubtWords (va_wsS RX5 174 yX5_wordCharacter wsX5_wordCharacter) := goodIn_app (goodIn_of _ (by decide +kernel)) ggX5_doubtWords_X5_wordCharacter
set_option maxRecDepth 20000 in
theorem ggX5_doubtWords_X2_has : GoodIn wsX5_doubtWords wsX2_has := goodIn_r _ [10, 11, 12, 9, 13] (by decide +kernel) (by decide +kernel)
set_option maxRecDepth 20000 in
theorem gX5_doubtWords_X2_has : GoodIn wsX5_doubtWords (va_wsS RX5 178 yX2_has wsX2_has) := goodIn_app (goodIn_of _ (by decide +kernel)) ggX5_doubtWords_X2_has
theorem dX5_doubtWords_0 : decode cX5_doubtWords 0 = .ok (.iconst 0, 1) := by decide +kernel
theorem dX5_doubtWords_1 : decode cX5_doubtWords 1 = .ok (.istore 4, 2) := by decide +kernel
theorem dX5_doubtWords_3 : decode cX5_doubtWords 3 = .ok (.iconst 0, 1) := by decide +kernel
theorem dX5_doubtWords_4 : decode cX5_doubtWords 4 = .ok (.istore 5, 2) := by decide +kernel
theorem dX5_doubtWords_6 : decode cX5_doubtWords 6 = .ok (.iload 5, 2) := by decide +kernel
theorem dX5_doubtWords_8 : decode cX5_doubtWords 8 = .ok (.iconst 3, 1) := by decide +kernel
theorem dX5_doubtWords_9 : decode cX5_doubtWords 9 = .ok (.if_icmp .ge 73, 3) := by decide +kernel
theorem dX5_doubtWords_12 : decode cX5_doubtWords 12 = .ok (.aload_n 1, 1) := by decide +kernel
theorem dX5_doubtWords_13 : decode cX5_doubtWords 13 = .ok (.iconst 0, 1) := by decide +kernel
theorem dX5_doubtWords_14 : decode cX5_doubtWords 14 = .ok (.iload 5, 2) := by decide +kernel
theorem dX5_doubtWords_16 : decode cX5_doubtWords 16 = .ok (.iadd, 1) := by decide +kernel
theorem dX5_doubtWords_17 : decode cX5_doubtWords 17 = .ok (.iaload, 1) := by decide +kernel
theorem dX5_doubtWords_18 : decode cX5_doubtWords 18 = .ok (.ifCond .ne 58, 3) := by decide +kernel
theorem dX5_doubtWords_21 : decode cX5_doubtWords 21 = .ok (.lload_n 2, 1) := by decide +kernel
theorem dX5_doubtWords_22 : decode cX5_doubtWords 22 = .ok (.iload 5, 2) := by decide +kernel
theorem dX5_doubtWords_24 : decode cX5_doubtWords 24 = .ok (.invokestatic 174, 3) := by decide +kernel
theorem dX5_doubtWords_27 : decode cX5_doubtWords 27 = .ok (.invokestatic 178, 3) := by decide +kernel
theorem dX5_doubtWords_30 : decode cX5_doubtWords 30 = .ok (.ifCond .eq 46, 3) := by decide +kernel
theorem dX5_doubtWords_33 : decode cX5_doubtWords 33 = .ok (.aload_n 1, 1) := by decide +kernel
theorem dX5_doubtWords_34 : decode cX5_doubtWords 34 = .ok (.iconst 3, 1) := by decide +kernel
theorem dX5_doubtWords_35 : decode cX5_doubtWords 35 = .ok (.iload 5, 2) := by decide +kernel
theorem dX5_doubtWords_37 : decode cX5_doubtWords 37 = .ok (.iadd, 1) := by decide +kernel
theorem dX5_doubtWords_38 : decode cX5_doubtWords 38 = .ok (.dup2, 1) := by decide +kernel
theorem dX5_doubtWords_39 : decode cX5_doubtWords 39 = .ok (.iaload, 1) := by decide +kernel
theorem dX5_doubtWords_40 : decode cX5_doubtWords 40 = .ok (.iconst 1, 1) := by decide +kernel
theorem dX5_doubtWords_41 : decode cX5_doubtWords 41 = .ok (.iadd, 1) := by decide +kernel
theorem dX5_doubtWords_42 : decode cX5_doubtWords 42 = .ok (.iastore, 1) := by decide +kernel
theorem dX5_doubtWords_43 : decode cX5_doubtWords 43 = .ok (.aload_n 1, 1) := by decide +kernel
theorem dX5_doubtWords_44 : decode cX5_doubtWords 44 = .ok (.iconst 3, 1) := by decide +kernel
theorem dX5_doubtWords_45 : decode cX5_doubtWords 45 = .ok (.iload 5, 2) := by decide +kernel
theorem dX5_doubtWords_47 : decode cX5_doubtWords 47 = .ok (.iadd, 1) := by decide +kernel
theorem dX5_doubtWords_48 : decode cX5_doubtWords 48 = .ok (.iaload, 1) := by decide +kernel
theorem dX5_doubtWords_49 : decode cX5_doubtWords 49 = .ok (.aload_n 0, 1) := by decide +kernel
theorem dX5_doubtWords_50 : decode cX5_doubtWords 50 = .ok (.getfield 10, 3) := by decide +kernel
theorem dX5_doubtWords_53 : decode cX5_doubtWords 53 = .ok (.getfield 61, 3) := by decide +kernel
theorem dX5_doubtWords_56 : decode cX5_doubtWords 56 = .ok (.if_icmp .lt 20, 3) := by decide +kernel
theorem dX5_doubtWords_59 : decode cX5_doubtWords 59 = .ok (.aload_n 1, 1) := by decide +kernel
theorem dX5_doubtWords_60 : decode cX5_doubtWords 60 = .ok (.iconst 0, 1) := by decide +kernel
theorem dX5_doubtWords_61 : decode cX5_doubtWords 61 = .ok (.iload 5, 2) := by decide +kernel
theorem dX5_doubtWords_63 : decode cX5_doubtWords 63 = .ok (.iadd, 1) := by decide +kernel
theorem dX5_doubtWords_64 : decode cX5_doubtWords 64 = .ok (.iconst 1, 1) := by decide +kernel
theorem dX5_doubtWords_65 : decode cX5_doubtWords 65 = .ok (.iastore, 1) := by decide +kernel
theorem dX5_doubtWords_66 : decode cX5_doubtWords 66 = .ok (.aload_n 1, 1) := by decide +kernel
theorem dX5_doubtWords_67 : decode cX5_doubtWords 67 = .ok (.iconst 3, 1) := by decide +kernel
theorem dX5_doubtWords_68 : decode cX5_doubtWords 68 = .ok (.iload 5, 2) := by decide +kernel
theorem dX5_doubtWords_70 : decode cX5_doubtWords 70 = .ok (.iadd, 1) := by decide +kernel
theorem dX5_doubtWords_71 : decode cX5_doubtWords 71 = .ok (.iconst 0, 1) := by decide +kernel
theorem dX5_doubtWords_72 : decode cX5_doubtWords 72 = .ok (.iastore, 1) := by decide +kernel
theorem dX5_doubtWords_73 : decode cX5_doubtWords 73 = .ok (.iconst 1, 1) := by decide +kernel
theorem dX5_doubtWords_74 : decode cX5_doubtWords 74 = .ok (.istore 4, 2) := by decide +kernel
theorem dX5_doubtWords_76 : decode cX5_doubtWords 76 = .ok (.iinc 5 1, 3) := by decide +kernel
theorem dX5_doubtWords_79 : decode cX5_doubtWords 79 = .ok (.goto (-73), 3) := by decide +kernel
theorem dX5_doubtWords_82 : decode cX5_doubtWords 82 = .ok (.iload 4, 2) := by decide +kernel
theorem dX5_doubtWords_84 : decode cX5_doubtWords 84 = .ok (.ireturn, 1) := by decide +kernel
theorem dX5_wordCharacter_0 : decode cX5_wordCharacter 0 = .ok (.iload_n 0, 1) := by decide +kernel
theorem dX5_wordCharacter_1 : decode cX5_wordCharacter 1 = .ok (.lookupswitch 33 #[(0, 27), (1, 30)], 27) := by decide +kernel
theorem dX5_wordCharacter_28 : decode cX5_wordCharacter 28 = .ok (.bipush 72, 2) := by decide +kernel
theorem dX5_wordCharacter_30 : decode cX5_wordCharacter 30 = .ok (.ireturn, 1) := by decide +kernel
theorem dX5_wordCharacter_31 : decode cX5_wordCharacter 31 = .ok (.bipush 45, 2) := by decide +kernel
theorem dX5_wordCharacter_33 : decode cX5_wordCharacter 33 = .ok (.ireturn, 1) := by decide +kernel
theorem dX5_wordCharacter_34 : decode cX5_wordCharacter 34 = .ok (.bipush 71, 2) := by decide +kernel
theorem dX5_wordCharacter_36 : decode cX5_wordCharacter 36 = .ok (.ireturn, 1) := by decide +kernel
theorem dJ9_max_7cf53_0 : decode cJ9_max_7cf53 0 = .ok (.iload_n 0, 1) := by decide +kernel
theorem dJ9_max_7cf53_1 : decode cJ9_max_7cf53 1 = .ok (.iload_n 1, 1) := by decide +kernel
theorem dJ9_max_7cf53_2 : decode cJ9_max_7cf53 2 = .ok (.if_icmp .lt 7, 3) := by decide +kernel
theorem dJ9_max_7cf53_5 : decode cJ9_max_7cf53 5 = .ok (.iload_n 0, 1) := by decide +kernel
theorem dJ9_max_7cf53_6 : decode cJ9_max_7cf53 6 = .ok (.goto 4, 3) := by decide +kernel
theorem dJ9_max_7cf53_9 : decode cJ9_max_7cf53 9 = .ok (.iload_n 1, 1) := by decide +kernel
theorem dJ9_max_7cf53_10 : decode cJ9_max_7cf53 10 = .ok (.ireturn, 1) := by decide +kernel
theorem dJ9_min_7cf53_0 : decode cJ9_min_7cf53 0 = .ok (.iload_n 0, 1) := by decide +kernel
theorem dJ9_min_7cf53_1 : decode cJ9_min_7cf53 1 = .ok (.iload_n 1, 1) := by decide +kernel
theorem dJ9_min_7cf53_2 : decode cJ9_min_7cf53 2 = .ok (.if_icmp .gt 7, 3) := by decide +kernel
theorem dJ9_min_7cf53_5 : decode cJ9_min_7cf53 5 = .ok (.iload_n 0, 1) := by decide +kernel
theorem dJ9_min_7cf53_6 : decode cJ9_min_7cf53 6 = .ok (.goto 4, 3) := by decide +kernel
theorem dJ9_min_7cf53_9 : decode cJ9_min_7cf53 9 = .ok (.iload_n 1, 1) := by decide +kernel
theorem dJ9_min_7cf53_10 : decode cJ9_min_7cf53 10 = .ok (.ireturn, 1) := by decide +kernel
