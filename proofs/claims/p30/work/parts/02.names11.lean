theorem dX3_copyFrom_70 : decode cX3_copyFrom 70 = .ok (.putfield 19, 3) := by decide +kernel
theorem dX3_copyFrom_73 : decode cX3_copyFrom 73 = .ok (.aload_n 0, 1) := by decide +kernel
theorem dX3_copyFrom_74 : decode cX3_copyFrom 74 = .ok (.aload_n 1, 1) := by decide +kernel
theorem dX3_copyFrom_75 : decode cX3_copyFrom 75 = .ok (.getfield 23, 3) := by decide +kernel
theorem dX3_copyFrom_78 : decode cX3_copyFrom 78 = .ok (.putfield 23, 3) := by decide +kernel
theorem dX3_copyFrom_81 : decode cX3_copyFrom 81 = .ok (.aload_n 0, 1) := by decide +kernel
theorem dX3_copyFrom_82 : decode cX3_copyFrom 82 = .ok (.aload_n 1, 1) := by decide +kernel
theorem dX3_copyFrom_83 : decode cX3_copyFrom 83 = .ok (.getfield 26, 3) := by decide +kernel
theorem dX3_copyFrom_86 : decode cX3_copyFrom 86 = .ok (.putfield 26, 3) := by decide +kernel
theorem dX3_copyFrom_89 : decode cX3_copyFrom 89 = .ok (.return_, 1) := by decide +kernel
theorem dX3_nextLine_0 : decode cX3_nextLine 0 = .ok (.aload_n 0, 1) := by decide +kernel
theorem dX3_nextLine_1 : decode cX3_nextLine 1 = .ok (.aload_n 0, 1) := by decide +kernel
theorem dX3_nextLine_2 : decode cX3_nextLine 2 = .ok (.getfield 19, 3) := by decide +kernel
theorem dX3_nextLine_5 : decode cX3_nextLine 5 = .ok (.ifCond .lt 21, 3) := by decide +kernel
theorem dX3_nextLine_8 : decode cX3_nextLine 8 = .ok (.aload_n 0, 1) := by decide +kernel
theorem dX3_nextLine_9 : decode cX3_nextLine 9 = .ok (.getfield 19, 3) := by decide +kernel
theorem dX3_nextLine_12 : decode cX3_nextLine 12 = .ok (.bipush 9, 2) := by decide +kernel
theorem dX3_nextLine_14 : decode cX3_nextLine 14 = .ok (.if_icmp .ge 12, 3) := by decide +kernel
theorem dX3_nextLine_17 : decode cX3_nextLine 17 = .ok (.aload_n 0, 1) := by decide +kernel
theorem dX3_nextLine_18 : decode cX3_nextLine 18 = .ok (.getfield 19, 3) := by decide +kernel
theorem dX3_nextLine_21 : decode cX3_nextLine 21 = .ok (.iconst 1, 1) := by decide +kernel
theorem dX3_nextLine_22 : decode cX3_nextLine 22 = .ok (.iadd, 1) := by decide +kernel
theorem dX3_nextLine_23 : decode cX3_nextLine 23 = .ok (.goto 4, 3) := by decide +kernel
theorem dX3_nextLine_26 : decode cX3_nextLine 26 = .ok (.iconst 0, 1) := by decide +kernel
theorem dX3_nextLine_27 : decode cX3_nextLine 27 = .ok (.putfield 19, 3) := by decide +kernel
theorem dX3_nextLine_30 : decode cX3_nextLine 30 = .ok (.aload_n 0, 1) := by decide +kernel
theorem dX3_nextLine_31 : decode cX3_nextLine 31 = .ok (.aload_n 0, 1) := by decide +kernel
theorem dX3_nextLine_32 : decode cX3_nextLine 32 = .ok (.getfield 23, 3) := by decide +kernel
theorem dX3_nextLine_35 : decode cX3_nextLine 35 = .ok (.iconst 1, 1) := by decide +kernel
theorem dX3_nextLine_36 : decode cX3_nextLine 36 = .ok (.iadd, 1) := by decide +kernel
theorem dX3_nextLine_37 : decode cX3_nextLine 37 = .ok (.bipush 10, 2) := by decide +kernel
theorem dX3_nextLine_39 : decode cX3_nextLine 39 = .ok (.invokestatic 35, 3) := by decide +kernel
theorem dX3_nextLine_42 : decode cX3_nextLine 42 = .ok (.putfield 23, 3) := by decide +kernel
theorem dX3_nextLine_45 : decode cX3_nextLine 45 = .ok (.aload_n 0, 1) := by decide +kernel
theorem dX3_nextLine_46 : decode cX3_nextLine 46 = .ok (.getfield 16, 3) := by decide +kernel
theorem dX3_nextLine_49 : decode cX3_nextLine 49 = .ok (.aload_n 0, 1) := by decide +kernel
theorem dX3_nextLine_50 : decode cX3_nextLine 50 = .ok (.getfield 19, 3) := by decide +kernel
theorem dX3_nextLine_53 : decode cX3_nextLine 53 = .ok (.aaload, 1) := by decide +kernel
theorem dX3_nextLine_54 : decode cX3_nextLine 54 = .ok (.areturn, 1) := by decide +kernel
theorem dX3_told_0 : decode cX3_told 0 = .ok (.aload_n 0, 1) := by decide +kernel
theorem dX3_told_1 : decode cX3_told 1 = .ok (.getfield 19, 3) := by decide +kernel
theorem dX3_told_4 : decode cX3_told 4 = .ok (.iload_n 1, 1) := by decide +kernel
theorem dX3_told_5 : decode cX3_told 5 = .ok (.isub, 1) := by decide +kernel
theorem dX3_told_6 : decode cX3_told 6 = .ok (.istore_n 3, 1) := by decide +kernel
theorem dX3_told_7 : decode cX3_told 7 = .ok (.iload_n 3, 1) := by decide +kernel
theorem dX3_told_8 : decode cX3_told 8 = .ok (.ifCond .ge 6, 3) := by decide +kernel
theorem dX3_told_11 : decode cX3_told 11 = .ok (.iinc 3 10, 3) := by decide +kernel
theorem dX3_told_14 : decode cX3_told 14 = .ok (.iload_n 3, 1) := by decide +kernel
theorem dX3_told_15 : decode cX3_told 15 = .ok (.ifCond .lt 20, 3) := by decide +kernel
theorem dX3_told_18 : decode cX3_told 18 = .ok (.iload_n 3, 1) := by decide +kernel
theorem dX3_told_19 : decode cX3_told 19 = .ok (.bipush 10, 2) := by decide +kernel
theorem dX3_told_21 : decode cX3_told 21 = .ok (.if_icmp .ge 14, 3) := by decide +kernel
theorem dX3_told_24 : decode cX3_told 24 = .ok (.aload_n 0, 1) := by decide +kernel
theorem dX3_told_25 : decode cX3_told 25 = .ok (.getfield 16, 3) := by decide +kernel
theorem dX3_told_28 : decode cX3_told 28 = .ok (.iload_n 3, 1) := by decide +kernel
theorem dX3_told_29 : decode cX3_told 29 = .ok (.aaload, 1) := by decide +kernel
theorem dX3_told_30 : decode cX3_told 30 = .ok (.iload_n 2, 1) := by decide +kernel
theorem dX3_told_31 : decode cX3_told 31 = .ok (.iaload, 1) := by decide +kernel
theorem dX3_told_32 : decode cX3_told 32 = .ok (.goto 5, 3) := by decide +kernel
theorem dX3_told_35 : decode cX3_told 35 = .ok (.bipush (-5), 2) := by decide +kernel
theorem dX3_told_37 : decode cX3_told 37 = .ok (.ireturn, 1) := by decide +kernel
theorem dX3_total_0 : decode cX3_total 0 = .ok (.iconst 0, 1) := by decide +kernel
theorem dX3_total_1 : decode cX3_total 1 = .ok (.istore_n 3, 1) := by decide +kernel
theorem dX3_total_2 : decode cX3_total 2 = .ok (.iconst 0, 1) := by decide +kernel
theorem dX3_total_3 : decode cX3_total 3 = .ok (.istore 4, 2) := by decide +kernel
theorem dX3_total_5 : decode cX3_total 5 = .ok (.iload 4, 2) := by decide +kernel
theorem dX3_total_7 : decode cX3_total 7 = .ok (.bipush 6, 2) := by decide +kernel
theorem dX3_total_9 : decode cX3_total 9 = .ok (.if_icmp .ge 46, 3) := by decide +kernel
theorem dX3_total_12 : decode cX3_total 12 = .ok (.iload_n 1, 1) := by decide +kernel
theorem dX3_total_13 : decode cX3_total 13 = .ok (.istore 5, 2) := by decide +kernel
theorem dX3_total_15 : decode cX3_total 15 = .ok (.iload 5, 2) := by decide +kernel
theorem dX3_total_17 : decode cX3_total 17 = .ok (.iload_n 1, 1) := by decide +kernel
theorem dX3_total_18 : decode cX3_total 18 = .ok (.iload_n 2, 1) := by decide +kernel
theorem dX3_total_19 : decode cX3_total 19 = .ok (.iadd, 1) := by decide +kernel
theorem dX3_total_20 : decode cX3_total 20 = .ok (.if_icmp .ge 29, 3) := by decide +kernel
theorem dX3_total_23 : decode cX3_total 23 = .ok (.iload 5, 2) := by decide +kernel
theorem dX3_total_25 : decode cX3_total 25 = .ok (.bipush 9, 2) := by decide +kernel
theorem dX3_total_27 : decode cX3_total 27 = .ok (.if_icmp .ge 22, 3) := by decide +kernel
theorem dX3_total_30 : decode cX3_total 30 = .ok (.iload_n 3, 1) := by decide +kernel
theorem dX3_total_31 : decode cX3_total 31 = .ok (.aload_n 0, 1) := by decide +kernel
theorem dX3_total_32 : decode cX3_total 32 = .ok (.getfield 11, 3) := by decide +kernel
theorem dX3_total_35 : decode cX3_total 35 = .ok (.iload 4, 2) := by decide +kernel
theorem dX3_total_37 : decode cX3_total 37 = .ok (.aaload, 1) := by decide +kernel
theorem dX3_total_38 : decode cX3_total 38 = .ok (.iload 5, 2) := by decide +kernel
theorem dX3_total_40 : decode cX3_total 40 = .ok (.iaload, 1) := by decide +kernel
theorem dX3_total_41 : decode cX3_total 41 = .ok (.iadd, 1) := by decide +kernel
theorem dX3_total_42 : decode cX3_total 42 = .ok (.istore_n 3, 1) := by decide +kernel
theorem dX3_total_43 : decode cX3_total 43 = .ok (.iinc 5 1, 3) := by decide +kernel
theorem dX3_total_46 : decode cX3_total 46 = .ok (.goto (-31), 3) := by decide +kernel
theorem dX3_total_49 : decode cX3_total 49 = .ok (.iinc 4 1, 3) := by decide +kernel
theorem dX3_total_52 : decode cX3_total 52 = .ok (.goto (-47), 3) := by decide +kernel
theorem dX3_total_55 : decode cX3_total 55 = .ok (.iload_n 3, 1) := by decide +kernel
theorem dX3_total_56 : decode cX3_total 56 = .ok (.ireturn, 1) := by decide +kernel
theorem dX4_init_0 : decode cX4_init 0 = .ok (.aload_n 0, 1) := by decide +kernel
theorem dX4_init_1 : decode cX4_init 1 = .ok (.invokespecial 1, 3) := by decide +kernel
theorem dX4_init_4 : decode cX4_init 4 = .ok (.aload_n 0, 1) := by decide +kernel
theorem dX4_init_5 : decode cX4_init 5 = .ok (.bipush 16, 2) := by decide +kernel
theorem dX4_init_7 : decode cX4_init 7 = .ok (.newarray .long, 2) := by decide +kernel
theorem dX4_init_9 : decode cX4_init 9 = .ok (.putfield 9, 3) := by decide +kernel
theorem dX4_init_12 : decode cX4_init 12 = .ok (.aload_n 0, 1) := by decide +kernel
theorem dX4_init_13 : decode cX4_init 13 = .ok (.iconst 0, 1) := by decide +kernel
theorem dX4_init_14 : decode cX4_init 14 = .ok (.putfield 13, 3) := by decide +kernel
theorem dX4_init_17 : decode cX4_init 17 = .ok (.return_, 1) := by decide +kernel
set_option maxRecDepth 20000 in
theorem ggX4_find_X4_addSmalls : GoodIn wsX4_find wsX4_addSmalls := goodIn_r _ [13, 2, 3, 4, 5, 6, 7, 8, 14, 15, 12, 16, 17, 18, 19, 20, 21, 22, 23, 24, 1, 25, 26, 27, 28, 29, 30, 31, 32, 37, 38] (by decide +kernel) (by decide +kernel)
set_option maxRecDepth 20000 in
theorem gX4_find_X4_addSmalls : GoodIn wsX4_find (wsV RX4 19 RX4 yX4_addSmalls wsX4_addSmalls) := goodIn_app (goodIn_of _ (by decide +kernel)) ggX4_find_X4_addSmalls
set_option maxRecDepth 20000 in
theorem ggX4_find_X4_addGreat : GoodIn wsX4_find wsX4_addGreat := goodIn_r _ [36, 30, 31, 12, 32, 17, 18, 19, 20, 14, 15, 16, 21, 22, 23, 24, 1, 25, 9, 10, 11, 13, 2, 3, 4, 5, 6, 7, 8, 26, 27, 28, 29, 37, 38] (by decide +kernel) (by decide +kernel)
set_option maxRecDepth 20000 in
theorem gX4_find_X4_addGreat : GoodIn wsX4_find (wsV RX4 32 RX4 yX4_addGreat wsX4_addGreat) := goodIn_app (goodIn_of _ (by decide +kernel)) ggX4_find_X4_addGreat
theorem dX4_find_0 : decode cX4_find 0 = .ok (.aload_n 0, 1) := by decide +kernel
theorem dX4_find_1 : decode cX4_find 1 = .ok (.iconst 0, 1) := by decide +kernel
theorem dX4_find_2 : decode cX4_find 2 = .ok (.putfield 13, 3) := by decide +kernel
theorem dX4_find_5 : decode cX4_find 5 = .ok (.aload_n 0, 1) := by decide +kernel
theorem dX4_find_6 : decode cX4_find 6 = .ok (.lconst 0, 1) := by decide +kernel
theorem dX4_find_7 : decode cX4_find 7 = .ok (.iload_n 1, 1) := by decide +kernel
theorem dX4_find_8 : decode cX4_find 8 = .ok (.invokevirtual 19, 3) := by decide +kernel
theorem dX4_find_11 : decode cX4_find 11 = .ok (.sipush 400, 3) := by decide +kernel
theorem dX4_find_14 : decode cX4_find 14 = .ok (.iload_n 1, 1) := by decide +kernel
theorem dX4_find_15 : decode cX4_find 15 = .ok (.sipush 200, 3) := by decide +kernel
theorem dX4_find_18 : decode cX4_find 18 = .ok (.isub, 1) := by decide +kernel
theorem dX4_find_19 : decode cX4_find 19 = .ok (.sipush 200, 3) := by decide +kernel
theorem dX4_find_22 : decode cX4_find 22 = .ok (.idiv, 1) := by decide +kernel
theorem dX4_find_23 : decode cX4_find 23 = .ok (.sipush 200, 3) := by decide +kernel
theorem dX4_find_26 : decode cX4_find 26 = .ok (.imul, 1) := by decide +kernel
theorem dX4_find_27 : decode cX4_find 27 = .ok (.invokestatic 23, 3) := by decide +kernel
theorem dX4_find_30 : decode cX4_find 30 = .ok (.istore_n 2, 1) := by decide +kernel
theorem dX4_find_31 : decode cX4_find 31 = .ok (.sipush 7600, 3) := by decide +kernel
theorem dX4_find_34 : decode cX4_find 34 = .ok (.iload_n 1, 1) := by decide +kernel
theorem dX4_find_35 : decode cX4_find 35 = .ok (.invokestatic 29, 3) := by decide +kernel
theorem dX4_find_38 : decode cX4_find 38 = .ok (.istore_n 3, 1) := by decide +kernel
theorem dX4_find_39 : decode cX4_find 39 = .ok (.iload_n 2, 1) := by decide +kernel
theorem dX4_find_40 : decode cX4_find 40 = .ok (.istore 4, 2) := by decide +kernel
theorem dX4_find_42 : decode cX4_find 42 = .ok (.iload 4, 2) := by decide +kernel
theorem dX4_find_44 : decode cX4_find 44 = .ok (.iload_n 3, 1) := by decide +kernel
theorem dX4_find_45 : decode cX4_find 45 = .ok (.if_icmp .gt 22, 3) := by decide +kernel
theorem dX4_find_48 : decode cX4_find 48 = .ok (.aload_n 0, 1) := by decide +kernel
theorem dX4_find_49 : decode cX4_find 49 = .ok (.iload 4, 2) := by decide +kernel
theorem dX4_find_51 : decode cX4_find 51 = .ok (.iload_n 1, 1) := by decide +kernel
theorem dX4_find_52 : decode cX4_find 52 = .ok (.iload 4, 2) := by decide +kernel
theorem dX4_find_54 : decode cX4_find 54 = .ok (.isub, 1) := by decide +kernel
theorem dX4_find_55 : decode cX4_find 55 = .ok (.invokevirtual 32, 3) := by decide +kernel
theorem dX4_find_58 : decode cX4_find 58 = .ok (.iinc 4 200, 6) := by decide +kernel
theorem dX4_find_64 : decode cX4_find 64 = .ok (.goto (-22), 3) := by decide +kernel
theorem dX4_find_67 : decode cX4_find 67 = .ok (.return_, 1) := by decide +kernel
theorem dX4_at_0 : decode cX4_at 0 = .ok (.iload_n 1, 1) := by decide +kernel
theorem dX4_at_1 : decode cX4_at 1 = .ok (.ifCond .lt 18, 3) := by decide +kernel
theorem dX4_at_4 : decode cX4_at 4 = .ok (.iload_n 1, 1) := by decide +kernel
theorem dX4_at_5 : decode cX4_at 5 = .ok (.bipush 16, 2) := by decide +kernel
theorem dX4_at_7 : decode cX4_at 7 = .ok (.if_icmp .ge 12, 3) := by decide +kernel
theorem dX4_at_10 : decode cX4_at 10 = .ok (.aload_n 0, 1) := by decide +kernel
theorem dX4_at_11 : decode cX4_at 11 = .ok (.getfield 9, 3) := by decide +kernel
theorem dX4_at_14 : decode cX4_at 14 = .ok (.iload_n 1, 1) := by decide +kernel
theorem dX4_at_15 : decode cX4_at 15 = .ok (.laload, 1) := by decide +kernel
theorem dX4_at_16 : decode cX4_at 16 = .ok (.goto 4, 3) := by decide +kernel
theorem dX4_at_19 : decode cX4_at 19 = .ok (.lconst 0, 1) := by decide +kernel
theorem dX4_at_20 : decode cX4_at 20 = .ok (.lreturn, 1) := by decide +kernel
theorem dX4_placeOf_0 : decode cX4_placeOf 0 = .ok (.iconst 0, 1) := by decide +kernel
theorem dX4_placeOf_1 : decode cX4_placeOf 1 = .ok (.istore_n 3, 1) := by decide +kernel
theorem dX4_placeOf_2 : decode cX4_placeOf 2 = .ok (.iload_n 3, 1) := by decide +kernel
theorem dX4_placeOf_3 : decode cX4_placeOf 3 = .ok (.aload_n 0, 1) := by decide +kernel
theorem dX4_placeOf_4 : decode cX4_placeOf 4 = .ok (.getfield 13, 3) := by decide +kernel
theorem dX4_placeOf_7 : decode cX4_placeOf 7 = .ok (.if_icmp .ge 28, 3) := by decide +kernel
theorem dX4_placeOf_10 : decode cX4_placeOf 10 = .ok (.iload_n 3, 1) := by decide +kernel
theorem dX4_placeOf_11 : decode cX4_placeOf 11 = .ok (.bipush 16, 2) := by decide +kernel
theorem dX4_placeOf_13 : decode cX4_placeOf 13 = .ok (.if_icmp .ge 22, 3) := by decide +kernel
theorem dX4_placeOf_16 : decode cX4_placeOf 16 = .ok (.aload_n 0, 1) := by decide +kernel
theorem dX4_placeOf_17 : decode cX4_placeOf 17 = .ok (.getfield 9, 3) := by decide +kernel
theorem dX4_placeOf_20 : decode cX4_placeOf 20 = .ok (.iload_n 3, 1) := by decide +kernel
theorem dX4_placeOf_21 : decode cX4_placeOf 21 = .ok (.laload, 1) := by decide +kernel
theorem dX4_placeOf_22 : decode cX4_placeOf 22 = .ok (.lload_n 1, 1) := by decide +kernel
theorem dX4_placeOf_23 : decode cX4_placeOf 23 = .ok (.lcmp, 1) := by decide +kernel
theorem dX4_placeOf_24 : decode cX4_placeOf 24 = .ok (.ifCond .ne 5, 3) := by decide +kernel
theorem dX4_placeOf_27 : decode cX4_placeOf 27 = .ok (.iload_n 3, 1) := by decide +kernel
theorem dX4_placeOf_28 : decode cX4_placeOf 28 = .ok (.ireturn, 1) := by decide +kernel
theorem dX4_placeOf_29 : decode cX4_placeOf 29 = .ok (.iinc 3 1, 3) := by decide +kernel
theorem dX4_placeOf_32 : decode cX4_placeOf 32 = .ok (.goto (-30), 3) := by decide +kernel
theorem dX4_placeOf_35 : decode cX4_placeOf 35 = .ok (.iconst 0, 1) := by decide +kernel
theorem dX4_placeOf_36 : decode cX4_placeOf 36 = .ok (.ireturn, 1) := by decide +kernel
set_option maxRecDepth 20000 in
theorem ggX4_placeOfStyle_X4_at : GoodIn wsX4_placeOfStyle wsX4_at := goodIn_r _ [6, 7, 18, 19] (by decide +kernel) (by decide +kernel)
set_option maxRecDepth 20000 in
theorem gX4_placeOfStyle_X4_at : GoodIn wsX4_placeOfStyle (wsV RX4 36 RX4 yX4_at wsX4_at) := goodIn_app (goodIn_of _ (by decide +kernel)) ggX4_placeOfStyle_X4_at
set_option maxRecDepth 20000 in
theorem ggX4_placeOfStyle_X4_isOfStyle : GoodIn wsX4_placeOfStyle wsX4_isOfStyle := goodIn_r _ [10, 11, 12, 13, 14, 15, 16, 17] (by decide +kernel) (by decide +kernel)
set_option maxRecDepth 20000 in
theorem gX4_placeOfStyle_X4_isOfStyle : GoodIn wsX4_placeOfStyle (va_wsS RX4 40 yX4_isOfStyle wsX4_isOfStyle) := goodIn_app (goodIn_of _ (by decide +kernel)) ggX4_placeOfStyle_X4_isOfStyle
theorem dX4_placeOfStyle_0 : decode cX4_placeOfStyle 0 = .ok (.iconst 0, 1) := by decide +kernel
theorem dX4_placeOfStyle_1 : decode cX4_placeOfStyle 1 = .ok (.istore_n 2, 1) := by decide +kernel
theorem dX4_placeOfStyle_2 : decode cX4_placeOfStyle 2 = .ok (.iload_n 2, 1) := by decide +kernel
theorem dX4_placeOfStyle_3 : decode cX4_placeOfStyle 3 = .ok (.aload_n 0, 1) := by decide +kernel
theorem dX4_placeOfStyle_4 : decode cX4_placeOfStyle 4 = .ok (.getfield 13, 3) := by decide +kernel
theorem dX4_placeOfStyle_7 : decode cX4_placeOfStyle 7 = .ok (.if_icmp .ge 23, 3) := by decide +kernel
theorem dX4_placeOfStyle_10 : decode cX4_placeOfStyle 10 = .ok (.aload_n 0, 1) := by decide +kernel
theorem dX4_placeOfStyle_11 : decode cX4_placeOfStyle 11 = .ok (.iload_n 2, 1) := by decide +kernel
theorem dX4_placeOfStyle_12 : decode cX4_placeOfStyle 12 = .ok (.invokevirtual 36, 3) := by decide +kernel
theorem dX4_placeOfStyle_15 : decode cX4_placeOfStyle 15 = .ok (.iload_n 1, 1) := by decide +kernel
theorem dX4_placeOfStyle_16 : decode cX4_placeOfStyle 16 = .ok (.invokestatic 40, 3) := by decide +kernel
theorem dX4_placeOfStyle_19 : decode cX4_placeOfStyle 19 = .ok (.ifCond .eq 5, 3) := by decide +kernel
theorem dX4_placeOfStyle_22 : decode cX4_placeOfStyle 22 = .ok (.iload_n 2, 1) := by decide +kernel
theorem dX4_placeOfStyle_23 : decode cX4_placeOfStyle 23 = .ok (.ireturn, 1) := by decide +kernel
theorem dX4_placeOfStyle_24 : decode cX4_placeOfStyle 24 = .ok (.iinc 2 1, 3) := by decide +kernel
theorem dX4_placeOfStyle_27 : decode cX4_placeOfStyle 27 = .ok (.goto (-25), 3) := by decide +kernel
theorem dX4_placeOfStyle_30 : decode cX4_placeOfStyle 30 = .ok (.iconst 0, 1) := by decide +kernel
theorem dX4_placeOfStyle_31 : decode cX4_placeOfStyle 31 = .ok (.ireturn, 1) := by decide +kernel
set_option maxRecDepth 20000 in
theorem ggX4_isOfStyle_X2_has : GoodIn wsX4_isOfStyle wsX2_has := goodIn_r _ [4, 5, 6, 3, 7] (by decide +kernel) (by decide +kernel)
set_option maxRecDepth 20000 in
theorem gX4_isOfStyle_X2_has : GoodIn wsX4_isOfStyle (va_wsS RX4 44 yX2_has wsX2_has) := goodIn_app (goodIn_of _ (by decide +kernel)) ggX4_isOfStyle_X2_has
theorem dX4_isOfStyle_0 : decode cX4_isOfStyle 0 = .ok (.iload_n 2, 1) := by decide +kernel
theorem dX4_isOfStyle_1 : decode cX4_isOfStyle 1 = .ok (.tableswitch 65 1 3 #[27, 34, 41], 27) := by decide +kernel
theorem dX4_isOfStyle_28 : decode cX4_isOfStyle 28 = .ok (.lload_n 0, 1) := by decide +kernel
theorem dX4_isOfStyle_29 : decode cX4_isOfStyle 29 = .ok (.bipush 72, 2) := by decide +kernel
theorem dX4_isOfStyle_31 : decode cX4_isOfStyle 31 = .ok (.invokestatic 44, 3) := by decide +kernel
theorem dX4_isOfStyle_34 : decode cX4_isOfStyle 34 = .ok (.ireturn, 1) := by decide +kernel
theorem dX4_isOfStyle_35 : decode cX4_isOfStyle 35 = .ok (.lload_n 0, 1) := by decide +kernel
theorem dX4_isOfStyle_36 : decode cX4_isOfStyle 36 = .ok (.bipush 45, 2) := by decide +kernel
theorem dX4_isOfStyle_38 : decode cX4_isOfStyle 38 = .ok (.invokestatic 44, 3) := by decide +kernel
theorem dX4_isOfStyle_41 : decode cX4_isOfStyle 41 = .ok (.ireturn, 1) := by decide +kernel
theorem dX4_isOfStyle_42 : decode cX4_isOfStyle 42 = .ok (.lload_n 0, 1) := by decide +kernel
theorem dX4_isOfStyle_43 : decode cX4_isOfStyle 43 = .ok (.bipush 72, 2) := by decide +kernel
theorem dX4_isOfStyle_45 : decode cX4_isOfStyle 45 = .ok (.invokestatic 44, 3) := by decide +kernel
theorem dX4_isOfStyle_48 : decode cX4_isOfStyle 48 = .ok (.ifCond .ne 16, 3) := by decide +kernel
theorem dX4_isOfStyle_51 : decode cX4_isOfStyle 51 = .ok (.lload_n 0, 1) := by decide +kernel
theorem dX4_isOfStyle_52 : decode cX4_isOfStyle 52 = .ok (.bipush 45, 2) := by decide +kernel
theorem dX4_isOfStyle_54 : decode cX4_isOfStyle 54 = .ok (.invokestatic 44, 3) := by decide +kernel
theorem dX4_isOfStyle_57 : decode cX4_isOfStyle 57 = .ok (.ifCond .ne 7, 3) := by decide +kernel
theorem dX4_isOfStyle_60 : decode cX4_isOfStyle 60 = .ok (.iconst 1, 1) := by decide +kernel
theorem dX4_isOfStyle_61 : decode cX4_isOfStyle 61 = .ok (.goto 4, 3) := by decide +kernel
theorem dX4_isOfStyle_64 : decode cX4_isOfStyle 64 = .ok (.iconst 0, 1) := by decide +kernel
theorem dX4_isOfStyle_65 : decode cX4_isOfStyle 65 = .ok (.ireturn, 1) := by decide +kernel
theorem dX4_isOfStyle_66 : decode cX4_isOfStyle 66 = .ok (.iconst 1, 1) := by decide +kernel
theorem dX4_isOfStyle_67 : decode cX4_isOfStyle 67 = .ok (.ireturn, 1) := by decide +kernel
set_option maxRecDepth 20000 in
theorem ggX4_addGreat_X4_counted : GoodIn wsX4_addGreat wsX4_counted := goodIn_r _ [4, 5, 6, 7, 8, 9, 10, 3, 11] (by decide +kernel) (by decide +kernel)
set_option maxRecDepth 20000 in
theorem gX4_addGreat_X4_counted : GoodIn wsX4_addGreat (va_wsS RX4 48 yX4_counted wsX4_counted) := goodIn_app (goodIn_of _ (by decide +kernel)) ggX4_addGreat_X4_counted
set_option maxRecDepth 20000 in
theorem ggX4_addGreat_X4_add : GoodIn wsX4_addGreat wsX4_add := goodIn_r _ [15, 16, 17, 33, 34] (by decide +kernel) (by decide +kernel)
set_option maxRecDepth 20000 in
theorem gX4_addGreat_X4_add : GoodIn wsX4_addGreat (wsV RX4 52 RX4 yX4_add wsX4_add) := goodIn_app (goodIn_of _ (by decide +kernel)) ggX4_addGreat_X4_add
set_option maxRecDepth 20000 in
theorem ggX4_addGreat_X2_then : GoodIn wsX4_addGreat wsX2_then := goodIn_r _ [8] (by decide +kernel) (by decide +kernel)
set_option maxRecDepth 20000 in
theorem gX4_addGreat_X2_then : GoodIn wsX4_addGreat (va_wsS RX4 56 yX2_then wsX2_then) := goodIn_app (goodIn_of _ (by decide +kernel)) ggX4_addGreat_X2_then
set_option maxRecDepth 20000 in
theorem ggX4_addGreat_X4_addSmalls : GoodIn wsX4_addGreat wsX4_addSmalls := goodIn_r _ [21, 22, 23, 24, 25, 26, 27, 28, 9, 10, 3, 11, 5, 6, 7, 8, 12, 13, 14, 15, 16, 17, 29, 30, 31, 32, 1, 2, 4, 33, 34] (by decide +kernel) (by decide +kernel)
set_option maxRecDepth 20000 in
theorem gX4_addGreat_X4_addSmalls : GoodIn wsX4_addGreat (wsV RX4 19 RX4 yX4_addSmalls wsX4_addSmalls) := goodIn_app (goodIn_of _ (by decide +kernel)) ggX4_addGreat_X4_addSmalls
theorem dX4_addGreat_0 : decode cX4_addGreat 0 = .ok (.lconst 0, 1) := by decide +kernel
theorem dX4_addGreat_1 : decode cX4_addGreat 1 = .ok (.iload_n 1, 1) := by decide +kernel
theorem dX4_addGreat_2 : decode cX4_addGreat 2 = .ok (.sipush 200, 3) := by decide +kernel
theorem dX4_addGreat_5 : decode cX4_addGreat 5 = .ok (.idiv, 1) := by decide +kernel
theorem dX4_addGreat_6 : decode cX4_addGreat 6 = .ok (.bipush 71, 2) := by decide +kernel
theorem dX4_addGreat_8 : decode cX4_addGreat 8 = .ok (.invokestatic 48, 3) := by decide +kernel
theorem dX4_addGreat_11 : decode cX4_addGreat 11 = .ok (.lstore_n 3, 1) := by decide +kernel
theorem dX4_addGreat_12 : decode cX4_addGreat 12 = .ok (.iload_n 2, 1) := by decide +kernel
theorem dX4_addGreat_13 : decode cX4_addGreat 13 = .ok (.ifCond .ne 11, 3) := by decide +kernel
theorem dX4_addGreat_16 : decode cX4_addGreat 16 = .ok (.aload_n 0, 1) := by decide +kernel
theorem dX4_addGreat_17 : decode cX4_addGreat 17 = .ok (.lload_n 3, 1) := by decide +kernel
theorem dX4_addGreat_18 : decode cX4_addGreat 18 = .ok (.invokevirtual 52, 3) := by decide +kernel
theorem dX4_addGreat_21 : decode cX4_addGreat 21 = .ok (.goto 14, 3) := by decide +kernel
theorem dX4_addGreat_24 : decode cX4_addGreat 24 = .ok (.aload_n 0, 1) := by decide +kernel
theorem dX4_addGreat_25 : decode cX4_addGreat 25 = .ok (.lload_n 3, 1) := by decide +kernel
theorem dX4_addGreat_26 : decode cX4_addGreat 26 = .ok (.bipush 38, 2) := by decide +kernel
theorem dX4_addGreat_28 : decode cX4_addGreat 28 = .ok (.invokestatic 56, 3) := by decide +kernel
theorem dX4_addGreat_31 : decode cX4_addGreat 31 = .ok (.iload_n 2, 1) := by decide +kernel
theorem dX4_addGreat_32 : decode cX4_addGreat 32 = .ok (.invokevirtual 19, 3) := by decide +kernel
theorem dX4_addGreat_35 : decode cX4_addGreat 35 = .ok (.return_, 1) := by decide +kernel
set_option maxRecDepth 20000 in
theorem ggX4_addSmalls_X4_unit : GoodIn wsX4_addSmalls wsX4_unit := goodIn_r _ [11] (by decide +kernel) (by decide +kernel)
set_option maxRecDepth 20000 in
theorem gX4_addSmalls_X4_unit : GoodIn wsX4_addSmalls (va_wsS RX4 60 yX4_unit wsX4_unit) := goodIn_app (goodIn_of _ (by decide +kernel)) ggX4_addSmalls_X4_unit
set_option maxRecDepth 20000 in
theorem ggX4_addSmalls_X2_then : GoodIn wsX4_addSmalls wsX2_then := goodIn_r _ [15] (by decide +kernel) (by decide +kernel)
set_option maxRecDepth 20000 in
theorem gX4_addSmalls_X2_then : GoodIn wsX4_addSmalls (va_wsS RX4 56 yX2_then wsX2_then) := goodIn_app (goodIn_of _ (by decide +kernel)) ggX4_addSmalls_X2_then
set_option maxRecDepth 20000 in
theorem ggX4_addSmalls_X4_add : GoodIn wsX4_addSmalls wsX4_add := goodIn_r _ [19, 20, 21, 29, 30] (by decide +kernel) (by decide +kernel)
set_option maxRecDepth 20000 in
theorem gX4_addSmalls_X4_add : GoodIn wsX4_addSmalls (wsV RX4 52 RX4 yX4_add wsX4_add) := goodIn_app (goodIn_of _ (by decide +kernel)) ggX4_addSmalls_X4_add
set_option maxRecDepth 20000 in
theorem ggX4_addSmalls_X4_addWithBase : GoodIn wsX4_addSmalls wsX4_addWithBase := goodIn_r _ [25, 26, 27, 10, 28, 12, 13, 14, 15, 8, 9, 11, 16, 17, 18, 19, 20, 21, 29, 30] (by decide +kernel) (by decide +kernel)
set_option maxRecDepth 20000 in
theorem gX4_addSmalls_X4_addWithBase : GoodIn wsX4_addSmalls (wsV RX4 64 RX4 yX4_addWithBase wsX4_addWithBase) := goodIn_app (goodIn_of _ (by decide +kernel)) ggX4_addSmalls_X4_addWithBase
theorem dX4_addSmalls_0 : decode cX4_addSmalls 0 = .ok (.iload_n 3, 1) := by decide +kernel
theorem dX4_addSmalls_1 : decode cX4_addSmalls 1 = .ok (.iconst 1, 1) := by decide +kernel
theorem dX4_addSmalls_2 : decode cX4_addSmalls 2 = .ok (.if_icmp .lt 10, 3) := by decide +kernel
theorem dX4_addSmalls_5 : decode cX4_addSmalls 5 = .ok (.iload_n 3, 1) := by decide +kernel
theorem dX4_addSmalls_6 : decode cX4_addSmalls 6 = .ok (.sipush 399, 3) := by decide +kernel
theorem dX4_addSmalls_9 : decode cX4_addSmalls 9 = .ok (.if_icmp .le 4, 3) := by decide +kernel
theorem dX4_addSmalls_12 : decode cX4_addSmalls 12 = .ok (.return_, 1) := by decide +kernel
theorem dX4_addSmalls_13 : decode cX4_addSmalls 13 = .ok (.iload_n 3, 1) := by decide +kernel
theorem dX4_addSmalls_14 : decode cX4_addSmalls 14 = .ok (.bipush 19, 2) := by decide +kernel
theorem dX4_addSmalls_16 : decode cX4_addSmalls 16 = .ok (.if_icmp .gt 15, 3) := by decide +kernel
theorem dX4_addSmalls_19 : decode cX4_addSmalls 19 = .ok (.aload_n 0, 1) := by decide +kernel
theorem dX4_addSmalls_20 : decode cX4_addSmalls 20 = .ok (.lload_n 1, 1) := by decide +kernel
theorem dX4_addSmalls_21 : decode cX4_addSmalls 21 = .ok (.iload_n 3, 1) := by decide +kernel
theorem dX4_addSmalls_22 : decode cX4_addSmalls 22 = .ok (.invokestatic 60, 3) := by decide +kernel
theorem dX4_addSmalls_25 : decode cX4_addSmalls 25 = .ok (.invokestatic 56, 3) := by decide +kernel
theorem dX4_addSmalls_28 : decode cX4_addSmalls 28 = .ok (.invokevirtual 52, 3) := by decide +kernel
theorem dX4_addSmalls_31 : decode cX4_addSmalls 31 = .ok (.bipush 20, 2) := by decide +kernel
theorem dX4_addSmalls_33 : decode cX4_addSmalls 33 = .ok (.iload_n 3, 1) := by decide +kernel
theorem dX4_addSmalls_34 : decode cX4_addSmalls 34 = .ok (.bipush 10, 2) := by decide +kernel
theorem dX4_addSmalls_36 : decode cX4_addSmalls 36 = .ok (.isub, 1) := by decide +kernel
theorem dX4_addSmalls_37 : decode cX4_addSmalls 37 = .ok (.bipush 10, 2) := by decide +kernel
theorem dX4_addSmalls_39 : decode cX4_addSmalls 39 = .ok (.idiv, 1) := by decide +kernel
theorem dX4_addSmalls_40 : decode cX4_addSmalls 40 = .ok (.bipush 10, 2) := by decide +kernel
theorem dX4_addSmalls_42 : decode cX4_addSmalls 42 = .ok (.imul, 1) := by decide +kernel
theorem dX4_addSmalls_43 : decode cX4_addSmalls 43 = .ok (.invokestatic 23, 3) := by decide +kernel
theorem dX4_addSmalls_46 : decode cX4_addSmalls 46 = .ok (.istore 4, 2) := by decide +kernel
theorem dX4_addSmalls_48 : decode cX4_addSmalls 48 = .ok (.sipush 380, 3) := by decide +kernel
theorem dX4_addSmalls_51 : decode cX4_addSmalls 51 = .ok (.iload_n 3, 1) := by decide +kernel
theorem dX4_addSmalls_52 : decode cX4_addSmalls 52 = .ok (.bipush 19, 2) := by decide +kernel
theorem dX4_addSmalls_54 : decode cX4_addSmalls 54 = .ok (.iadd, 1) := by decide +kernel
theorem dX4_addSmalls_55 : decode cX4_addSmalls 55 = .ok (.invokestatic 29, 3) := by decide +kernel
theorem dX4_addSmalls_58 : decode cX4_addSmalls 58 = .ok (.istore 5, 2) := by decide +kernel
theorem dX4_addSmalls_60 : decode cX4_addSmalls 60 = .ok (.iload 4, 2) := by decide +kernel
theorem dX4_addSmalls_62 : decode cX4_addSmalls 62 = .ok (.istore 6, 2) := by decide +kernel
theorem dX4_addSmalls_64 : decode cX4_addSmalls 64 = .ok (.iload 6, 2) := by decide +kernel
theorem dX4_addSmalls_66 : decode cX4_addSmalls 66 = .ok (.iload 5, 2) := by decide +kernel
theorem dX4_addSmalls_68 : decode cX4_addSmalls 68 = .ok (.if_icmp .gt 20, 3) := by decide +kernel
theorem dX4_addSmalls_71 : decode cX4_addSmalls 71 = .ok (.aload_n 0, 1) := by decide +kernel
theorem dX4_addSmalls_72 : decode cX4_addSmalls 72 = .ok (.lload_n 1, 1) := by decide +kernel
theorem dX4_addSmalls_73 : decode cX4_addSmalls 73 = .ok (.iload 6, 2) := by decide +kernel
theorem dX4_addSmalls_75 : decode cX4_addSmalls 75 = .ok (.iload_n 3, 1) := by decide +kernel
theorem dX4_addSmalls_76 : decode cX4_addSmalls 76 = .ok (.iload 6, 2) := by decide +kernel
theorem dX4_addSmalls_78 : decode cX4_addSmalls 78 = .ok (.isub, 1) := by decide +kernel
theorem dX4_addSmalls_79 : decode cX4_addSmalls 79 = .ok (.invokevirtual 64, 3) := by decide +kernel
theorem dX4_addSmalls_82 : decode cX4_addSmalls 82 = .ok (.iinc 6 10, 3) := by decide +kernel
theorem dX4_addSmalls_85 : decode cX4_addSmalls 85 = .ok (.goto (-21), 3) := by decide +kernel
theorem dX4_addSmalls_88 : decode cX4_addSmalls 88 = .ok (.return_, 1) := by decide +kernel
set_option maxRecDepth 20000 in
theorem ggX4_addWithBase_X4_counted : GoodIn wsX4_addWithBase wsX4_counted := goodIn_r _ [4, 5, 6, 7, 8, 9, 10, 3, 11] (by decide +kernel) (by decide +kernel)
set_option maxRecDepth 20000 in
theorem gX4_addWithBase_X4_counted : GoodIn wsX4_addWithBase (va_wsS RX4 48 yX4_counted wsX4_counted) := goodIn_app (goodIn_of _ (by decide +kernel)) ggX4_addWithBase_X4_counted
set_option maxRecDepth 20000 in
theorem ggX4_addWithBase_X4_add : GoodIn wsX4_addWithBase wsX4_add := goodIn_r _ [15, 16, 17, 18, 19] (by decide +kernel) (by decide +kernel)
set_option maxRecDepth 20000 in
theorem gX4_addWithBase_X4_add : GoodIn wsX4_addWithBase (wsV RX4 52 RX4 yX4_add wsX4_add) := goodIn_app (goodIn_of _ (by decide +kernel)) ggX4_addWithBase_X4_add
set_option maxRecDepth 20000 in
theorem ggX4_addWithBase_X2_then : GoodIn wsX4_addWithBase wsX2_then := goodIn_r _ [8] (by decide +kernel) (by decide +kernel)
set_option maxRecDepth 20000 in
theorem gX4_addWithBase_X2_then : GoodIn wsX4_addWithBase (va_wsS RX4 56 yX2_then wsX2_then) := goodIn_app (goodIn_of _ (by decide +kernel)) ggX4_addWithBase_X2_then
set_option maxRecDepth 20000 in
theorem ggX4_addWithBase_X4_unit : GoodIn wsX4_addWithBase wsX4_unit := goodIn_r _ [11] (by decide +kernel) (by decide +kernel)
set_option maxRecDepth 20000 in
theorem gX4_addWithBase_X4_unit : GoodIn wsX4_addWithBase (va_wsS RX4 60 yX4_unit wsX4_unit) := goodIn_app (goodIn_of _ (by decide +kernel)) ggX4_addWithBase_X4_unit
theorem dX4_addWithBase_0 : decode cX4_addWithBase 0 = .ok (.iload_n 3, 1) := by decide +kernel
theorem dX4_addWithBase_1 : decode cX4_addWithBase 1 = .ok (.bipush 10, 2) := by decide +kernel
theorem dX4_addWithBase_3 : decode cX4_addWithBase 3 = .ok (.idiv, 1) := by decide +kernel
theorem dX4_addWithBase_4 : decode cX4_addWithBase 4 = .ok (.istore 5, 2) := by decide +kernel
theorem dX4_addWithBase_6 : decode cX4_addWithBase 6 = .ok (.iload 4, 2) := by decide +kernel
theorem dX4_addWithBase_8 : decode cX4_addWithBase 8 = .ok (.ifCond .ne 18, 3) := by decide +kernel
theorem dX4_addWithBase_11 : decode cX4_addWithBase 11 = .ok (.aload_n 0, 1) := by decide +kernel
theorem dX4_addWithBase_12 : decode cX4_addWithBase 12 = .ok (.lload_n 1, 1) := by decide +kernel
theorem dX4_addWithBase_13 : decode cX4_addWithBase 13 = .ok (.iload 5, 2) := by decide +kernel
theorem dX4_addWithBase_15 : decode cX4_addWithBase 15 = .ok (.bipush 83, 2) := by decide +kernel
theorem dX4_addWithBase_17 : decode cX4_addWithBase 17 = .ok (.invokestatic 48, 3) := by decide +kernel
theorem dX4_addWithBase_20 : decode cX4_addWithBase 20 = .ok (.invokevirtual 52, 3) := by decide +kernel
theorem dX4_addWithBase_23 : decode cX4_addWithBase 23 = .ok (.goto 91, 3) := by decide +kernel
theorem dX4_addWithBase_26 : decode cX4_addWithBase 26 = .ok (.iload 4, 2) := by decide +kernel
theorem dX4_addWithBase_28 : decode cX4_addWithBase 28 = .ok (.iconst 1, 1) := by decide +kernel
theorem dX4_addWithBase_29 : decode cX4_addWithBase 29 = .ok (.if_icmp .lt 42, 3) := by decide +kernel
theorem dX4_addWithBase_32 : decode cX4_addWithBase 32 = .ok (.iload 4, 2) := by decide +kernel
theorem dX4_addWithBase_34 : decode cX4_addWithBase 34 = .ok (.bipush 19, 2) := by decide +kernel
theorem dX4_addWithBase_36 : decode cX4_addWithBase 36 = .ok (.if_icmp .gt 35, 3) := by decide +kernel
theorem dX4_addWithBase_39 : decode cX4_addWithBase 39 = .ok (.lload_n 1, 1) := by decide +kernel
theorem dX4_addWithBase_40 : decode cX4_addWithBase 40 = .ok (.iload 5, 2) := by decide +kernel
theorem dX4_addWithBase_42 : decode cX4_addWithBase 42 = .ok (.bipush 83, 2) := by decide +kernel
theorem dX4_addWithBase_44 : decode cX4_addWithBase 44 = .ok (.invokestatic 48, 3) := by decide +kernel
theorem dX4_addWithBase_47 : decode cX4_addWithBase 47 = .ok (.bipush 43, 2) := by decide +kernel
theorem dX4_addWithBase_49 : decode cX4_addWithBase 49 = .ok (.invokestatic 56, 3) := by decide +kernel
theorem dX4_addWithBase_52 : decode cX4_addWithBase 52 = .ok (.lstore 6, 2) := by decide +kernel
theorem dX4_addWithBase_54 : decode cX4_addWithBase 54 = .ok (.aload_n 0, 1) := by decide +kernel
theorem dX4_addWithBase_55 : decode cX4_addWithBase 55 = .ok (.lload 6, 2) := by decide +kernel
theorem dX4_addWithBase_57 : decode cX4_addWithBase 57 = .ok (.iload 4, 2) := by decide +kernel
theorem dX4_addWithBase_59 : decode cX4_addWithBase 59 = .ok (.invokestatic 60, 3) := by decide +kernel
theorem dX4_addWithBase_62 : decode cX4_addWithBase 62 = .ok (.invokestatic 56, 3) := by decide +kernel
theorem dX4_addWithBase_65 : decode cX4_addWithBase 65 = .ok (.invokevirtual 52, 3) := by decide +kernel
theorem dX4_addWithBase_68 : decode cX4_addWithBase 68 = .ok (.goto 46, 3) := by decide +kernel
theorem dX4_addWithBase_71 : decode cX4_addWithBase 71 = .ok (.iload 4, 2) := by decide +kernel
theorem dX4_addWithBase_73 : decode cX4_addWithBase 73 = .ok (.bipush (-19), 2) := by decide +kernel
theorem dX4_addWithBase_75 : decode cX4_addWithBase 75 = .ok (.if_icmp .lt 39, 3) := by decide +kernel
theorem dX4_addWithBase_78 : decode cX4_addWithBase 78 = .ok (.iload 4, 2) := by decide +kernel
theorem dX4_addWithBase_80 : decode cX4_addWithBase 80 = .ok (.iconst (-1), 1) := by decide +kernel
theorem dX4_addWithBase_81 : decode cX4_addWithBase 81 = .ok (.if_icmp .gt 33, 3) := by decide +kernel
theorem dX4_addWithBase_84 : decode cX4_addWithBase 84 = .ok (.lload_n 1, 1) := by decide +kernel
theorem dX4_addWithBase_85 : decode cX4_addWithBase 85 = .ok (.iload 4, 2) := by decide +kernel
theorem dX4_addWithBase_87 : decode cX4_addWithBase 87 = .ok (.ineg, 1) := by decide +kernel
theorem dX4_addWithBase_88 : decode cX4_addWithBase 88 = .ok (.invokestatic 60, 3) := by decide +kernel
theorem dX4_addWithBase_91 : decode cX4_addWithBase 91 = .ok (.invokestatic 56, 3) := by decide +kernel
theorem dX4_addWithBase_94 : decode cX4_addWithBase 94 = .ok (.bipush 45, 2) := by decide +kernel
theorem dX4_addWithBase_96 : decode cX4_addWithBase 96 = .ok (.invokestatic 56, 3) := by decide +kernel
theorem dX4_addWithBase_99 : decode cX4_addWithBase 99 = .ok (.lstore 6, 2) := by decide +kernel
theorem dX4_addWithBase_101 : decode cX4_addWithBase 101 = .ok (.aload_n 0, 1) := by decide +kernel
theorem dX4_addWithBase_102 : decode cX4_addWithBase 102 = .ok (.lload 6, 2) := by decide +kernel
theorem dX4_addWithBase_104 : decode cX4_addWithBase 104 = .ok (.iload 5, 2) := by decide +kernel
theorem dX4_addWithBase_106 : decode cX4_addWithBase 106 = .ok (.bipush 83, 2) := by decide +kernel
theorem dX4_addWithBase_108 : decode cX4_addWithBase 108 = .ok (.invokestatic 48, 3) := by decide +kernel
theorem dX4_addWithBase_111 : decode cX4_addWithBase 111 = .ok (.invokevirtual 52, 3) := by decide +kernel
theorem dX4_addWithBase_114 : decode cX4_addWithBase 114 = .ok (.return_, 1) := by decide +kernel
set_option maxRecDepth 20000 in
theorem ggX4_counted_X2_then : GoodIn wsX4_counted wsX2_then := goodIn_r _ [4] (by decide +kernel) (by decide +kernel)
set_option maxRecDepth 20000 in
theorem gX4_counted_X2_then : GoodIn wsX4_counted (va_wsS RX4 56 yX2_then wsX2_then) := goodIn_app (goodIn_of _ (by decide +kernel)) ggX4_counted_X2_then
set_option maxRecDepth 20000 in
theorem ggX4_counted_X4_unit : GoodIn wsX4_counted wsX4_unit := goodIn_r _ [8] (by decide +kernel) (by decide +kernel)
set_option maxRecDepth 20000 in
theorem gX4_counted_X4_unit : GoodIn wsX4_counted (va_wsS RX4 60 yX4_unit wsX4_unit) := goodIn_app (goodIn_of _ (by decide +kernel)) ggX4_counted_X4_unit
theorem dX4_counted_0 : decode cX4_counted 0 = .ok (.lload_n 0, 1) := by decide +kernel
theorem dX4_counted_1 : decode cX4_counted 1 = .ok (.lstore 4, 2) := by decide +kernel
theorem dX4_counted_3 : decode cX4_counted 3 = .ok (.iload_n 2, 1) := by decide +kernel
theorem dX4_counted_4 : decode cX4_counted 4 = .ok (.iconst 2, 1) := by decide +kernel
theorem dX4_counted_5 : decode cX4_counted 5 = .ok (.irem, 1) := by decide +kernel
theorem dX4_counted_6 : decode cX4_counted 6 = .ok (.iconst 1, 1) := by decide +kernel
theorem dX4_counted_7 : decode cX4_counted 7 = .ok (.if_icmp .ne 12, 3) := by decide +kernel
theorem dX4_counted_10 : decode cX4_counted 10 = .ok (.lload 4, 2) := by decide +kernel
theorem dX4_counted_12 : decode cX4_counted 12 = .ok (.bipush 72, 2) := by decide +kernel
theorem dX4_counted_14 : decode cX4_counted 14 = .ok (.invokestatic 56, 3) := by decide +kernel
theorem dX4_counted_17 : decode cX4_counted 17 = .ok (.lstore 4, 2) := by decide +kernel
theorem dX4_counted_19 : decode cX4_counted 19 = .ok (.iload_n 2, 1) := by decide +kernel
theorem dX4_counted_20 : decode cX4_counted 20 = .ok (.iconst 2, 1) := by decide +kernel
theorem dX4_counted_21 : decode cX4_counted 21 = .ok (.if_icmp .le 18, 3) := by decide +kernel
theorem dX4_counted_24 : decode cX4_counted 24 = .ok (.lload 4, 2) := by decide +kernel
theorem dX4_counted_26 : decode cX4_counted 26 = .ok (.iload_n 2, 1) := by decide +kernel
theorem dX4_counted_27 : decode cX4_counted 27 = .ok (.iconst 1, 1) := by decide +kernel
theorem dX4_counted_28 : decode cX4_counted 28 = .ok (.iadd, 1) := by decide +kernel
theorem dX4_counted_29 : decode cX4_counted 29 = .ok (.iconst 2, 1) := by decide +kernel
theorem dX4_counted_30 : decode cX4_counted 30 = .ok (.idiv, 1) := by decide +kernel
theorem dX4_counted_31 : decode cX4_counted 31 = .ok (.invokestatic 60, 3) := by decide +kernel
theorem dX4_counted_34 : decode cX4_counted 34 = .ok (.invokestatic 56, 3) := by decide +kernel
theorem dX4_counted_37 : decode cX4_counted 37 = .ok (.lstore 4, 2) := by decide +kernel
theorem dX4_counted_39 : decode cX4_counted 39 = .ok (.lload 4, 2) := by decide +kernel
theorem dX4_counted_41 : decode cX4_counted 41 = .ok (.iload_n 3, 1) := by decide +kernel
theorem dX4_counted_42 : decode cX4_counted 42 = .ok (.invokestatic 56, 3) := by decide +kernel
theorem dX4_counted_45 : decode cX4_counted 45 = .ok (.lreturn, 1) := by decide +kernel
theorem dX4_unit_0 : decode cX4_unit 0 = .ok (.bipush 97, 2) := by decide +kernel
theorem dX4_unit_2 : decode cX4_unit 2 = .ok (.iload_n 0, 1) := by decide +kernel
theorem dX4_unit_3 : decode cX4_unit 3 = .ok (.iadd, 1) := by decide +kernel
theorem dX4_unit_4 : decode cX4_unit 4 = .ok (.iconst 1, 1) := by decide +kernel
theorem dX4_unit_5 : decode cX4_unit 5 = .ok (.isub, 1) := by decide +kernel
theorem dX4_unit_6 : decode cX4_unit 6 = .ok (.ireturn, 1) := by decide +kernel
theorem dX4_add_0 : decode cX4_add 0 = .ok (.aload_n 0, 1) := by decide +kernel
theorem dX4_add_1 : decode cX4_add 1 = .ok (.getfield 13, 3) := by decide +kernel
theorem dX4_add_4 : decode cX4_add 4 = .ok (.ifCond .lt 12, 3) := by decide +kernel
theorem dX4_add_7 : decode cX4_add 7 = .ok (.aload_n 0, 1) := by decide +kernel
theorem dX4_add_8 : decode cX4_add 8 = .ok (.getfield 13, 3) := by decide +kernel
theorem dX4_add_11 : decode cX4_add 11 = .ok (.bipush 16, 2) := by decide +kernel
theorem dX4_add_13 : decode cX4_add 13 = .ok (.if_icmp .lt 4, 3) := by decide +kernel
theorem dX4_add_16 : decode cX4_add 16 = .ok (.return_, 1) := by decide +kernel
theorem dX4_add_17 : decode cX4_add 17 = .ok (.aload_n 0, 1) := by decide +kernel
theorem dX4_add_18 : decode cX4_add 18 = .ok (.getfield 13, 3) := by decide +kernel
theorem dX4_add_21 : decode cX4_add 21 = .ok (.istore_n 3, 1) := by decide +kernel
theorem dX4_add_22 : decode cX4_add 22 = .ok (.iload_n 3, 1) := by decide +kernel
theorem dX4_add_23 : decode cX4_add 23 = .ok (.ifCond .le 36, 3) := by decide +kernel
theorem dX4_add_26 : decode cX4_add 26 = .ok (.aload_n 0, 1) := by decide +kernel
theorem dX4_add_27 : decode cX4_add 27 = .ok (.getfield 9, 3) := by decide +kernel
theorem dX4_add_30 : decode cX4_add 30 = .ok (.iload_n 3, 1) := by decide +kernel
theorem dX4_add_31 : decode cX4_add 31 = .ok (.iconst 1, 1) := by decide +kernel
theorem dX4_add_32 : decode cX4_add 32 = .ok (.isub, 1) := by decide +kernel
theorem dX4_add_33 : decode cX4_add 33 = .ok (.laload, 1) := by decide +kernel
theorem dX4_add_34 : decode cX4_add 34 = .ok (.lload_n 1, 1) := by decide +kernel
theorem dX4_add_35 : decode cX4_add 35 = .ok (.lcmp, 1) := by decide +kernel
theorem dX4_add_36 : decode cX4_add 36 = .ok (.ifCond .le 23, 3) := by decide +kernel
theorem dX4_add_39 : decode cX4_add 39 = .ok (.aload_n 0, 1) := by decide +kernel
theorem dX4_add_40 : decode cX4_add 40 = .ok (.getfield 9, 3) := by decide +kernel
theorem dX4_add_43 : decode cX4_add 43 = .ok (.iload_n 3, 1) := by decide +kernel
theorem dX4_add_44 : decode cX4_add 44 = .ok (.aload_n 0, 1) := by decide +kernel
theorem dX4_add_45 : decode cX4_add 45 = .ok (.getfield 9, 3) := by decide +kernel
theorem dX4_add_48 : decode cX4_add 48 = .ok (.iload_n 3, 1) := by decide +kernel
theorem dX4_add_49 : decode cX4_add 49 = .ok (.iconst 1, 1) := by decide +kernel
theorem dX4_add_50 : decode cX4_add 50 = .ok (.isub, 1) := by decide +kernel
theorem dX4_add_51 : decode cX4_add 51 = .ok (.laload, 1) := by decide +kernel
theorem dX4_add_52 : decode cX4_add 52 = .ok (.lastore, 1) := by decide +kernel
theorem dX4_add_53 : decode cX4_add 53 = .ok (.iinc 3 (-1), 3) := by decide +kernel
theorem dX4_add_56 : decode cX4_add 56 = .ok (.goto (-34), 3) := by decide +kernel
theorem dX4_add_59 : decode cX4_add 59 = .ok (.aload_n 0, 1) := by decide +kernel
theorem dX4_add_60 : decode cX4_add 60 = .ok (.getfield 9, 3) := by decide +kernel
theorem dX4_add_63 : decode cX4_add 63 = .ok (.iload_n 3, 1) := by decide +kernel
theorem dX4_add_64 : decode cX4_add 64 = .ok (.lload_n 1, 1) := by decide +kernel
theorem dX4_add_65 : decode cX4_add 65 = .ok (.lastore, 1) := by decide +kernel
theorem dX4_add_66 : decode cX4_add 66 = .ok (.aload_n 0, 1) := by decide +kernel
theorem dX4_add_67 : decode cX4_add 67 = .ok (.dup, 1) := by decide +kernel
theorem dX4_add_68 : decode cX4_add 68 = .ok (.getfield 13, 3) := by decide +kernel
theorem dX4_add_71 : decode cX4_add 71 = .ok (.iconst 1, 1) := by decide +kernel
theorem dX4_add_72 : decode cX4_add 72 = .ok (.iadd, 1) := by decide +kernel
theorem dX4_add_73 : decode cX4_add 73 = .ok (.putfield 13, 3) := by decide +kernel
theorem dX4_add_76 : decode cX4_add 76 = .ok (.return_, 1) := by decide +kernel
set_option maxRecDepth 20000 in
theorem ggX5_init_X3_init : GoodIn wsX5_init wsX3_init := goodIn_r _ [25, 26, 2, 3, 27, 28, 29, 30, 31, 32, 33, 52, 53, 54, 55, 56] (by decide +kernel) (by decide +kernel)
set_option maxRecDepth 20000 in
theorem gX5_init_X3_init : GoodIn wsX5_init (wsX3_init) := ggX5_init_X3_init
set_option maxRecDepth 20000 in
theorem ggX5_init_X1_init : GoodIn wsX5_init wsX1_init := goodIn_r _ [36, 37, 2, 3, 38, 39, 40, 41, 5, 6, 42, 24, 25, 26, 27, 28, 29, 30, 31, 32, 33, 63, 64, 65, 52, 53, 54, 55, 56] (by decide +kernel) (by decide +kernel)
set_option maxRecDepth 20000 in
theorem gX5_init_X1_init : GoodIn wsX5_init (wsX1_init) := ggX5_init_X1_init
set_option maxRecDepth 20000 in
theorem ggX5_init_X4_init : GoodIn wsX5_init wsX4_init := goodIn_r _ [44, 45, 2, 3, 46, 47, 48, 66, 67] (by decide +kernel) (by decide +kernel)
set_option maxRecDepth 20000 in
theorem gX5_init_X4_init_n33 : GoodIn wsX5_init (wsX4_init) := ggX5_init_X4_init
set_option maxRecDepth 20000 in
theorem ggX5_init_X0_init : GoodIn wsX5_init wsX0_init := goodIn_r _ [50, 51, 2, 3] (by decide +kernel) (by decide +kernel)
set_option maxRecDepth 20000 in
theorem gX5_init_X0_init_n40 : GoodIn wsX5_init (wsX0_init) := ggX5_init_X0_init
theorem dX5_init_0 : decode cX5_init 0 = .ok (.aload_n 0, 1) := by decide +kernel
theorem dX5_init_1 : decode cX5_init 1 = .ok (.invokespecial 1, 3) := by decide +kernel
theorem dX5_init_4 : decode cX5_init 4 = .ok (.aload_n 0, 1) := by decide +kernel
theorem dX5_init_5 : decode cX5_init 5 = .ok (.new 7, 3) := by decide +kernel
theorem dX5_init_8 : decode cX5_init 8 = .ok (.dup, 1) := by decide +kernel
theorem dX5_init_9 : decode cX5_init 9 = .ok (.invokespecial 9, 3) := by decide +kernel
theorem dX5_init_12 : decode cX5_init 12 = .ok (.putfield 10, 3) := by decide +kernel
theorem dX5_init_15 : decode cX5_init 15 = .ok (.aload_n 0, 1) := by decide +kernel
theorem dX5_init_16 : decode cX5_init 16 = .ok (.new 16, 3) := by decide +kernel
theorem dX5_init_19 : decode cX5_init 19 = .ok (.dup, 1) := by decide +kernel
theorem dX5_init_20 : decode cX5_init 20 = .ok (.invokespecial 18, 3) := by decide +kernel
theorem dX5_init_23 : decode cX5_init 23 = .ok (.putfield 19, 3) := by decide +kernel
theorem dX5_init_26 : decode cX5_init 26 = .ok (.aload_n 0, 1) := by decide +kernel
theorem dX5_init_27 : decode cX5_init 27 = .ok (.bipush 20, 2) := by decide +kernel
theorem dX5_init_29 : decode cX5_init 29 = .ok (.newarray .char, 2) := by decide +kernel
theorem dX5_init_31 : decode cX5_init 31 = .ok (.putfield 23, 3) := by decide +kernel
theorem dX5_init_34 : decode cX5_init 34 = .ok (.aload_n 0, 1) := by decide +kernel
theorem dX5_init_35 : decode cX5_init 35 = .ok (.iconst 0, 1) := by decide +kernel
theorem dX5_init_36 : decode cX5_init 36 = .ok (.putfield 27, 3) := by decide +kernel
theorem dX5_init_39 : decode cX5_init 39 = .ok (.aload_n 0, 1) := by decide +kernel
theorem dX5_init_40 : decode cX5_init 40 = .ok (.new 31, 3) := by decide +kernel
theorem dX5_init_43 : decode cX5_init 43 = .ok (.dup, 1) := by decide +kernel
theorem dX5_init_44 : decode cX5_init 44 = .ok (.invokespecial 33, 3) := by decide +kernel
theorem dX5_init_47 : decode cX5_init 47 = .ok (.putfield 34, 3) := by decide +kernel
theorem dX5_init_50 : decode cX5_init 50 = .ok (.aload_n 0, 1) := by decide +kernel
theorem dX5_init_51 : decode cX5_init 51 = .ok (.new 38, 3) := by decide +kernel
theorem dX5_init_54 : decode cX5_init 54 = .ok (.dup, 1) := by decide +kernel
theorem dX5_init_55 : decode cX5_init 55 = .ok (.invokespecial 40, 3) := by decide +kernel
theorem dX5_init_58 : decode cX5_init 58 = .ok (.putfield 41, 3) := by decide +kernel
theorem dX5_init_61 : decode cX5_init 61 = .ok (.return_, 1) := by decide +kernel
set_option maxRecDepth 20000 in
theorem ggX5_learn_X5_putWord : GoodIn wsX5_learn wsX5_putWord := goodIn_r _ [5, 6, 7, 8, 9, 10, 4, 11, 12, 13, 14, 15, 16, 17, 18, 19, 20, 21, 22, 23, 24, 25, 26, 27, 28, 29, 30, 31, 32, 33, 34, 35, 36, 37, 38, 39, 40, 41, 42, 43, 44, 45, 46, 47, 48, 49, 50, 51, 52, 53, 54] (by decide +kernel) (by decide +kernel)
set_option maxRecDepth 20000 in
theorem gX5_learn_X5_putWord : GoodIn wsX5_learn (wsV RX5 45 RX5 yX5_putWord wsX5_putWord) := goodIn_app (goodIn_of _ (by decide +kernel)) ggX5_learn_X5_putWord
theorem dX5_learn_0 : decode cX5_learn 0 = .ok (.aload_n 0, 1) := by decide +kernel
theorem dX5_learn_1 : decode cX5_learn 1 = .ok (.iload_n 1, 1) := by decide +kernel
theorem dX5_learn_2 : decode cX5_learn 2 = .ok (.iload_n 2, 1) := by decide +kernel
theorem dX5_learn_3 : decode cX5_learn 3 = .ok (.iconst 1, 1) := by decide +kernel
theorem dX5_learn_4 : decode cX5_learn 4 = .ok (.invokevirtual 45, 3) := by decide +kernel
theorem dX5_learn_7 : decode cX5_learn 7 = .ok (.ireturn, 1) := by decide +kernel
set_option maxRecDepth 20000 in
theorem ggX5_unlearn_X5_putWord : GoodIn wsX5_unlearn wsX5_putWord := goodIn_r _ [5, 6, 7, 8, 9, 10, 4, 11, 12, 13, 14, 15, 16, 17, 18, 19, 20, 21, 22, 23, 24, 25, 26, 27, 28, 29, 30, 31, 32, 33, 34, 35, 36, 37, 38, 39, 40, 41, 42, 43, 44, 45, 46, 47, 48, 49, 50, 51, 52, 53, 54] (by decide +kernel) (by decide +kernel)
set_option maxRecDepth 20000 in
theorem gX5_unlearn_X5_putWord : GoodIn wsX5_unlearn (wsV RX5 45 RX5 yX5_putWord wsX5_putWord) := goodIn_app (goodIn_of _ (by decide +kernel)) ggX5_unlearn_X5_putWord
theorem dX5_unlearn_0 : decode cX5_unlearn 0 = .ok (.aload_n 0, 1) := by decide +kernel
theorem dX5_unlearn_1 : decode cX5_unlearn 1 = .ok (.iload_n 1, 1) := by decide +kernel
theorem dX5_unlearn_2 : decode cX5_unlearn 2 = .ok (.iload_n 2, 1) := by decide +kernel
theorem dX5_unlearn_3 : decode cX5_unlearn 3 = .ok (.iconst 0, 1) := by decide +kernel
theorem dX5_unlearn_4 : decode cX5_unlearn 4 = .ok (.invokevirtual 45, 3) := by decide +kernel
theorem dX5_unlearn_7 : decode cX5_unlearn 7 = .ok (.ireturn, 1) := by decide +kernel
set_option maxRecDepth 20000 in
theorem ggX5_attend_X5_isHearer : GoodIn wsX5_attend wsX5_isHearer := goodIn_r _ [7] (by decide +kernel) (by decide +kernel)
set_option maxRecDepth 20000 in
theorem gX5_attend_X5_isHearer : GoodIn wsX5_attend (va_wsS RX5 49 yX5_isHearer wsX5_isHearer) := goodIn_app (goodIn_of _ (by decide +kernel)) ggX5_attend_X5_isHearer
set_option maxRecDepth 20000 in
theorem ggX5_attend_X1_record : GoodIn wsX5_attend wsX1_record := goodIn_r _ [12, 13, 14, 15, 16, 17, 18, 19, 20, 21, 22, 23, 24, 25, 26, 27, 28, 29, 30, 31, 32, 33, 45, 46, 47, 40, 41, 42, 43, 44] (by decide +kernel) (by decide +kernel)
set_option maxRecDepth 20000 in
theorem gX5_attend_X1_record : GoodIn wsX5_attend (wsV RX5 53 RX1 yX1_record wsX1_record) := goodIn_app (goodIn_of _ (by decide +kernel)) ggX5_attend_X1_record
theorem dX5_attend_0 : decode cX5_attend 0 = .ok (.iload_n 1, 1) := by decide +kernel
theorem dX5_attend_1 : decode cX5_attend 1 = .ok (.invokestatic 49, 3) := by decide +kernel
theorem dX5_attend_4 : decode cX5_attend 4 = .ok (.ifCond .ne 5, 3) := by decide +kernel
theorem dX5_attend_7 : decode cX5_attend 7 = .ok (.iconst (-1), 1) := by decide +kernel
theorem dX5_attend_8 : decode cX5_attend 8 = .ok (.ireturn, 1) := by decide +kernel
theorem dX5_attend_9 : decode cX5_attend 9 = .ok (.iload_n 2, 1) := by decide +kernel
theorem dX5_attend_10 : decode cX5_attend 10 = .ok (.iconst 1, 1) := by decide +kernel
theorem dX5_attend_11 : decode cX5_attend 11 = .ok (.if_icmp .lt 9, 3) := by decide +kernel
theorem dX5_attend_14 : decode cX5_attend 14 = .ok (.iload_n 2, 1) := by decide +kernel
theorem dX5_attend_15 : decode cX5_attend 15 = .ok (.bipush 12, 2) := by decide +kernel
theorem dX5_attend_17 : decode cX5_attend 17 = .ok (.if_icmp .le 6, 3) := by decide +kernel
theorem dX5_attend_20 : decode cX5_attend 20 = .ok (.bipush (-2), 2) := by decide +kernel
theorem dX5_attend_22 : decode cX5_attend 22 = .ok (.ireturn, 1) := by decide +kernel
theorem dX5_attend_23 : decode cX5_attend 23 = .ok (.aload_n 0, 1) := by decide +kernel
theorem dX5_attend_24 : decode cX5_attend 24 = .ok (.getfield 19, 3) := by decide +kernel
theorem dX5_attend_27 : decode cX5_attend 27 = .ok (.aload_n 0, 1) := by decide +kernel
theorem dX5_attend_28 : decode cX5_attend 28 = .ok (.getfield 10, 3) := by decide +kernel
theorem dX5_attend_31 : decode cX5_attend 31 = .ok (.invokevirtual 53, 3) := by decide +kernel
theorem dX5_attend_34 : decode cX5_attend 34 = .ok (.aload_n 0, 1) := by decide +kernel
theorem dX5_attend_35 : decode cX5_attend 35 = .ok (.getfield 10, 3) := by decide +kernel
theorem dX5_attend_38 : decode cX5_attend 38 = .ok (.getfield 57, 3) := by decide +kernel
theorem dX5_attend_41 : decode cX5_attend 41 = .ok (.iload_n 1, 1) := by decide +kernel
theorem dX5_attend_42 : decode cX5_attend 42 = .ok (.aaload, 1) := by decide +kernel
theorem dX5_attend_43 : decode cX5_attend 43 = .ok (.astore_n 3, 1) := by decide +kernel
theorem dX5_attend_44 : decode cX5_attend 44 = .ok (.aload_n 3, 1) := by decide +kernel
theorem dX5_attend_45 : decode cX5_attend 45 = .ok (.bipush 6, 2) := by decide +kernel
theorem dX5_attend_47 : decode cX5_attend 47 = .ok (.iaload, 1) := by decide +kernel
theorem dX5_attend_48 : decode cX5_attend 48 = .ok (.istore 4, 2) := by decide +kernel
theorem dX5_attend_50 : decode cX5_attend 50 = .ok (.aload_n 3, 1) := by decide +kernel
theorem dX5_attend_51 : decode cX5_attend 51 = .ok (.bipush 6, 2) := by decide +kernel
theorem dX5_attend_53 : decode cX5_attend 53 = .ok (.iload_n 2, 1) := by decide +kernel
theorem dX5_attend_54 : decode cX5_attend 54 = .ok (.iastore, 1) := by decide +kernel
theorem dX5_attend_55 : decode cX5_attend 55 = .ok (.iload 4, 2) := by decide +kernel
theorem dX5_attend_57 : decode cX5_attend 57 = .ok (.ireturn, 1) := by decide +kernel
set_option maxRecDepth 20000 in
theorem ggX5_set_X1_record : GoodIn wsX5_set wsX1_record := goodIn_r _ [8, 9, 10, 11, 12, 13, 14, 15, 16, 17, 18, 19, 20, 21, 22, 23, 24, 25, 26, 27, 28, 29, 41, 42, 43, 36, 37, 38, 39, 40] (by decide +kernel) (by decide +kernel)
set_option maxRecDepth 20000 in
theorem gX5_set_X1_record : GoodIn wsX5_set (wsV RX5 53 RX1 yX1_record wsX1_record) := goodIn_app (goodIn_of _ (by decide +kernel)) ggX5_set_X1_record
theorem dX5_set_0 : decode cX5_set 0 = .ok (.iload_n 1, 1) := by decide +kernel
theorem dX5_set_1 : decode cX5_set 1 = .ok (.iconst 1, 1) := by decide +kernel
theorem dX5_set_2 : decode cX5_set 2 = .ok (.if_icmp .lt 9, 3) := by decide +kernel
theorem dX5_set_5 : decode cX5_set 5 = .ok (.iload_n 1, 1) := by decide +kernel
theorem dX5_set_6 : decode cX5_set 6 = .ok (.bipush 9, 2) := by decide +kernel
theorem dX5_set_8 : decode cX5_set 8 = .ok (.if_icmp .le 6, 3) := by decide +kernel
theorem dX5_set_11 : decode cX5_set 11 = .ok (.bipush (-2), 2) := by decide +kernel
theorem dX5_set_13 : decode cX5_set 13 = .ok (.ireturn, 1) := by decide +kernel
theorem dX5_set_14 : decode cX5_set 14 = .ok (.aload_n 0, 1) := by decide +kernel
theorem dX5_set_15 : decode cX5_set 15 = .ok (.getfield 19, 3) := by decide +kernel
theorem dX5_set_18 : decode cX5_set 18 = .ok (.aload_n 0, 1) := by decide +kernel
theorem dX5_set_19 : decode cX5_set 19 = .ok (.getfield 10, 3) := by decide +kernel
theorem dX5_set_22 : decode cX5_set 22 = .ok (.invokevirtual 53, 3) := by decide +kernel
theorem dX5_set_25 : decode cX5_set 25 = .ok (.aload_n 0, 1) := by decide +kernel
theorem dX5_set_26 : decode cX5_set 26 = .ok (.getfield 10, 3) := by decide +kernel
theorem dX5_set_29 : decode cX5_set 29 = .ok (.getfield 61, 3) := by decide +kernel
theorem dX5_set_32 : decode cX5_set 32 = .ok (.istore_n 2, 1) := by decide +kernel
theorem dX5_set_33 : decode cX5_set 33 = .ok (.aload_n 0, 1) := by decide +kernel
theorem dX5_set_34 : decode cX5_set 34 = .ok (.getfield 10, 3) := by decide +kernel
theorem dX5_set_37 : decode cX5_set 37 = .ok (.iload_n 1, 1) := by decide +kernel
theorem dX5_set_38 : decode cX5_set 38 = .ok (.putfield 61, 3) := by decide +kernel
theorem dX5_set_41 : decode cX5_set 41 = .ok (.iload_n 2, 1) := by decide +kernel
theorem dX5_set_42 : decode cX5_set 42 = .ok (.ireturn, 1) := by decide +kernel
set_option maxRecDepth 20000 in
theorem ggX5_tell_X5_isHearer : GoodIn wsX5_tell wsX5_isHearer := goodIn_r _ [5] (by decide +kernel) (by decide +kernel)
set_option maxRecDepth 20000 in
theorem gX5_tell_X5_isHearer : GoodIn wsX5_tell (va_wsS RX5 49 yX5_isHearer wsX5_isHearer) := goodIn_app (goodIn_of _ (by decide +kernel)) ggX5_tell_X5_isHearer
set_option maxRecDepth 20000 in
theorem ggX5_tell_X5_isStyle : GoodIn wsX5_tell wsX5_isStyle := goodIn_r _ [8] (by decide +kernel) (by decide +kernel)
set_option maxRecDepth 20000 in
theorem gX5_tell_X5_isStyle : GoodIn wsX5_tell (va_wsS RX5 64 yX5_isStyle wsX5_isStyle) := goodIn_app (goodIn_of _ (by decide +kernel)) ggX5_tell_X5_isStyle
set_option maxRecDepth 20000 in
theorem ggX5_tell_X5_isNumber : GoodIn wsX5_tell wsX5_isNumber := goodIn_r _ [11] (by decide +kernel) (by decide +kernel)
set_option maxRecDepth 20000 in
theorem gX5_tell_X5_isNumber : GoodIn wsX5_tell (va_wsS RX5 67 yX5_isNumber wsX5_isNumber) := goodIn_app (goodIn_of _ (by decide +kernel)) ggX5_tell_X5_isNumber
set_option maxRecDepth 20000 in
theorem ggX5_tell_X4_find : GoodIn wsX5_tell wsX4_find := goodIn_r _ [16, 17, 18, 19, 20, 21, 22, 23, 24, 25, 26, 27, 15, 28, 29, 30, 31, 32, 33, 34, 35, 36, 37, 38, 39, 40, 41, 42, 43, 44, 45, 46, 47, 48, 49, 50, 51, 200, 201] (by decide +kernel) (by decide +kernel)
set_option maxRecDepth 20000 in
theorem gX5_tell_X4_find : GoodIn wsX5_tell (wsV RX5 70 RX4 yX4_find wsX4_find) := goodIn_app (goodIn_of _ (by decide +kernel)) ggX5_tell_X4_find
set_option maxRecDepth 20000 in
theorem ggX5_tell_X4_placeOfStyle : GoodIn wsX5_tell wsX4_placeOfStyle := goodIn_r _ [55, 17, 56, 57, 58, 15, 59, 40, 60, 61, 62, 63, 64, 34, 65, 66, 67, 68, 200, 201] (by decide +kernel) (by decide +kernel)
set_option maxRecDepth 20000 in
theorem gX5_tell_X4_placeOfStyle : GoodIn wsX5_tell (wsV RX5 74 RX4 yX4_placeOfStyle wsX4_placeOfStyle) := goodIn_app (goodIn_of _ (by decide +kernel)) ggX5_tell_X4_placeOfStyle
set_option maxRecDepth 20000 in
theorem ggX5_tell_X4_at : GoodIn wsX5_tell wsX4_at := goodIn_r _ [59, 40, 200, 201] (by decide +kernel) (by decide +kernel)
set_option maxRecDepth 20000 in
theorem gX5_tell_X4_at : GoodIn wsX5_tell (wsV RX5 78 RX4 yX4_at wsX4_at) := goodIn_app (goodIn_of _ (by decide +kernel)) ggX5_tell_X4_at
set_option maxRecDepth 20000 in
theorem ggX5_tell_X5_say : GoodIn wsX5_tell wsX5_say := goodIn_r _ [73, 74, 75, 76, 77, 78, 79, 80, 81, 82, 83, 84, 85, 23, 20, 24, 86, 87, 88, 89, 90, 91, 92, 93, 94, 95, 96, 97, 98, 99, 100, 101, 102, 4, 103, 104, 105, 106, 107, 108, 109, 110, 111, 112, 113, 114, 115, 116, 117, 118, 119, 120, 121, 122, 123, 124, 125, 126, 34, 127, 128, 67, 68, 129, 130, 131, 132, 133, 134, 135, 136, 137, 138, 139, 140, 141, 142, 143, 144, 145, 146, 147, 148, 149, 150, 151, 152, 153, 154, 155, 156, 157, 158, 159, 160, 161, 162, 163, 164, 165, 166, 167, 168, 169, 170, 171, 172, 173, 174, 175, 176, 177, 178, 179, 180, 181, 182, 183, 184, 185, 186, 187, 64, 65, 66, 188, 189, 190, 191, 192, 193, 194, 195, 196, 197, 198, 199, 202, 203, 204, 205, 206, 207, 208, 209, 210, 211, 212, 213, 214, 215, 216, 217, 218, 219, 220] (by decide +kernel) (by decide +kernel)
set_option maxRecDepth 20000 in
theorem gX5_tell_X5_say : GoodIn wsX5_tell (wsV RX5 82 RX5 yX5_say wsX5_say) := goodIn_app (goodIn_of _ (by decide +kernel)) ggX5_tell_X5_say
theorem dX5_tell_0 : decode cX5_tell 0 = .ok (.iload_n 1, 1) := by decide +kernel
theorem dX5_tell_1 : decode cX5_tell 1 = .ok (.invokestatic 49, 3) := by decide +kernel
theorem dX5_tell_4 : decode cX5_tell 4 = .ok (.ifCond .eq 10, 3) := by decide +kernel
theorem dX5_tell_7 : decode cX5_tell 7 = .ok (.iload_n 3, 1) := by decide +kernel
theorem dX5_tell_8 : decode cX5_tell 8 = .ok (.invokestatic 64, 3) := by decide +kernel
theorem dX5_tell_11 : decode cX5_tell 11 = .ok (.ifCond .ne 5, 3) := by decide +kernel
theorem dX5_tell_14 : decode cX5_tell 14 = .ok (.iconst (-1), 1) := by decide +kernel
theorem dX5_tell_15 : decode cX5_tell 15 = .ok (.ireturn, 1) := by decide +kernel
theorem dX5_tell_16 : decode cX5_tell 16 = .ok (.iload_n 2, 1) := by decide +kernel
theorem dX5_tell_17 : decode cX5_tell 17 = .ok (.invokestatic 67, 3) := by decide +kernel
theorem dX5_tell_20 : decode cX5_tell 20 = .ok (.ifCond .ne 6, 3) := by decide +kernel
theorem dX5_tell_23 : decode cX5_tell 23 = .ok (.bipush (-2), 2) := by decide +kernel
theorem dX5_tell_25 : decode cX5_tell 25 = .ok (.ireturn, 1) := by decide +kernel
theorem dX5_tell_26 : decode cX5_tell 26 = .ok (.aload_n 0, 1) := by decide +kernel
theorem dX5_tell_27 : decode cX5_tell 27 = .ok (.getfield 34, 3) := by decide +kernel
theorem dX5_tell_30 : decode cX5_tell 30 = .ok (.iload_n 2, 1) := by decide +kernel
theorem dX5_tell_31 : decode cX5_tell 31 = .ok (.invokevirtual 70, 3) := by decide +kernel
theorem dX5_tell_34 : decode cX5_tell 34 = .ok (.aload_n 0, 1) := by decide +kernel
theorem dX5_tell_35 : decode cX5_tell 35 = .ok (.iload_n 1, 1) := by decide +kernel
theorem dX5_tell_36 : decode cX5_tell 36 = .ok (.iload_n 2, 1) := by decide +kernel
theorem dX5_tell_37 : decode cX5_tell 37 = .ok (.aload_n 0, 1) := by decide +kernel
theorem dX5_tell_38 : decode cX5_tell 38 = .ok (.getfield 34, 3) := by decide +kernel
theorem dX5_tell_41 : decode cX5_tell 41 = .ok (.aload_n 0, 1) := by decide +kernel
theorem dX5_tell_42 : decode cX5_tell 42 = .ok (.getfield 34, 3) := by decide +kernel
theorem dX5_tell_45 : decode cX5_tell 45 = .ok (.iload_n 3, 1) := by decide +kernel
theorem dX5_tell_46 : decode cX5_tell 46 = .ok (.invokevirtual 74, 3) := by decide +kernel
theorem dX5_tell_49 : decode cX5_tell 49 = .ok (.invokevirtual 78, 3) := by decide +kernel
theorem dX5_tell_52 : decode cX5_tell 52 = .ok (.invokevirtual 82, 3) := by decide +kernel
theorem dX5_tell_55 : decode cX5_tell 55 = .ok (.ireturn, 1) := by decide +kernel
set_option maxRecDepth 20000 in
theorem ggX5_tellText_X5_isHearer : GoodIn wsX5_tellText wsX5_isHearer := goodIn_r _ [4] (by decide +kernel) (by decide +kernel)
set_option maxRecDepth 20000 in
theorem gX5_tellText_X5_isHearer : GoodIn wsX5_tellText (va_wsS RX5 49 yX5_isHearer wsX5_isHearer) := goodIn_app (goodIn_of _ (by decide +kernel)) ggX5_tellText_X5_isHearer
set_option maxRecDepth 20000 in
theorem ggX5_tellText_X5_fault : GoodIn wsX5_tellText wsX5_fault := goodIn_r _ [8, 9, 10, 11, 12, 13, 14, 15, 16, 17, 18, 19, 20, 21, 22, 23, 24, 25, 26, 27, 28, 29, 30, 31, 32, 33, 34, 35, 36, 37, 38, 39, 40, 41, 42, 43, 44, 45, 46, 47, 48, 49, 50, 51, 52, 53, 54, 55, 56, 57, 58, 59, 60, 61, 62, 63, 64, 65, 66, 67, 68, 69, 70, 71, 72, 73, 157, 158, 159, 160, 161, 162, 163, 164, 165, 166, 167, 168, 169, 170, 171, 172, 173] (by decide +kernel) (by decide +kernel)
set_option maxRecDepth 20000 in
theorem gX5_tellText_X5_fault : GoodIn wsX5_tellText (wsV RX5 86 RX5 yX5_fault wsX5_fault) := goodIn_app (goodIn_of _ (by decide +kernel)) ggX5_tellText_X5_fault
set_option maxRecDepth 20000 in
theorem ggX5_tellText_X5_packedText : GoodIn wsX5_tellText wsX5_packedText := goodIn_r _ [77, 10, 11, 78, 79, 80, 81, 157, 158, 159, 160, 161, 162] (by decide +kernel) (by decide +kernel)
set_option maxRecDepth 20000 in
theorem gX5_tellText_X5_packedText : GoodIn wsX5_tellText (wsV RX5 90 RX5 yX5_packedText wsX5_packedText) := goodIn_app (goodIn_of _ (by decide +kernel)) ggX5_tellText_X5_packedText
set_option maxRecDepth 20000 in
theorem ggX5_tellText_X5_meant : GoodIn wsX5_tellText wsX5_meant := goodIn_r _ [85, 9, 12, 13, 14, 15, 16, 17, 18, 19, 20, 21, 22, 23, 24, 25, 26, 27, 86, 87, 88, 89, 90, 91, 80, 92, 93, 94, 95, 96, 29, 30, 31, 32, 33, 34, 35, 36, 37, 38, 39, 40, 41, 42, 43, 44, 45, 46, 47, 48, 49, 50, 51, 52, 53, 54, 55, 56, 57, 58, 59, 60, 61, 62, 63, 64, 65, 66, 67, 68, 69, 97, 71, 72, 73, 98, 99, 100, 101, 157, 158, 159, 160, 161, 162, 163, 164, 165, 166, 167, 168, 169, 170, 171, 172, 173] (by decide +kernel) (by decide +kernel)
set_option maxRecDepth 20000 in
theorem gX5_tellText_X5_meant : GoodIn wsX5_tellText (wsV RX5 94 RX5 yX5_meant wsX5_meant) := goodIn_app (goodIn_of _ (by decide +kernel)) ggX5_tellText_X5_meant
set_option maxRecDepth 20000 in
theorem ggX5_tellText_X5_say : GoodIn wsX5_tellText wsX5_say := goodIn_r _ [105, 106, 107, 108, 109, 110, 111, 112, 113, 114, 115, 116, 117, 118, 119, 120, 121, 122, 123, 124, 125, 126, 127, 128, 129, 130, 131, 132, 133, 134, 135, 136, 137, 3, 138, 9, 12, 13, 14, 15, 16, 17, 18, 19, 20, 21, 22, 23, 24, 25, 26, 27, 86, 87, 88, 89, 90, 91, 80, 92, 93, 94, 95, 96, 29, 30, 31, 32, 33, 34, 35, 36, 37, 38, 39, 40, 41, 42, 43, 44, 45, 46, 47, 48, 49, 50, 51, 52, 53, 54, 55, 56, 57, 58, 59, 60, 61, 62, 63, 64, 65, 66, 67, 68, 69, 97, 71, 72, 73, 98, 99, 100, 101, 139, 140, 141, 142, 143, 144, 145, 146, 147, 148, 149, 150, 151, 152, 153, 154, 155, 156, 157, 158, 159, 160, 161, 162, 174, 175, 176, 177, 178, 179, 180, 181, 163, 164, 165, 166, 167, 168, 169, 170, 171, 172, 173] (by decide +kernel) (by decide +kernel)
