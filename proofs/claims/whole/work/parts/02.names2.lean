theorem dX4_at_5 : decode cX4_at 5 = .ok (.bipush 16, 2) := by decide +kernel
theorem dX4_at_7 : decode cX4_at 7 = .ok (.if_icmp .ge 12, 3) := by decide +kernel
theorem dX4_at_10 : decode cX4_at 10 = .ok (.aload_n 0, 1) := by decide +kernel
theorem dX4_at_11 : decode cX4_at 11 = .ok (.getfield 9, 3) := by decide +kernel
theorem dX4_at_14 : decode cX4_at 14 = .ok (.iload_n 1, 1) := by decide +kernel
theorem dX4_at_15 : decode cX4_at 15 = .ok (.laload, 1) := by decide +kernel
theorem dX4_at_16 : decode cX4_at 16 = .ok (.goto 4, 3) := by decide +kernel
theorem dX4_at_19 : decode cX4_at 19 = .ok (.lconst 0, 1) := by decide +kernel
theorem dX4_at_20 : decode cX4_at 20 = .ok (.lreturn, 1) := by decide +kernel
theorem dX4_placeOf_0 : decode cX4_placeOf 0 = .ok (.iconst 0, 1) := by decide +kernel
theorem dX4_placeOf_1 : decode cX4_placeOf 1 = .ok (.istore_n 3, 1) := by decide +kernel
theorem dX4_placeOf_2 : decode cX4_placeOf 2 = .ok (.iload_n 3, 1) := by decide +kernel
theorem dX4_placeOf_3 : decode cX4_placeOf 3 = .ok (.aload_n 0, 1) := by decide +kernel
theorem dX4_placeOf_4 : decode cX4_placeOf 4 = .ok (.getfield 13, 3) := by decide +kernel
theorem dX4_placeOf_7 : decode cX4_placeOf 7 = .ok (.if_icmp .ge 28, 3) := by decide +kernel
theorem dX4_placeOf_10 : decode cX4_placeOf 10 = .ok (.iload_n 3, 1) := by decide +kernel
theorem dX4_placeOf_11 : decode cX4_placeOf 11 = .ok (.bipush 16, 2) := by decide +kernel
theorem dX4_placeOf_13 : decode cX4_placeOf 13 = .ok (.if_icmp .ge 22, 3) := by decide +kernel
theorem dX4_placeOf_16 : decode cX4_placeOf 16 = .ok (.aload_n 0, 1) := by decide +kernel
theorem dX4_placeOf_17 : decode cX4_placeOf 17 = .ok (.getfield 9, 3) := by decide +kernel
theorem dX4_placeOf_20 : decode cX4_placeOf 20 = .ok (.iload_n 3, 1) := by decide +kernel
theorem dX4_placeOf_21 : decode cX4_placeOf 21 = .ok (.laload, 1) := by decide +kernel
theorem dX4_placeOf_22 : decode cX4_placeOf 22 = .ok (.lload_n 1, 1) := by decide +kernel
theorem dX4_placeOf_23 : decode cX4_placeOf 23 = .ok (.lcmp, 1) := by decide +kernel
theorem dX4_placeOf_24 : decode cX4_placeOf 24 = .ok (.ifCond .ne 5, 3) := by decide +kernel
theorem dX4_placeOf_27 : decode cX4_placeOf 27 = .ok (.iload_n 3, 1) := by decide +kernel
theorem dX4_placeOf_28 : decode cX4_placeOf 28 = .ok (.ireturn, 1) := by decide +kernel
theorem dX4_placeOf_29 : decode cX4_placeOf 29 = .ok (.iinc 3 1, 3) := by decide +kernel
theorem dX4_placeOf_32 : decode cX4_placeOf 32 = .ok (.goto (-30), 3) := by decide +kernel
theorem dX4_placeOf_35 : decode cX4_placeOf 35 = .ok (.iconst 0, 1) := by decide +kernel
theorem dX4_placeOf_36 : decode cX4_placeOf 36 = .ok (.ireturn, 1) := by decide +kernel
set_option maxRecDepth 20000 in
theorem ggX4_placeOfStyle_X4_at : GoodIn wsX4_placeOfStyle wsX4_at := goodIn_r _ [6, 7, 18, 19] (by decide +kernel) (by decide +kernel)
set_option maxRecDepth 20000 in
theorem gX4_placeOfStyle_X4_at : GoodIn wsX4_placeOfStyle (wsV RX4 36 RX4 yX4_at wsX4_at) := goodIn_app (goodIn_of _ (by decide +kernel)) ggX4_placeOfStyle_X4_at
set_option maxRecDepth 20000 in
theorem ggX4_placeOfStyle_X4_isOfStyle : GoodIn wsX4_placeOfStyle wsX4_isOfStyle := goodIn_r _ [10, 11, 12, 13, 14, 15, 16, 17] (by decide +kernel) (by decide +kernel)
set_option maxRecDepth 20000 in
theorem gX4_placeOfStyle_X4_isOfStyle : GoodIn wsX4_placeOfStyle (va_wsS RX4 40 yX4_isOfStyle wsX4_isOfStyle) := goodIn_app (goodIn_of _ (by decide +kernel)) ggX4_placeOfStyle_X4_isOfStyle
theorem dX4_placeOfStyle_0 : decode cX4_placeOfStyle 0 = .ok (.iconst 0, 1) := by decide +kernel
theorem dX4_placeOfStyle_1 : decode cX4_placeOfStyle 1 = .ok (.istore_n 2, 1) := by decide +kernel
theorem dX4_placeOfStyle_2 : decode cX4_placeOfStyle 2 = .ok (.iload_n 2, 1) := by decide +kernel
theorem dX4_placeOfStyle_3 : decode cX4_placeOfStyle 3 = .ok (.aload_n 0, 1) := by decide +kernel
theorem dX4_placeOfStyle_4 : decode cX4_placeOfStyle 4 = .ok (.getfield 13, 3) := by decide +kernel
theorem dX4_placeOfStyle_7 : decode cX4_placeOfStyle 7 = .ok (.if_icmp .ge 23, 3) := by decide +kernel
theorem dX4_placeOfStyle_10 : decode cX4_placeOfStyle 10 = .ok (.aload_n 0, 1) := by decide +kernel
theorem dX4_placeOfStyle_11 : decode cX4_placeOfStyle 11 = .ok (.iload_n 2, 1) := by decide +kernel
theorem dX4_placeOfStyle_12 : decode cX4_placeOfStyle 12 = .ok (.invokevirtual 36, 3) := by decide +kernel
theorem dX4_placeOfStyle_15 : decode cX4_placeOfStyle 15 = .ok (.iload_n 1, 1) := by decide +kernel
theorem dX4_placeOfStyle_16 : decode cX4_placeOfStyle 16 = .ok (.invokestatic 40, 3) := by decide +kernel
theorem dX4_placeOfStyle_19 : decode cX4_placeOfStyle 19 = .ok (.ifCond .eq 5, 3) := by decide +kernel
theorem dX4_placeOfStyle_22 : decode cX4_placeOfStyle 22 = .ok (.iload_n 2, 1) := by decide +kernel
theorem dX4_placeOfStyle_23 : decode cX4_placeOfStyle 23 = .ok (.ireturn, 1) := by decide +kernel
theorem dX4_placeOfStyle_24 : decode cX4_placeOfStyle 24 = .ok (.iinc 2 1, 3) := by decide +kernel
theorem dX4_placeOfStyle_27 : decode cX4_placeOfStyle 27 = .ok (.goto (-25), 3) := by decide +kernel
theorem dX4_placeOfStyle_30 : decode cX4_placeOfStyle 30 = .ok (.iconst 0, 1) := by decide +kernel
theorem dX4_placeOfStyle_31 : decode cX4_placeOfStyle 31 = .ok (.ireturn, 1) := by decide +kernel
set_option maxRecDepth 20000 in
theorem ggX4_isOfStyle_X2_has : GoodIn wsX4_isOfStyle wsX2_has := goodIn_r _ [4, 5, 6, 3, 7] (by decide +kernel) (by decide +kernel)
set_option maxRecDepth 20000 in
theorem gX4_isOfStyle_X2_has : GoodIn wsX4_isOfStyle (va_wsS RX4 44 yX2_has wsX2_has) := goodIn_app (goodIn_of _ (by decide +kernel)) ggX4_isOfStyle_X2_has
theorem dX4_isOfStyle_0 : decode cX4_isOfStyle 0 = .ok (.iload_n 2, 1) := by decide +kernel
theorem dX4_isOfStyle_1 : decode cX4_isOfStyle 1 = .ok (.tableswitch 65 1 3 #[27, 34, 41], 27) := by decide +kernel
theorem dX4_isOfStyle_28 : decode cX4_isOfStyle 28 = .ok (.lload_n 0, 1) := by decide +kernel
theorem dX4_isOfStyle_29 : decode cX4_isOfStyle 29 = .ok (.bipush 72, 2) := by decide +kernel
theorem dX4_isOfStyle_31 : decode cX4_isOfStyle 31 = .ok (.invokestatic 44, 3) := by decide +kernel
theorem dX4_isOfStyle_34 : decode cX4_isOfStyle 34 = .ok (.ireturn, 1) := by decide +kernel
theorem dX4_isOfStyle_35 : decode cX4_isOfStyle 35 = .ok (.lload_n 0, 1) := by decide +kernel
theorem dX4_isOfStyle_36 : decode cX4_isOfStyle 36 = .ok (.bipush 45, 2) := by decide +kernel
theorem dX4_isOfStyle_38 : decode cX4_isOfStyle 38 = .ok (.invokestatic 44, 3) := by decide +kernel
theorem dX4_isOfStyle_41 : decode cX4_isOfStyle 41 = .ok (.ireturn, 1) := by decide +kernel
theorem dX4_isOfStyle_42 : decode cX4_isOfStyle 42 = .ok (.lload_n 0, 1) := by decide +kernel
theorem dX4_isOfStyle_43 : decode cX4_isOfStyle 43 = .ok (.bipush 72, 2) := by decide +kernel
theorem dX4_isOfStyle_45 : decode cX4_isOfStyle 45 = .ok (.invokestatic 44, 3) := by decide +kernel
theorem dX4_isOfStyle_48 : decode cX4_isOfStyle 48 = .ok (.ifCond .ne 16, 3) := by decide +kernel
theorem dX4_isOfStyle_51 : decode cX4_isOfStyle 51 = .ok (.lload_n 0, 1) := by decide +kernel
theorem dX4_isOfStyle_52 : decode cX4_isOfStyle 52 = .ok (.bipush 45, 2) := by decide +kernel
theorem dX4_isOfStyle_54 : decode cX4_isOfStyle 54 = .ok (.invokestatic 44, 3) := by decide +kernel
theorem dX4_isOfStyle_57 : decode cX4_isOfStyle 57 = .ok (.ifCond .ne 7, 3) := by decide +kernel
theorem dX4_isOfStyle_60 : decode cX4_isOfStyle 60 = .ok (.iconst 1, 1) := by decide +kernel
theorem dX4_isOfStyle_61 : decode cX4_isOfStyle 61 = .ok (.goto 4, 3) := by decide +kernel
theorem dX4_isOfStyle_64 : decode cX4_isOfStyle 64 = .ok (.iconst 0, 1) := by decide +kernel
theorem dX4_isOfStyle_65 : decode cX4_isOfStyle 65 = .ok (.ireturn, 1) := by decide +kernel
theorem dX4_isOfStyle_66 : decode cX4_isOfStyle 66 = .ok (.iconst 1, 1) := by decide +kernel
theorem dX4_isOfStyle_67 : decode cX4_isOfStyle 67 = .ok (.ireturn, 1) := by decide +kernel
set_option maxRecDepth 20000 in
theorem ggX4_addGreat_X4_counted : GoodIn wsX4_addGreat wsX4_counted := goodIn_r _ [4, 5, 6, 7, 8, 9, 10, 3, 11] (by decide +kernel) (by decide +kernel)
set_option maxRecDepth 20000 in
theorem gX4_addGreat_X4_counted : GoodIn wsX4_addGreat (va_wsS RX4 48 yX4_counted wsX4_counted) := goodIn_app (goodIn_of _ (by decide +kernel)) ggX4_addGreat_X4_counted
set_option maxRecDepth 20000 in
theorem ggX4_addGreat_X4_add : GoodIn wsX4_addGreat wsX4_add := goodIn_r _ [15, 16, 17, 33, 34] (by decide +kernel) (by decide +kernel)
set_option maxRecDepth 20000 in
theorem gX4_addGreat_X4_add : GoodIn wsX4_addGreat (wsV RX4 52 RX4 yX4_add wsX4_add) := goodIn_app (goodIn_of _ (by decide +kernel)) ggX4_addGreat_X4_add
set_option maxRecDepth 20000 in
theorem ggX4_addGreat_X2_then : GoodIn wsX4_addGreat wsX2_then := goodIn_r _ [8] (by decide +kernel) (by decide +kernel)
set_option maxRecDepth 20000 in
theorem gX4_addGreat_X2_then : GoodIn wsX4_addGreat (va_wsS RX4 56 yX2_then wsX2_then) := goodIn_app (goodIn_of _ (by decide +kernel)) ggX4_addGreat_X2_then
set_option maxRecDepth 20000 in
theorem ggX4_addGreat_X4_addSmalls : GoodIn wsX4_addGreat wsX4_addSmalls := goodIn_r _ [21, 22, 23, 24, 25, 26, 27, 28, 9, 10, 3, 11, 5, 6, 7, 8, 12, 13, 14, 15, 16, 17, 29, 30, 31, 32, 1, 2, 4, 33, 34] (by decide +kernel) (by decide +kernel)
set_option maxRecDepth 20000 in
theorem gX4_addGreat_X4_addSmalls : GoodIn wsX4_addGreat (wsV RX4 19 RX4 yX4_addSmalls wsX4_addSmalls) := goodIn_app (goodIn_of _ (by decide +kernel)) ggX4_addGreat_X4_addSmalls
theorem dX4_addGreat_0 : decode cX4_addGreat 0 = .ok (.lconst 0, 1) := by decide +kernel
theorem dX4_addGreat_1 : decode cX4_addGreat 1 = .ok (.iload_n 1, 1) := by decide +kernel
theorem dX4_addGreat_2 : decode cX4_addGreat 2 = .ok (.sipush 200, 3) := by decide +kernel
theorem dX4_addGreat_5 : decode cX4_addGreat 5 = .ok (.idiv, 1) := by decide +kernel
theorem dX4_addGreat_6 : decode cX4_addGreat 6 = .ok (.bipush 71, 2) := by decide +kernel
theorem dX4_addGreat_8 : decode cX4_addGreat 8 = .ok (.invokestatic 48, 3) := by decide +kernel
theorem dX4_addGreat_11 : decode cX4_addGreat 11 = .ok (.lstore_n 3, 1) := by decide +kernel
theorem dX4_addGreat_12 : decode cX4_addGreat 12 = .ok (.iload_n 2, 1) := by decide +kernel
theorem dX4_addGreat_13 : decode cX4_addGreat 13 = .ok (.ifCond .ne 11, 3) := by decide +kernel
theorem dX4_addGreat_16 : decode cX4_addGreat 16 = .ok (.aload_n 0, 1) := by decide +kernel
theorem dX4_addGreat_17 : decode cX4_addGreat 17 = .ok (.lload_n 3, 1) := by decide +kernel
theorem dX4_addGreat_18 : decode cX4_addGreat 18 = .ok (.invokevirtual 52, 3) := by decide +kernel
theorem dX4_addGreat_21 : decode cX4_addGreat 21 = .ok (.goto 14, 3) := by decide +kernel
theorem dX4_addGreat_24 : decode cX4_addGreat 24 = .ok (.aload_n 0, 1) := by decide +kernel
theorem dX4_addGreat_25 : decode cX4_addGreat 25 = .ok (.lload_n 3, 1) := by decide +kernel
theorem dX4_addGreat_26 : decode cX4_addGreat 26 = .ok (.bipush 38, 2) := by decide +kernel
theorem dX4_addGreat_28 : decode cX4_addGreat 28 = .ok (.invokestatic 56, 3) := by decide +kernel
theorem dX4_addGreat_31 : decode cX4_addGreat 31 = .ok (.iload_n 2, 1) := by decide +kernel
theorem dX4_addGreat_32 : decode cX4_addGreat 32 = .ok (.invokevirtual 19, 3) := by decide +kernel
theorem dX4_addGreat_35 : decode cX4_addGreat 35 = .ok (.return_, 1) := by decide +kernel
set_option maxRecDepth 20000 in
theorem ggX4_addSmalls_X4_unit : GoodIn wsX4_addSmalls wsX4_unit := goodIn_r _ [11] (by decide +kernel) (by decide +kernel)
set_option maxRecDepth 20000 in
theorem gX4_addSmalls_X4_unit : GoodIn wsX4_addSmalls (va_wsS RX4 60 yX4_unit wsX4_unit) := goodIn_app (goodIn_of _ (by decide +kernel)) ggX4_addSmalls_X4_unit
set_option maxRecDepth 20000 in
theorem ggX4_addSmalls_X2_then : GoodIn wsX4_addSmalls wsX2_then := goodIn_r _ [15] (by decide +kernel) (by decide +kernel)
set_option maxRecDepth 20000 in
theorem gX4_addSmalls_X2_then : GoodIn wsX4_addSmalls (va_wsS RX4 56 yX2_then wsX2_then) := goodIn_app (goodIn_of _ (by decide +kernel)) ggX4_addSmalls_X2_then
set_option maxRecDepth 20000 in
theorem ggX4_addSmalls_X4_add : GoodIn wsX4_addSmalls wsX4_add := goodIn_r _ [19, 20, 21, 29, 30] (by decide +kernel) (by decide +kernel)
set_option maxRecDepth 20000 in
theorem gX4_addSmalls_X4_add : GoodIn wsX4_addSmalls (wsV RX4 52 RX4 yX4_add wsX4_add) := goodIn_app (goodIn_of _ (by decide +kernel)) ggX4_addSmalls_X4_add
set_option maxRecDepth 20000 in
theorem ggX4_addSmalls_X4_addWithBase : GoodIn wsX4_addSmalls wsX4_addWithBase := goodIn_r _ [25, 26, 27, 10, 28, 12, 13, 14, 15, 8, 9, 11, 16, 17, 18, 19, 20, 21, 29, 30] (by decide +kernel) (by decide +kernel)
set_option maxRecDepth 20000 in
theorem gX4_addSmalls_X4_addWithBase : GoodIn wsX4_addSmalls (wsV RX4 64 RX4 yX4_addWithBase wsX4_addWithBase) := goodIn_app (goodIn_of _ (by decide +kernel)) ggX4_addSmalls_X4_addWithBase
theorem dX4_addSmalls_0 : decode cX4_addSmalls 0 = .ok (.iload_n 3, 1) := by decide +kernel
theorem dX4_addSmalls_1 : decode cX4_addSmalls 1 = .ok (.iconst 1, 1) := by decide +kernel
theorem dX4_addSmalls_2 : decode cX4_addSmalls 2 = .ok (.if_icmp .lt 10, 3) := by decide +kernel
theorem dX4_addSmalls_5 : decode cX4_addSmalls 5 = .ok (.iload_n 3, 1) := by decide +kernel
theorem dX4_addSmalls_6 : decode cX4_addSmalls 6 = .ok (.sipush 399, 3) := by decide +kernel
theorem dX4_addSmalls_9 : decode cX4_addSmalls 9 = .ok (.if_icmp .le 4, 3) := by decide +kernel
theorem dX4_addSmalls_12 : decode cX4_addSmalls 12 = .ok (.return_, 1) := by decide +kernel
theorem dX4_addSmalls_13 : decode cX4_addSmalls 13 = .ok (.iload_n 3, 1) := by decide +kernel
theorem dX4_addSmalls_14 : decode cX4_addSmalls 14 = .ok (.bipush 19, 2) := by decide +kernel
theorem dX4_addSmalls_16 : decode cX4_addSmalls 16 = .ok (.if_icmp .gt 15, 3) := by decide +kernel
theorem dX4_addSmalls_19 : decode cX4_addSmalls 19 = .ok (.aload_n 0, 1) := by decide +kernel
theorem dX4_addSmalls_20 : decode cX4_addSmalls 20 = .ok (.lload_n 1, 1) := by decide +kernel
theorem dX4_addSmalls_21 : decode cX4_addSmalls 21 = .ok (.iload_n 3, 1) := by decide +kernel
theorem dX4_addSmalls_22 : decode cX4_addSmalls 22 = .ok (.invokestatic 60, 3) := by decide +kernel
theorem dX4_addSmalls_25 : decode cX4_addSmalls 25 = .ok (.invokestatic 56, 3) := by decide +kernel
theorem dX4_addSmalls_28 : decode cX4_addSmalls 28 = .ok (.invokevirtual 52, 3) := by decide +kernel
theorem dX4_addSmalls_31 : decode cX4_addSmalls 31 = .ok (.bipush 20, 2) := by decide +kernel
theorem dX4_addSmalls_33 : decode cX4_addSmalls 33 = .ok (.iload_n 3, 1) := by decide +kernel
theorem dX4_addSmalls_34 : decode cX4_addSmalls 34 = .ok (.bipush 10, 2) := by decide +kernel
theorem dX4_addSmalls_36 : decode cX4_addSmalls 36 = .ok (.isub, 1) := by decide +kernel
theorem dX4_addSmalls_37 : decode cX4_addSmalls 37 = .ok (.bipush 10, 2) := by decide +kernel
theorem dX4_addSmalls_39 : decode cX4_addSmalls 39 = .ok (.idiv, 1) := by decide +kernel
theorem dX4_addSmalls_40 : decode cX4_addSmalls 40 = .ok (.bipush 10, 2) := by decide +kernel
theorem dX4_addSmalls_42 : decode cX4_addSmalls 42 = .ok (.imul, 1) := by decide +kernel
theorem dX4_addSmalls_43 : decode cX4_addSmalls 43 = .ok (.invokestatic 23, 3) := by decide +kernel
theorem dX4_addSmalls_46 : decode cX4_addSmalls 46 = .ok (.istore 4, 2) := by decide +kernel
theorem dX4_addSmalls_48 : decode cX4_addSmalls 48 = .ok (.sipush 380, 3) := by decide +kernel
theorem dX4_addSmalls_51 : decode cX4_addSmalls 51 = .ok (.iload_n 3, 1) := by decide +kernel
theorem dX4_addSmalls_52 : decode cX4_addSmalls 52 = .ok (.bipush 19, 2) := by decide +kernel
theorem dX4_addSmalls_54 : decode cX4_addSmalls 54 = .ok (.iadd, 1) := by decide +kernel
theorem dX4_addSmalls_55 : decode cX4_addSmalls 55 = .ok (.invokestatic 29, 3) := by decide +kernel
theorem dX4_addSmalls_58 : decode cX4_addSmalls 58 = .ok (.istore 5, 2) := by decide +kernel
theorem dX4_addSmalls_60 : decode cX4_addSmalls 60 = .ok (.iload 4, 2) := by decide +kernel
theorem dX4_addSmalls_62 : decode cX4_addSmalls 62 = .ok (.istore 6, 2) := by decide +kernel
theorem dX4_addSmalls_64 : decode cX4_addSmalls 64 = .ok (.iload 6, 2) := by decide +kernel
theorem dX4_addSmalls_66 : decode cX4_addSmalls 66 = .ok (.iload 5, 2) := by decide +kernel
theorem dX4_addSmalls_68 : decode cX4_addSmalls 68 = .ok (.if_icmp .gt 20, 3) := by decide +kernel
theorem dX4_addSmalls_71 : decode cX4_addSmalls 71 = .ok (.aload_n 0, 1) := by decide +kernel
theorem dX4_addSmalls_72 : decode cX4_addSmalls 72 = .ok (.lload_n 1, 1) := by decide +kernel
theorem dX4_addSmalls_73 : decode cX4_addSmalls 73 = .ok (.iload 6, 2) := by decide +kernel
theorem dX4_addSmalls_75 : decode cX4_addSmalls 75 = .ok (.iload_n 3, 1) := by decide +kernel
theorem dX4_addSmalls_76 : decode cX4_addSmalls 76 = .ok (.iload 6, 2) := by decide +kernel
theorem dX4_addSmalls_78 : decode cX4_addSmalls 78 = .ok (.isub, 1) := by decide +kernel
theorem dX4_addSmalls_79 : decode cX4_addSmalls 79 = .ok (.invokevirtual 64, 3) := by decide +kernel
theorem dX4_addSmalls_82 : decode cX4_addSmalls 82 = .ok (.iinc 6 10, 3) := by decide +kernel
theorem dX4_addSmalls_85 : decode cX4_addSmalls 85 = .ok (.goto (-21), 3) := by decide +kernel
theorem dX4_addSmalls_88 : decode cX4_addSmalls 88 = .ok (.return_, 1) := by decide +kernel
set_option maxRecDepth 20000 in
theorem ggX4_addWithBase_X4_counted : GoodIn wsX4_addWithBase wsX4_counted := goodIn_r _ [4, 5, 6, 7, 8, 9, 10, 3, 11] (by decide +kernel) (by decide +kernel)
set_option maxRecDepth 20000 in
theorem gX4_addWithBase_X4_counted : GoodIn wsX4_addWithBase (va_wsS RX4 48 yX4_counted wsX4_counted) := goodIn_app (goodIn_of _ (by decide +kernel)) ggX4_addWithBase_X4_counted
set_option maxRecDepth 20000 in
theorem ggX4_addWithBase_X4_add : GoodIn wsX4_addWithBase wsX4_add := goodIn_r _ [15, 16, 17, 18, 19] (by decide +kernel) (by decide +kernel)
set_option maxRecDepth 20000 in
theorem gX4_addWithBase_X4_add : GoodIn wsX4_addWithBase (wsV RX4 52 RX4 yX4_add wsX4_add) := goodIn_app (goodIn_of _ (by decide +kernel)) ggX4_addWithBase_X4_add
set_option maxRecDepth 20000 in
theorem ggX4_addWithBase_X2_then : GoodIn wsX4_addWithBase wsX2_then := goodIn_r _ [8] (by decide +kernel) (by decide +kernel)
set_option maxRecDepth 20000 in
theorem gX4_addWithBase_X2_then : GoodIn wsX4_addWithBase (va_wsS RX4 56 yX2_then wsX2_then) := goodIn_app (goodIn_of _ (by decide +kernel)) ggX4_addWithBase_X2_then
set_option maxRecDepth 20000 in
theorem ggX4_addWithBase_X4_unit : GoodIn wsX4_addWithBase wsX4_unit := goodIn_r _ [11] (by decide +kernel) (by decide +kernel)
set_option maxRecDepth 20000 in
theorem gX4_addWithBase_X4_unit : GoodIn wsX4_addWithBase (va_wsS RX4 60 yX4_unit wsX4_unit) := goodIn_app (goodIn_of _ (by decide +kernel)) ggX4_addWithBase_X4_unit
theorem dX4_addWithBase_0 : decode cX4_addWithBase 0 = .ok (.iload_n 3, 1) := by decide +kernel
theorem dX4_addWithBase_1 : decode cX4_addWithBase 1 = .ok (.bipush 10, 2) := by decide +kernel
theorem dX4_addWithBase_3 : decode cX4_addWithBase 3 = .ok (.idiv, 1) := by decide +kernel
theorem dX4_addWithBase_4 : decode cX4_addWithBase 4 = .ok (.istore 5, 2) := by decide +kernel
theorem dX4_addWithBase_6 : decode cX4_addWithBase 6 = .ok (.iload 4, 2) := by decide +kernel
theorem dX4_addWithBase_8 : decode cX4_addWithBase 8 = .ok (.ifCond .ne 18, 3) := by decide +kernel
theorem dX4_addWithBase_11 : decode cX4_addWithBase 11 = .ok (.aload_n 0, 1) := by decide +kernel
theorem dX4_addWithBase_12 : decode cX4_addWithBase 12 = .ok (.lload_n 1, 1) := by decide +kernel
theorem dX4_addWithBase_13 : decode cX4_addWithBase 13 = .ok (.iload 5, 2) := by decide +kernel
theorem dX4_addWithBase_15 : decode cX4_addWithBase 15 = .ok (.bipush 83, 2) := by decide +kernel
theorem dX4_addWithBase_17 : decode cX4_addWithBase 17 = .ok (.invokestatic 48, 3) := by decide +kernel
theorem dX4_addWithBase_20 : decode cX4_addWithBase 20 = .ok (.invokevirtual 52, 3) := by decide +kernel
theorem dX4_addWithBase_23 : decode cX4_addWithBase 23 = .ok (.goto 91, 3) := by decide +kernel
theorem dX4_addWithBase_26 : decode cX4_addWithBase 26 = .ok (.iload 4, 2) := by decide +kernel
theorem dX4_addWithBase_28 : decode cX4_addWithBase 28 = .ok (.iconst 1, 1) := by decide +kernel
theorem dX4_addWithBase_29 : decode cX4_addWithBase 29 = .ok (.if_icmp .lt 42, 3) := by decide +kernel
theorem dX4_addWithBase_32 : decode cX4_addWithBase 32 = .ok (.iload 4, 2) := by decide +kernel
theorem dX4_addWithBase_34 : decode cX4_addWithBase 34 = .ok (.bipush 19, 2) := by decide +kernel
theorem dX4_addWithBase_36 : decode cX4_addWithBase 36 = .ok (.if_icmp .gt 35, 3) := by decide +kernel
theorem dX4_addWithBase_39 : decode cX4_addWithBase 39 = .ok (.lload_n 1, 1) := by decide +kernel
theorem dX4_addWithBase_40 : decode cX4_addWithBase 40 = .ok (.iload 5, 2) := by decide +kernel
theorem dX4_addWithBase_42 : decode cX4_addWithBase 42 = .ok (.bipush 83, 2) := by decide +kernel
theorem dX4_addWithBase_44 : decode cX4_addWithBase 44 = .ok (.invokestatic 48, 3) := by decide +kernel
theorem dX4_addWithBase_47 : decode cX4_addWithBase 47 = .ok (.bipush 43, 2) := by decide +kernel
theorem dX4_addWithBase_49 : decode cX4_addWithBase 49 = .ok (.invokestatic 56, 3) := by decide +kernel
theorem dX4_addWithBase_52 : decode cX4_addWithBase 52 = .ok (.lstore 6, 2) := by decide +kernel
theorem dX4_addWithBase_54 : decode cX4_addWithBase 54 = .ok (.aload_n 0, 1) := by decide +kernel
theorem dX4_addWithBase_55 : decode cX4_addWithBase 55 = .ok (.lload 6, 2) := by decide +kernel
theorem dX4_addWithBase_57 : decode cX4_addWithBase 57 = .ok (.iload 4, 2) := by decide +kernel
theorem dX4_addWithBase_59 : decode cX4_addWithBase 59 = .ok (.invokestatic 60, 3) := by decide +kernel
theorem dX4_addWithBase_62 : decode cX4_addWithBase 62 = .ok (.invokestatic 56, 3) := by decide +kernel
theorem dX4_addWithBase_65 : decode cX4_addWithBase 65 = .ok (.invokevirtual 52, 3) := by decide +kernel
theorem dX4_addWithBase_68 : decode cX4_addWithBase 68 = .ok (.goto 46, 3) := by decide +kernel
theorem dX4_addWithBase_71 : decode cX4_addWithBase 71 = .ok (.iload 4, 2) := by decide +kernel
theorem dX4_addWithBase_73 : decode cX4_addWithBase 73 = .ok (.bipush (-19), 2) := by decide +kernel
theorem dX4_addWithBase_75 : decode cX4_addWithBase 75 = .ok (.if_icmp .lt 39, 3) := by decide +kernel
theorem dX4_addWithBase_78 : decode cX4_addWithBase 78 = .ok (.iload 4, 2) := by decide +kernel
theorem dX4_addWithBase_80 : decode cX4_addWithBase 80 = .ok (.iconst (-1), 1) := by decide +kernel
theorem dX4_addWithBase_81 : decode cX4_addWithBase 81 = .ok (.if_icmp .gt 33, 3) := by decide +kernel
theorem dX4_addWithBase_84 : decode cX4_addWithBase 84 = .ok (.lload_n 1, 1) := by decide +kernel
theorem dX4_addWithBase_85 : decode cX4_addWithBase 85 = .ok (.iload 4, 2) := by decide +kernel
theorem dX4_addWithBase_87 : decode cX4_addWithBase 87 = .ok (.ineg, 1) := by decide +kernel
theorem dX4_addWithBase_88 : decode cX4_addWithBase 88 = .ok (.invokestatic 60, 3) := by decide +kernel
theorem dX4_addWithBase_91 : decode cX4_addWithBase 91 = .ok (.invokestatic 56, 3) := by decide +kernel
theorem dX4_addWithBase_94 : decode cX4_addWithBase 94 = .ok (.bipush 45, 2) := by decide +kernel
theorem dX4_addWithBase_96 : decode cX4_addWithBase 96 = .ok (.invokestatic 56, 3) := by decide +kernel
theorem dX4_addWithBase_99 : decode cX4_addWithBase 99 = .ok (.lstore 6, 2) := by decide +kernel
theorem dX4_addWithBase_101 : decode cX4_addWithBase 101 = .ok (.aload_n 0, 1) := by decide +kernel
theorem dX4_addWithBase_102 : decode cX4_addWithBase 102 = .ok (.lload 6, 2) := by decide +kernel
theorem dX4_addWithBase_104 : decode cX4_addWithBase 104 = .ok (.iload 5, 2) := by decide +kernel
theorem dX4_addWithBase_106 : decode cX4_addWithBase 106 = .ok (.bipush 83, 2) := by decide +kernel
theorem dX4_addWithBase_108 : decode cX4_addWithBase 108 = .ok (.invokestatic 48, 3) := by decide +kernel
theorem dX4_addWithBase_111 : decode cX4_addWithBase 111 = .ok (.invokevirtual 52, 3) := by decide +kernel
theorem dX4_addWithBase_114 : decode cX4_addWithBase 114 = .ok (.return_, 1) := by decide +kernel
set_option maxRecDepth 20000 in
theorem ggX4_counted_X2_then : GoodIn wsX4_counted wsX2_then := goodIn_r _ [4] (by decide +kernel) (by decide +kernel)
set_option maxRecDepth 20000 in
theorem gX4_counted_X2_then : GoodIn wsX4_counted (va_wsS RX4 56 yX2_then wsX2_then) := goodIn_app (goodIn_of _ (by decide +kernel)) ggX4_counted_X2_then
set_option maxRecDepth 20000 in
theorem ggX4_counted_X4_unit : GoodIn wsX4_counted wsX4_unit := goodIn_r _ [8] (by decide +kernel) (by decide +kernel)
set_option maxRecDepth 20000 in
theorem gX4_counted_X4_unit : GoodIn wsX4_counted (va_wsS RX4 60 yX4_unit wsX4_unit) := goodIn_app (goodIn_of _ (by decide +kernel)) ggX4_counted_X4_unit
theorem dX4_counted_0 : decode cX4_counted 0 = .ok (.lload_n 0, 1) := by decide +kernel
theorem dX4_counted_1 : decode cX4_counted 1 = .ok (.lstore 4, 2) := by decide +kernel
theorem dX4_counted_3 : decode cX4_counted 3 = .ok (.iload_n 2, 1) := by decide +kernel
theorem dX4_counted_4 : decode cX4_counted 4 = .ok (.iconst 2, 1) := by decide +kernel
theorem dX4_counted_5 : decode cX4_counted 5 = .ok (.irem, 1) := by decide +kernel
theorem dX4_counted_6 : decode cX4_counted 6 = .ok (.iconst 1, 1) := by decide +kernel
theorem dX4_counted_7 : decode cX4_counted 7 = .ok (.if_icmp .ne 12, 3) := by decide +kernel
theorem dX4_counted_10 : decode cX4_counted 10 = .ok (.lload 4, 2) := by decide +kernel
theorem dX4_counted_12 : decode cX4_counted 12 = .ok (.bipush 72, 2) := by decide +kernel
theorem dX4_counted_14 : decode cX4_counted 14 = .ok (.invokestatic 56, 3) := by decide +kernel
theorem dX4_counted_17 : decode cX4_counted 17 = .ok (.lstore 4, 2) := by decide +kernel
theorem dX4_counted_19 : decode cX4_counted 19 = .ok (.iload_n 2, 1) := by decide +kernel
theorem dX4_counted_20 : decode cX4_counted 20 = .ok (.iconst 2, 1) := by decide +kernel
theorem dX4_counted_21 : decode cX4_counted 21 = .ok (.if_icmp .le 18, 3) := by decide +kernel
theorem dX4_counted_24 : decode cX4_counted 24 = .ok (.lload 4, 2) := by decide +kernel
theorem dX4_counted_26 : decode cX4_counted 26 = .ok (.iload_n 2, 1) := by decide +kernel
theorem dX4_counted_27 : decode cX4_counted 27 = .ok (.iconst 1, 1) := by decide +kernel
theorem dX4_counted_28 : decode cX4_counted 28 = .ok (.iadd, 1) := by decide +kernel
theorem dX4_counted_29 : decode cX4_counted 29 = .ok (.iconst 2, 1) := by decide +kernel
theorem dX4_counted_30 : decode cX4_counted 30 = .ok (.idiv, 1) := by decide +kernel
theorem dX4_counted_31 : decode cX4_counted 31 = .ok (.invokestatic 60, 3) := by decide +kernel
theorem dX4_counted_34 : decode cX4_counted 34 = .ok (.invokestatic 56, 3) := by decide +kernel
theorem dX4_counted_37 : decode cX4_counted 37 = .ok (.lstore 4, 2) := by decide +kernel
theorem dX4_counted_39 : decode cX4_counted 39 = .ok (.lload 4, 2) := by decide +kernel
theorem dX4_counted_41 : decode cX4_counted 41 = .ok (.iload_n 3, 1) := by decide +kernel
theorem dX4_counted_42 : decode cX4_counted 42 = .ok (.invokestatic 56, 3) := by decide +kernel
theorem dX4_counted_45 : decode cX4_counted 45 = .ok (.lreturn, 1) := by decide +kernel
theorem dX4_unit_0 : decode cX4_unit 0 = .ok (.bipush 97, 2) := by decide +kernel
theorem dX4_unit_2 : decode cX4_unit 2 = .ok (.iload_n 0, 1) := by decide +kernel
theorem dX4_unit_3 : decode cX4_unit 3 = .ok (.iadd, 1) := by decide +kernel
theorem dX4_unit_4 : decode cX4_unit 4 = .ok (.iconst 1, 1) := by decide +kernel
theorem dX4_unit_5 : decode cX4_unit 5 = .ok (.isub, 1) := by decide +kernel
theorem dX4_unit_6 : decode cX4_unit 6 = .ok (.ireturn, 1) := by decide +kernel
theorem dX4_add_0 : decode cX4_add 0 = .ok (.aload_n 0, 1) := by decide +kernel
theorem dX4_add_1 : decode cX4_add 1 = .ok (.getfield 13, 3) := by decide +kernel
theorem dX4_add_4 : decode cX4_add 4 = .ok (.ifCond .lt 12, 3) := by decide +kernel
theorem dX4_add_7 : decode cX4_add 7 = .ok (.aload_n 0, 1) := by decide +kernel
theorem dX4_add_8 : decode cX4_add 8 = .ok (.getfield 13, 3) := by decide +kernel
theorem dX4_add_11 : decode cX4_add 11 = .ok (.bipush 16, 2) := by decide +kernel
theorem dX4_add_13 : decode cX4_add 13 = .ok (.if_icmp .lt 4, 3) := by decide +kernel
theorem dX4_add_16 : decode cX4_add 16 = .ok (.return_, 1) := by decide +kernel
theorem dX4_add_17 : decode cX4_add 17 = .ok (.aload_n 0, 1) := by decide +kernel
theorem dX4_add_18 : decode cX4_add 18 = .ok (.getfield 13, 3) := by decide +kernel
theorem dX4_add_21 : decode cX4_add 21 = .ok (.istore_n 3, 1) := by decide +kernel
theorem dX4_add_22 : decode cX4_add 22 = .ok (.iload_n 3, 1) := by decide +kernel
theorem dX4_add_23 : decode cX4_add 23 = .ok (.ifCond .le 36, 3) := by decide +kernel
theorem dX4_add_26 : decode cX4_add 26 = .ok (.aload_n 0, 1) := by decide +kernel
theorem dX4_add_27 : decode cX4_add 27 = .ok (.getfield 9, 3) := by decide +kernel
theorem dX4_add_30 : decode cX4_add 30 = .ok (.iload_n 3, 1) := by decide +kernel
theorem dX4_add_31 : decode cX4_add 31 = .ok (.iconst 1, 1) := by decide +kernel
theorem dX4_add_32 : decode cX4_add 32 = .ok (.isub, 1) := by decide +kernel
theorem dX4_add_33 : decode cX4_add 33 = .ok (.laload, 1) := by decide +kernel
theorem dX4_add_34 : decode cX4_add 34 = .ok (.lload_n 1, 1) := by decide +kernel
theorem dX4_add_35 : decode cX4_add 35 = .ok (.lcmp, 1) := by decide +kernel
theorem dX4_add_36 : decode cX4_add 36 = .ok (.ifCond .le 23, 3) := by decide +kernel
theorem dX4_add_39 : decode cX4_add 39 = .ok (.aload_n 0, 1) := by decide +kernel
theorem dX4_add_40 : decode cX4_add 40 = .ok (.getfield 9, 3) := by decide +kernel
theorem dX4_add_43 : decode cX4_add 43 = .ok (.iload_n 3, 1) := by decide +kernel
theorem dX4_add_44 : decode cX4_add 44 = .ok (.aload_n 0, 1) := by decide +kernel
theorem dX4_add_45 : decode cX4_add 45 = .ok (.getfield 9, 3) := by decide +kernel
theorem dX4_add_48 : decode cX4_add 48 = .ok (.iload_n 3, 1) := by decide +kernel
theorem dX4_add_49 : decode cX4_add 49 = .ok (.iconst 1, 1) := by decide +kernel
theorem dX4_add_50 : decode cX4_add 50 = .ok (.isub, 1) := by decide +kernel
theorem dX4_add_51 : decode cX4_add 51 = .ok (.laload, 1) := by decide +kernel
theorem dX4_add_52 : decode cX4_add 52 = .ok (.lastore, 1) := by decide +kernel
theorem dX4_add_53 : decode cX4_add 53 = .ok (.iinc 3 (-1), 3) := by decide +kernel
theorem dX4_add_56 : decode cX4_add 56 = .ok (.goto (-34), 3) := by decide +kernel
theorem dX4_add_59 : decode cX4_add 59 = .ok (.aload_n 0, 1) := by decide +kernel
theorem dX4_add_60 : decode cX4_add 60 = .ok (.getfield 9, 3) := by decide +kernel
theorem dX4_add_63 : decode cX4_add 63 = .ok (.iload_n 3, 1) := by decide +kernel
theorem dX4_add_64 : decode cX4_add 64 = .ok (.lload_n 1, 1) := by decide +kernel
theorem dX4_add_65 : decode cX4_add 65 = .ok (.lastore, 1) := by decide +kernel
theorem dX4_add_66 : decode cX4_add 66 = .ok (.aload_n 0, 1) := by decide +kernel
theorem dX4_add_67 : decode cX4_add 67 = .ok (.dup, 1) := by decide +kernel
theorem dX4_add_68 : decode cX4_add 68 = .ok (.getfield 13, 3) := by decide +kernel
theorem dX4_add_71 : decode cX4_add 71 = .ok (.iconst 1, 1) := by decide +kernel
theorem dX4_add_72 : decode cX4_add 72 = .ok (.iadd, 1) := by decide +kernel
theorem dX4_add_73 : decode cX4_add 73 = .ok (.putfield 13, 3) := by decide +kernel
theorem dX4_add_76 : decode cX4_add 76 = .ok (.return_, 1) := by decide +kernel
set_option maxRecDepth 20000 in
theorem ggX5_init_X3_init : GoodIn wsX5_init wsX3_init := goodIn_r _ [25, 26, 2, 3, 27, 28, 29, 30, 31, 32, 33, 52, 53, 54, 55, 56] (by decide +kernel) (by decide +kernel)
set_option maxRecDepth 20000 in
theorem gX5_init_X3_init : GoodIn wsX5_init (wsX3_init) := ggX5_init_X3_init
set_option maxRecDepth 20000 in
theorem ggX5_init_X1_init : GoodIn wsX5_init wsX1_init := goodIn_r _ [36, 37, 2, 3, 38, 39, 40, 41, 5, 6, 42, 24, 25, 26, 27, 28, 29, 30, 31, 32, 33, 63, 64, 65, 52, 53, 54, 55, 56] (by decide +kernel) (by decide +kernel)
set_option maxRecDepth 20000 in
theorem gX5_init_X1_init : GoodIn wsX5_init (wsX1_init) := ggX5_init_X1_init
set_option maxRecDepth 20000 in
theorem ggX5_init_X4_init : GoodIn wsX5_init wsX4_init := goodIn_r _ [44, 45, 2, 3, 46, 47, 48, 66, 67] (by decide +kernel) (by decide +kernel)
set_option maxRecDepth 20000 in
theorem gX5_init_X4_init_n33 : GoodIn wsX5_init (wsX4_init) := ggX5_init_X4_init
set_option maxRecDepth 20000 in
theorem ggX5_init_X0_init : GoodIn wsX5_init wsX0_init := goodIn_r _ [50, 51, 2, 3] (by decide +kernel) (by decide +kernel)
set_option maxRecDepth 20000 in
theorem gX5_init_X0_init_n40 : GoodIn wsX5_init (wsX0_init) := ggX5_init_X0_init
theorem dX5_init_0 : decode cX5_init 0 = .ok (.aload_n 0, 1) := by decide +kernel
theorem dX5_init_1 : decode cX5_init 1 = .ok (.invokespecial 1, 3) := by decide +kernel
theorem dX5_init_4 : decode cX5_init 4 = .ok (.aload_n 0, 1) := by decide +kernel
theorem dX5_init_5 : decode cX5_init 5 = .ok (.new 7, 3) := by decide +kernel
theorem dX5_init_8 : decode cX5_init 8 = .ok (.dup, 1) := by decide +kernel
theorem dX5_init_9 : decode cX5_init 9 = .ok (.invokespecial 9, 3) := by decide +kernel
theorem dX5_init_12 : decode cX5_init 12 = .ok (.putfield 10, 3) := by decide +kernel
theorem dX5_init_15 : decode cX5_init 15 = .ok (.aload_n 0, 1) := by decide +kernel
theorem dX5_init_16 : decode cX5_init 16 = .ok (.new 16, 3) := by decide +kernel
theorem dX5_init_19 : decode cX5_init 19 = .ok (.dup, 1) := by decide +kernel
theorem dX5_init_20 : decode cX5_init 20 = .ok (.invokespecial 18, 3) := by decide +kernel
theorem dX5_init_23 : decode cX5_init 23 = .ok (.putfield 19, 3) := by decide +kernel
theorem dX5_init_26 : decode cX5_init 26 = .ok (.aload_n 0, 1) := by decide +kernel
theorem dX5_init_27 : decode cX5_init 27 = .ok (.bipush 20, 2) := by decide +kernel
theorem dX5_init_29 : decode cX5_init 29 = .ok (.newarray .char, 2) := by decide +kernel
theorem dX5_init_31 : decode cX5_init 31 = .ok (.putfield 23, 3) := by decide +kernel
theorem dX5_init_34 : decode cX5_init 34 = .ok (.aload_n 0, 1) := by decide +kernel
theorem dX5_init_35 : decode cX5_init 35 = .ok (.iconst 0, 1) := by decide +kernel
theorem dX5_init_36 : decode cX5_init 36 = .ok (.putfield 27, 3) := by decide +kernel
theorem dX5_init_39 : decode cX5_init 39 = .ok (.aload_n 0, 1) := by decide +kernel
theorem dX5_init_40 : decode cX5_init 40 = .ok (.new 31, 3) := by decide +kernel
theorem dX5_init_43 : decode cX5_init 43 = .ok (.dup, 1) := by decide +kernel
theorem dX5_init_44 : decode cX5_init 44 = .ok (.invokespecial 33, 3) := by decide +kernel
theorem dX5_init_47 : decode cX5_init 47 = .ok (.putfield 34, 3) := by decide +kernel
theorem dX5_init_50 : decode cX5_init 50 = .ok (.aload_n 0, 1) := by decide +kernel
theorem dX5_init_51 : decode cX5_init 51 = .ok (.new 38, 3) := by decide +kernel
theorem dX5_init_54 : decode cX5_init 54 = .ok (.dup, 1) := by decide +kernel
theorem dX5_init_55 : decode cX5_init 55 = .ok (.invokespecial 40, 3) := by decide +kernel
theorem dX5_init_58 : decode cX5_init 58 = .ok (.putfield 41, 3) := by decide +kernel
theorem dX5_init_61 : decode cX5_init 61 = .ok (.return_, 1) := by decide +kernel
set_option maxRecDepth 20000 in
theorem ggX5_learn_X5_putWord : GoodIn wsX5_learn wsX5_putWord := goodIn_r _ [5, 6, 7, 8, 9, 10, 4, 11, 12, 13, 14, 15, 16, 17, 18, 19, 20, 21, 22, 23, 24, 25, 26, 27, 28, 29, 30, 31, 32, 33, 34, 35, 36, 37, 38, 39, 40, 41, 42, 43, 44, 45, 46, 47, 48, 49, 50, 51, 52, 53, 54] (by decide +kernel) (by decide +kernel)
set_option maxRecDepth 20000 in
theorem gX5_learn_X5_putWord : GoodIn wsX5_learn (wsV RX5 45 RX5 yX5_putWord wsX5_putWord) := goodIn_app (goodIn_of _ (by decide +kernel)) ggX5_learn_X5_putWord
theorem dX5_learn_0 : decode cX5_learn 0 = .ok (.aload_n 0, 1) := by decide +kernel
theorem dX5_learn_1 : decode cX5_learn 1 = .ok (.iload_n 1, 1) := by decide +kernel
theorem dX5_learn_2 : decode cX5_learn 2 = .ok (.iload_n 2, 1) := by decide +kernel
theorem dX5_learn_3 : decode cX5_learn 3 = .ok (.iconst 1, 1) := by decide +kernel
theorem dX5_learn_4 : decode cX5_learn 4 = .ok (.invokevirtual 45, 3) := by decide +kernel
theorem dX5_learn_7 : decode cX5_learn 7 = .ok (.ireturn, 1) := by decide +kernel
set_option maxRecDepth 20000 in
theorem ggX5_unlearn_X5_putWord : GoodIn wsX5_unlearn wsX5_putWord := goodIn_r _ [5, 6, 7, 8, 9, 10, 4, 11, 12, 13, 14, 15, 16, 17, 18, 19, 20, 21, 22, 23, 24, 25, 26, 27, 28, 29, 30, 31, 32, 33, 34, 35, 36, 37, 38, 39, 40, 41, 42, 43, 44, 45, 46, 47, 48, 49, 50, 51, 52, 53, 54] (by decide +kernel) (by decide +kernel)
set_option maxRecDepth 20000 in
theorem gX5_unlearn_X5_putWord : GoodIn wsX5_unlearn (wsV RX5 45 RX5 yX5_putWord wsX5_putWord) := goodIn_app (goodIn_of _ (by decide +kernel)) ggX5_unlearn_X5_putWord
theorem dX5_unlearn_0 : decode cX5_unlearn 0 = .ok (.aload_n 0, 1) := by decide +kernel
theorem dX5_unlearn_1 : decode cX5_unlearn 1 = .ok (.iload_n 1, 1) := by decide +kernel
theorem dX5_unlearn_2 : decode cX5_unlearn 2 = .ok (.iload_n 2, 1) := by decide +kernel
theorem dX5_unlearn_3 : decode cX5_unlearn 3 = .ok (.iconst 0, 1) := by decide +kernel
theorem dX5_unlearn_4 : decode cX5_unlearn 4 = .ok (.invokevirtual 45, 3) := by decide +kernel
theorem dX5_unlearn_7 : decode cX5_unlearn 7 = .ok (.ireturn, 1) := by decide +kernel
set_option maxRecDepth 20000 in
theorem ggX5_attend_X5_isHearer : GoodIn wsX5_attend wsX5_isHearer := goodIn_r _ [7] (by decide +kernel) (by decide +kernel)
set_option maxRecDepth 20000 in
theorem gX5_attend_X5_isHearer : GoodIn wsX5_attend (va_wsS RX5 49 yX5_isHearer wsX5_isHearer) := goodIn_app (goodIn_of _ (by decide +kernel)) ggX5_attend_X5_isHearer
set_option maxRecDepth 20000 in
theorem ggX5_attend_X1_record : GoodIn wsX5_attend wsX1_record := goodIn_r _ [12, 13, 14, 15, 16, 17, 18, 19, 20, 21, 22, 23, 24, 25, 26, 27, 28, 29, 30, 31, 32, 33, 45, 46, 47, 40, 41, 42, 43, 44] (by decide +kernel) (by decide +kernel)
set_option maxRecDepth 20000 in
theorem gX5_attend_X1_record : GoodIn wsX5_attend (wsV RX5 53 RX1 yX1_record wsX1_record) := goodIn_app (goodIn_of _ (by decide +kernel)) ggX5_attend_X1_record
theorem dX5_attend_0 : decode cX5_attend 0 = .ok (.iload_n 1, 1) := by decide +kernel
theorem dX5_attend_1 : decode cX5_attend 1 = .ok (.invokestatic 49, 3) := by decide +kernel
theorem dX5_attend_4 : decode cX5_attend 4 = .ok (.ifCond .ne 5, 3) := by decide +kernel
theorem dX5_attend_7 : decode cX5_attend 7 = .ok (.iconst (-1), 1) := by decide +kernel
theorem dX5_attend_8 : decode cX5_attend 8 = .ok (.ireturn, 1) := by decide +kernel
theorem dX5_attend_9 : decode cX5_attend 9 = .ok (.iload_n 2, 1) := by decide +kernel
theorem dX5_attend_10 : decode cX5_attend 10 = .ok (.iconst 1, 1) := by decide +kernel
theorem dX5_attend_11 : decode cX5_attend 11 = .ok (.if_icmp .lt 9, 3) := by decide +kernel
theorem dX5_attend_14 : decode cX5_attend 14 = .ok (.iload_n 2, 1) := by decide +kernel
theorem dX5_attend_15 : decode cX5_attend 15 = .ok (.bipush 12, 2) := by decide +kernel
theorem dX5_attend_17 : decode cX5_attend 17 = .ok (.if_icmp .le 6, 3) := by decide +kernel
theorem dX5_attend_20 : decode cX5_attend 20 = .ok (.bipush (-2), 2) := by decide +kernel
theorem dX5_attend_22 : decode cX5_attend 22 = .ok (.ireturn, 1) := by decide +kernel
theorem dX5_attend_23 : decode cX5_attend 23 = .ok (.aload_n 0, 1) := by decide +kernel
theorem dX5_attend_24 : decode cX5_attend 24 = .ok (.getfield 19, 3) := by decide +kernel
theorem dX5_attend_27 : decode cX5_attend 27 = .ok (.aload_n 0, 1) := by decide +kernel
theorem dX5_attend_28 : decode cX5_attend 28 = .ok (.getfield 10, 3) := by decide +kernel
theorem dX5_attend_31 : decode cX5_attend 31 = .ok (.invokevirtual 53, 3) := by decide +kernel
theorem dX5_attend_34 : decode cX5_attend 34 = .ok (.aload_n 0, 1) := by decide +kernel
theorem dX5_attend_35 : decode cX5_attend 35 = .ok (.getfield 10, 3) := by decide +kernel
theorem dX5_attend_38 : decode cX5_attend 38 = .ok (.getfield 57, 3) := by decide +kernel
theorem dX5_attend_41 : decode cX5_attend 41 = .ok (.iload_n 1, 1) := by decide +kernel
theorem dX5_attend_42 : decode cX5_attend 42 = .ok (.aaload, 1) := by decide +kernel
theorem dX5_attend_43 : decode cX5_attend 43 = .ok (.astore_n 3, 1) := by decide +kernel
theorem dX5_attend_44 : decode cX5_attend 44 = .ok (.aload_n 3, 1) := by decide +kernel
theorem dX5_attend_45 : decode cX5_attend 45 = .ok (.bipush 6, 2) := by decide +kernel
theorem dX5_attend_47 : decode cX5_attend 47 = .ok (.iaload, 1) := by decide +kernel
theorem dX5_attend_48 : decode cX5_attend 48 = .ok (.istore 4, 2) := by decide +kernel
theorem dX5_attend_50 : decode cX5_attend 50 = .ok (.aload_n 3, 1) := by decide +kernel
theorem dX5_attend_51 : decode cX5_attend 51 = .ok (.bipush 6, 2) := by decide +kernel
theorem dX5_attend_53 : decode cX5_attend 53 = .ok (.iload_n 2, 1) := by decide +kernel
theorem dX5_attend_54 : decode cX5_attend 54 = .ok (.iastore, 1) := by decide +kernel
theorem dX5_attend_55 : decode cX5_attend 55 = .ok (.iload 4, 2) := by decide +kernel
theorem dX5_attend_57 : decode cX5_attend 57 = .ok (.ireturn, 1) := by decide +kernel
set_option maxRecDepth 20000 in
theorem ggX5_set_X1_record : GoodIn wsX5_set wsX1_record := goodIn_r _ [8, 9, 10, 11, 12, 13, 14, 15, 16, 17, 18, 19, 20, 21, 22, 23, 24, 25, 26, 27, 28, 29, 41, 42, 43, 36, 37, 38, 39, 40] (by decide +kernel) (by decide +kernel)
set_option maxRecDepth 20000 in
theorem gX5_set_X1_record : GoodIn wsX5_set (wsV RX5 53 RX1 yX1_record wsX1_record) := goodIn_app (goodIn_of _ (by decide +kernel)) ggX5_set_X1_record
theorem dX5_set_0 : decode cX5_set 0 = .ok (.iload_n 1, 1) := by decide +kernel
theorem dX5_set_1 : decode cX5_set 1 = .ok (.iconst 1, 1) := by decide +kernel
theorem dX5_set_2 : decode cX5_set 2 = .ok (.if_icmp .lt 9, 3) := by decide +kernel
theorem dX5_set_5 : decode cX5_set 5 = .ok (.iload_n 1, 1) := by decide +kernel
theorem dX5_set_6 : decode cX5_set 6 = .ok (.bipush 9, 2) := by decide +kernel
theorem dX5_set_8 : decode cX5_set 8 = .ok (.if_icmp .le 6, 3) := by decide +kernel
theorem dX5_set_11 : decode cX5_set 11 = .ok (.bipush (-2), 2) := by decide +kernel
theorem dX5_set_13 : decode cX5_set 13 = .ok (.ireturn, 1) := by decide +kernel
theorem dX5_set_14 : decode cX5_set 14 = .ok (.aload_n 0, 1) := by decide +kernel
theorem dX5_set_15 : decode cX5_set 15 = .ok (.getfield 19, 3) := by decide +kernel
theorem dX5_set_18 : decode cX5_set 18 = .ok (.aload_n 0, 1) := by decide +kernel
theorem dX5_set_19 : decode cX5_set 19 = .ok (.getfield 10, 3) := by decide +kernel
theorem dX5_set_22 : decode cX5_set 22 = .ok (.invokevirtual 53, 3) := by decide +kernel
theorem dX5_set_25 : decode cX5_set 25 = .ok (.aload_n 0, 1) := by decide +kernel
theorem dX5_set_26 : decode cX5_set 26 = .ok (.getfield 10, 3) := by decide +kernel
theorem dX5_set_29 : decode cX5_set 29 = .ok (.getfield 61, 3) := by decide +kernel
theorem dX5_set_32 : decode cX5_set 32 = .ok (.istore_n 2, 1) := by decide +kernel
theorem dX5_set_33 : decode cX5_set 33 = .ok (.aload_n 0, 1) := by decide +kernel
theorem dX5_set_34 : decode cX5_set 34 = .ok (.getfield 10, 3) := by decide +kernel
theorem dX5_set_37 : decode cX5_set 37 = .ok (.iload_n 1, 1) := by decide +kernel
theorem dX5_set_38 : decode cX5_set 38 = .ok (.putfield 61, 3) := by decide +kernel
theorem dX5_set_41 : decode cX5_set 41 = .ok (.iload_n 2, 1) := by decide +kernel
theorem dX5_set_42 : decode cX5_set 42 = .ok (.ireturn, 1) := by decide +kernel
set_option maxRecDepth 20000 in
theorem ggX5_tell_X5_isHearer : GoodIn wsX5_tell wsX5_isHearer := goodIn_r _ [5] (by decide +kernel) (by decide +kernel)
set_option maxRecDepth 20000 in
theorem gX5_tell_X5_isHearer : GoodIn wsX5_tell (va_wsS RX5 49 yX5_isHearer wsX5_isHearer) := goodIn_app (goodIn_of _ (by decide +kernel)) ggX5_tell_X5_isHearer
set_option maxRecDepth 20000 in
theorem ggX5_tell_X5_isStyle : GoodIn wsX5_tell wsX5_isStyle := goodIn_r _ [8] (by decide +kernel) (by decide +kernel)
set_option maxRecDepth 20000 in
theorem gX5_tell_X5_isStyle : GoodIn wsX5_tell (va_wsS RX5 64 yX5_isStyle wsX5_isStyle) := goodIn_app (goodIn_of _ (by decide +kernel)) ggX5_tell_X5_isStyle
set_option maxRecDepth 20000 in
theorem ggX5_tell_X5_isNumber : GoodIn wsX5_tell wsX5_isNumber := goodIn_r _ [11] (by decide +kernel) (by decide +kernel)
set_option maxRecDepth 20000 in
theorem gX5_tell_X5_isNumber : GoodIn wsX5_tell (va_wsS RX5 67 yX5_isNumber wsX5_isNumber) := goodIn_app (goodIn_of _ (by decide +kernel)) ggX5_tell_X5_isNumber
set_option maxRecDepth 20000 in
theorem ggX5_tell_X4_find : GoodIn wsX5_tell wsX4_find := goodIn_r _ [16, 17, 18, 19, 20, 21, 22, 23, 24, 25, 26, 27, 15, 28, 29, 30, 31, 32, 33, 34, 35, 36, 37, 38, 39, 40, 41, 42, 43, 44, 45, 46, 47, 48, 49, 50, 51, 200, 201] (by decide +kernel) (by decide +kernel)
set_option maxRecDepth 20000 in
theorem gX5_tell_X4_find : GoodIn wsX5_tell (wsV RX5 70 RX4 yX4_find wsX4_find) := goodIn_app (goodIn_of _ (by decide +kernel)) ggX5_tell_X4_find
set_option maxRecDepth 20000 in
theorem ggX5_tell_X4_placeOfStyle : GoodIn wsX5_tell wsX4_placeOfStyle := goodIn_r _ [55, 17, 56, 57, 58, 15, 59, 40, 60, 61, 62, 63, 64, 34, 65, 66, 67, 68, 200, 201] (by decide +kernel) (by decide +kernel)
set_option maxRecDepth 20000 in
theorem gX5_tell_X4_placeOfStyle : GoodIn wsX5_tell (wsV RX5 74 RX4 yX4_placeOfStyle wsX4_placeOfStyle) := goodIn_app (goodIn_of _ (by decide +kernel)) ggX5_tell_X4_placeOfStyle
set_option maxRecDepth 20000 in
theorem ggX5_tell_X4_at : GoodIn wsX5_tell wsX4_at := goodIn_r _ [59, 40, 200, 201] (by decide +kernel) (by decide +kernel)
set_option maxRecDepth 20000 in
theorem gX5_tell_X4_at : GoodIn wsX5_tell (wsV RX5 78 RX4 yX4_at wsX4_at) := goodIn_app (goodIn_of _ (by decide +kernel)) ggX5_tell_X4_at
set_option maxRecDepth 20000 in
theorem ggX5_tell_X5_say : GoodIn wsX5_tell wsX5_say := goodIn_r _ [73, 74, 75, 76, 77, 78, 79, 80, 81, 82, 83, 84, 85, 23, 20, 24, 86, 87, 88, 89, 90, 91, 92, 93, 94, 95, 96, 97, 98, 99, 100, 101, 102, 4, 103, 104, 105, 106, 107, 108, 109, 110, 111, 112, 113, 114, 115, 116, 117, 118, 119, 120, 121, 122, 123, 124, 125, 126, 34, 127, 128, 67, 68, 129, 130, 131, 132, 133, 134, 135, 136, 137, 138, 139, 140, 141, 142, 143, 144, 145, 146, 147, 148, 149, 150, 151, 152, 153, 154, 155, 156, 157, 158, 159, 160, 161, 162, 163, 164, 165, 166, 167, 168, 169, 170, 171, 172, 173, 174, 175, 176, 177, 178, 179, 180, 181, 182, 183, 184, 185, 186, 187, 64, 65, 66, 188, 189, 190, 191, 192, 193, 194, 195, 196, 197, 198, 199, 202, 203, 204, 205, 206, 207, 208, 209, 210, 211, 212, 213, 214, 215, 216, 217, 218, 219, 220] (by decide +kernel) (by decide +kernel)
set_option maxRecDepth 20000 in
theorem gX5_tell_X5_say : GoodIn wsX5_tell (wsV RX5 82 RX5 yX5_say wsX5_say) := goodIn_app (goodIn_of _ (by decide +kernel)) ggX5_tell_X5_say
theorem dX5_tell_0 : decode cX5_tell 0 = .ok (.iload_n 1, 1) := by decide +kernel
theorem dX5_tell_1 : decode cX5_tell 1 = .ok (.invokestatic 49, 3) := by decide +kernel
theorem dX5_tell_4 : decode cX5_tell 4 = .ok (.ifCond .eq 10, 3) := by decide +kernel
theorem dX5_tell_7 : decode cX5_tell 7 = .ok (.iload_n 3, 1) := by decide +kernel
theorem dX5_tell_8 : decode cX5_tell 8 = .ok (.invokestatic 64, 3) := by decide +kernel
theorem dX5_tell_11 : decode cX5_tell 11 = .ok (.ifCond .ne 5, 3) := by decide +kernel
theorem dX5_tell_14 : decode cX5_tell 14 = .ok (.iconst (-1), 1) := by decide +kernel
theorem dX5_tell_15 : decode cX5_tell 15 = .ok (.ireturn, 1) := by decide +kernel
theorem dX5_tell_16 : decode cX5_tell 16 = .ok (.iload_n 2, 1) := by decide +kernel
theorem dX5_tell_17 : decode cX5_tell 17 = .ok (.invokestatic 67, 3) := by decide +kernel
theorem dX5_tell_20 : decode cX5_tell 20 = .ok (.ifCond .ne 6, 3) := by decide +kernel
theorem dX5_tell_23 : decode cX5_tell 23 = .ok (.bipush (-2), 2) := by decide +kernel
theorem dX5_tell_25 : decode cX5_tell 25 = .ok (.ireturn, 1) := by decide +kernel
theorem dX5_tell_26 : decode cX5_tell 26 = .ok (.aload_n 0, 1) := by decide +kernel
theorem dX5_tell_27 : decode cX5_tell 27 = .ok (.getfield 34, 3) := by decide +kernel
theorem dX5_tell_30 : decode cX5_tell 30 = .ok (.iload_n 2, 1) := by decide +kernel
theorem dX5_tell_31 : decode cX5_tell 31 = .ok (.invokevirtual 70, 3) := by decide +kernel
theorem dX5_tell_34 : decode cX5_tell 34 = .ok (.aload_n 0, 1) := by decide +kernel
theorem dX5_tell_35 : decode cX5_tell 35 = .ok (.iload_n 1, 1) := by decide +kernel
theorem dX5_tell_36 : decode cX5_tell 36 = .ok (.iload_n 2, 1) := by decide +kernel
theorem dX5_tell_37 : decode cX5_tell 37 = .ok (.aload_n 0, 1) := by decide +kernel
theorem dX5_tell_38 : decode cX5_tell 38 = .ok (.getfield 34, 3) := by decide +kernel
theorem dX5_tell_41 : decode cX5_tell 41 = .ok (.aload_n 0, 1) := by decide +kernel
theorem dX5_tell_42 : decode cX5_tell 42 = .ok (.getfield 34, 3) := by decide +kernel
theorem dX5_tell_45 : decode cX5_tell 45 = .ok (.iload_n 3, 1) := by decide +kernel
theorem dX5_tell_46 : decode cX5_tell 46 = .ok (.invokevirtual 74, 3) := by decide +kernel
theorem dX5_tell_49 : decode cX5_tell 49 = .ok (.invokevirtual 78, 3) := by decide +kernel
theorem dX5_tell_52 : decode cX5_tell 52 = .ok (.invokevirtual 82, 3) := by decide +kernel
theorem dX5_tell_55 : decode cX5_tell 55 = .ok (.ireturn, 1) := by decide +kernel
set_option maxRecDepth 20000 in
theorem ggX5_tellText_X5_isHearer : GoodIn wsX5_tellText wsX5_isHearer := goodIn_r _ [4] (by decide +kernel) (by decide +kernel)
set_option maxRecDepth 20000 in
theorem gX5_tellText_X5_isHearer : GoodIn wsX5_tellText (va_wsS RX5 49 yX5_isHearer wsX5_isHearer) := goodIn_app (goodIn_of _ (by decide +kernel)) ggX5_tellText_X5_isHearer
set_option maxRecDepth 20000 in
theorem ggX5_tellText_X5_fault : GoodIn wsX5_tellText wsX5_fault := goodIn_r _ [8, 9, 10, 11, 12, 13, 14, 15, 16, 17, 18, 19, 20, 21, 22, 23, 24, 25, 26, 27, 28, 29, 30, 31, 32, 33, 34, 35, 36, 37, 38, 39, 40, 41, 42, 43, 44, 45, 46, 47, 48, 49, 50, 51, 52, 53, 54, 55, 56, 57, 58, 59, 60, 61, 62, 63, 64, 65, 66, 67, 68, 69, 70, 71, 72, 73, 157, 158, 159, 160, 161, 162, 163, 164, 165, 166, 167, 168, 169, 170, 171, 172, 173] (by decide +kernel) (by decide +kernel)
set_option maxRecDepth 20000 in
theorem gX5_tellText_X5_fault : GoodIn wsX5_tellText (wsV RX5 86 RX5 yX5_fault wsX5_fault) := goodIn_app (goodIn_of _ (by decide +kernel)) ggX5_tellText_X5_fault
set_option maxRecDepth 20000 in
theorem ggX5_tellText_X5_packedText : GoodIn wsX5_tellText wsX5_packedText := goodIn_r _ [77, 10, 11, 78, 79, 80, 81, 157, 158, 159, 160, 161, 162] (by decide +kernel) (by decide +kernel)
set_option maxRecDepth 20000 in
theorem gX5_tellText_X5_packedText : GoodIn wsX5_tellText (wsV RX5 90 RX5 yX5_packedText wsX5_packedText) := goodIn_app (goodIn_of _ (by decide +kernel)) ggX5_tellText_X5_packedText
set_option maxRecDepth 20000 in
theorem ggX5_tellText_X5_meant : GoodIn wsX5_tellText wsX5_meant := goodIn_r _ [85, 9, 12, 13, 14, 15, 16, 17, 18, 19, 20, 21, 22, 23, 24, 25, 26, 27, 86, 87, 88, 89, 90, 91, 80, 92, 93, 94, 95, 96, 29, 30, 31, 32, 33, 34, 35, 36, 37, 38, 39, 40, 41, 42, 43, 44, 45, 46, 47, 48, 49, 50, 51, 52, 53, 54, 55, 56, 57, 58, 59, 60, 61, 62, 63, 64, 65, 66, 67, 68, 69, 97, 71, 72, 73, 98, 99, 100, 101, 157, 158, 159, 160, 161, 162, 163, 164, 165, 166, 167, 168, 169, 170, 171, 172, 173] (by decide +kernel) (by decide +kernel)
set_option maxRecDepth 20000 in
theorem gX5_tellText_X5_meant : GoodIn wsX5_tellText (wsV RX5 94 RX5 yX5_meant wsX5_meant) := goodIn_app (goodIn_of _ (by decide +kernel)) ggX5_tellText_X5_meant
set_option maxRecDepth 20000 in
theorem ggX5_tellText_X5_say : GoodIn wsX5_tellText wsX5_say := goodIn_r _ [105, 106, 107, 108, 109, 110, 111, 112, 113, 114, 115, 116, 117, 118, 119, 120, 121, 122, 123, 124, 125, 126, 127, 128, 129, 130, 131, 132, 133, 134, 135, 136, 137, 3, 138, 9, 12, 13, 14, 15, 16, 17, 18, 19, 20, 21, 22, 23, 24, 25, 26, 27, 86, 87, 88, 89, 90, 91, 80, 92, 93, 94, 95, 96, 29, 30, 31, 32, 33, 34, 35, 36, 37, 38, 39, 40, 41, 42, 43, 44, 45, 46, 47, 48, 49, 50, 51, 52, 53, 54, 55, 56, 57, 58, 59, 60, 61, 62, 63, 64, 65, 66, 67, 68, 69, 97, 71, 72, 73, 98, 99, 100, 101, 139, 140, 141, 142, 143, 144, 145, 146, 147, 148, 149, 150, 151, 152, 153, 154, 155, 156, 157, 158, 159, 160, 161, 162, 174, 175, 176, 177, 178, 179, 180, 181, 163, 164, 165, 166, 167, 168, 169, 170, 171, 172, 173] (by decide +kernel) (by decide +kernel)
set_option maxRecDepth 20000 in
theorem gX5_tellText_X5_say : GoodIn wsX5_tellText (wsV RX5 82 RX5 yX5_say wsX5_say) := goodIn_app (goodIn_of _ (by decide +kernel)) ggX5_tellText_X5_say
theorem dX5_tellText_0 : decode cX5_tellText 0 = .ok (.iload_n 1, 1) := by decide +kernel
theorem dX5_tellText_1 : decode cX5_tellText 1 = .ok (.invokestatic 49, 3) := by decide +kernel
theorem dX5_tellText_4 : decode cX5_tellText 4 = .ok (.ifCond .ne 5, 3) := by decide +kernel
theorem dX5_tellText_7 : decode cX5_tellText 7 = .ok (.iconst (-1), 1) := by decide +kernel
theorem dX5_tellText_8 : decode cX5_tellText 8 = .ok (.ireturn, 1) := by decide +kernel
theorem dX5_tellText_9 : decode cX5_tellText 9 = .ok (.aload_n 0, 1) := by decide +kernel
theorem dX5_tellText_10 : decode cX5_tellText 10 = .ok (.invokevirtual 86, 3) := by decide +kernel
theorem dX5_tellText_13 : decode cX5_tellText 13 = .ok (.bipush (-5), 2) := by decide +kernel
theorem dX5_tellText_15 : decode cX5_tellText 15 = .ok (.if_icmp .eq 6, 3) := by decide +kernel
theorem dX5_tellText_18 : decode cX5_tellText 18 = .ok (.bipush (-3), 2) := by decide +kernel
theorem dX5_tellText_20 : decode cX5_tellText 20 = .ok (.ireturn, 1) := by decide +kernel
theorem dX5_tellText_21 : decode cX5_tellText 21 = .ok (.aload_n 0, 1) := by decide +kernel
theorem dX5_tellText_22 : decode cX5_tellText 22 = .ok (.invokevirtual 90, 3) := by decide +kernel
theorem dX5_tellText_25 : decode cX5_tellText 25 = .ok (.lstore_n 2, 1) := by decide +kernel
theorem dX5_tellText_26 : decode cX5_tellText 26 = .ok (.aload_n 0, 1) := by decide +kernel
theorem dX5_tellText_27 : decode cX5_tellText 27 = .ok (.iload_n 1, 1) := by decide +kernel
theorem dX5_tellText_28 : decode cX5_tellText 28 = .ok (.aload_n 0, 1) := by decide +kernel
theorem dX5_tellText_29 : decode cX5_tellText 29 = .ok (.lload_n 2, 1) := by decide +kernel
theorem dX5_tellText_30 : decode cX5_tellText 30 = .ok (.invokevirtual 94, 3) := by decide +kernel
theorem dX5_tellText_33 : decode cX5_tellText 33 = .ok (.lload_n 2, 1) := by decide +kernel
theorem dX5_tellText_34 : decode cX5_tellText 34 = .ok (.invokevirtual 82, 3) := by decide +kernel
theorem dX5_tellText_37 : decode cX5_tellText 37 = .ok (.ireturn, 1) := by decide +kernel
theorem dX5_append_0 : decode cX5_append 0 = .ok (.iload_n 1, 1) := by decide +kernel
theorem dX5_append_1 : decode cX5_append 1 = .ok (.bipush 32, 2) := by decide +kernel
theorem dX5_append_3 : decode cX5_append 3 = .ok (.if_icmp .lt 9, 3) := by decide +kernel
theorem dX5_append_6 : decode cX5_append 6 = .ok (.iload_n 1, 1) := by decide +kernel
theorem dX5_append_7 : decode cX5_append 7 = .ok (.bipush 126, 2) := by decide +kernel
theorem dX5_append_9 : decode cX5_append 9 = .ok (.if_icmp .le 6, 3) := by decide +kernel
theorem dX5_append_12 : decode cX5_append 12 = .ok (.bipush (-2), 2) := by decide +kernel
theorem dX5_append_14 : decode cX5_append 14 = .ok (.ireturn, 1) := by decide +kernel
theorem dX5_append_15 : decode cX5_append 15 = .ok (.aload_n 0, 1) := by decide +kernel
theorem dX5_append_16 : decode cX5_append 16 = .ok (.getfield 27, 3) := by decide +kernel
theorem dX5_append_19 : decode cX5_append 19 = .ok (.ifCond .lt 12, 3) := by decide +kernel
theorem dX5_append_22 : decode cX5_append 22 = .ok (.aload_n 0, 1) := by decide +kernel
theorem dX5_append_23 : decode cX5_append 23 = .ok (.getfield 27, 3) := by decide +kernel
theorem dX5_append_26 : decode cX5_append 26 = .ok (.bipush 20, 2) := by decide +kernel
theorem dX5_append_28 : decode cX5_append 28 = .ok (.if_icmp .lt 6, 3) := by decide +kernel
theorem dX5_append_31 : decode cX5_append 31 = .ok (.bipush (-4), 2) := by decide +kernel
theorem dX5_append_33 : decode cX5_append 33 = .ok (.ireturn, 1) := by decide +kernel
theorem dX5_append_34 : decode cX5_append 34 = .ok (.aload_n 0, 1) := by decide +kernel
theorem dX5_append_35 : decode cX5_append 35 = .ok (.getfield 23, 3) := by decide +kernel
theorem dX5_append_38 : decode cX5_append 38 = .ok (.aload_n 0, 1) := by decide +kernel
theorem dX5_append_39 : decode cX5_append 39 = .ok (.getfield 27, 3) := by decide +kernel
theorem dX5_append_42 : decode cX5_append 42 = .ok (.iload_n 1, 1) := by decide +kernel
theorem dX5_append_43 : decode cX5_append 43 = .ok (.i2c, 1) := by decide +kernel
theorem dX5_append_44 : decode cX5_append 44 = .ok (.castore, 1) := by decide +kernel
theorem dX5_append_45 : decode cX5_append 45 = .ok (.aload_n 0, 1) := by decide +kernel
theorem dX5_append_46 : decode cX5_append 46 = .ok (.dup, 1) := by decide +kernel
theorem dX5_append_47 : decode cX5_append 47 = .ok (.getfield 27, 3) := by decide +kernel
theorem dX5_append_50 : decode cX5_append 50 = .ok (.iconst 1, 1) := by decide +kernel
theorem dX5_append_51 : decode cX5_append 51 = .ok (.iadd, 1) := by decide +kernel
theorem dX5_append_52 : decode cX5_append 52 = .ok (.putfield 27, 3) := by decide +kernel
theorem dX5_append_55 : decode cX5_append 55 = .ok (.aload_n 0, 1) := by decide +kernel
theorem dX5_append_56 : decode cX5_append 56 = .ok (.getfield 27, 3) := by decide +kernel
theorem dX5_append_59 : decode cX5_append 59 = .ok (.ireturn, 1) := by decide +kernel
theorem dX5_clearText_0 : decode cX5_clearText 0 = .ok (.aload_n 0, 1) := by decide +kernel
theorem dX5_clearText_1 : decode cX5_clearText 1 = .ok (.getfield 27, 3) := by decide +kernel
theorem dX5_clearText_4 : decode cX5_clearText 4 = .ok (.istore_n 1, 1) := by decide +kernel
theorem dX5_clearText_5 : decode cX5_clearText 5 = .ok (.aload_n 0, 1) := by decide +kernel
theorem dX5_clearText_6 : decode cX5_clearText 6 = .ok (.iconst 0, 1) := by decide +kernel
theorem dX5_clearText_7 : decode cX5_clearText 7 = .ok (.putfield 27, 3) := by decide +kernel
theorem dX5_clearText_10 : decode cX5_clearText 10 = .ok (.iload_n 1, 1) := by decide +kernel
theorem dX5_clearText_11 : decode cX5_clearText 11 = .ok (.ireturn, 1) := by decide +kernel
set_option maxRecDepth 20000 in
theorem ggX5_fault_X0_listen : GoodIn wsX5_fault wsX0_listen := goodIn_r _ [8, 9, 10, 11, 12, 13, 14, 15, 16, 17, 18, 19, 72, 73, 74, 75, 76, 77, 78, 79, 80, 81, 82] (by decide +kernel) (by decide +kernel)
set_option maxRecDepth 20000 in
theorem gX5_fault_X0_listen : GoodIn wsX5_fault (wsV RX5 98 RX0 yX0_listen wsX0_listen) := goodIn_app (goodIn_of _ (by decide +kernel)) ggX5_fault_X0_listen
set_option maxRecDepth 20000 in
theorem ggX5_fault_X0_take : GoodIn wsX5_fault wsX0_take := goodIn_r _ [23, 12, 24, 25, 26, 7, 27, 28, 29, 30, 31, 13, 32, 33, 34, 35, 36, 37, 38, 39, 40, 41, 42, 43, 44, 45, 46, 47, 48, 49, 14, 15, 16, 18, 11, 17, 50, 51, 52, 53, 19, 54, 55, 56, 57, 9, 58, 59, 60, 61, 72, 73, 74, 75, 76, 77, 78, 79, 80, 81, 82] (by decide +kernel) (by decide +kernel)
set_option maxRecDepth 20000 in
theorem gX5_fault_X0_take : GoodIn wsX5_fault (wsV RX5 102 RX0 yX0_take wsX0_take) := goodIn_app (goodIn_of _ (by decide +kernel)) ggX5_fault_X0_take
set_option maxRecDepth 20000 in
theorem ggX5_fault_X0_isComplete : GoodIn wsX5_fault wsX0_isComplete := goodIn_r _ [65, 12, 72, 73, 74, 75, 76, 77, 78, 79, 80, 81, 82] (by decide +kernel) (by decide +kernel)
set_option maxRecDepth 20000 in
theorem gX5_fault_X0_isComplete : GoodIn wsX5_fault (wsV RX5 105 RX0 yX0_isComplete wsX0_isComplete) := goodIn_app (goodIn_of _ (by decide +kernel)) ggX5_fault_X0_isComplete
theorem dX5_fault_0 : decode cX5_fault 0 = .ok (.aload_n 0, 1) := by decide +kernel
theorem dX5_fault_1 : decode cX5_fault 1 = .ok (.getfield 41, 3) := by decide +kernel
theorem dX5_fault_4 : decode cX5_fault 4 = .ok (.iconst 1, 1) := by decide +kernel
theorem dX5_fault_5 : decode cX5_fault 5 = .ok (.iconst 1, 1) := by decide +kernel
theorem dX5_fault_6 : decode cX5_fault 6 = .ok (.iconst 1, 1) := by decide +kernel
theorem dX5_fault_7 : decode cX5_fault 7 = .ok (.invokevirtual 98, 3) := by decide +kernel
theorem dX5_fault_10 : decode cX5_fault 10 = .ok (.iconst 0, 1) := by decide +kernel
theorem dX5_fault_11 : decode cX5_fault 11 = .ok (.istore_n 1, 1) := by decide +kernel
theorem dX5_fault_12 : decode cX5_fault 12 = .ok (.iload_n 1, 1) := by decide +kernel
theorem dX5_fault_13 : decode cX5_fault 13 = .ok (.aload_n 0, 1) := by decide +kernel
theorem dX5_fault_14 : decode cX5_fault 14 = .ok (.getfield 27, 3) := by decide +kernel
theorem dX5_fault_17 : decode cX5_fault 17 = .ok (.if_icmp .ge 33, 3) := by decide +kernel
theorem dX5_fault_20 : decode cX5_fault 20 = .ok (.iload_n 1, 1) := by decide +kernel
theorem dX5_fault_21 : decode cX5_fault 21 = .ok (.bipush 20, 2) := by decide +kernel
theorem dX5_fault_23 : decode cX5_fault 23 = .ok (.if_icmp .ge 27, 3) := by decide +kernel
theorem dX5_fault_26 : decode cX5_fault 26 = .ok (.aload_n 0, 1) := by decide +kernel
theorem dX5_fault_27 : decode cX5_fault 27 = .ok (.getfield 41, 3) := by decide +kernel
theorem dX5_fault_30 : decode cX5_fault 30 = .ok (.aload_n 0, 1) := by decide +kernel
theorem dX5_fault_31 : decode cX5_fault 31 = .ok (.getfield 23, 3) := by decide +kernel
theorem dX5_fault_34 : decode cX5_fault 34 = .ok (.iload_n 1, 1) := by decide +kernel
theorem dX5_fault_35 : decode cX5_fault 35 = .ok (.caload, 1) := by decide +kernel
theorem dX5_fault_36 : decode cX5_fault 36 = .ok (.invokevirtual 102, 3) := by decide +kernel
theorem dX5_fault_39 : decode cX5_fault 39 = .ok (.ifCond .ne 5, 3) := by decide +kernel
theorem dX5_fault_42 : decode cX5_fault 42 = .ok (.iload_n 1, 1) := by decide +kernel
theorem dX5_fault_43 : decode cX5_fault 43 = .ok (.ireturn, 1) := by decide +kernel
theorem dX5_fault_44 : decode cX5_fault 44 = .ok (.iinc 1 1, 3) := by decide +kernel
theorem dX5_fault_47 : decode cX5_fault 47 = .ok (.goto (-35), 3) := by decide +kernel
theorem dX5_fault_50 : decode cX5_fault 50 = .ok (.aload_n 0, 1) := by decide +kernel
theorem dX5_fault_51 : decode cX5_fault 51 = .ok (.getfield 41, 3) := by decide +kernel
theorem dX5_fault_54 : decode cX5_fault 54 = .ok (.invokevirtual 105, 3) := by decide +kernel
theorem dX5_fault_57 : decode cX5_fault 57 = .ok (.ifCond .eq 8, 3) := by decide +kernel
theorem dX5_fault_60 : decode cX5_fault 60 = .ok (.bipush (-5), 2) := by decide +kernel
theorem dX5_fault_62 : decode cX5_fault 62 = .ok (.goto 7, 3) := by decide +kernel
theorem dX5_fault_65 : decode cX5_fault 65 = .ok (.aload_n 0, 1) := by decide +kernel
theorem dX5_fault_66 : decode cX5_fault 66 = .ok (.getfield 27, 3) := by decide +kernel
theorem dX5_fault_69 : decode cX5_fault 69 = .ok (.ireturn, 1) := by decide +kernel
set_option maxRecDepth 20000 in
theorem ggX5_meaning_X5_fault : GoodIn wsX5_meaning wsX5_fault := goodIn_r _ [5, 6, 7, 8, 9, 10, 11, 12, 13, 14, 15, 16, 17, 18, 19, 20, 21, 22, 23, 24, 25, 26, 27, 28, 29, 30, 31, 32, 33, 34, 35, 36, 37, 38, 39, 40, 41, 42, 43, 44, 45, 46, 47, 48, 49, 50, 51, 52, 53, 54, 55, 56, 57, 58, 59, 60, 61, 62, 63, 64, 65, 66, 67, 68, 69, 70, 99, 100, 101, 102, 103, 104, 105, 106, 107, 108, 109, 110, 111, 112, 113, 114, 115] (by decide +kernel) (by decide +kernel)
set_option maxRecDepth 20000 in
theorem gX5_meaning_X5_fault : GoodIn wsX5_meaning (wsV RX5 86 RX5 yX5_fault wsX5_fault) := goodIn_app (goodIn_of _ (by decide +kernel)) ggX5_meaning_X5_fault
set_option maxRecDepth 20000 in
theorem ggX5_meaning_X5_packedText : GoodIn wsX5_meaning wsX5_packedText := goodIn_r _ [74, 7, 8, 75, 76, 77, 78, 99, 100, 101, 102, 103, 104] (by decide +kernel) (by decide +kernel)
set_option maxRecDepth 20000 in
theorem gX5_meaning_X5_packedText : GoodIn wsX5_meaning (wsV RX5 90 RX5 yX5_packedText wsX5_packedText) := goodIn_app (goodIn_of _ (by decide +kernel)) ggX5_meaning_X5_packedText
set_option maxRecDepth 20000 in
theorem ggX5_meaning_X5_meant : GoodIn wsX5_meaning wsX5_meant := goodIn_r _ [82, 6, 9, 10, 11, 12, 13, 14, 15, 16, 17, 18, 19, 20, 21, 22, 23, 24, 83, 84, 85, 86, 87, 88, 77, 89, 90, 91, 92, 93, 26, 27, 28, 29, 30, 31, 32, 33, 34, 35, 36, 37, 38, 39, 40, 41, 42, 43, 44, 45, 46, 47, 48, 49, 50, 51, 52, 53, 54, 55, 56, 57, 58, 59, 60, 61, 62, 63, 64, 65, 66, 94, 68, 69, 70, 95, 96, 97, 98, 99, 100, 101, 102, 103, 104, 105, 106, 107, 108, 109, 110, 111, 112, 113, 114, 115] (by decide +kernel) (by decide +kernel)
set_option maxRecDepth 20000 in
theorem gX5_meaning_X5_meant : GoodIn wsX5_meaning (wsV RX5 94 RX5 yX5_meant wsX5_meant) := goodIn_app (goodIn_of _ (by decide +kernel)) ggX5_meaning_X5_meant
theorem dX5_meaning_0 : decode cX5_meaning 0 = .ok (.aload_n 0, 1) := by decide +kernel
theorem dX5_meaning_1 : decode cX5_meaning 1 = .ok (.invokevirtual 86, 3) := by decide +kernel
theorem dX5_meaning_4 : decode cX5_meaning 4 = .ok (.bipush (-5), 2) := by decide +kernel
theorem dX5_meaning_6 : decode cX5_meaning 6 = .ok (.if_icmp .eq 8, 3) := by decide +kernel
theorem dX5_meaning_9 : decode cX5_meaning 9 = .ok (.bipush (-3), 2) := by decide +kernel
theorem dX5_meaning_11 : decode cX5_meaning 11 = .ok (.goto 11, 3) := by decide +kernel
theorem dX5_meaning_14 : decode cX5_meaning 14 = .ok (.aload_n 0, 1) := by decide +kernel
theorem dX5_meaning_15 : decode cX5_meaning 15 = .ok (.aload_n 0, 1) := by decide +kernel
theorem dX5_meaning_16 : decode cX5_meaning 16 = .ok (.invokevirtual 90, 3) := by decide +kernel
theorem dX5_meaning_19 : decode cX5_meaning 19 = .ok (.invokevirtual 94, 3) := by decide +kernel
theorem dX5_meaning_22 : decode cX5_meaning 22 = .ok (.ireturn, 1) := by decide +kernel
set_option maxRecDepth 20000 in
theorem ggX5_undo_X1_restore : GoodIn wsX5_undo wsX1_restore := goodIn_r _ [7, 8, 9, 10, 11, 12, 13, 14, 15, 16, 17, 18, 19, 20, 21, 22, 23, 24, 31, 32, 33, 34, 35, 36, 37, 38] (by decide +kernel) (by decide +kernel)
set_option maxRecDepth 20000 in
theorem gX5_undo_X1_restore : GoodIn wsX5_undo (wsV RX5 109 RX1 yX1_restore wsX1_restore) := goodIn_app (goodIn_of _ (by decide +kernel)) ggX5_undo_X1_restore
theorem dX5_undo_0 : decode cX5_undo 0 = .ok (.aload_n 0, 1) := by decide +kernel
theorem dX5_undo_1 : decode cX5_undo 1 = .ok (.getfield 19, 3) := by decide +kernel
theorem dX5_undo_4 : decode cX5_undo 4 = .ok (.aload_n 0, 1) := by decide +kernel
theorem dX5_undo_5 : decode cX5_undo 5 = .ok (.getfield 10, 3) := by decide +kernel
theorem dX5_undo_8 : decode cX5_undo 8 = .ok (.invokevirtual 109, 3) := by decide +kernel
theorem dX5_undo_11 : decode cX5_undo 11 = .ok (.ireturn, 1) := by decide +kernel
set_option maxRecDepth 20000 in
theorem ggX5_ways_X5_isNumber : GoodIn wsX5_ways wsX5_isNumber := goodIn_r _ [6] (by decide +kernel) (by decide +kernel)
set_option maxRecDepth 20000 in
theorem gX5_ways_X5_isNumber : GoodIn wsX5_ways (va_wsS RX5 67 yX5_isNumber wsX5_isNumber) := goodIn_app (goodIn_of _ (by decide +kernel)) ggX5_ways_X5_isNumber
set_option maxRecDepth 20000 in
theorem ggX5_ways_X4_find : GoodIn wsX5_ways wsX4_find := goodIn_r _ [11, 12, 13, 14, 15, 16, 17, 18, 19, 20, 21, 22, 10, 23, 24, 25, 26, 27, 28, 29, 30, 31, 32, 33, 34, 35, 36, 37, 38, 39, 40, 41, 42, 43, 44, 45, 46, 53, 54] (by decide +kernel) (by decide +kernel)
set_option maxRecDepth 20000 in
theorem gX5_ways_X4_find : GoodIn wsX5_ways (wsV RX5 70 RX4 yX4_find wsX4_find) := goodIn_app (goodIn_of _ (by decide +kernel)) ggX5_ways_X4_find
theorem dX5_ways_0 : decode cX5_ways 0 = .ok (.iload_n 1, 1) := by decide +kernel
theorem dX5_ways_1 : decode cX5_ways 1 = .ok (.invokestatic 67, 3) := by decide +kernel
theorem dX5_ways_4 : decode cX5_ways 4 = .ok (.ifCond .ne 6, 3) := by decide +kernel
theorem dX5_ways_7 : decode cX5_ways 7 = .ok (.bipush (-2), 2) := by decide +kernel
theorem dX5_ways_9 : decode cX5_ways 9 = .ok (.ireturn, 1) := by decide +kernel
theorem dX5_ways_10 : decode cX5_ways 10 = .ok (.aload_n 0, 1) := by decide +kernel
theorem dX5_ways_11 : decode cX5_ways 11 = .ok (.getfield 34, 3) := by decide +kernel
theorem dX5_ways_14 : decode cX5_ways 14 = .ok (.iload_n 1, 1) := by decide +kernel
theorem dX5_ways_15 : decode cX5_ways 15 = .ok (.invokevirtual 70, 3) := by decide +kernel
theorem dX5_ways_18 : decode cX5_ways 18 = .ok (.aload_n 0, 1) := by decide +kernel
theorem dX5_ways_19 : decode cX5_ways 19 = .ok (.getfield 34, 3) := by decide +kernel
theorem dX5_ways_22 : decode cX5_ways 22 = .ok (.getfield 113, 3) := by decide +kernel
theorem dX5_ways_25 : decode cX5_ways 25 = .ok (.ireturn, 1) := by decide +kernel
set_option maxRecDepth 20000 in
theorem ggX5_wayLength_X5_isNumber : GoodIn wsX5_wayLength wsX5_isNumber := goodIn_r _ [6] (by decide +kernel) (by decide +kernel)
set_option maxRecDepth 20000 in
theorem gX5_wayLength_X5_isNumber : GoodIn wsX5_wayLength (va_wsS RX5 67 yX5_isNumber wsX5_isNumber) := goodIn_app (goodIn_of _ (by decide +kernel)) ggX5_wayLength_X5_isNumber
set_option maxRecDepth 20000 in
theorem ggX5_wayLength_X4_find : GoodIn wsX5_wayLength wsX4_find := goodIn_r _ [11, 12, 13, 14, 15, 16, 17, 18, 19, 20, 21, 22, 10, 23, 24, 25, 26, 27, 28, 29, 30, 31, 32, 33, 34, 35, 36, 37, 38, 39, 40, 41, 42, 43, 44, 45, 46, 60, 61] (by decide +kernel) (by decide +kernel)
set_option maxRecDepth 20000 in
theorem gX5_wayLength_X4_find : GoodIn wsX5_wayLength (wsV RX5 70 RX4 yX4_find wsX4_find) := goodIn_app (goodIn_of _ (by decide +kernel)) ggX5_wayLength_X4_find
set_option maxRecDepth 20000 in
theorem ggX5_wayLength_X4_at : GoodIn wsX5_wayLength wsX4_at := goodIn_r _ [50, 35, 60, 61] (by decide +kernel) (by decide +kernel)
set_option maxRecDepth 20000 in
theorem gX5_wayLength_X4_at : GoodIn wsX5_wayLength (wsV RX5 78 RX4 yX4_at wsX4_at) := goodIn_app (goodIn_of _ (by decide +kernel)) ggX5_wayLength_X4_at
set_option maxRecDepth 20000 in
theorem ggX5_wayLength_X2_length : GoodIn wsX5_wayLength wsX2_length := goodIn_r _ [53] (by decide +kernel) (by decide +kernel)
set_option maxRecDepth 20000 in
theorem gX5_wayLength_X2_length : GoodIn wsX5_wayLength (va_wsS RX5 116 yX2_length wsX2_length) := goodIn_app (goodIn_of _ (by decide +kernel)) ggX5_wayLength_X2_length
theorem dX5_wayLength_0 : decode cX5_wayLength 0 = .ok (.iload_n 1, 1) := by decide +kernel
theorem dX5_wayLength_1 : decode cX5_wayLength 1 = .ok (.invokestatic 67, 3) := by decide +kernel
theorem dX5_wayLength_4 : decode cX5_wayLength 4 = .ok (.ifCond .eq 7, 3) := by decide +kernel
theorem dX5_wayLength_7 : decode cX5_wayLength 7 = .ok (.iload_n 2, 1) := by decide +kernel
theorem dX5_wayLength_8 : decode cX5_wayLength 8 = .ok (.ifCond .ge 6, 3) := by decide +kernel
theorem dX5_wayLength_11 : decode cX5_wayLength 11 = .ok (.bipush (-2), 2) := by decide +kernel
theorem dX5_wayLength_13 : decode cX5_wayLength 13 = .ok (.ireturn, 1) := by decide +kernel
theorem dX5_wayLength_14 : decode cX5_wayLength 14 = .ok (.aload_n 0, 1) := by decide +kernel
theorem dX5_wayLength_15 : decode cX5_wayLength 15 = .ok (.getfield 34, 3) := by decide +kernel
theorem dX5_wayLength_18 : decode cX5_wayLength 18 = .ok (.iload_n 1, 1) := by decide +kernel
theorem dX5_wayLength_19 : decode cX5_wayLength 19 = .ok (.invokevirtual 70, 3) := by decide +kernel
theorem dX5_wayLength_22 : decode cX5_wayLength 22 = .ok (.iload_n 2, 1) := by decide +kernel
theorem dX5_wayLength_23 : decode cX5_wayLength 23 = .ok (.aload_n 0, 1) := by decide +kernel
theorem dX5_wayLength_24 : decode cX5_wayLength 24 = .ok (.getfield 34, 3) := by decide +kernel
theorem dX5_wayLength_27 : decode cX5_wayLength 27 = .ok (.getfield 113, 3) := by decide +kernel
theorem dX5_wayLength_30 : decode cX5_wayLength 30 = .ok (.if_icmp .ge 17, 3) := by decide +kernel
theorem dX5_wayLength_33 : decode cX5_wayLength 33 = .ok (.aload_n 0, 1) := by decide +kernel
theorem dX5_wayLength_34 : decode cX5_wayLength 34 = .ok (.getfield 34, 3) := by decide +kernel
theorem dX5_wayLength_37 : decode cX5_wayLength 37 = .ok (.iload_n 2, 1) := by decide +kernel
theorem dX5_wayLength_38 : decode cX5_wayLength 38 = .ok (.invokevirtual 78, 3) := by decide +kernel
theorem dX5_wayLength_41 : decode cX5_wayLength 41 = .ok (.invokestatic 116, 3) := by decide +kernel
theorem dX5_wayLength_44 : decode cX5_wayLength 44 = .ok (.goto 5, 3) := by decide +kernel
theorem dX5_wayLength_47 : decode cX5_wayLength 47 = .ok (.bipush (-5), 2) := by decide +kernel
theorem dX5_wayLength_49 : decode cX5_wayLength 49 = .ok (.ireturn, 1) := by decide +kernel
set_option maxRecDepth 20000 in
theorem ggX5_wayAt_X5_isNumber : GoodIn wsX5_wayAt wsX5_isNumber := goodIn_r _ [6] (by decide +kernel) (by decide +kernel)
set_option maxRecDepth 20000 in
theorem gX5_wayAt_X5_isNumber : GoodIn wsX5_wayAt (va_wsS RX5 67 yX5_isNumber wsX5_isNumber) := goodIn_app (goodIn_of _ (by decide +kernel)) ggX5_wayAt_X5_isNumber
set_option maxRecDepth 20000 in
theorem ggX5_wayAt_X4_find : GoodIn wsX5_wayAt wsX4_find := goodIn_r _ [11, 12, 13, 14, 15, 16, 17, 18, 19, 20, 21, 22, 10, 23, 24, 25, 26, 27, 28, 29, 30, 31, 32, 33, 34, 35, 36, 37, 38, 39, 40, 41, 42, 43, 44, 45, 46, 63, 64] (by decide +kernel) (by decide +kernel)
set_option maxRecDepth 20000 in
theorem gX5_wayAt_X4_find : GoodIn wsX5_wayAt (wsV RX5 70 RX4 yX4_find wsX4_find) := goodIn_app (goodIn_of _ (by decide +kernel)) ggX5_wayAt_X4_find
set_option maxRecDepth 20000 in
theorem ggX5_wayAt_X4_at : GoodIn wsX5_wayAt wsX4_at := goodIn_r _ [50, 35, 63, 64] (by decide +kernel) (by decide +kernel)
set_option maxRecDepth 20000 in
theorem gX5_wayAt_X4_at : GoodIn wsX5_wayAt (wsV RX5 78 RX4 yX4_at wsX4_at) := goodIn_app (goodIn_of _ (by decide +kernel)) ggX5_wayAt_X4_at
set_option maxRecDepth 20000 in
theorem ggX5_wayAt_X2_length : GoodIn wsX5_wayAt wsX2_length := goodIn_r _ [53] (by decide +kernel) (by decide +kernel)
set_option maxRecDepth 20000 in
theorem gX5_wayAt_X2_length : GoodIn wsX5_wayAt (va_wsS RX5 116 yX2_length wsX2_length) := goodIn_app (goodIn_of _ (by decide +kernel)) ggX5_wayAt_X2_length
set_option maxRecDepth 20000 in
theorem ggX5_wayAt_X2_character : GoodIn wsX5_wayAt wsX2_character := goodIn_r _ [56] (by decide +kernel) (by decide +kernel)
set_option maxRecDepth 20000 in
theorem gX5_wayAt_X2_character : GoodIn wsX5_wayAt (va_wsS RX5 121 yX2_character wsX2_character) := goodIn_app (goodIn_of _ (by decide +kernel)) ggX5_wayAt_X2_character
theorem dX5_wayAt_0 : decode cX5_wayAt 0 = .ok (.iload_n 1, 1) := by decide +kernel
theorem dX5_wayAt_1 : decode cX5_wayAt 1 = .ok (.invokestatic 67, 3) := by decide +kernel
theorem dX5_wayAt_4 : decode cX5_wayAt 4 = .ok (.ifCond .eq 11, 3) := by decide +kernel
theorem dX5_wayAt_7 : decode cX5_wayAt 7 = .ok (.iload_n 2, 1) := by decide +kernel
theorem dX5_wayAt_8 : decode cX5_wayAt 8 = .ok (.ifCond .lt 7, 3) := by decide +kernel
theorem dX5_wayAt_11 : decode cX5_wayAt 11 = .ok (.iload_n 3, 1) := by decide +kernel
theorem dX5_wayAt_12 : decode cX5_wayAt 12 = .ok (.ifCond .ge 6, 3) := by decide +kernel
theorem dX5_wayAt_15 : decode cX5_wayAt 15 = .ok (.bipush (-2), 2) := by decide +kernel
theorem dX5_wayAt_17 : decode cX5_wayAt 17 = .ok (.ireturn, 1) := by decide +kernel
theorem dX5_wayAt_18 : decode cX5_wayAt 18 = .ok (.aload_n 0, 1) := by decide +kernel
theorem dX5_wayAt_19 : decode cX5_wayAt 19 = .ok (.getfield 34, 3) := by decide +kernel
theorem dX5_wayAt_22 : decode cX5_wayAt 22 = .ok (.iload_n 1, 1) := by decide +kernel
theorem dX5_wayAt_23 : decode cX5_wayAt 23 = .ok (.invokevirtual 70, 3) := by decide +kernel
theorem dX5_wayAt_26 : decode cX5_wayAt 26 = .ok (.iload_n 2, 1) := by decide +kernel
theorem dX5_wayAt_27 : decode cX5_wayAt 27 = .ok (.aload_n 0, 1) := by decide +kernel
theorem dX5_wayAt_28 : decode cX5_wayAt 28 = .ok (.getfield 34, 3) := by decide +kernel
theorem dX5_wayAt_31 : decode cX5_wayAt 31 = .ok (.getfield 113, 3) := by decide +kernel
theorem dX5_wayAt_34 : decode cX5_wayAt 34 = .ok (.if_icmp .lt 6, 3) := by decide +kernel
theorem dX5_wayAt_37 : decode cX5_wayAt 37 = .ok (.bipush (-5), 2) := by decide +kernel
theorem dX5_wayAt_39 : decode cX5_wayAt 39 = .ok (.ireturn, 1) := by decide +kernel
theorem dX5_wayAt_40 : decode cX5_wayAt 40 = .ok (.aload_n 0, 1) := by decide +kernel
theorem dX5_wayAt_41 : decode cX5_wayAt 41 = .ok (.getfield 34, 3) := by decide +kernel
