theorem dX0_init_0 : decode cX0_init 0 = .ok (.aload_n 0, 1) := by decide +kernel
theorem dX0_init_1 : decode cX0_init 1 = .ok (.invokespecial 1, 3) := by decide +kernel
theorem dX0_init_4 : decode cX0_init 4 = .ok (.return_, 1) := by decide +kernel
theorem dX0_listen_0 : decode cX0_listen 0 = .ok (.aload_n 0, 1) := by decide +kernel
theorem dX0_listen_1 : decode cX0_listen 1 = .ok (.iload_n 1, 1) := by decide +kernel
theorem dX0_listen_2 : decode cX0_listen 2 = .ok (.putfield 7, 3) := by decide +kernel
theorem dX0_listen_5 : decode cX0_listen 5 = .ok (.aload_n 0, 1) := by decide +kernel
theorem dX0_listen_6 : decode cX0_listen 6 = .ok (.iload_n 2, 1) := by decide +kernel
theorem dX0_listen_7 : decode cX0_listen 7 = .ok (.putfield 13, 3) := by decide +kernel
theorem dX0_listen_10 : decode cX0_listen 10 = .ok (.aload_n 0, 1) := by decide +kernel
theorem dX0_listen_11 : decode cX0_listen 11 = .ok (.iload_n 3, 1) := by decide +kernel
theorem dX0_listen_12 : decode cX0_listen 12 = .ok (.putfield 16, 3) := by decide +kernel
theorem dX0_listen_15 : decode cX0_listen 15 = .ok (.aload_n 0, 1) := by decide +kernel
theorem dX0_listen_16 : decode cX0_listen 16 = .ok (.iconst 0, 1) := by decide +kernel
theorem dX0_listen_17 : decode cX0_listen 17 = .ok (.putfield 19, 3) := by decide +kernel
theorem dX0_listen_20 : decode cX0_listen 20 = .ok (.aload_n 0, 1) := by decide +kernel
theorem dX0_listen_21 : decode cX0_listen 21 = .ok (.iconst 0, 1) := by decide +kernel
theorem dX0_listen_22 : decode cX0_listen 22 = .ok (.putfield 23, 3) := by decide +kernel
theorem dX0_listen_25 : decode cX0_listen 25 = .ok (.aload_n 0, 1) := by decide +kernel
theorem dX0_listen_26 : decode cX0_listen 26 = .ok (.iconst 0, 1) := by decide +kernel
theorem dX0_listen_27 : decode cX0_listen 27 = .ok (.putfield 26, 3) := by decide +kernel
theorem dX0_listen_30 : decode cX0_listen 30 = .ok (.aload_n 0, 1) := by decide +kernel
theorem dX0_listen_31 : decode cX0_listen 31 = .ok (.iconst 0, 1) := by decide +kernel
theorem dX0_listen_32 : decode cX0_listen 32 = .ok (.putfield 29, 3) := by decide +kernel
theorem dX0_listen_35 : decode cX0_listen 35 = .ok (.aload_n 0, 1) := by decide +kernel
theorem dX0_listen_36 : decode cX0_listen 36 = .ok (.iconst 1, 1) := by decide +kernel
theorem dX0_listen_37 : decode cX0_listen 37 = .ok (.putfield 32, 3) := by decide +kernel
theorem dX0_listen_40 : decode cX0_listen 40 = .ok (.aload_n 0, 1) := by decide +kernel
theorem dX0_listen_41 : decode cX0_listen 41 = .ok (.iconst 0, 1) := by decide +kernel
theorem dX0_listen_42 : decode cX0_listen 42 = .ok (.putfield 35, 3) := by decide +kernel
theorem dX0_listen_45 : decode cX0_listen 45 = .ok (.aload_n 0, 1) := by decide +kernel
theorem dX0_listen_46 : decode cX0_listen 46 = .ok (.iconst 0, 1) := by decide +kernel
theorem dX0_listen_47 : decode cX0_listen 47 = .ok (.putfield 38, 3) := by decide +kernel
theorem dX0_listen_50 : decode cX0_listen 50 = .ok (.aload_n 0, 1) := by decide +kernel
theorem dX0_listen_51 : decode cX0_listen 51 = .ok (.iconst 0, 1) := by decide +kernel
theorem dX0_listen_52 : decode cX0_listen 52 = .ok (.putfield 41, 3) := by decide +kernel
theorem dX0_listen_55 : decode cX0_listen 55 = .ok (.return_, 1) := by decide +kernel
set_option maxRecDepth 20000 in
theorem ggX0_hear_X2_length : GoodIn wsX0_hear wsX2_length := goodIn_r _ [4] (by decide +kernel) (by decide +kernel)
set_option maxRecDepth 20000 in
theorem gX0_hear_X2_length : GoodIn wsX0_hear (va_wsS RX0 44 yX2_length wsX2_length) := goodIn_app (goodIn_of _ (by decide +kernel)) ggX0_hear_X2_length
set_option maxRecDepth 20000 in
theorem ggX0_hear_X2_character : GoodIn wsX0_hear wsX2_character := goodIn_r _ [7] (by decide +kernel) (by decide +kernel)
set_option maxRecDepth 20000 in
theorem gX0_hear_X2_character : GoodIn wsX0_hear (va_wsS RX0 50 yX2_character wsX2_character) := goodIn_app (goodIn_of _ (by decide +kernel)) ggX0_hear_X2_character
set_option maxRecDepth 20000 in
theorem ggX0_hear_X0_take : GoodIn wsX0_hear wsX0_take := goodIn_r _ [12, 13, 14, 15, 16, 11, 17, 18, 19, 20, 21, 22, 23, 24, 25, 26, 27, 28, 29, 30, 31, 32, 33, 34, 35, 36, 37, 38, 39, 40, 41, 42, 43, 44, 45, 46, 47, 48, 49, 50, 51, 52, 53, 54, 55, 56, 57, 58, 59, 60, 70, 71, 72, 73, 74, 75, 76, 77, 78, 79, 80] (by decide +kernel) (by decide +kernel)
set_option maxRecDepth 20000 in
theorem gX0_hear_X0_take : GoodIn wsX0_hear (wsV RX0 54 RX0 yX0_take wsX0_take) := goodIn_app (goodIn_of _ (by decide +kernel)) ggX0_hear_X0_take
set_option maxRecDepth 20000 in
theorem ggX0_hear_X0_isComplete : GoodIn wsX0_hear wsX0_isComplete := goodIn_r _ [64, 13, 70, 71, 72, 73, 74, 75, 76, 77, 78, 79, 80] (by decide +kernel) (by decide +kernel)
set_option maxRecDepth 20000 in
theorem gX0_hear_X0_isComplete : GoodIn wsX0_hear (wsV RX0 58 RX0 yX0_isComplete wsX0_isComplete) := goodIn_app (goodIn_of _ (by decide +kernel)) ggX0_hear_X0_isComplete
set_option maxRecDepth 20000 in
theorem ggX0_hear_X0_number : GoodIn wsX0_hear wsX0_number := goodIn_r _ [68, 46, 44, 42, 69, 51, 70, 71, 72, 73, 74, 75, 76, 77, 78, 79, 80] (by decide +kernel) (by decide +kernel)
set_option maxRecDepth 20000 in
theorem gX0_hear_X0_number : GoodIn wsX0_hear (wsV RX0 62 RX0 yX0_number wsX0_number) := goodIn_app (goodIn_of _ (by decide +kernel)) ggX0_hear_X0_number
theorem dX0_hear_0 : decode cX0_hear 0 = .ok (.lload_n 1, 1) := by decide +kernel
theorem dX0_hear_1 : decode cX0_hear 1 = .ok (.invokestatic 44, 3) := by decide +kernel
theorem dX0_hear_4 : decode cX0_hear 4 = .ok (.istore 4, 2) := by decide +kernel
theorem dX0_hear_6 : decode cX0_hear 6 = .ok (.iconst 0, 1) := by decide +kernel
theorem dX0_hear_7 : decode cX0_hear 7 = .ok (.istore 5, 2) := by decide +kernel
theorem dX0_hear_9 : decode cX0_hear 9 = .ok (.iload 5, 2) := by decide +kernel
theorem dX0_hear_11 : decode cX0_hear 11 = .ok (.iload 4, 2) := by decide +kernel
theorem dX0_hear_13 : decode cX0_hear 13 = .ok (.if_icmp .ge 35, 3) := by decide +kernel
theorem dX0_hear_16 : decode cX0_hear 16 = .ok (.iload 5, 2) := by decide +kernel
theorem dX0_hear_18 : decode cX0_hear 18 = .ok (.iload_n 3, 1) := by decide +kernel
theorem dX0_hear_19 : decode cX0_hear 19 = .ok (.if_icmp .ge 29, 3) := by decide +kernel
theorem dX0_hear_22 : decode cX0_hear 22 = .ok (.aload_n 0, 1) := by decide +kernel
theorem dX0_hear_23 : decode cX0_hear 23 = .ok (.lload_n 1, 1) := by decide +kernel
theorem dX0_hear_24 : decode cX0_hear 24 = .ok (.iload 4, 2) := by decide +kernel
theorem dX0_hear_26 : decode cX0_hear 26 = .ok (.iconst 1, 1) := by decide +kernel
theorem dX0_hear_27 : decode cX0_hear 27 = .ok (.isub, 1) := by decide +kernel
theorem dX0_hear_28 : decode cX0_hear 28 = .ok (.iload 5, 2) := by decide +kernel
theorem dX0_hear_30 : decode cX0_hear 30 = .ok (.isub, 1) := by decide +kernel
theorem dX0_hear_31 : decode cX0_hear 31 = .ok (.invokestatic 50, 3) := by decide +kernel
theorem dX0_hear_34 : decode cX0_hear 34 = .ok (.invokevirtual 54, 3) := by decide +kernel
theorem dX0_hear_37 : decode cX0_hear 37 = .ok (.ifCond .ne 5, 3) := by decide +kernel
theorem dX0_hear_40 : decode cX0_hear 40 = .ok (.iconst 0, 1) := by decide +kernel
theorem dX0_hear_41 : decode cX0_hear 41 = .ok (.ireturn, 1) := by decide +kernel
theorem dX0_hear_42 : decode cX0_hear 42 = .ok (.iinc 5 1, 3) := by decide +kernel
theorem dX0_hear_45 : decode cX0_hear 45 = .ok (.goto (-36), 3) := by decide +kernel
theorem dX0_hear_48 : decode cX0_hear 48 = .ok (.aload_n 0, 1) := by decide +kernel
theorem dX0_hear_49 : decode cX0_hear 49 = .ok (.invokevirtual 58, 3) := by decide +kernel
theorem dX0_hear_52 : decode cX0_hear 52 = .ok (.ifCond .eq 10, 3) := by decide +kernel
theorem dX0_hear_55 : decode cX0_hear 55 = .ok (.aload_n 0, 1) := by decide +kernel
theorem dX0_hear_56 : decode cX0_hear 56 = .ok (.invokevirtual 62, 3) := by decide +kernel
theorem dX0_hear_59 : decode cX0_hear 59 = .ok (.goto 4, 3) := by decide +kernel
theorem dX0_hear_62 : decode cX0_hear 62 = .ok (.iconst 0, 1) := by decide +kernel
theorem dX0_hear_63 : decode cX0_hear 63 = .ok (.ireturn, 1) := by decide +kernel
set_option maxRecDepth 20000 in
theorem ggX0_take_X0_following : GoodIn wsX0_take wsX0_following := goodIn_r _ [6, 1, 7, 8, 9, 5, 10, 11, 12, 13, 14, 15, 16, 17, 18, 19, 20, 21, 22, 23, 24, 25, 50, 51, 52, 53, 54, 55, 56, 57, 58, 59, 60] (by decide +kernel) (by decide +kernel)
set_option maxRecDepth 20000 in
theorem gX0_take_X0_following : GoodIn wsX0_take (wsV RX0 66 RX0 yX0_following wsX0_following) := goodIn_app (goodIn_of _ (by decide +kernel)) ggX0_take_X0_following
set_option maxRecDepth 20000 in
theorem ggX0_take_X0_keep : GoodIn wsX0_take wsX0_keep := goodIn_r _ [29, 30, 31, 11, 32, 33, 34, 35, 36, 37, 38, 5, 39, 1, 40, 41, 42, 43, 44, 45, 46, 47, 48, 49, 50, 51, 52, 53, 54, 55, 56, 57, 58, 59, 60] (by decide +kernel) (by decide +kernel)
set_option maxRecDepth 20000 in
theorem gX0_take_X0_keep : GoodIn wsX0_take (wsV RX0 70 RX0 yX0_keep wsX0_keep) := goodIn_app (goodIn_of _ (by decide +kernel)) ggX0_take_X0_keep
theorem dX0_take_0 : decode cX0_take 0 = .ok (.aload_n 0, 1) := by decide +kernel
theorem dX0_take_1 : decode cX0_take 1 = .ok (.iload_n 1, 1) := by decide +kernel
theorem dX0_take_2 : decode cX0_take 2 = .ok (.invokevirtual 66, 3) := by decide +kernel
theorem dX0_take_5 : decode cX0_take 5 = .ok (.istore_n 2, 1) := by decide +kernel
theorem dX0_take_6 : decode cX0_take 6 = .ok (.iload_n 2, 1) := by decide +kernel
theorem dX0_take_7 : decode cX0_take 7 = .ok (.iconst (-1), 1) := by decide +kernel
theorem dX0_take_8 : decode cX0_take 8 = .ok (.if_icmp .ne 5, 3) := by decide +kernel
theorem dX0_take_11 : decode cX0_take 11 = .ok (.iconst 0, 1) := by decide +kernel
theorem dX0_take_12 : decode cX0_take 12 = .ok (.ireturn, 1) := by decide +kernel
theorem dX0_take_13 : decode cX0_take 13 = .ok (.aload_n 0, 1) := by decide +kernel
theorem dX0_take_14 : decode cX0_take 14 = .ok (.iload_n 1, 1) := by decide +kernel
theorem dX0_take_15 : decode cX0_take 15 = .ok (.invokevirtual 70, 3) := by decide +kernel
theorem dX0_take_18 : decode cX0_take 18 = .ok (.aload_n 0, 1) := by decide +kernel
theorem dX0_take_19 : decode cX0_take 19 = .ok (.iload_n 2, 1) := by decide +kernel
theorem dX0_take_20 : decode cX0_take 20 = .ok (.putfield 19, 3) := by decide +kernel
theorem dX0_take_23 : decode cX0_take 23 = .ok (.iconst 1, 1) := by decide +kernel
theorem dX0_take_24 : decode cX0_take 24 = .ok (.ireturn, 1) := by decide +kernel
theorem dX0_isComplete_0 : decode cX0_isComplete 0 = .ok (.aload_n 0, 1) := by decide +kernel
theorem dX0_isComplete_1 : decode cX0_isComplete 1 = .ok (.getfield 19, 3) := by decide +kernel
theorem dX0_isComplete_4 : decode cX0_isComplete 4 = .ok (.iconst 3, 1) := by decide +kernel
theorem dX0_isComplete_5 : decode cX0_isComplete 5 = .ok (.if_icmp .eq 37, 3) := by decide +kernel
theorem dX0_isComplete_8 : decode cX0_isComplete 8 = .ok (.aload_n 0, 1) := by decide +kernel
theorem dX0_isComplete_9 : decode cX0_isComplete 9 = .ok (.getfield 19, 3) := by decide +kernel
theorem dX0_isComplete_12 : decode cX0_isComplete 12 = .ok (.iconst 4, 1) := by decide +kernel
theorem dX0_isComplete_13 : decode cX0_isComplete 13 = .ok (.if_icmp .eq 29, 3) := by decide +kernel
theorem dX0_isComplete_16 : decode cX0_isComplete 16 = .ok (.aload_n 0, 1) := by decide +kernel
theorem dX0_isComplete_17 : decode cX0_isComplete 17 = .ok (.getfield 19, 3) := by decide +kernel
theorem dX0_isComplete_20 : decode cX0_isComplete 20 = .ok (.iconst 5, 1) := by decide +kernel
theorem dX0_isComplete_21 : decode cX0_isComplete 21 = .ok (.if_icmp .eq 21, 3) := by decide +kernel
theorem dX0_isComplete_24 : decode cX0_isComplete 24 = .ok (.aload_n 0, 1) := by decide +kernel
theorem dX0_isComplete_25 : decode cX0_isComplete 25 = .ok (.getfield 19, 3) := by decide +kernel
theorem dX0_isComplete_28 : decode cX0_isComplete 28 = .ok (.bipush 6, 2) := by decide +kernel
theorem dX0_isComplete_30 : decode cX0_isComplete 30 = .ok (.if_icmp .eq 12, 3) := by decide +kernel
theorem dX0_isComplete_33 : decode cX0_isComplete 33 = .ok (.aload_n 0, 1) := by decide +kernel
theorem dX0_isComplete_34 : decode cX0_isComplete 34 = .ok (.getfield 19, 3) := by decide +kernel
theorem dX0_isComplete_37 : decode cX0_isComplete 37 = .ok (.bipush 11, 2) := by decide +kernel
theorem dX0_isComplete_39 : decode cX0_isComplete 39 = .ok (.if_icmp .ne 7, 3) := by decide +kernel
theorem dX0_isComplete_42 : decode cX0_isComplete 42 = .ok (.iconst 1, 1) := by decide +kernel
theorem dX0_isComplete_43 : decode cX0_isComplete 43 = .ok (.goto 4, 3) := by decide +kernel
theorem dX0_isComplete_46 : decode cX0_isComplete 46 = .ok (.iconst 0, 1) := by decide +kernel
theorem dX0_isComplete_47 : decode cX0_isComplete 47 = .ok (.ireturn, 1) := by decide +kernel
theorem dX0_number_0 : decode cX0_number 0 = .ok (.aload_n 0, 1) := by decide +kernel
theorem dX0_number_1 : decode cX0_number 1 = .ok (.getfield 35, 3) := by decide +kernel
theorem dX0_number_4 : decode cX0_number 4 = .ok (.aload_n 0, 1) := by decide +kernel
theorem dX0_number_5 : decode cX0_number 5 = .ok (.getfield 38, 3) := by decide +kernel
theorem dX0_number_8 : decode cX0_number 8 = .ok (.iadd, 1) := by decide +kernel
theorem dX0_number_9 : decode cX0_number 9 = .ok (.aload_n 0, 1) := by decide +kernel
theorem dX0_number_10 : decode cX0_number 10 = .ok (.getfield 29, 3) := by decide +kernel
theorem dX0_number_13 : decode cX0_number 13 = .ok (.ifCond .eq 18, 3) := by decide +kernel
theorem dX0_number_16 : decode cX0_number 16 = .ok (.aload_n 0, 1) := by decide +kernel
theorem dX0_number_17 : decode cX0_number 17 = .ok (.getfield 13, 3) := by decide +kernel
theorem dX0_number_20 : decode cX0_number 20 = .ok (.ifCond .eq 11, 3) := by decide +kernel
theorem dX0_number_23 : decode cX0_number 23 = .ok (.aload_n 0, 1) := by decide +kernel
theorem dX0_number_24 : decode cX0_number 24 = .ok (.getfield 41, 3) := by decide +kernel
theorem dX0_number_27 : decode cX0_number 27 = .ok (.ineg, 1) := by decide +kernel
theorem dX0_number_28 : decode cX0_number 28 = .ok (.goto 7, 3) := by decide +kernel
theorem dX0_number_31 : decode cX0_number 31 = .ok (.aload_n 0, 1) := by decide +kernel
theorem dX0_number_32 : decode cX0_number 32 = .ok (.getfield 41, 3) := by decide +kernel
theorem dX0_number_35 : decode cX0_number 35 = .ok (.iadd, 1) := by decide +kernel
theorem dX0_number_36 : decode cX0_number 36 = .ok (.ireturn, 1) := by decide +kernel
set_option maxRecDepth 20000 in
theorem ggX0_following_X0_afterStart : GoodIn wsX0_following wsX0_afterStart := goodIn_r _ [6, 7, 22, 23, 24, 25, 26, 27, 28, 29, 30, 31, 32] (by decide +kernel) (by decide +kernel)
set_option maxRecDepth 20000 in
theorem gX0_following_X0_afterStart : GoodIn wsX0_following (wsV RX0 74 RX0 yX0_afterStart wsX0_afterStart) := goodIn_app (goodIn_of _ (by decide +kernel)) ggX0_following_X0_afterStart
set_option maxRecDepth 20000 in
theorem ggX0_following_X0_isCountUnit : GoodIn wsX0_following wsX0_isCountUnit := goodIn_r _ [10] (by decide +kernel) (by decide +kernel)
set_option maxRecDepth 20000 in
theorem gX0_following_X0_isCountUnit : GoodIn wsX0_following (va_wsS RX0 77 yX0_isCountUnit wsX0_isCountUnit) := goodIn_app (goodIn_of _ (by decide +kernel)) ggX0_following_X0_isCountUnit
set_option maxRecDepth 20000 in
theorem ggX0_following_X0_afterCount : GoodIn wsX0_following wsX0_afterCount := goodIn_r _ [14, 7, 22, 23, 24, 25, 26, 27, 28, 29, 30, 31, 32] (by decide +kernel) (by decide +kernel)
set_option maxRecDepth 20000 in
theorem gX0_following_X0_afterCount : GoodIn wsX0_following (wsV RX0 80 RX0 yX0_afterCount wsX0_afterCount) := goodIn_app (goodIn_of _ (by decide +kernel)) ggX0_following_X0_afterCount
set_option maxRecDepth 20000 in
theorem ggX0_following_X0_isUnit : GoodIn wsX0_following wsX0_isUnit := goodIn_r _ [17] (by decide +kernel) (by decide +kernel)
set_option maxRecDepth 20000 in
theorem gX0_following_X0_isUnit : GoodIn wsX0_following (va_wsS RX0 83 yX0_isUnit wsX0_isUnit) := goodIn_app (goodIn_of _ (by decide +kernel)) ggX0_following_X0_isUnit
set_option maxRecDepth 20000 in
theorem ggX0_following_X0_afterLess : GoodIn wsX0_following wsX0_afterLess := goodIn_r _ [21] (by decide +kernel) (by decide +kernel)
set_option maxRecDepth 20000 in
theorem gX0_following_X0_afterLess : GoodIn wsX0_following (wsV RX0 86 RX0 yX0_afterLess wsX0_afterLess) := goodIn_app (goodIn_of _ (by decide +kernel)) ggX0_following_X0_afterLess
theorem dX0_following_0 : decode cX0_following 0 = .ok (.aload_n 0, 1) := by decide +kernel
theorem dX0_following_1 : decode cX0_following 1 = .ok (.getfield 19, 3) := by decide +kernel
theorem dX0_following_4 : decode cX0_following 4 = .ok (.tableswitch 187 0 10 #[60, 66, 79, 85, 102, 115, 127, 140, 154, 160, 174], 60) := by decide +kernel
theorem dX0_following_64 : decode cX0_following 64 = .ok (.aload_n 0, 1) := by decide +kernel
theorem dX0_following_65 : decode cX0_following 65 = .ok (.iload_n 1, 1) := by decide +kernel
theorem dX0_following_66 : decode cX0_following 66 = .ok (.invokevirtual 74, 3) := by decide +kernel
theorem dX0_following_69 : decode cX0_following 69 = .ok (.ireturn, 1) := by decide +kernel
theorem dX0_following_70 : decode cX0_following 70 = .ok (.iload_n 1, 1) := by decide +kernel
theorem dX0_following_71 : decode cX0_following 71 = .ok (.invokestatic 77, 3) := by decide +kernel
theorem dX0_following_74 : decode cX0_following 74 = .ok (.ifCond .eq 7, 3) := by decide +kernel
theorem dX0_following_77 : decode cX0_following 77 = .ok (.iconst 2, 1) := by decide +kernel
theorem dX0_following_78 : decode cX0_following 78 = .ok (.goto 4, 3) := by decide +kernel
theorem dX0_following_81 : decode cX0_following 81 = .ok (.iconst (-1), 1) := by decide +kernel
theorem dX0_following_82 : decode cX0_following 82 = .ok (.ireturn, 1) := by decide +kernel
theorem dX0_following_83 : decode cX0_following 83 = .ok (.aload_n 0, 1) := by decide +kernel
theorem dX0_following_84 : decode cX0_following 84 = .ok (.iload_n 1, 1) := by decide +kernel
theorem dX0_following_85 : decode cX0_following 85 = .ok (.invokevirtual 80, 3) := by decide +kernel
theorem dX0_following_88 : decode cX0_following 88 = .ok (.ireturn, 1) := by decide +kernel
theorem dX0_following_89 : decode cX0_following 89 = .ok (.iload_n 1, 1) := by decide +kernel
theorem dX0_following_90 : decode cX0_following 90 = .ok (.bipush 45, 2) := by decide +kernel
theorem dX0_following_92 : decode cX0_following 92 = .ok (.if_icmp .ne 8, 3) := by decide +kernel
theorem dX0_following_95 : decode cX0_following 95 = .ok (.bipush 8, 2) := by decide +kernel
theorem dX0_following_97 : decode cX0_following 97 = .ok (.goto 8, 3) := by decide +kernel
theorem dX0_following_100 : decode cX0_following 100 = .ok (.aload_n 0, 1) := by decide +kernel
theorem dX0_following_101 : decode cX0_following 101 = .ok (.iload_n 1, 1) := by decide +kernel
theorem dX0_following_102 : decode cX0_following 102 = .ok (.invokevirtual 80, 3) := by decide +kernel
theorem dX0_following_105 : decode cX0_following 105 = .ok (.ireturn, 1) := by decide +kernel
theorem dX0_following_106 : decode cX0_following 106 = .ok (.iload_n 1, 1) := by decide +kernel
theorem dX0_following_107 : decode cX0_following 107 = .ok (.bipush 45, 2) := by decide +kernel
theorem dX0_following_109 : decode cX0_following 109 = .ok (.if_icmp .ne 8, 3) := by decide +kernel
theorem dX0_following_112 : decode cX0_following 112 = .ok (.bipush 8, 2) := by decide +kernel
theorem dX0_following_114 : decode cX0_following 114 = .ok (.goto 4, 3) := by decide +kernel
theorem dX0_following_117 : decode cX0_following 117 = .ok (.iconst (-1), 1) := by decide +kernel
theorem dX0_following_118 : decode cX0_following 118 = .ok (.ireturn, 1) := by decide +kernel
theorem dX0_following_119 : decode cX0_following 119 = .ok (.iload_n 1, 1) := by decide +kernel
theorem dX0_following_120 : decode cX0_following 120 = .ok (.bipush 38, 2) := by decide +kernel
theorem dX0_following_122 : decode cX0_following 122 = .ok (.if_icmp .ne 7, 3) := by decide +kernel
theorem dX0_following_125 : decode cX0_following 125 = .ok (.iconst 0, 1) := by decide +kernel
theorem dX0_following_126 : decode cX0_following 126 = .ok (.goto 4, 3) := by decide +kernel
theorem dX0_following_129 : decode cX0_following 129 = .ok (.iconst (-1), 1) := by decide +kernel
theorem dX0_following_130 : decode cX0_following 130 = .ok (.ireturn, 1) := by decide +kernel
theorem dX0_following_131 : decode cX0_following 131 = .ok (.iload_n 1, 1) := by decide +kernel
theorem dX0_following_132 : decode cX0_following 132 = .ok (.bipush 43, 2) := by decide +kernel
theorem dX0_following_134 : decode cX0_following 134 = .ok (.if_icmp .ne 8, 3) := by decide +kernel
theorem dX0_following_137 : decode cX0_following 137 = .ok (.bipush 7, 2) := by decide +kernel
theorem dX0_following_139 : decode cX0_following 139 = .ok (.goto 4, 3) := by decide +kernel
theorem dX0_following_142 : decode cX0_following 142 = .ok (.iconst (-1), 1) := by decide +kernel
theorem dX0_following_143 : decode cX0_following 143 = .ok (.ireturn, 1) := by decide +kernel
theorem dX0_following_144 : decode cX0_following 144 = .ok (.iload_n 1, 1) := by decide +kernel
theorem dX0_following_145 : decode cX0_following 145 = .ok (.invokestatic 83, 3) := by decide +kernel
theorem dX0_following_148 : decode cX0_following 148 = .ok (.ifCond .eq 8, 3) := by decide +kernel
theorem dX0_following_151 : decode cX0_following 151 = .ok (.bipush 11, 2) := by decide +kernel
theorem dX0_following_153 : decode cX0_following 153 = .ok (.goto 4, 3) := by decide +kernel
theorem dX0_following_156 : decode cX0_following 156 = .ok (.iconst (-1), 1) := by decide +kernel
theorem dX0_following_157 : decode cX0_following 157 = .ok (.ireturn, 1) := by decide +kernel
theorem dX0_following_158 : decode cX0_following 158 = .ok (.aload_n 0, 1) := by decide +kernel
theorem dX0_following_159 : decode cX0_following 159 = .ok (.iload_n 1, 1) := by decide +kernel
theorem dX0_following_160 : decode cX0_following 160 = .ok (.invokevirtual 86, 3) := by decide +kernel
theorem dX0_following_163 : decode cX0_following 163 = .ok (.ireturn, 1) := by decide +kernel
theorem dX0_following_164 : decode cX0_following 164 = .ok (.iload_n 1, 1) := by decide +kernel
theorem dX0_following_165 : decode cX0_following 165 = .ok (.invokestatic 77, 3) := by decide +kernel
theorem dX0_following_168 : decode cX0_following 168 = .ok (.ifCond .eq 8, 3) := by decide +kernel
theorem dX0_following_171 : decode cX0_following 171 = .ok (.bipush 10, 2) := by decide +kernel
theorem dX0_following_173 : decode cX0_following 173 = .ok (.goto 4, 3) := by decide +kernel
theorem dX0_following_176 : decode cX0_following 176 = .ok (.iconst (-1), 1) := by decide +kernel
theorem dX0_following_177 : decode cX0_following 177 = .ok (.ireturn, 1) := by decide +kernel
theorem dX0_following_178 : decode cX0_following 178 = .ok (.iload_n 1, 1) := by decide +kernel
theorem dX0_following_179 : decode cX0_following 179 = .ok (.bipush 83, 2) := by decide +kernel
theorem dX0_following_181 : decode cX0_following 181 = .ok (.if_icmp .ne 8, 3) := by decide +kernel
theorem dX0_following_184 : decode cX0_following 184 = .ok (.bipush 11, 2) := by decide +kernel
theorem dX0_following_186 : decode cX0_following 186 = .ok (.goto 4, 3) := by decide +kernel
theorem dX0_following_189 : decode cX0_following 189 = .ok (.iconst (-1), 1) := by decide +kernel
theorem dX0_following_190 : decode cX0_following 190 = .ok (.ireturn, 1) := by decide +kernel
theorem dX0_following_191 : decode cX0_following 191 = .ok (.iconst (-1), 1) := by decide +kernel
theorem dX0_following_192 : decode cX0_following 192 = .ok (.ireturn, 1) := by decide +kernel
theorem dX0_afterStart_0 : decode cX0_afterStart 0 = .ok (.iload_n 1, 1) := by decide +kernel
theorem dX0_afterStart_1 : decode cX0_afterStart 1 = .ok (.lookupswitch 63 #[(71, 48), (72, 43), (83, 45), (97, 61)], 43) := by decide +kernel
theorem dX0_afterStart_44 : decode cX0_afterStart 44 = .ok (.iconst 1, 1) := by decide +kernel
theorem dX0_afterStart_45 : decode cX0_afterStart 45 = .ok (.ireturn, 1) := by decide +kernel
theorem dX0_afterStart_46 : decode cX0_afterStart 46 = .ok (.bipush 6, 2) := by decide +kernel
theorem dX0_afterStart_48 : decode cX0_afterStart 48 = .ok (.ireturn, 1) := by decide +kernel
theorem dX0_afterStart_49 : decode cX0_afterStart 49 = .ok (.aload_n 0, 1) := by decide +kernel
theorem dX0_afterStart_50 : decode cX0_afterStart 50 = .ok (.getfield 23, 3) := by decide +kernel
theorem dX0_afterStart_53 : decode cX0_afterStart 53 = .ok (.ifCond .eq 7, 3) := by decide +kernel
theorem dX0_afterStart_56 : decode cX0_afterStart 56 = .ok (.iconst (-1), 1) := by decide +kernel
theorem dX0_afterStart_57 : decode cX0_afterStart 57 = .ok (.goto 4, 3) := by decide +kernel
theorem dX0_afterStart_60 : decode cX0_afterStart 60 = .ok (.iconst 5, 1) := by decide +kernel
theorem dX0_afterStart_61 : decode cX0_afterStart 61 = .ok (.ireturn, 1) := by decide +kernel
theorem dX0_afterStart_62 : decode cX0_afterStart 62 = .ok (.iconst 4, 1) := by decide +kernel
theorem dX0_afterStart_63 : decode cX0_afterStart 63 = .ok (.ireturn, 1) := by decide +kernel
theorem dX0_afterStart_64 : decode cX0_afterStart 64 = .ok (.iload_n 1, 1) := by decide +kernel
theorem dX0_afterStart_65 : decode cX0_afterStart 65 = .ok (.bipush 98, 2) := by decide +kernel
theorem dX0_afterStart_67 : decode cX0_afterStart 67 = .ok (.if_icmp .lt 13, 3) := by decide +kernel
theorem dX0_afterStart_70 : decode cX0_afterStart 70 = .ok (.iload_n 1, 1) := by decide +kernel
theorem dX0_afterStart_71 : decode cX0_afterStart 71 = .ok (.bipush 115, 2) := by decide +kernel
theorem dX0_afterStart_73 : decode cX0_afterStart 73 = .ok (.if_icmp .gt 7, 3) := by decide +kernel
theorem dX0_afterStart_76 : decode cX0_afterStart 76 = .ok (.iconst 3, 1) := by decide +kernel
theorem dX0_afterStart_77 : decode cX0_afterStart 77 = .ok (.goto 4, 3) := by decide +kernel
theorem dX0_afterStart_80 : decode cX0_afterStart 80 = .ok (.iconst (-1), 1) := by decide +kernel
theorem dX0_afterStart_81 : decode cX0_afterStart 81 = .ok (.ireturn, 1) := by decide +kernel
theorem dX0_afterCount_0 : decode cX0_afterCount 0 = .ok (.iload_n 1, 1) := by decide +kernel
theorem dX0_afterCount_1 : decode cX0_afterCount 1 = .ok (.bipush 83, 2) := by decide +kernel
theorem dX0_afterCount_3 : decode cX0_afterCount 3 = .ok (.if_icmp .ne 6, 3) := by decide +kernel
theorem dX0_afterCount_6 : decode cX0_afterCount 6 = .ok (.bipush 6, 2) := by decide +kernel
theorem dX0_afterCount_8 : decode cX0_afterCount 8 = .ok (.ireturn, 1) := by decide +kernel
theorem dX0_afterCount_9 : decode cX0_afterCount 9 = .ok (.iload_n 1, 1) := by decide +kernel
theorem dX0_afterCount_10 : decode cX0_afterCount 10 = .ok (.bipush 71, 2) := by decide +kernel
theorem dX0_afterCount_12 : decode cX0_afterCount 12 = .ok (.if_icmp .ne 14, 3) := by decide +kernel
theorem dX0_afterCount_15 : decode cX0_afterCount 15 = .ok (.aload_n 0, 1) := by decide +kernel
theorem dX0_afterCount_16 : decode cX0_afterCount 16 = .ok (.getfield 23, 3) := by decide +kernel
theorem dX0_afterCount_19 : decode cX0_afterCount 19 = .ok (.ifCond .ne 7, 3) := by decide +kernel
theorem dX0_afterCount_22 : decode cX0_afterCount 22 = .ok (.iconst 5, 1) := by decide +kernel
theorem dX0_afterCount_23 : decode cX0_afterCount 23 = .ok (.goto 4, 3) := by decide +kernel
theorem dX0_afterCount_26 : decode cX0_afterCount 26 = .ok (.iconst (-1), 1) := by decide +kernel
theorem dX0_afterCount_27 : decode cX0_afterCount 27 = .ok (.ireturn, 1) := by decide +kernel
theorem dX0_afterLess_0 : decode cX0_afterLess 0 = .ok (.iload_n 1, 1) := by decide +kernel
theorem dX0_afterLess_1 : decode cX0_afterLess 1 = .ok (.lookupswitch 33 #[(72, 27), (83, 30)], 27) := by decide +kernel
theorem dX0_afterLess_28 : decode cX0_afterLess 28 = .ok (.bipush 9, 2) := by decide +kernel
theorem dX0_afterLess_30 : decode cX0_afterLess 30 = .ok (.ireturn, 1) := by decide +kernel
theorem dX0_afterLess_31 : decode cX0_afterLess 31 = .ok (.bipush 11, 2) := by decide +kernel
theorem dX0_afterLess_33 : decode cX0_afterLess 33 = .ok (.ireturn, 1) := by decide +kernel
theorem dX0_afterLess_34 : decode cX0_afterLess 34 = .ok (.iload_n 1, 1) := by decide +kernel
theorem dX0_afterLess_35 : decode cX0_afterLess 35 = .ok (.bipush 98, 2) := by decide +kernel
theorem dX0_afterLess_37 : decode cX0_afterLess 37 = .ok (.if_icmp .lt 14, 3) := by decide +kernel
theorem dX0_afterLess_40 : decode cX0_afterLess 40 = .ok (.iload_n 1, 1) := by decide +kernel
theorem dX0_afterLess_41 : decode cX0_afterLess 41 = .ok (.bipush 115, 2) := by decide +kernel
theorem dX0_afterLess_43 : decode cX0_afterLess 43 = .ok (.if_icmp .gt 8, 3) := by decide +kernel
theorem dX0_afterLess_46 : decode cX0_afterLess 46 = .ok (.bipush 10, 2) := by decide +kernel
theorem dX0_afterLess_48 : decode cX0_afterLess 48 = .ok (.goto 4, 3) := by decide +kernel
theorem dX0_afterLess_51 : decode cX0_afterLess 51 = .ok (.iconst (-1), 1) := by decide +kernel
theorem dX0_afterLess_52 : decode cX0_afterLess 52 = .ok (.ireturn, 1) := by decide +kernel
theorem dX0_isUnit_0 : decode cX0_isUnit 0 = .ok (.iload_n 0, 1) := by decide +kernel
theorem dX0_isUnit_1 : decode cX0_isUnit 1 = .ok (.bipush 97, 2) := by decide +kernel
theorem dX0_isUnit_3 : decode cX0_isUnit 3 = .ok (.if_icmp .lt 13, 3) := by decide +kernel
theorem dX0_isUnit_6 : decode cX0_isUnit 6 = .ok (.iload_n 0, 1) := by decide +kernel
theorem dX0_isUnit_7 : decode cX0_isUnit 7 = .ok (.bipush 115, 2) := by decide +kernel
theorem dX0_isUnit_9 : decode cX0_isUnit 9 = .ok (.if_icmp .gt 7, 3) := by decide +kernel
theorem dX0_isUnit_12 : decode cX0_isUnit 12 = .ok (.iconst 1, 1) := by decide +kernel
theorem dX0_isUnit_13 : decode cX0_isUnit 13 = .ok (.goto 4, 3) := by decide +kernel
theorem dX0_isUnit_16 : decode cX0_isUnit 16 = .ok (.iconst 0, 1) := by decide +kernel
theorem dX0_isUnit_17 : decode cX0_isUnit 17 = .ok (.ireturn, 1) := by decide +kernel
theorem dX0_isCountUnit_0 : decode cX0_isCountUnit 0 = .ok (.iload_n 0, 1) := by decide +kernel
theorem dX0_isCountUnit_1 : decode cX0_isCountUnit 1 = .ok (.bipush 98, 2) := by decide +kernel
theorem dX0_isCountUnit_3 : decode cX0_isCountUnit 3 = .ok (.if_icmp .lt 13, 3) := by decide +kernel
theorem dX0_isCountUnit_6 : decode cX0_isCountUnit 6 = .ok (.iload_n 0, 1) := by decide +kernel
theorem dX0_isCountUnit_7 : decode cX0_isCountUnit 7 = .ok (.bipush 115, 2) := by decide +kernel
theorem dX0_isCountUnit_9 : decode cX0_isCountUnit 9 = .ok (.if_icmp .gt 7, 3) := by decide +kernel
theorem dX0_isCountUnit_12 : decode cX0_isCountUnit 12 = .ok (.iconst 1, 1) := by decide +kernel
theorem dX0_isCountUnit_13 : decode cX0_isCountUnit 13 = .ok (.goto 4, 3) := by decide +kernel
theorem dX0_isCountUnit_16 : decode cX0_isCountUnit 16 = .ok (.iconst 0, 1) := by decide +kernel
theorem dX0_isCountUnit_17 : decode cX0_isCountUnit 17 = .ok (.ireturn, 1) := by decide +kernel
set_option maxRecDepth 20000 in
theorem ggX0_keep_X0_takeUnitAsCount : GoodIn wsX0_keep wsX0_takeUnitAsCount := goodIn_r _ [12, 13, 14, 4, 24, 25, 26, 27, 28, 29, 30, 31, 32, 33, 34] (by decide +kernel) (by decide +kernel)
set_option maxRecDepth 20000 in
theorem gX0_keep_X0_takeUnitAsCount : GoodIn wsX0_keep (wsV RX0 89 RX0 yX0_takeUnitAsCount wsX0_takeUnitAsCount) := goodIn_app (goodIn_of _ (by decide +kernel)) ggX0_keep_X0_takeUnitAsCount
set_option maxRecDepth 20000 in
theorem ggX0_keep_X0_scores : GoodIn wsX0_keep wsX0_scores := goodIn_r _ [18, 4, 1, 19, 24, 25, 26, 27, 28, 29, 30, 31, 32, 33, 34] (by decide +kernel) (by decide +kernel)
set_option maxRecDepth 20000 in
theorem gX0_keep_X0_scores : GoodIn wsX0_keep (wsV RX0 92 RX0 yX0_scores wsX0_scores) := goodIn_app (goodIn_of _ (by decide +kernel)) ggX0_keep_X0_scores
set_option maxRecDepth 20000 in
theorem ggX0_keep_X0_keepUnit : GoodIn wsX0_keep wsX0_keepUnit := goodIn_r _ [23, 13, 14, 4, 24, 25, 26, 27, 28, 29, 30, 31, 32, 33, 34] (by decide +kernel) (by decide +kernel)
set_option maxRecDepth 20000 in
theorem gX0_keep_X0_keepUnit : GoodIn wsX0_keep (wsV RX0 95 RX0 yX0_keepUnit wsX0_keepUnit) := goodIn_app (goodIn_of _ (by decide +kernel)) ggX0_keep_X0_keepUnit
theorem dX0_keep_0 : decode cX0_keep 0 = .ok (.iload_n 1, 1) := by decide +kernel
theorem dX0_keep_1 : decode cX0_keep 1 = .ok (.lookupswitch 143 #[(38, 78), (43, 75), (45, 67), (71, 111), (72, 59), (83, 96)], 59) := by decide +kernel
theorem dX0_keep_60 : decode cX0_keep 60 = .ok (.aload_n 0, 1) := by decide +kernel
theorem dX0_keep_61 : decode cX0_keep 61 = .ok (.iconst 1, 1) := by decide +kernel
theorem dX0_keep_62 : decode cX0_keep 62 = .ok (.putfield 26, 3) := by decide +kernel
theorem dX0_keep_65 : decode cX0_keep 65 = .ok (.goto 89, 3) := by decide +kernel
theorem dX0_keep_68 : decode cX0_keep 68 = .ok (.aload_n 0, 1) := by decide +kernel
theorem dX0_keep_69 : decode cX0_keep 69 = .ok (.iconst 1, 1) := by decide +kernel
theorem dX0_keep_70 : decode cX0_keep 70 = .ok (.putfield 29, 3) := by decide +kernel
theorem dX0_keep_73 : decode cX0_keep 73 = .ok (.goto 81, 3) := by decide +kernel
theorem dX0_keep_76 : decode cX0_keep 76 = .ok (.goto 78, 3) := by decide +kernel
theorem dX0_keep_79 : decode cX0_keep 79 = .ok (.aload_n 0, 1) := by decide +kernel
theorem dX0_keep_80 : decode cX0_keep 80 = .ok (.iconst 1, 1) := by decide +kernel
theorem dX0_keep_81 : decode cX0_keep 81 = .ok (.putfield 23, 3) := by decide +kernel
theorem dX0_keep_84 : decode cX0_keep 84 = .ok (.aload_n 0, 1) := by decide +kernel
theorem dX0_keep_85 : decode cX0_keep 85 = .ok (.iconst 0, 1) := by decide +kernel
theorem dX0_keep_86 : decode cX0_keep 86 = .ok (.putfield 26, 3) := by decide +kernel
theorem dX0_keep_89 : decode cX0_keep 89 = .ok (.aload_n 0, 1) := by decide +kernel
theorem dX0_keep_90 : decode cX0_keep 90 = .ok (.iconst 1, 1) := by decide +kernel
theorem dX0_keep_91 : decode cX0_keep 91 = .ok (.putfield 32, 3) := by decide +kernel
theorem dX0_keep_94 : decode cX0_keep 94 = .ok (.goto 60, 3) := by decide +kernel
theorem dX0_keep_97 : decode cX0_keep 97 = .ok (.aload_n 0, 1) := by decide +kernel
theorem dX0_keep_98 : decode cX0_keep 98 = .ok (.invokevirtual 89, 3) := by decide +kernel
theorem dX0_keep_101 : decode cX0_keep 101 = .ok (.aload_n 0, 1) := by decide +kernel
theorem dX0_keep_102 : decode cX0_keep 102 = .ok (.aload_n 0, 1) := by decide +kernel
theorem dX0_keep_103 : decode cX0_keep 103 = .ok (.invokevirtual 92, 3) := by decide +kernel
theorem dX0_keep_106 : decode cX0_keep 106 = .ok (.putfield 38, 3) := by decide +kernel
theorem dX0_keep_109 : decode cX0_keep 109 = .ok (.goto 45, 3) := by decide +kernel
theorem dX0_keep_112 : decode cX0_keep 112 = .ok (.aload_n 0, 1) := by decide +kernel
theorem dX0_keep_113 : decode cX0_keep 113 = .ok (.invokevirtual 89, 3) := by decide +kernel
theorem dX0_keep_116 : decode cX0_keep 116 = .ok (.aload_n 0, 1) := by decide +kernel
theorem dX0_keep_117 : decode cX0_keep 117 = .ok (.aload_n 0, 1) := by decide +kernel
theorem dX0_keep_118 : decode cX0_keep 118 = .ok (.getfield 16, 3) := by decide +kernel
theorem dX0_keep_121 : decode cX0_keep 121 = .ok (.ifCond .eq 13, 3) := by decide +kernel
theorem dX0_keep_124 : decode cX0_keep 124 = .ok (.bipush 20, 2) := by decide +kernel
theorem dX0_keep_126 : decode cX0_keep 126 = .ok (.aload_n 0, 1) := by decide +kernel
theorem dX0_keep_127 : decode cX0_keep 127 = .ok (.invokevirtual 92, 3) := by decide +kernel
theorem dX0_keep_130 : decode cX0_keep 130 = .ok (.imul, 1) := by decide +kernel
theorem dX0_keep_131 : decode cX0_keep 131 = .ok (.goto 7, 3) := by decide +kernel
theorem dX0_keep_134 : decode cX0_keep 134 = .ok (.aload_n 0, 1) := by decide +kernel
theorem dX0_keep_135 : decode cX0_keep 135 = .ok (.invokevirtual 92, 3) := by decide +kernel
theorem dX0_keep_138 : decode cX0_keep 138 = .ok (.putfield 35, 3) := by decide +kernel
theorem dX0_keep_141 : decode cX0_keep 141 = .ok (.goto 13, 3) := by decide +kernel
theorem dX0_keep_144 : decode cX0_keep 144 = .ok (.aload_n 0, 1) := by decide +kernel
theorem dX0_keep_145 : decode cX0_keep 145 = .ok (.iload_n 1, 1) := by decide +kernel
theorem dX0_keep_146 : decode cX0_keep 146 = .ok (.bipush 97, 2) := by decide +kernel
theorem dX0_keep_148 : decode cX0_keep 148 = .ok (.isub, 1) := by decide +kernel
theorem dX0_keep_149 : decode cX0_keep 149 = .ok (.iconst 1, 1) := by decide +kernel
theorem dX0_keep_150 : decode cX0_keep 150 = .ok (.iadd, 1) := by decide +kernel
theorem dX0_keep_151 : decode cX0_keep 151 = .ok (.invokevirtual 95, 3) := by decide +kernel
theorem dX0_keep_154 : decode cX0_keep 154 = .ok (.return_, 1) := by decide +kernel
theorem dX0_keepUnit_0 : decode cX0_keepUnit 0 = .ok (.aload_n 0, 1) := by decide +kernel
theorem dX0_keepUnit_1 : decode cX0_keepUnit 1 = .ok (.getfield 19, 3) := by decide +kernel
theorem dX0_keepUnit_4 : decode cX0_keepUnit 4 = .ok (.ifCond .eq 12, 3) := by decide +kernel
theorem dX0_keepUnit_7 : decode cX0_keepUnit 7 = .ok (.aload_n 0, 1) := by decide +kernel
theorem dX0_keepUnit_8 : decode cX0_keepUnit 8 = .ok (.getfield 19, 3) := by decide +kernel
theorem dX0_keepUnit_11 : decode cX0_keepUnit 11 = .ok (.bipush 7, 2) := by decide +kernel
theorem dX0_keepUnit_13 : decode cX0_keepUnit 13 = .ok (.if_icmp .ne 11, 3) := by decide +kernel
theorem dX0_keepUnit_16 : decode cX0_keepUnit 16 = .ok (.aload_n 0, 1) := by decide +kernel
theorem dX0_keepUnit_17 : decode cX0_keepUnit 17 = .ok (.iload_n 1, 1) := by decide +kernel
theorem dX0_keepUnit_18 : decode cX0_keepUnit 18 = .ok (.putfield 41, 3) := by decide +kernel
theorem dX0_keepUnit_21 : decode cX0_keepUnit 21 = .ok (.goto 8, 3) := by decide +kernel
theorem dX0_keepUnit_24 : decode cX0_keepUnit 24 = .ok (.aload_n 0, 1) := by decide +kernel
theorem dX0_keepUnit_25 : decode cX0_keepUnit 25 = .ok (.iload_n 1, 1) := by decide +kernel
theorem dX0_keepUnit_26 : decode cX0_keepUnit 26 = .ok (.putfield 32, 3) := by decide +kernel
theorem dX0_keepUnit_29 : decode cX0_keepUnit 29 = .ok (.return_, 1) := by decide +kernel
theorem dX0_takeUnitAsCount_0 : decode cX0_takeUnitAsCount 0 = .ok (.aload_n 0, 1) := by decide +kernel
theorem dX0_takeUnitAsCount_1 : decode cX0_takeUnitAsCount 1 = .ok (.getfield 19, 3) := by decide +kernel
theorem dX0_takeUnitAsCount_4 : decode cX0_takeUnitAsCount 4 = .ok (.iconst 3, 1) := by decide +kernel
theorem dX0_takeUnitAsCount_5 : decode cX0_takeUnitAsCount 5 = .ok (.if_icmp .ne 16, 3) := by decide +kernel
theorem dX0_takeUnitAsCount_8 : decode cX0_takeUnitAsCount 8 = .ok (.aload_n 0, 1) := by decide +kernel
theorem dX0_takeUnitAsCount_9 : decode cX0_takeUnitAsCount 9 = .ok (.aload_n 0, 1) := by decide +kernel
theorem dX0_takeUnitAsCount_10 : decode cX0_takeUnitAsCount 10 = .ok (.getfield 41, 3) := by decide +kernel
theorem dX0_takeUnitAsCount_13 : decode cX0_takeUnitAsCount 13 = .ok (.putfield 32, 3) := by decide +kernel
theorem dX0_takeUnitAsCount_16 : decode cX0_takeUnitAsCount 16 = .ok (.aload_n 0, 1) := by decide +kernel
theorem dX0_takeUnitAsCount_17 : decode cX0_takeUnitAsCount 17 = .ok (.iconst 0, 1) := by decide +kernel
theorem dX0_takeUnitAsCount_18 : decode cX0_takeUnitAsCount 18 = .ok (.putfield 41, 3) := by decide +kernel
theorem dX0_takeUnitAsCount_21 : decode cX0_takeUnitAsCount 21 = .ok (.return_, 1) := by decide +kernel
theorem dX0_scores_0 : decode cX0_scores 0 = .ok (.bipush 20, 2) := by decide +kernel
theorem dX0_scores_2 : decode cX0_scores 2 = .ok (.aload_n 0, 1) := by decide +kernel
theorem dX0_scores_3 : decode cX0_scores 3 = .ok (.getfield 32, 3) := by decide +kernel
theorem dX0_scores_6 : decode cX0_scores 6 = .ok (.imul, 1) := by decide +kernel
theorem dX0_scores_7 : decode cX0_scores 7 = .ok (.aload_n 0, 1) := by decide +kernel
theorem dX0_scores_8 : decode cX0_scores 8 = .ok (.getfield 26, 3) := by decide +kernel
theorem dX0_scores_11 : decode cX0_scores 11 = .ok (.ifCond .eq 15, 3) := by decide +kernel
theorem dX0_scores_14 : decode cX0_scores 14 = .ok (.aload_n 0, 1) := by decide +kernel
theorem dX0_scores_15 : decode cX0_scores 15 = .ok (.getfield 7, 3) := by decide +kernel
theorem dX0_scores_18 : decode cX0_scores 18 = .ok (.ifCond .eq 8, 3) := by decide +kernel
theorem dX0_scores_21 : decode cX0_scores 21 = .ok (.bipush 10, 2) := by decide +kernel
theorem dX0_scores_23 : decode cX0_scores 23 = .ok (.goto 4, 3) := by decide +kernel
theorem dX0_scores_26 : decode cX0_scores 26 = .ok (.iconst 0, 1) := by decide +kernel
theorem dX0_scores_27 : decode cX0_scores 27 = .ok (.isub, 1) := by decide +kernel
theorem dX0_scores_28 : decode cX0_scores 28 = .ok (.ireturn, 1) := by decide +kernel
set_option maxRecDepth 20000 in
theorem ggX1_init_X3_init : GoodIn wsX1_init wsX3_init := goodIn_r _ [12, 13, 2, 3, 14, 15, 16, 17, 18, 19, 20, 24, 25, 26, 27, 28] (by decide +kernel) (by decide +kernel)
set_option maxRecDepth 20000 in
theorem gX1_init_X3_init : GoodIn wsX1_init (wsX3_init) := ggX1_init_X3_init
theorem dX1_init_0 : decode cX1_init 0 = .ok (.aload_n 0, 1) := by decide +kernel
theorem dX1_init_1 : decode cX1_init 1 = .ok (.invokespecial 3, 3) := by decide +kernel
theorem dX1_init_4 : decode cX1_init 4 = .ok (.aload_n 0, 1) := by decide +kernel
theorem dX1_init_5 : decode cX1_init 5 = .ok (.iconst 4, 1) := by decide +kernel
theorem dX1_init_6 : decode cX1_init 6 = .ok (.anewarray 11, 3) := by decide +kernel
theorem dX1_init_9 : decode cX1_init 9 = .ok (.putfield 13, 3) := by decide +kernel
theorem dX1_init_12 : decode cX1_init 12 = .ok (.aload_n 0, 1) := by decide +kernel
theorem dX1_init_13 : decode cX1_init 13 = .ok (.iconst 0, 1) := by decide +kernel
theorem dX1_init_14 : decode cX1_init 14 = .ok (.putfield 17, 3) := by decide +kernel
theorem dX1_init_17 : decode cX1_init 17 = .ok (.aload_n 0, 1) := by decide +kernel
theorem dX1_init_18 : decode cX1_init 18 = .ok (.iconst 0, 1) := by decide +kernel
theorem dX1_init_19 : decode cX1_init 19 = .ok (.putfield 21, 3) := by decide +kernel
theorem dX1_init_22 : decode cX1_init 22 = .ok (.iconst 0, 1) := by decide +kernel
theorem dX1_init_23 : decode cX1_init 23 = .ok (.istore_n 1, 1) := by decide +kernel
theorem dX1_init_24 : decode cX1_init 24 = .ok (.iload_n 1, 1) := by decide +kernel
theorem dX1_init_25 : decode cX1_init 25 = .ok (.iconst 4, 1) := by decide +kernel
theorem dX1_init_26 : decode cX1_init 26 = .ok (.if_icmp .ge 22, 3) := by decide +kernel
theorem dX1_init_29 : decode cX1_init 29 = .ok (.aload_n 0, 1) := by decide +kernel
theorem dX1_init_30 : decode cX1_init 30 = .ok (.getfield 13, 3) := by decide +kernel
theorem dX1_init_33 : decode cX1_init 33 = .ok (.iload_n 1, 1) := by decide +kernel
theorem dX1_init_34 : decode cX1_init 34 = .ok (.new 11, 3) := by decide +kernel
theorem dX1_init_37 : decode cX1_init 37 = .ok (.dup, 1) := by decide +kernel
theorem dX1_init_38 : decode cX1_init 38 = .ok (.invokespecial 24, 3) := by decide +kernel
theorem dX1_init_41 : decode cX1_init 41 = .ok (.aastore, 1) := by decide +kernel
theorem dX1_init_42 : decode cX1_init 42 = .ok (.iinc 1 1, 3) := by decide +kernel
theorem dX1_init_45 : decode cX1_init 45 = .ok (.goto (-21), 3) := by decide +kernel
theorem dX1_init_48 : decode cX1_init 48 = .ok (.return_, 1) := by decide +kernel
set_option maxRecDepth 20000 in
theorem ggX1_record_X3_copyFrom : GoodIn wsX1_record wsX3_copyFrom := goodIn_r _ [12, 13, 14, 15, 16, 17, 18, 19, 20, 21, 25, 26, 27, 28, 29] (by decide +kernel) (by decide +kernel)
set_option maxRecDepth 20000 in
theorem gX1_record_X3_copyFrom : GoodIn wsX1_record (wsV RX1 25 RX3 yX3_copyFrom wsX3_copyFrom) := goodIn_app (goodIn_of _ (by decide +kernel)) ggX1_record_X3_copyFrom
theorem dX1_record_0 : decode cX1_record 0 = .ok (.aload_n 0, 1) := by decide +kernel
theorem dX1_record_1 : decode cX1_record 1 = .ok (.getfield 17, 3) := by decide +kernel
theorem dX1_record_4 : decode cX1_record 4 = .ok (.ifCond .lt 11, 3) := by decide +kernel
theorem dX1_record_7 : decode cX1_record 7 = .ok (.aload_n 0, 1) := by decide +kernel
theorem dX1_record_8 : decode cX1_record 8 = .ok (.getfield 17, 3) := by decide +kernel
theorem dX1_record_11 : decode cX1_record 11 = .ok (.iconst 4, 1) := by decide +kernel
theorem dX1_record_12 : decode cX1_record 12 = .ok (.if_icmp .lt 4, 3) := by decide +kernel
theorem dX1_record_15 : decode cX1_record 15 = .ok (.return_, 1) := by decide +kernel
theorem dX1_record_16 : decode cX1_record 16 = .ok (.aload_n 0, 1) := by decide +kernel
theorem dX1_record_17 : decode cX1_record 17 = .ok (.getfield 13, 3) := by decide +kernel
theorem dX1_record_20 : decode cX1_record 20 = .ok (.aload_n 0, 1) := by decide +kernel
theorem dX1_record_21 : decode cX1_record 21 = .ok (.getfield 17, 3) := by decide +kernel
theorem dX1_record_24 : decode cX1_record 24 = .ok (.aaload, 1) := by decide +kernel
theorem dX1_record_25 : decode cX1_record 25 = .ok (.aload_n 1, 1) := by decide +kernel
theorem dX1_record_26 : decode cX1_record 26 = .ok (.invokevirtual 25, 3) := by decide +kernel
theorem dX1_record_29 : decode cX1_record 29 = .ok (.aload_n 0, 1) := by decide +kernel
theorem dX1_record_30 : decode cX1_record 30 = .ok (.aload_n 0, 1) := by decide +kernel
theorem dX1_record_31 : decode cX1_record 31 = .ok (.getfield 17, 3) := by decide +kernel
theorem dX1_record_34 : decode cX1_record 34 = .ok (.iconst 3, 1) := by decide +kernel
theorem dX1_record_35 : decode cX1_record 35 = .ok (.if_icmp .ne 7, 3) := by decide +kernel
theorem dX1_record_38 : decode cX1_record 38 = .ok (.iconst 0, 1) := by decide +kernel
theorem dX1_record_39 : decode cX1_record 39 = .ok (.goto 9, 3) := by decide +kernel
theorem dX1_record_42 : decode cX1_record 42 = .ok (.aload_n 0, 1) := by decide +kernel
theorem dX1_record_43 : decode cX1_record 43 = .ok (.getfield 17, 3) := by decide +kernel
theorem dX1_record_46 : decode cX1_record 46 = .ok (.iconst 1, 1) := by decide +kernel
theorem dX1_record_47 : decode cX1_record 47 = .ok (.iadd, 1) := by decide +kernel
theorem dX1_record_48 : decode cX1_record 48 = .ok (.putfield 17, 3) := by decide +kernel
theorem dX1_record_51 : decode cX1_record 51 = .ok (.aload_n 0, 1) := by decide +kernel
theorem dX1_record_52 : decode cX1_record 52 = .ok (.aload_n 0, 1) := by decide +kernel
theorem dX1_record_53 : decode cX1_record 53 = .ok (.getfield 21, 3) := by decide +kernel
theorem dX1_record_56 : decode cX1_record 56 = .ok (.iconst 1, 1) := by decide +kernel
theorem dX1_record_57 : decode cX1_record 57 = .ok (.iadd, 1) := by decide +kernel
theorem dX1_record_58 : decode cX1_record 58 = .ok (.iconst 4, 1) := by decide +kernel
theorem dX1_record_59 : decode cX1_record 59 = .ok (.invokestatic 29, 3) := by decide +kernel
theorem dX1_record_62 : decode cX1_record 62 = .ok (.putfield 21, 3) := by decide +kernel
theorem dX1_record_65 : decode cX1_record 65 = .ok (.return_, 1) := by decide +kernel
set_option maxRecDepth 20000 in
theorem ggX1_restore_X3_copyFrom : GoodIn wsX1_restore wsX3_copyFrom := goodIn_r _ [8, 9, 10, 11, 12, 13, 14, 15, 16, 17, 21, 22, 23, 24, 25] (by decide +kernel) (by decide +kernel)
set_option maxRecDepth 20000 in
theorem gX1_restore_X3_copyFrom : GoodIn wsX1_restore (wsV RX1 25 RX3 yX3_copyFrom wsX3_copyFrom) := goodIn_app (goodIn_of _ (by decide +kernel)) ggX1_restore_X3_copyFrom
theorem dX1_restore_0 : decode cX1_restore 0 = .ok (.aload_n 0, 1) := by decide +kernel
theorem dX1_restore_1 : decode cX1_restore 1 = .ok (.getfield 21, 3) := by decide +kernel
theorem dX1_restore_4 : decode cX1_restore 4 = .ok (.ifCond .gt 6, 3) := by decide +kernel
theorem dX1_restore_7 : decode cX1_restore 7 = .ok (.bipush (-5), 2) := by decide +kernel
theorem dX1_restore_9 : decode cX1_restore 9 = .ok (.ireturn, 1) := by decide +kernel
theorem dX1_restore_10 : decode cX1_restore 10 = .ok (.aload_n 0, 1) := by decide +kernel
theorem dX1_restore_11 : decode cX1_restore 11 = .ok (.getfield 17, 3) := by decide +kernel
theorem dX1_restore_14 : decode cX1_restore 14 = .ok (.iconst 1, 1) := by decide +kernel
theorem dX1_restore_15 : decode cX1_restore 15 = .ok (.if_icmp .lt 20, 3) := by decide +kernel
theorem dX1_restore_18 : decode cX1_restore 18 = .ok (.aload_n 0, 1) := by decide +kernel
theorem dX1_restore_19 : decode cX1_restore 19 = .ok (.getfield 17, 3) := by decide +kernel
theorem dX1_restore_22 : decode cX1_restore 22 = .ok (.iconst 4, 1) := by decide +kernel
theorem dX1_restore_23 : decode cX1_restore 23 = .ok (.if_icmp .ge 12, 3) := by decide +kernel
theorem dX1_restore_26 : decode cX1_restore 26 = .ok (.aload_n 0, 1) := by decide +kernel
theorem dX1_restore_27 : decode cX1_restore 27 = .ok (.getfield 17, 3) := by decide +kernel
theorem dX1_restore_30 : decode cX1_restore 30 = .ok (.iconst 1, 1) := by decide +kernel
theorem dX1_restore_31 : decode cX1_restore 31 = .ok (.isub, 1) := by decide +kernel
theorem dX1_restore_32 : decode cX1_restore 32 = .ok (.goto 4, 3) := by decide +kernel
theorem dX1_restore_35 : decode cX1_restore 35 = .ok (.iconst 3, 1) := by decide +kernel
theorem dX1_restore_36 : decode cX1_restore 36 = .ok (.istore_n 2, 1) := by decide +kernel
theorem dX1_restore_37 : decode cX1_restore 37 = .ok (.aload_n 1, 1) := by decide +kernel
theorem dX1_restore_38 : decode cX1_restore 38 = .ok (.aload_n 0, 1) := by decide +kernel
theorem dX1_restore_39 : decode cX1_restore 39 = .ok (.getfield 13, 3) := by decide +kernel
theorem dX1_restore_42 : decode cX1_restore 42 = .ok (.iload_n 2, 1) := by decide +kernel
theorem dX1_restore_43 : decode cX1_restore 43 = .ok (.aaload, 1) := by decide +kernel
theorem dX1_restore_44 : decode cX1_restore 44 = .ok (.invokevirtual 25, 3) := by decide +kernel
theorem dX1_restore_47 : decode cX1_restore 47 = .ok (.aload_n 0, 1) := by decide +kernel
theorem dX1_restore_48 : decode cX1_restore 48 = .ok (.iload_n 2, 1) := by decide +kernel
theorem dX1_restore_49 : decode cX1_restore 49 = .ok (.putfield 17, 3) := by decide +kernel
theorem dX1_restore_52 : decode cX1_restore 52 = .ok (.aload_n 0, 1) := by decide +kernel
theorem dX1_restore_53 : decode cX1_restore 53 = .ok (.dup, 1) := by decide +kernel
theorem dX1_restore_54 : decode cX1_restore 54 = .ok (.getfield 21, 3) := by decide +kernel
theorem dX1_restore_57 : decode cX1_restore 57 = .ok (.iconst 1, 1) := by decide +kernel
theorem dX1_restore_58 : decode cX1_restore 58 = .ok (.isub, 1) := by decide +kernel
theorem dX1_restore_59 : decode cX1_restore 59 = .ok (.putfield 21, 3) := by decide +kernel
theorem dX1_restore_62 : decode cX1_restore 62 = .ok (.aload_n 0, 1) := by decide +kernel
theorem dX1_restore_63 : decode cX1_restore 63 = .ok (.getfield 21, 3) := by decide +kernel
theorem dX1_restore_66 : decode cX1_restore 66 = .ok (.ireturn, 1) := by decide +kernel
theorem dX2_then_0 : decode cX2_then 0 = .ok (.lload_n 0, 1) := by decide +kernel
theorem dX2_then_1 : decode cX2_then 1 = .ok (.bipush 7, 2) := by decide +kernel
theorem dX2_then_3 : decode cX2_then 3 = .ok (.lshl, 1) := by decide +kernel
theorem dX2_then_4 : decode cX2_then 4 = .ok (.iload_n 2, 1) := by decide +kernel
theorem dX2_then_5 : decode cX2_then 5 = .ok (.i2l, 1) := by decide +kernel
theorem dX2_then_6 : decode cX2_then 6 = .ok (.lor, 1) := by decide +kernel
theorem dX2_then_7 : decode cX2_then 7 = .ok (.lreturn, 1) := by decide +kernel
theorem dX2_length_0 : decode cX2_length 0 = .ok (.iconst 0, 1) := by decide +kernel
theorem dX2_length_1 : decode cX2_length 1 = .ok (.istore_n 2, 1) := by decide +kernel
theorem dX2_length_2 : decode cX2_length 2 = .ok (.iload_n 2, 1) := by decide +kernel
theorem dX2_length_3 : decode cX2_length 3 = .ok (.bipush 9, 2) := by decide +kernel
theorem dX2_length_5 : decode cX2_length 5 = .ok (.if_icmp .ge 20, 3) := by decide +kernel
theorem dX2_length_8 : decode cX2_length 8 = .ok (.lload_n 0, 1) := by decide +kernel
theorem dX2_length_9 : decode cX2_length 9 = .ok (.bipush 7, 2) := by decide +kernel
theorem dX2_length_11 : decode cX2_length 11 = .ok (.iload_n 2, 1) := by decide +kernel
theorem dX2_length_12 : decode cX2_length 12 = .ok (.imul, 1) := by decide +kernel
theorem dX2_length_13 : decode cX2_length 13 = .ok (.lushr, 1) := by decide +kernel
theorem dX2_length_14 : decode cX2_length 14 = .ok (.lconst 0, 1) := by decide +kernel
theorem dX2_length_15 : decode cX2_length 15 = .ok (.lcmp, 1) := by decide +kernel
theorem dX2_length_16 : decode cX2_length 16 = .ok (.ifCond .eq 9, 3) := by decide +kernel
theorem dX2_length_19 : decode cX2_length 19 = .ok (.iinc 2 1, 3) := by decide +kernel
theorem dX2_length_22 : decode cX2_length 22 = .ok (.goto (-20), 3) := by decide +kernel
theorem dX2_length_25 : decode cX2_length 25 = .ok (.iload_n 2, 1) := by decide +kernel
theorem dX2_length_26 : decode cX2_length 26 = .ok (.ireturn, 1) := by decide +kernel
theorem dX2_character_0 : decode cX2_character 0 = .ok (.iload_n 2, 1) := by decide +kernel
theorem dX2_character_1 : decode cX2_character 1 = .ok (.ifCond .lt 22, 3) := by decide +kernel
theorem dX2_character_4 : decode cX2_character 4 = .ok (.iload_n 2, 1) := by decide +kernel
theorem dX2_character_5 : decode cX2_character 5 = .ok (.bipush 9, 2) := by decide +kernel
theorem dX2_character_7 : decode cX2_character 7 = .ok (.if_icmp .ge 16, 3) := by decide +kernel
theorem dX2_character_10 : decode cX2_character 10 = .ok (.lload_n 0, 1) := by decide +kernel
theorem dX2_character_11 : decode cX2_character 11 = .ok (.bipush 7, 2) := by decide +kernel
theorem dX2_character_13 : decode cX2_character 13 = .ok (.iload_n 2, 1) := by decide +kernel
theorem dX2_character_14 : decode cX2_character 14 = .ok (.imul, 1) := by decide +kernel
theorem dX2_character_15 : decode cX2_character 15 = .ok (.lushr, 1) := by decide +kernel
theorem dX2_character_16 : decode cX2_character 16 = .ok (.l2i, 1) := by decide +kernel
theorem dX2_character_17 : decode cX2_character 17 = .ok (.bipush 127, 2) := by decide +kernel
theorem dX2_character_19 : decode cX2_character 19 = .ok (.iand, 1) := by decide +kernel
theorem dX2_character_20 : decode cX2_character 20 = .ok (.goto 4, 3) := by decide +kernel
theorem dX2_character_23 : decode cX2_character 23 = .ok (.iconst 0, 1) := by decide +kernel
theorem dX2_character_24 : decode cX2_character 24 = .ok (.ireturn, 1) := by decide +kernel
set_option maxRecDepth 20000 in
theorem ggX2_has_X2_character : GoodIn wsX2_has wsX2_character := goodIn_r _ [4] (by decide +kernel) (by decide +kernel)
set_option maxRecDepth 20000 in
theorem gX2_has_X2_character : GoodIn wsX2_has (va_wsS RX2 9 yX2_character wsX2_character) := goodIn_app (goodIn_of _ (by decide +kernel)) ggX2_has_X2_character
theorem dX2_has_0 : decode cX2_has 0 = .ok (.iconst 0, 1) := by decide +kernel
theorem dX2_has_1 : decode cX2_has 1 = .ok (.istore_n 3, 1) := by decide +kernel
theorem dX2_has_2 : decode cX2_has 2 = .ok (.iload_n 3, 1) := by decide +kernel
theorem dX2_has_3 : decode cX2_has 3 = .ok (.bipush 9, 2) := by decide +kernel
theorem dX2_has_5 : decode cX2_has 5 = .ok (.if_icmp .ge 20, 3) := by decide +kernel
theorem dX2_has_8 : decode cX2_has 8 = .ok (.lload_n 0, 1) := by decide +kernel
theorem dX2_has_9 : decode cX2_has 9 = .ok (.iload_n 3, 1) := by decide +kernel
theorem dX2_has_10 : decode cX2_has 10 = .ok (.invokestatic 9, 3) := by decide +kernel
theorem dX2_has_13 : decode cX2_has 13 = .ok (.iload_n 2, 1) := by decide +kernel
theorem dX2_has_14 : decode cX2_has 14 = .ok (.if_icmp .ne 5, 3) := by decide +kernel
theorem dX2_has_17 : decode cX2_has 17 = .ok (.iconst 1, 1) := by decide +kernel
theorem dX2_has_18 : decode cX2_has 18 = .ok (.ireturn, 1) := by decide +kernel
theorem dX2_has_19 : decode cX2_has 19 = .ok (.iinc 3 1, 3) := by decide +kernel
theorem dX2_has_22 : decode cX2_has 22 = .ok (.goto (-20), 3) := by decide +kernel
theorem dX2_has_25 : decode cX2_has 25 = .ok (.iconst 0, 1) := by decide +kernel
theorem dX2_has_26 : decode cX2_has 26 = .ok (.ireturn, 1) := by decide +kernel
theorem dX3_init_0 : decode cX3_init 0 = .ok (.aload_n 0, 1) := by decide +kernel
theorem dX3_init_1 : decode cX3_init 1 = .ok (.invokespecial 3, 3) := by decide +kernel
theorem dX3_init_4 : decode cX3_init 4 = .ok (.aload_n 0, 1) := by decide +kernel
theorem dX3_init_5 : decode cX3_init 5 = .ok (.bipush 6, 2) := by decide +kernel
theorem dX3_init_7 : decode cX3_init 7 = .ok (.bipush 9, 2) := by decide +kernel
theorem dX3_init_9 : decode cX3_init 9 = .ok (.multianewarray 9 2, 4) := by decide +kernel
theorem dX3_init_13 : decode cX3_init 13 = .ok (.putfield 11, 3) := by decide +kernel
theorem dX3_init_16 : decode cX3_init 16 = .ok (.aload_n 0, 1) := by decide +kernel
theorem dX3_init_17 : decode cX3_init 17 = .ok (.bipush 10, 2) := by decide +kernel
theorem dX3_init_19 : decode cX3_init 19 = .ok (.iconst 5, 1) := by decide +kernel
theorem dX3_init_20 : decode cX3_init 20 = .ok (.multianewarray 9 2, 4) := by decide +kernel
theorem dX3_init_24 : decode cX3_init 24 = .ok (.putfield 16, 3) := by decide +kernel
theorem dX3_init_27 : decode cX3_init 27 = .ok (.aload_n 0, 1) := by decide +kernel
theorem dX3_init_28 : decode cX3_init 28 = .ok (.iconst 0, 1) := by decide +kernel
theorem dX3_init_29 : decode cX3_init 29 = .ok (.putfield 19, 3) := by decide +kernel
theorem dX3_init_32 : decode cX3_init 32 = .ok (.aload_n 0, 1) := by decide +kernel
theorem dX3_init_33 : decode cX3_init 33 = .ok (.iconst 0, 1) := by decide +kernel
theorem dX3_init_34 : decode cX3_init 34 = .ok (.putfield 23, 3) := by decide +kernel
theorem dX3_init_37 : decode cX3_init 37 = .ok (.aload_n 0, 1) := by decide +kernel
theorem dX3_init_38 : decode cX3_init 38 = .ok (.iconst 2, 1) := by decide +kernel
theorem dX3_init_39 : decode cX3_init 39 = .ok (.putfield 26, 3) := by decide +kernel
theorem dX3_init_42 : decode cX3_init 42 = .ok (.iconst 0, 1) := by decide +kernel
theorem dX3_init_43 : decode cX3_init 43 = .ok (.istore_n 1, 1) := by decide +kernel
theorem dX3_init_44 : decode cX3_init 44 = .ok (.iload_n 1, 1) := by decide +kernel
theorem dX3_init_45 : decode cX3_init 45 = .ok (.bipush 6, 2) := by decide +kernel
theorem dX3_init_47 : decode cX3_init 47 = .ok (.if_icmp .ge 44, 3) := by decide +kernel
theorem dX3_init_50 : decode cX3_init 50 = .ok (.iconst 0, 1) := by decide +kernel
theorem dX3_init_51 : decode cX3_init 51 = .ok (.istore_n 2, 1) := by decide +kernel
theorem dX3_init_52 : decode cX3_init 52 = .ok (.iload_n 2, 1) := by decide +kernel
theorem dX3_init_53 : decode cX3_init 53 = .ok (.iconst 3, 1) := by decide +kernel
theorem dX3_init_54 : decode cX3_init 54 = .ok (.if_icmp .ge 20, 3) := by decide +kernel
theorem dX3_init_57 : decode cX3_init 57 = .ok (.aload_n 0, 1) := by decide +kernel
theorem dX3_init_58 : decode cX3_init 58 = .ok (.getfield 11, 3) := by decide +kernel
theorem dX3_init_61 : decode cX3_init 61 = .ok (.iload_n 1, 1) := by decide +kernel
theorem dX3_init_62 : decode cX3_init 62 = .ok (.aaload, 1) := by decide +kernel
theorem dX3_init_63 : decode cX3_init 63 = .ok (.iconst 0, 1) := by decide +kernel
theorem dX3_init_64 : decode cX3_init 64 = .ok (.iload_n 2, 1) := by decide +kernel
theorem dX3_init_65 : decode cX3_init 65 = .ok (.iadd, 1) := by decide +kernel
theorem dX3_init_66 : decode cX3_init 66 = .ok (.iconst 1, 1) := by decide +kernel
theorem dX3_init_67 : decode cX3_init 67 = .ok (.iastore, 1) := by decide +kernel
theorem dX3_init_68 : decode cX3_init 68 = .ok (.iinc 2 1, 3) := by decide +kernel
theorem dX3_init_71 : decode cX3_init 71 = .ok (.goto (-19), 3) := by decide +kernel
theorem dX3_init_74 : decode cX3_init 74 = .ok (.aload_n 0, 1) := by decide +kernel
theorem dX3_init_75 : decode cX3_init 75 = .ok (.getfield 11, 3) := by decide +kernel
theorem dX3_init_78 : decode cX3_init 78 = .ok (.iload_n 1, 1) := by decide +kernel
theorem dX3_init_79 : decode cX3_init 79 = .ok (.aaload, 1) := by decide +kernel
theorem dX3_init_80 : decode cX3_init 80 = .ok (.bipush 6, 2) := by decide +kernel
theorem dX3_init_82 : decode cX3_init 82 = .ok (.bipush 12, 2) := by decide +kernel
theorem dX3_init_84 : decode cX3_init 84 = .ok (.iastore, 1) := by decide +kernel
theorem dX3_init_85 : decode cX3_init 85 = .ok (.iinc 1 1, 3) := by decide +kernel
theorem dX3_init_88 : decode cX3_init 88 = .ok (.goto (-44), 3) := by decide +kernel
theorem dX3_init_91 : decode cX3_init 91 = .ok (.return_, 1) := by decide +kernel
theorem dX3_copyFrom_0 : decode cX3_copyFrom 0 = .ok (.iconst 0, 1) := by decide +kernel
theorem dX3_copyFrom_1 : decode cX3_copyFrom 1 = .ok (.istore_n 2, 1) := by decide +kernel
theorem dX3_copyFrom_2 : decode cX3_copyFrom 2 = .ok (.iload_n 2, 1) := by decide +kernel
theorem dX3_copyFrom_3 : decode cX3_copyFrom 3 = .ok (.bipush 6, 2) := by decide +kernel
theorem dX3_copyFrom_5 : decode cX3_copyFrom 5 = .ok (.if_icmp .ge 28, 3) := by decide +kernel
theorem dX3_copyFrom_8 : decode cX3_copyFrom 8 = .ok (.aload_n 1, 1) := by decide +kernel
theorem dX3_copyFrom_9 : decode cX3_copyFrom 9 = .ok (.getfield 11, 3) := by decide +kernel
theorem dX3_copyFrom_12 : decode cX3_copyFrom 12 = .ok (.iload_n 2, 1) := by decide +kernel
theorem dX3_copyFrom_13 : decode cX3_copyFrom 13 = .ok (.aaload, 1) := by decide +kernel
theorem dX3_copyFrom_14 : decode cX3_copyFrom 14 = .ok (.iconst 0, 1) := by decide +kernel
theorem dX3_copyFrom_15 : decode cX3_copyFrom 15 = .ok (.aload_n 0, 1) := by decide +kernel
theorem dX3_copyFrom_16 : decode cX3_copyFrom 16 = .ok (.getfield 11, 3) := by decide +kernel
theorem dX3_copyFrom_19 : decode cX3_copyFrom 19 = .ok (.iload_n 2, 1) := by decide +kernel
theorem dX3_copyFrom_20 : decode cX3_copyFrom 20 = .ok (.aaload, 1) := by decide +kernel
theorem dX3_copyFrom_21 : decode cX3_copyFrom 21 = .ok (.iconst 0, 1) := by decide +kernel
theorem dX3_copyFrom_22 : decode cX3_copyFrom 22 = .ok (.bipush 9, 2) := by decide +kernel
theorem dX3_copyFrom_24 : decode cX3_copyFrom 24 = .ok (.invokestatic 29, 3) := by decide +kernel
theorem dX3_copyFrom_27 : decode cX3_copyFrom 27 = .ok (.iinc 2 1, 3) := by decide +kernel
theorem dX3_copyFrom_30 : decode cX3_copyFrom 30 = .ok (.goto (-28), 3) := by decide +kernel
theorem dX3_copyFrom_33 : decode cX3_copyFrom 33 = .ok (.iconst 0, 1) := by decide +kernel
theorem dX3_copyFrom_34 : decode cX3_copyFrom 34 = .ok (.istore_n 2, 1) := by decide +kernel
theorem dX3_copyFrom_35 : decode cX3_copyFrom 35 = .ok (.iload_n 2, 1) := by decide +kernel
theorem dX3_copyFrom_36 : decode cX3_copyFrom 36 = .ok (.bipush 10, 2) := by decide +kernel
theorem dX3_copyFrom_38 : decode cX3_copyFrom 38 = .ok (.if_icmp .ge 27, 3) := by decide +kernel
theorem dX3_copyFrom_41 : decode cX3_copyFrom 41 = .ok (.aload_n 1, 1) := by decide +kernel
theorem dX3_copyFrom_42 : decode cX3_copyFrom 42 = .ok (.getfield 16, 3) := by decide +kernel
theorem dX3_copyFrom_45 : decode cX3_copyFrom 45 = .ok (.iload_n 2, 1) := by decide +kernel
theorem dX3_copyFrom_46 : decode cX3_copyFrom 46 = .ok (.aaload, 1) := by decide +kernel
theorem dX3_copyFrom_47 : decode cX3_copyFrom 47 = .ok (.iconst 0, 1) := by decide +kernel
theorem dX3_copyFrom_48 : decode cX3_copyFrom 48 = .ok (.aload_n 0, 1) := by decide +kernel
theorem dX3_copyFrom_49 : decode cX3_copyFrom 49 = .ok (.getfield 16, 3) := by decide +kernel
theorem dX3_copyFrom_52 : decode cX3_copyFrom 52 = .ok (.iload_n 2, 1) := by decide +kernel
theorem dX3_copyFrom_53 : decode cX3_copyFrom 53 = .ok (.aaload, 1) := by decide +kernel
theorem dX3_copyFrom_54 : decode cX3_copyFrom 54 = .ok (.iconst 0, 1) := by decide +kernel
theorem dX3_copyFrom_55 : decode cX3_copyFrom 55 = .ok (.iconst 5, 1) := by decide +kernel
theorem dX3_copyFrom_56 : decode cX3_copyFrom 56 = .ok (.invokestatic 29, 3) := by decide +kernel
theorem dX3_copyFrom_59 : decode cX3_copyFrom 59 = .ok (.iinc 2 1, 3) := by decide +kernel
theorem dX3_copyFrom_62 : decode cX3_copyFrom 62 = .ok (.goto (-27), 3) := by decide +kernel
theorem dX3_copyFrom_65 : decode cX3_copyFrom 65 = .ok (.aload_n 0, 1) := by decide +kernel
theorem dX3_copyFrom_66 : decode cX3_copyFrom 66 = .ok (.aload_n 1, 1) := by decide +kernel
theorem dX3_copyFrom_67 : decode cX3_copyFrom 67 = .ok (.getfield 19, 3) := by decide +kernel
