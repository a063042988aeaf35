theorem dX5_doubtWords_68 : decode cX5_doubtWords 68 = .ok (.iload 5, 2) := by decide +kernel
theorem dX5_doubtWords_70 : decode cX5_doubtWords 70 = .ok (.iadd, 1) := by decide +kernel
theorem dX5_doubtWords_71 : decode cX5_doubtWords 71 = .ok (.iconst 0, 1) := by decide +kernel
theorem dX5_doubtWords_72 : decode cX5_doubtWords 72 = .ok (.iastore, 1) := by decide +kernel
theorem dX5_doubtWords_73 : decode cX5_doubtWords 73 = .ok (.iconst 1, 1) := by decide +kernel
theorem dX5_doubtWords_74 : decode cX5_doubtWords 74 = .ok (.istore 4, 2) := by decide +kernel
theorem dX5_doubtWords_76 : decode cX5_doubtWords 76 = .ok (.iinc 5 1, 3) := by decide +kernel
theorem dX5_doubtWords_79 : decode cX5_doubtWords 79 = .ok (.goto (-73), 3) := by decide +kernel
theorem dX5_doubtWords_82 : decode cX5_doubtWords 82 = .ok (.iload 4, 2) := by decide +kernel
theorem dX5_doubtWords_84 : decode cX5_doubtWords 84 = .ok (.ireturn, 1) := by decide +kernel
theorem dX5_wordCharacter_0 : decode cX5_wordCharacter 0 = .ok (.iload_n 0, 1) := by decide +kernel
theorem dX5_wordCharacter_1 : decode cX5_wordCharacter 1 = .ok (.lookupswitch 33 #[(0, 27), (1, 30)], 27) := by decide +kernel
theorem dX5_wordCharacter_28 : decode cX5_wordCharacter 28 = .ok (.bipush 72, 2) := by decide +kernel
theorem dX5_wordCharacter_30 : decode cX5_wordCharacter 30 = .ok (.ireturn, 1) := by decide +kernel
theorem dX5_wordCharacter_31 : decode cX5_wordCharacter 31 = .ok (.bipush 45, 2) := by decide +kernel
theorem dX5_wordCharacter_33 : decode cX5_wordCharacter 33 = .ok (.ireturn, 1) := by decide +kernel
theorem dX5_wordCharacter_34 : decode cX5_wordCharacter 34 = .ok (.bipush 71, 2) := by decide +kernel
theorem dX5_wordCharacter_36 : decode cX5_wordCharacter 36 = .ok (.ireturn, 1) := by decide +kernel
theorem dX6_init_0 : decode cX6_init 0 = .ok (.aload_n 0, 1) := by decide +kernel
theorem dX6_init_1 : decode cX6_init 1 = .ok (.invokespecial 1, 3) := by decide +kernel
theorem dX6_init_4 : decode cX6_init 4 = .ok (.aload_n 0, 1) := by decide +kernel
theorem dX6_init_5 : decode cX6_init 5 = .ok (.bipush 106, 2) := by decide +kernel
theorem dX6_init_7 : decode cX6_init 7 = .ok (.newarray .int, 2) := by decide +kernel
theorem dX6_init_9 : decode cX6_init 9 = .ok (.putfield 7, 3) := by decide +kernel
theorem dX6_init_12 : decode cX6_init 12 = .ok (.aload_n 0, 1) := by decide +kernel
theorem dX6_init_13 : decode cX6_init 13 = .ok (.sipush 424, 3) := by decide +kernel
theorem dX6_init_16 : decode cX6_init 16 = .ok (.newarray .int, 2) := by decide +kernel
theorem dX6_init_18 : decode cX6_init 18 = .ok (.putfield 13, 3) := by decide +kernel
theorem dX6_init_21 : decode cX6_init 21 = .ok (.aload_n 0, 1) := by decide +kernel
theorem dX6_init_22 : decode cX6_init 22 = .ok (.bipush 20, 2) := by decide +kernel
theorem dX6_init_24 : decode cX6_init 24 = .ok (.newarray .char, 2) := by decide +kernel
theorem dX6_init_26 : decode cX6_init 26 = .ok (.putfield 16, 3) := by decide +kernel
theorem dX6_init_29 : decode cX6_init 29 = .ok (.aload_n 0, 1) := by decide +kernel
theorem dX6_init_30 : decode cX6_init 30 = .ok (.bipush 20, 2) := by decide +kernel
theorem dX6_init_32 : decode cX6_init 32 = .ok (.newarray .char, 2) := by decide +kernel
theorem dX6_init_34 : decode cX6_init 34 = .ok (.putfield 20, 3) := by decide +kernel
theorem dX6_init_37 : decode cX6_init 37 = .ok (.aload_n 0, 1) := by decide +kernel
theorem dX6_init_38 : decode cX6_init 38 = .ok (.sipush 160, 3) := by decide +kernel
theorem dX6_init_41 : decode cX6_init 41 = .ok (.newarray .char, 2) := by decide +kernel
theorem dX6_init_43 : decode cX6_init 43 = .ok (.putfield 23, 3) := by decide +kernel
theorem dX6_init_46 : decode cX6_init 46 = .ok (.aload_n 0, 1) := by decide +kernel
theorem dX6_init_47 : decode cX6_init 47 = .ok (.bipush 16, 2) := by decide +kernel
theorem dX6_init_49 : decode cX6_init 49 = .ok (.newarray .int, 2) := by decide +kernel
theorem dX6_init_51 : decode cX6_init 51 = .ok (.putfield 26, 3) := by decide +kernel
theorem dX6_init_54 : decode cX6_init 54 = .ok (.aload_n 0, 1) := by decide +kernel
theorem dX6_init_55 : decode cX6_init 55 = .ok (.bipush 16, 2) := by decide +kernel
theorem dX6_init_57 : decode cX6_init 57 = .ok (.newarray .int, 2) := by decide +kernel
theorem dX6_init_59 : decode cX6_init 59 = .ok (.putfield 29, 3) := by decide +kernel
theorem dX6_init_62 : decode cX6_init 62 = .ok (.iconst 0, 1) := by decide +kernel
theorem dX6_init_63 : decode cX6_init 63 = .ok (.istore_n 1, 1) := by decide +kernel
theorem dX6_init_64 : decode cX6_init 64 = .ok (.iload_n 1, 1) := by decide +kernel
theorem dX6_init_65 : decode cX6_init 65 = .ok (.bipush 6, 2) := by decide +kernel
theorem dX6_init_67 : decode cX6_init 67 = .ok (.if_icmp .ge 59, 3) := by decide +kernel
theorem dX6_init_70 : decode cX6_init 70 = .ok (.aload_n 0, 1) := by decide +kernel
theorem dX6_init_71 : decode cX6_init 71 = .ok (.getfield 7, 3) := by decide +kernel
theorem dX6_init_74 : decode cX6_init 74 = .ok (.bipush 9, 2) := by decide +kernel
theorem dX6_init_76 : decode cX6_init 76 = .ok (.iload_n 1, 1) := by decide +kernel
theorem dX6_init_77 : decode cX6_init 77 = .ok (.imul, 1) := by decide +kernel
theorem dX6_init_78 : decode cX6_init 78 = .ok (.iconst 0, 1) := by decide +kernel
theorem dX6_init_79 : decode cX6_init 79 = .ok (.iadd, 1) := by decide +kernel
theorem dX6_init_80 : decode cX6_init 80 = .ok (.iconst 1, 1) := by decide +kernel
theorem dX6_init_81 : decode cX6_init 81 = .ok (.iastore, 1) := by decide +kernel
theorem dX6_init_82 : decode cX6_init 82 = .ok (.aload_n 0, 1) := by decide +kernel
theorem dX6_init_83 : decode cX6_init 83 = .ok (.getfield 7, 3) := by decide +kernel
theorem dX6_init_86 : decode cX6_init 86 = .ok (.bipush 9, 2) := by decide +kernel
theorem dX6_init_88 : decode cX6_init 88 = .ok (.iload_n 1, 1) := by decide +kernel
theorem dX6_init_89 : decode cX6_init 89 = .ok (.imul, 1) := by decide +kernel
theorem dX6_init_90 : decode cX6_init 90 = .ok (.iconst 1, 1) := by decide +kernel
theorem dX6_init_91 : decode cX6_init 91 = .ok (.iadd, 1) := by decide +kernel
theorem dX6_init_92 : decode cX6_init 92 = .ok (.iconst 1, 1) := by decide +kernel
theorem dX6_init_93 : decode cX6_init 93 = .ok (.iastore, 1) := by decide +kernel
theorem dX6_init_94 : decode cX6_init 94 = .ok (.aload_n 0, 1) := by decide +kernel
theorem dX6_init_95 : decode cX6_init 95 = .ok (.getfield 7, 3) := by decide +kernel
theorem dX6_init_98 : decode cX6_init 98 = .ok (.bipush 9, 2) := by decide +kernel
theorem dX6_init_100 : decode cX6_init 100 = .ok (.iload_n 1, 1) := by decide +kernel
theorem dX6_init_101 : decode cX6_init 101 = .ok (.imul, 1) := by decide +kernel
theorem dX6_init_102 : decode cX6_init 102 = .ok (.iconst 2, 1) := by decide +kernel
theorem dX6_init_103 : decode cX6_init 103 = .ok (.iadd, 1) := by decide +kernel
theorem dX6_init_104 : decode cX6_init 104 = .ok (.iconst 1, 1) := by decide +kernel
theorem dX6_init_105 : decode cX6_init 105 = .ok (.iastore, 1) := by decide +kernel
theorem dX6_init_106 : decode cX6_init 106 = .ok (.aload_n 0, 1) := by decide +kernel
theorem dX6_init_107 : decode cX6_init 107 = .ok (.getfield 7, 3) := by decide +kernel
theorem dX6_init_110 : decode cX6_init 110 = .ok (.bipush 9, 2) := by decide +kernel
theorem dX6_init_112 : decode cX6_init 112 = .ok (.iload_n 1, 1) := by decide +kernel
theorem dX6_init_113 : decode cX6_init 113 = .ok (.imul, 1) := by decide +kernel
theorem dX6_init_114 : decode cX6_init 114 = .ok (.bipush 6, 2) := by decide +kernel
theorem dX6_init_116 : decode cX6_init 116 = .ok (.iadd, 1) := by decide +kernel
theorem dX6_init_117 : decode cX6_init 117 = .ok (.bipush 12, 2) := by decide +kernel
theorem dX6_init_119 : decode cX6_init 119 = .ok (.iastore, 1) := by decide +kernel
theorem dX6_init_120 : decode cX6_init 120 = .ok (.iinc 1 1, 3) := by decide +kernel
theorem dX6_init_123 : decode cX6_init 123 = .ok (.goto (-59), 3) := by decide +kernel
theorem dX6_init_126 : decode cX6_init 126 = .ok (.aload_n 0, 1) := by decide +kernel
theorem dX6_init_127 : decode cX6_init 127 = .ok (.getfield 7, 3) := by decide +kernel
theorem dX6_init_130 : decode cX6_init 130 = .ok (.bipush 54, 2) := by decide +kernel
theorem dX6_init_132 : decode cX6_init 132 = .ok (.iconst 2, 1) := by decide +kernel
theorem dX6_init_133 : decode cX6_init 133 = .ok (.iastore, 1) := by decide +kernel
theorem dX6_init_134 : decode cX6_init 134 = .ok (.return_, 1) := by decide +kernel
theorem dX6_in_0 : decode cX6_in 0 = .ok (.iload_n 0, 1) := by decide +kernel
theorem dX6_in_1 : decode cX6_in 1 = .ok (.iload_n 1, 1) := by decide +kernel
theorem dX6_in_2 : decode cX6_in 2 = .ok (.if_icmp .lt 12, 3) := by decide +kernel
theorem dX6_in_5 : decode cX6_in 5 = .ok (.iload_n 0, 1) := by decide +kernel
theorem dX6_in_6 : decode cX6_in 6 = .ok (.iload_n 2, 1) := by decide +kernel
theorem dX6_in_7 : decode cX6_in 7 = .ok (.if_icmp .gt 7, 3) := by decide +kernel
theorem dX6_in_10 : decode cX6_in 10 = .ok (.iconst 1, 1) := by decide +kernel
theorem dX6_in_11 : decode cX6_in 11 = .ok (.goto 4, 3) := by decide +kernel
theorem dX6_in_14 : decode cX6_in 14 = .ok (.iconst 0, 1) := by decide +kernel
theorem dX6_in_15 : decode cX6_in 15 = .ok (.ireturn, 1) := by decide +kernel
set_option maxRecDepth 20000 in
theorem ggX6_isHearer_X6_in : GoodIn wsX6_isHearer wsX6_in := goodIn_r _ [4] (by decide +kernel) (by decide +kernel)
set_option maxRecDepth 20000 in
theorem gX6_isHearer_X6_in : GoodIn wsX6_isHearer (va_wsS RX6 32 yX6_in wsX6_in) := goodIn_app (goodIn_of _ (by decide +kernel)) ggX6_isHearer_X6_in
theorem dX6_isHearer_0 : decode cX6_isHearer 0 = .ok (.iload_n 0, 1) := by decide +kernel
theorem dX6_isHearer_1 : decode cX6_isHearer 1 = .ok (.iconst 0, 1) := by decide +kernel
theorem dX6_isHearer_2 : decode cX6_isHearer 2 = .ok (.iconst 5, 1) := by decide +kernel
theorem dX6_isHearer_3 : decode cX6_isHearer 3 = .ok (.invokestatic 32, 3) := by decide +kernel
theorem dX6_isHearer_6 : decode cX6_isHearer 6 = .ok (.ireturn, 1) := by decide +kernel
set_option maxRecDepth 20000 in
theorem ggX6_isNumber_X6_in : GoodIn wsX6_isNumber wsX6_in := goodIn_r _ [4] (by decide +kernel) (by decide +kernel)
set_option maxRecDepth 20000 in
theorem gX6_isNumber_X6_in : GoodIn wsX6_isNumber (va_wsS RX6 32 yX6_in wsX6_in) := goodIn_app (goodIn_of _ (by decide +kernel)) ggX6_isNumber_X6_in
theorem dX6_isNumber_0 : decode cX6_isNumber 0 = .ok (.iload_n 0, 1) := by decide +kernel
theorem dX6_isNumber_1 : decode cX6_isNumber 1 = .ok (.iconst 1, 1) := by decide +kernel
theorem dX6_isNumber_2 : decode cX6_isNumber 2 = .ok (.sipush 7999, 3) := by decide +kernel
theorem dX6_isNumber_5 : decode cX6_isNumber 5 = .ok (.invokestatic 32, 3) := by decide +kernel
theorem dX6_isNumber_8 : decode cX6_isNumber 8 = .ok (.ireturn, 1) := by decide +kernel
theorem dX6_record_0 : decode cX6_record 0 = .ok (.aload_n 0, 1) := by decide +kernel
theorem dX6_record_1 : decode cX6_record 1 = .ok (.getfield 36, 3) := by decide +kernel
theorem dX6_record_4 : decode cX6_record 4 = .ok (.iconst 4, 1) := by decide +kernel
theorem dX6_record_5 : decode cX6_record 5 = .ok (.if_icmp .ne 43, 3) := by decide +kernel
theorem dX6_record_8 : decode cX6_record 8 = .ok (.iconst 0, 1) := by decide +kernel
theorem dX6_record_9 : decode cX6_record 9 = .ok (.istore_n 1, 1) := by decide +kernel
theorem dX6_record_10 : decode cX6_record 10 = .ok (.iload_n 1, 1) := by decide +kernel
theorem dX6_record_11 : decode cX6_record 11 = .ok (.sipush 318, 3) := by decide +kernel
theorem dX6_record_14 : decode cX6_record 14 = .ok (.if_icmp .ge 24, 3) := by decide +kernel
theorem dX6_record_17 : decode cX6_record 17 = .ok (.aload_n 0, 1) := by decide +kernel
theorem dX6_record_18 : decode cX6_record 18 = .ok (.getfield 13, 3) := by decide +kernel
theorem dX6_record_21 : decode cX6_record 21 = .ok (.iload_n 1, 1) := by decide +kernel
theorem dX6_record_22 : decode cX6_record 22 = .ok (.aload_n 0, 1) := by decide +kernel
theorem dX6_record_23 : decode cX6_record 23 = .ok (.getfield 13, 3) := by decide +kernel
theorem dX6_record_26 : decode cX6_record 26 = .ok (.bipush 106, 2) := by decide +kernel
theorem dX6_record_28 : decode cX6_record 28 = .ok (.iload_n 1, 1) := by decide +kernel
theorem dX6_record_29 : decode cX6_record 29 = .ok (.iadd, 1) := by decide +kernel
theorem dX6_record_30 : decode cX6_record 30 = .ok (.iaload, 1) := by decide +kernel
theorem dX6_record_31 : decode cX6_record 31 = .ok (.iastore, 1) := by decide +kernel
theorem dX6_record_32 : decode cX6_record 32 = .ok (.iinc 1 1, 3) := by decide +kernel
theorem dX6_record_35 : decode cX6_record 35 = .ok (.goto (-25), 3) := by decide +kernel
theorem dX6_record_38 : decode cX6_record 38 = .ok (.aload_n 0, 1) := by decide +kernel
theorem dX6_record_39 : decode cX6_record 39 = .ok (.dup, 1) := by decide +kernel
theorem dX6_record_40 : decode cX6_record 40 = .ok (.getfield 36, 3) := by decide +kernel
theorem dX6_record_43 : decode cX6_record 43 = .ok (.iconst 1, 1) := by decide +kernel
theorem dX6_record_44 : decode cX6_record 44 = .ok (.isub, 1) := by decide +kernel
theorem dX6_record_45 : decode cX6_record 45 = .ok (.putfield 36, 3) := by decide +kernel
theorem dX6_record_48 : decode cX6_record 48 = .ok (.iconst 0, 1) := by decide +kernel
theorem dX6_record_49 : decode cX6_record 49 = .ok (.istore_n 1, 1) := by decide +kernel
theorem dX6_record_50 : decode cX6_record 50 = .ok (.iload_n 1, 1) := by decide +kernel
theorem dX6_record_51 : decode cX6_record 51 = .ok (.bipush 106, 2) := by decide +kernel
theorem dX6_record_53 : decode cX6_record 53 = .ok (.if_icmp .ge 29, 3) := by decide +kernel
theorem dX6_record_56 : decode cX6_record 56 = .ok (.aload_n 0, 1) := by decide +kernel
theorem dX6_record_57 : decode cX6_record 57 = .ok (.getfield 13, 3) := by decide +kernel
theorem dX6_record_60 : decode cX6_record 60 = .ok (.bipush 106, 2) := by decide +kernel
theorem dX6_record_62 : decode cX6_record 62 = .ok (.aload_n 0, 1) := by decide +kernel
theorem dX6_record_63 : decode cX6_record 63 = .ok (.getfield 36, 3) := by decide +kernel
theorem dX6_record_66 : decode cX6_record 66 = .ok (.imul, 1) := by decide +kernel
theorem dX6_record_67 : decode cX6_record 67 = .ok (.iload_n 1, 1) := by decide +kernel
theorem dX6_record_68 : decode cX6_record 68 = .ok (.iadd, 1) := by decide +kernel
theorem dX6_record_69 : decode cX6_record 69 = .ok (.aload_n 0, 1) := by decide +kernel
theorem dX6_record_70 : decode cX6_record 70 = .ok (.getfield 7, 3) := by decide +kernel
theorem dX6_record_73 : decode cX6_record 73 = .ok (.iload_n 1, 1) := by decide +kernel
theorem dX6_record_74 : decode cX6_record 74 = .ok (.iaload, 1) := by decide +kernel
theorem dX6_record_75 : decode cX6_record 75 = .ok (.iastore, 1) := by decide +kernel
theorem dX6_record_76 : decode cX6_record 76 = .ok (.iinc 1 1, 3) := by decide +kernel
theorem dX6_record_79 : decode cX6_record 79 = .ok (.goto (-29), 3) := by decide +kernel
theorem dX6_record_82 : decode cX6_record 82 = .ok (.aload_n 0, 1) := by decide +kernel
theorem dX6_record_83 : decode cX6_record 83 = .ok (.dup, 1) := by decide +kernel
theorem dX6_record_84 : decode cX6_record 84 = .ok (.getfield 36, 3) := by decide +kernel
theorem dX6_record_87 : decode cX6_record 87 = .ok (.iconst 1, 1) := by decide +kernel
theorem dX6_record_88 : decode cX6_record 88 = .ok (.iadd, 1) := by decide +kernel
theorem dX6_record_89 : decode cX6_record 89 = .ok (.putfield 36, 3) := by decide +kernel
theorem dX6_record_92 : decode cX6_record 92 = .ok (.return_, 1) := by decide +kernel
theorem dX6_isSign_0 : decode cX6_isSign 0 = .ok (.aload_n 0, 1) := by decide +kernel
theorem dX6_isSign_1 : decode cX6_isSign 1 = .ok (.getfield 40, 3) := by decide +kernel
theorem dX6_isSign_4 : decode cX6_isSign 4 = .ok (.aload_n 0, 1) := by decide +kernel
theorem dX6_isSign_5 : decode cX6_isSign 5 = .ok (.getfield 43, 3) := by decide +kernel
theorem dX6_isSign_8 : decode cX6_isSign 8 = .ok (.if_icmp .ge 20, 3) := by decide +kernel
theorem dX6_isSign_11 : decode cX6_isSign 11 = .ok (.aload_n 0, 1) := by decide +kernel
theorem dX6_isSign_12 : decode cX6_isSign 12 = .ok (.getfield 16, 3) := by decide +kernel
theorem dX6_isSign_15 : decode cX6_isSign 15 = .ok (.aload_n 0, 1) := by decide +kernel
theorem dX6_isSign_16 : decode cX6_isSign 16 = .ok (.getfield 40, 3) := by decide +kernel
theorem dX6_isSign_19 : decode cX6_isSign 19 = .ok (.caload, 1) := by decide +kernel
theorem dX6_isSign_20 : decode cX6_isSign 20 = .ok (.iload_n 1, 1) := by decide +kernel
theorem dX6_isSign_21 : decode cX6_isSign 21 = .ok (.if_icmp .ne 7, 3) := by decide +kernel
theorem dX6_isSign_24 : decode cX6_isSign 24 = .ok (.iconst 1, 1) := by decide +kernel
theorem dX6_isSign_25 : decode cX6_isSign 25 = .ok (.goto 4, 3) := by decide +kernel
theorem dX6_isSign_28 : decode cX6_isSign 28 = .ok (.iconst 0, 1) := by decide +kernel
theorem dX6_isSign_29 : decode cX6_isSign 29 = .ok (.ireturn, 1) := by decide +kernel
set_option maxRecDepth 20000 in
theorem ggX6_accepts_X6_isSign : GoodIn wsX6_accepts wsX6_isSign := goodIn_r _ [6, 1, 7, 8, 9, 10, 11, 12, 13, 14, 15, 16, 17, 18, 19, 20, 21, 22, 23, 24, 25, 26] (by decide +kernel) (by decide +kernel)
set_option maxRecDepth 20000 in
theorem gX6_accepts_X6_isSign : GoodIn wsX6_accepts (wsV RX6 46 RX6 yX6_isSign wsX6_isSign) := goodIn_app (goodIn_of _ (by decide +kernel)) ggX6_accepts_X6_isSign
theorem dX6_accepts_0 : decode cX6_accepts 0 = .ok (.aload_n 0, 1) := by decide +kernel
theorem dX6_accepts_1 : decode cX6_accepts 1 = .ok (.iload_n 1, 1) := by decide +kernel
theorem dX6_accepts_2 : decode cX6_accepts 2 = .ok (.invokevirtual 46, 3) := by decide +kernel
theorem dX6_accepts_5 : decode cX6_accepts 5 = .ok (.istore_n 2, 1) := by decide +kernel
theorem dX6_accepts_6 : decode cX6_accepts 6 = .ok (.aload_n 0, 1) := by decide +kernel
theorem dX6_accepts_7 : decode cX6_accepts 7 = .ok (.dup, 1) := by decide +kernel
theorem dX6_accepts_8 : decode cX6_accepts 8 = .ok (.getfield 40, 3) := by decide +kernel
theorem dX6_accepts_11 : decode cX6_accepts 11 = .ok (.iload_n 2, 1) := by decide +kernel
theorem dX6_accepts_12 : decode cX6_accepts 12 = .ok (.ifCond .eq 7, 3) := by decide +kernel
theorem dX6_accepts_15 : decode cX6_accepts 15 = .ok (.iconst 1, 1) := by decide +kernel
theorem dX6_accepts_16 : decode cX6_accepts 16 = .ok (.goto 4, 3) := by decide +kernel
theorem dX6_accepts_19 : decode cX6_accepts 19 = .ok (.iconst 0, 1) := by decide +kernel
theorem dX6_accepts_20 : decode cX6_accepts 20 = .ok (.iadd, 1) := by decide +kernel
theorem dX6_accepts_21 : decode cX6_accepts 21 = .ok (.putfield 40, 3) := by decide +kernel
theorem dX6_accepts_24 : decode cX6_accepts 24 = .ok (.iload_n 2, 1) := by decide +kernel
theorem dX6_accepts_25 : decode cX6_accepts 25 = .ok (.ireturn, 1) := by decide +kernel
theorem dX6_unitFrom_0 : decode cX6_unitFrom 0 = .ok (.aload_n 0, 1) := by decide +kernel
theorem dX6_unitFrom_1 : decode cX6_unitFrom 1 = .ok (.getfield 40, 3) := by decide +kernel
theorem dX6_unitFrom_4 : decode cX6_unitFrom 4 = .ok (.aload_n 0, 1) := by decide +kernel
theorem dX6_unitFrom_5 : decode cX6_unitFrom 5 = .ok (.getfield 43, 3) := by decide +kernel
theorem dX6_unitFrom_8 : decode cX6_unitFrom 8 = .ok (.if_icmp .eq 30, 3) := by decide +kernel
theorem dX6_unitFrom_11 : decode cX6_unitFrom 11 = .ok (.aload_n 0, 1) := by decide +kernel
theorem dX6_unitFrom_12 : decode cX6_unitFrom 12 = .ok (.getfield 16, 3) := by decide +kernel
theorem dX6_unitFrom_15 : decode cX6_unitFrom 15 = .ok (.aload_n 0, 1) := by decide +kernel
theorem dX6_unitFrom_16 : decode cX6_unitFrom 16 = .ok (.getfield 40, 3) := by decide +kernel
theorem dX6_unitFrom_19 : decode cX6_unitFrom 19 = .ok (.caload, 1) := by decide +kernel
theorem dX6_unitFrom_20 : decode cX6_unitFrom 20 = .ok (.iload_n 1, 1) := by decide +kernel
theorem dX6_unitFrom_21 : decode cX6_unitFrom 21 = .ok (.if_icmp .lt 17, 3) := by decide +kernel
theorem dX6_unitFrom_24 : decode cX6_unitFrom 24 = .ok (.aload_n 0, 1) := by decide +kernel
theorem dX6_unitFrom_25 : decode cX6_unitFrom 25 = .ok (.getfield 16, 3) := by decide +kernel
theorem dX6_unitFrom_28 : decode cX6_unitFrom 28 = .ok (.aload_n 0, 1) := by decide +kernel
theorem dX6_unitFrom_29 : decode cX6_unitFrom 29 = .ok (.getfield 40, 3) := by decide +kernel
theorem dX6_unitFrom_32 : decode cX6_unitFrom 32 = .ok (.caload, 1) := by decide +kernel
theorem dX6_unitFrom_33 : decode cX6_unitFrom 33 = .ok (.bipush 115, 2) := by decide +kernel
theorem dX6_unitFrom_35 : decode cX6_unitFrom 35 = .ok (.if_icmp .le 5, 3) := by decide +kernel
theorem dX6_unitFrom_38 : decode cX6_unitFrom 38 = .ok (.iconst 0, 1) := by decide +kernel
theorem dX6_unitFrom_39 : decode cX6_unitFrom 39 = .ok (.ireturn, 1) := by decide +kernel
theorem dX6_unitFrom_40 : decode cX6_unitFrom 40 = .ok (.aload_n 0, 1) := by decide +kernel
theorem dX6_unitFrom_41 : decode cX6_unitFrom 41 = .ok (.dup, 1) := by decide +kernel
theorem dX6_unitFrom_42 : decode cX6_unitFrom 42 = .ok (.getfield 40, 3) := by decide +kernel
theorem dX6_unitFrom_45 : decode cX6_unitFrom 45 = .ok (.iconst 1, 1) := by decide +kernel
theorem dX6_unitFrom_46 : decode cX6_unitFrom 46 = .ok (.iadd, 1) := by decide +kernel
theorem dX6_unitFrom_47 : decode cX6_unitFrom 47 = .ok (.putfield 40, 3) := by decide +kernel
theorem dX6_unitFrom_50 : decode cX6_unitFrom 50 = .ok (.aload_n 0, 1) := by decide +kernel
theorem dX6_unitFrom_51 : decode cX6_unitFrom 51 = .ok (.getfield 16, 3) := by decide +kernel
theorem dX6_unitFrom_54 : decode cX6_unitFrom 54 = .ok (.aload_n 0, 1) := by decide +kernel
theorem dX6_unitFrom_55 : decode cX6_unitFrom 55 = .ok (.getfield 40, 3) := by decide +kernel
theorem dX6_unitFrom_58 : decode cX6_unitFrom 58 = .ok (.iconst 1, 1) := by decide +kernel
theorem dX6_unitFrom_59 : decode cX6_unitFrom 59 = .ok (.isub, 1) := by decide +kernel
theorem dX6_unitFrom_60 : decode cX6_unitFrom 60 = .ok (.caload, 1) := by decide +kernel
theorem dX6_unitFrom_61 : decode cX6_unitFrom 61 = .ok (.bipush 97, 2) := by decide +kernel
theorem dX6_unitFrom_63 : decode cX6_unitFrom 63 = .ok (.isub, 1) := by decide +kernel
theorem dX6_unitFrom_64 : decode cX6_unitFrom 64 = .ok (.iconst 1, 1) := by decide +kernel
theorem dX6_unitFrom_65 : decode cX6_unitFrom 65 = .ok (.iadd, 1) := by decide +kernel
theorem dX6_unitFrom_66 : decode cX6_unitFrom 66 = .ok (.ireturn, 1) := by decide +kernel
set_option maxRecDepth 20000 in
theorem ggX6_base_X6_accepts : GoodIn wsX6_base wsX6_accepts := goodIn_r _ [7, 8, 9, 10, 11, 6, 12, 13, 14, 19, 20, 21, 22, 23, 24, 25, 26, 27, 28, 29, 30, 31, 32, 33, 34, 35, 36] (by decide +kernel) (by decide +kernel)
set_option maxRecDepth 20000 in
theorem gX6_base_X6_accepts : GoodIn wsX6_base (wsV RX6 50 RX6 yX6_accepts wsX6_accepts) := goodIn_app (goodIn_of _ (by decide +kernel)) ggX6_base_X6_accepts
set_option maxRecDepth 20000 in
theorem ggX6_base_X6_unitFrom : GoodIn wsX6_base wsX6_unitFrom := goodIn_r _ [18, 8, 13, 14, 19, 20, 21, 22, 23, 24, 25, 26, 27, 28, 29, 30, 31, 32, 33, 34, 35, 36] (by decide +kernel) (by decide +kernel)
set_option maxRecDepth 20000 in
theorem gX6_base_X6_unitFrom : GoodIn wsX6_base (wsV RX6 60 RX6 yX6_unitFrom wsX6_unitFrom) := goodIn_app (goodIn_of _ (by decide +kernel)) ggX6_base_X6_unitFrom
theorem dX6_base_0 : decode cX6_base 0 = .ok (.aload_n 0, 1) := by decide +kernel
theorem dX6_base_1 : decode cX6_base 1 = .ok (.bipush 83, 2) := by decide +kernel
theorem dX6_base_3 : decode cX6_base 3 = .ok (.invokevirtual 50, 3) := by decide +kernel
theorem dX6_base_6 : decode cX6_base 6 = .ok (.ifCond .eq 10, 3) := by decide +kernel
theorem dX6_base_9 : decode cX6_base 9 = .ok (.aload_n 0, 1) := by decide +kernel
theorem dX6_base_10 : decode cX6_base 10 = .ok (.iconst 1, 1) := by decide +kernel
theorem dX6_base_11 : decode cX6_base 11 = .ok (.putfield 53, 3) := by decide +kernel
theorem dX6_base_14 : decode cX6_base 14 = .ok (.iconst 1, 1) := by decide +kernel
theorem dX6_base_15 : decode cX6_base 15 = .ok (.ireturn, 1) := by decide +kernel
theorem dX6_base_16 : decode cX6_base 16 = .ok (.aload_n 0, 1) := by decide +kernel
theorem dX6_base_17 : decode cX6_base 17 = .ok (.aload_n 0, 1) := by decide +kernel
theorem dX6_base_18 : decode cX6_base 18 = .ok (.bipush 72, 2) := by decide +kernel
theorem dX6_base_20 : decode cX6_base 20 = .ok (.invokevirtual 50, 3) := by decide +kernel
theorem dX6_base_23 : decode cX6_base 23 = .ok (.putfield 56, 3) := by decide +kernel
theorem dX6_base_26 : decode cX6_base 26 = .ok (.aload_n 0, 1) := by decide +kernel
theorem dX6_base_27 : decode cX6_base 27 = .ok (.aload_n 0, 1) := by decide +kernel
theorem dX6_base_28 : decode cX6_base 28 = .ok (.bipush 98, 2) := by decide +kernel
theorem dX6_base_30 : decode cX6_base 30 = .ok (.invokevirtual 60, 3) := by decide +kernel
theorem dX6_base_33 : decode cX6_base 33 = .ok (.putfield 53, 3) := by decide +kernel
theorem dX6_base_36 : decode cX6_base 36 = .ok (.aload_n 0, 1) := by decide +kernel
theorem dX6_base_37 : decode cX6_base 37 = .ok (.getfield 53, 3) := by decide +kernel
theorem dX6_base_40 : decode cX6_base 40 = .ok (.ifCond .le 16, 3) := by decide +kernel
theorem dX6_base_43 : decode cX6_base 43 = .ok (.aload_n 0, 1) := by decide +kernel
theorem dX6_base_44 : decode cX6_base 44 = .ok (.bipush 83, 2) := by decide +kernel
theorem dX6_base_46 : decode cX6_base 46 = .ok (.invokevirtual 50, 3) := by decide +kernel
theorem dX6_base_49 : decode cX6_base 49 = .ok (.ifCond .eq 7, 3) := by decide +kernel
theorem dX6_base_52 : decode cX6_base 52 = .ok (.iconst 1, 1) := by decide +kernel
theorem dX6_base_53 : decode cX6_base 53 = .ok (.goto 4, 3) := by decide +kernel
theorem dX6_base_56 : decode cX6_base 56 = .ok (.iconst 0, 1) := by decide +kernel
theorem dX6_base_57 : decode cX6_base 57 = .ok (.ireturn, 1) := by decide +kernel
set_option maxRecDepth 20000 in
theorem ggX6_plus_X6_accepts : GoodIn wsX6_plus wsX6_accepts := goodIn_r _ [6, 7, 8, 9, 10, 5, 11, 12, 13, 18, 19, 20, 21, 22, 23, 24, 25, 26, 27, 28, 29, 30, 31, 32, 33, 34, 35] (by decide +kernel) (by decide +kernel)
set_option maxRecDepth 20000 in
theorem gX6_plus_X6_accepts : GoodIn wsX6_plus (wsV RX6 50 RX6 yX6_accepts wsX6_accepts) := goodIn_app (goodIn_of _ (by decide +kernel)) ggX6_plus_X6_accepts
set_option maxRecDepth 20000 in
theorem ggX6_plus_X6_unitFrom : GoodIn wsX6_plus wsX6_unitFrom := goodIn_r _ [17, 7, 12, 13, 18, 19, 20, 21, 22, 23, 24, 25, 26, 27, 28, 29, 30, 31, 32, 33, 34, 35] (by decide +kernel) (by decide +kernel)
set_option maxRecDepth 20000 in
theorem gX6_plus_X6_unitFrom : GoodIn wsX6_plus (wsV RX6 60 RX6 yX6_unitFrom wsX6_unitFrom) := goodIn_app (goodIn_of _ (by decide +kernel)) ggX6_plus_X6_unitFrom
theorem dX6_plus_0 : decode cX6_plus 0 = .ok (.aload_n 0, 1) := by decide +kernel
theorem dX6_plus_1 : decode cX6_plus 1 = .ok (.bipush 43, 2) := by decide +kernel
theorem dX6_plus_3 : decode cX6_plus 3 = .ok (.invokevirtual 50, 3) := by decide +kernel
theorem dX6_plus_6 : decode cX6_plus 6 = .ok (.ifCond .ne 5, 3) := by decide +kernel
theorem dX6_plus_9 : decode cX6_plus 9 = .ok (.iconst 1, 1) := by decide +kernel
theorem dX6_plus_10 : decode cX6_plus 10 = .ok (.ireturn, 1) := by decide +kernel
theorem dX6_plus_11 : decode cX6_plus 11 = .ok (.aload_n 0, 1) := by decide +kernel
theorem dX6_plus_12 : decode cX6_plus 12 = .ok (.aload_n 0, 1) := by decide +kernel
theorem dX6_plus_13 : decode cX6_plus 13 = .ok (.bipush 97, 2) := by decide +kernel
theorem dX6_plus_15 : decode cX6_plus 15 = .ok (.invokevirtual 60, 3) := by decide +kernel
theorem dX6_plus_18 : decode cX6_plus 18 = .ok (.putfield 64, 3) := by decide +kernel
theorem dX6_plus_21 : decode cX6_plus 21 = .ok (.aload_n 0, 1) := by decide +kernel
theorem dX6_plus_22 : decode cX6_plus 22 = .ok (.getfield 64, 3) := by decide +kernel
theorem dX6_plus_25 : decode cX6_plus 25 = .ok (.ifCond .le 7, 3) := by decide +kernel
theorem dX6_plus_28 : decode cX6_plus 28 = .ok (.iconst 1, 1) := by decide +kernel
theorem dX6_plus_29 : decode cX6_plus 29 = .ok (.goto 4, 3) := by decide +kernel
theorem dX6_plus_32 : decode cX6_plus 32 = .ok (.iconst 0, 1) := by decide +kernel
theorem dX6_plus_33 : decode cX6_plus 33 = .ok (.ireturn, 1) := by decide +kernel
set_option maxRecDepth 20000 in
theorem ggX6_smallFrom_X6_accepts : GoodIn wsX6_smallFrom wsX6_accepts := goodIn_r _ [8, 9, 10, 11, 12, 7, 13, 14, 15, 29, 30, 31, 32, 33, 34, 35, 36, 37, 38, 39, 40, 41, 42, 43, 44, 45, 46] (by decide +kernel) (by decide +kernel)
set_option maxRecDepth 20000 in
theorem gX6_smallFrom_X6_accepts : GoodIn wsX6_smallFrom (wsV RX6 50 RX6 yX6_accepts wsX6_accepts) := goodIn_app (goodIn_of _ (by decide +kernel)) ggX6_smallFrom_X6_accepts
set_option maxRecDepth 20000 in
theorem ggX6_smallFrom_X6_plus : GoodIn wsX6_smallFrom wsX6_plus := goodIn_r _ [19, 2, 4, 5, 6, 7, 8, 9, 10, 11, 12, 13, 14, 15, 20, 21, 22, 23, 29, 30, 31, 32, 33, 34, 35, 36, 37, 38, 39, 40, 41, 42, 43, 44, 45, 46] (by decide +kernel) (by decide +kernel)
set_option maxRecDepth 20000 in
theorem gX6_smallFrom_X6_plus : GoodIn wsX6_smallFrom (wsV RX6 67 RX6 yX6_plus wsX6_plus) := goodIn_app (goodIn_of _ (by decide +kernel)) ggX6_smallFrom_X6_plus
set_option maxRecDepth 20000 in
theorem ggX6_smallFrom_X6_base : GoodIn wsX6_smallFrom wsX6_base := goodIn_r _ [27, 1, 28, 4, 5, 6, 7, 8, 9, 10, 11, 12, 13, 14, 15, 20, 21, 22, 23, 29, 30, 31, 32, 33, 34, 35, 36, 37, 38, 39, 40, 41, 42, 43, 44, 45, 46] (by decide +kernel) (by decide +kernel)
set_option maxRecDepth 20000 in
theorem gX6_smallFrom_X6_base : GoodIn wsX6_smallFrom (wsV RX6 74 RX6 yX6_base wsX6_base) := goodIn_app (goodIn_of _ (by decide +kernel)) ggX6_smallFrom_X6_base
theorem dX6_smallFrom_0 : decode cX6_smallFrom 0 = .ok (.iload_n 1, 1) := by decide +kernel
theorem dX6_smallFrom_1 : decode cX6_smallFrom 1 = .ok (.iconst 1, 1) := by decide +kernel
theorem dX6_smallFrom_2 : decode cX6_smallFrom 2 = .ok (.if_icmp .le 22, 3) := by decide +kernel
theorem dX6_smallFrom_5 : decode cX6_smallFrom 5 = .ok (.aload_n 0, 1) := by decide +kernel
theorem dX6_smallFrom_6 : decode cX6_smallFrom 6 = .ok (.bipush 83, 2) := by decide +kernel
theorem dX6_smallFrom_8 : decode cX6_smallFrom 8 = .ok (.invokevirtual 50, 3) := by decide +kernel
theorem dX6_smallFrom_11 : decode cX6_smallFrom 11 = .ok (.ifCond .eq 13, 3) := by decide +kernel
theorem dX6_smallFrom_14 : decode cX6_smallFrom 14 = .ok (.aload_n 0, 1) := by decide +kernel
theorem dX6_smallFrom_15 : decode cX6_smallFrom 15 = .ok (.iload_n 1, 1) := by decide +kernel
theorem dX6_smallFrom_16 : decode cX6_smallFrom 16 = .ok (.putfield 53, 3) := by decide +kernel
theorem dX6_smallFrom_19 : decode cX6_smallFrom 19 = .ok (.aload_n 0, 1) := by decide +kernel
theorem dX6_smallFrom_20 : decode cX6_smallFrom 20 = .ok (.invokevirtual 67, 3) := by decide +kernel
theorem dX6_smallFrom_23 : decode cX6_smallFrom 23 = .ok (.ireturn, 1) := by decide +kernel
theorem dX6_smallFrom_24 : decode cX6_smallFrom 24 = .ok (.aload_n 0, 1) := by decide +kernel
theorem dX6_smallFrom_25 : decode cX6_smallFrom 25 = .ok (.iload_n 1, 1) := by decide +kernel
theorem dX6_smallFrom_26 : decode cX6_smallFrom 26 = .ok (.putfield 64, 3) := by decide +kernel
theorem dX6_smallFrom_29 : decode cX6_smallFrom 29 = .ok (.aload_n 0, 1) := by decide +kernel
theorem dX6_smallFrom_30 : decode cX6_smallFrom 30 = .ok (.aload_n 0, 1) := by decide +kernel
theorem dX6_smallFrom_31 : decode cX6_smallFrom 31 = .ok (.bipush 45, 2) := by decide +kernel
theorem dX6_smallFrom_33 : decode cX6_smallFrom 33 = .ok (.invokevirtual 50, 3) := by decide +kernel
theorem dX6_smallFrom_36 : decode cX6_smallFrom 36 = .ok (.putfield 71, 3) := by decide +kernel
theorem dX6_smallFrom_39 : decode cX6_smallFrom 39 = .ok (.aload_n 0, 1) := by decide +kernel
theorem dX6_smallFrom_40 : decode cX6_smallFrom 40 = .ok (.getfield 71, 3) := by decide +kernel
theorem dX6_smallFrom_43 : decode cX6_smallFrom 43 = .ok (.ifCond .eq 10, 3) := by decide +kernel
theorem dX6_smallFrom_46 : decode cX6_smallFrom 46 = .ok (.aload_n 0, 1) := by decide +kernel
theorem dX6_smallFrom_47 : decode cX6_smallFrom 47 = .ok (.invokevirtual 74, 3) := by decide +kernel
theorem dX6_smallFrom_50 : decode cX6_smallFrom 50 = .ok (.ifCond .eq 7, 3) := by decide +kernel
theorem dX6_smallFrom_53 : decode cX6_smallFrom 53 = .ok (.iconst 1, 1) := by decide +kernel
theorem dX6_smallFrom_54 : decode cX6_smallFrom 54 = .ok (.goto 4, 3) := by decide +kernel
theorem dX6_smallFrom_57 : decode cX6_smallFrom 57 = .ok (.iconst 0, 1) := by decide +kernel
theorem dX6_smallFrom_58 : decode cX6_smallFrom 58 = .ok (.ireturn, 1) := by decide +kernel
set_option maxRecDepth 20000 in
theorem ggX6_small_X6_unitFrom : GoodIn wsX6_small wsX6_unitFrom := goodIn_r _ [5, 6, 7, 8, 33, 34, 35, 36, 37, 38, 39, 40, 41, 42, 43, 44, 45, 46, 47, 48, 49, 50] (by decide +kernel) (by decide +kernel)
set_option maxRecDepth 20000 in
theorem gX6_small_X6_unitFrom : GoodIn wsX6_small (wsV RX6 60 RX6 yX6_unitFrom wsX6_unitFrom) := goodIn_app (goodIn_of _ (by decide +kernel)) ggX6_small_X6_unitFrom
set_option maxRecDepth 20000 in
theorem ggX6_small_X6_smallFrom : GoodIn wsX6_small wsX6_smallFrom := goodIn_r _ [12, 13, 14, 15, 16, 17, 18, 4, 19, 6, 20, 21, 22, 23, 7, 8, 24, 25, 26, 27, 1, 2, 3, 5, 28, 29, 30, 31, 32, 33, 34, 35, 36, 37, 38, 39, 40, 41, 42, 43, 44, 45, 46, 47, 48, 49, 50] (by decide +kernel) (by decide +kernel)
set_option maxRecDepth 20000 in
theorem gX6_small_X6_smallFrom : GoodIn wsX6_small (wsV RX6 77 RX6 yX6_smallFrom wsX6_smallFrom) := goodIn_app (goodIn_of _ (by decide +kernel)) ggX6_small_X6_smallFrom
set_option maxRecDepth 20000 in
theorem ggX6_small_X6_base : GoodIn wsX6_small wsX6_base := goodIn_r _ [31, 13, 32, 16, 17, 18, 4, 19, 6, 20, 21, 22, 23, 7, 8, 1, 2, 3, 5, 33, 34, 35, 36, 37, 38, 39, 40, 41, 42, 43, 44, 45, 46, 47, 48, 49, 50] (by decide +kernel) (by decide +kernel)
set_option maxRecDepth 20000 in
theorem gX6_small_X6_base : GoodIn wsX6_small (wsV RX6 74 RX6 yX6_base wsX6_base) := goodIn_app (goodIn_of _ (by decide +kernel)) ggX6_small_X6_base
set_option maxRecDepth 20000 in
theorem ggX6_small_X6_plus : GoodIn wsX6_small wsX6_plus := goodIn_r _ [27, 14, 16, 17, 18, 4, 19, 6, 20, 21, 22, 23, 7, 8, 1, 2, 3, 5, 33, 34, 35, 36, 37, 38, 39, 40, 41, 42, 43, 44, 45, 46, 47, 48, 49, 50] (by decide +kernel) (by decide +kernel)
set_option maxRecDepth 20000 in
theorem gX6_small_X6_plus : GoodIn wsX6_small (wsV RX6 67 RX6 yX6_plus wsX6_plus) := goodIn_app (goodIn_of _ (by decide +kernel)) ggX6_small_X6_plus
theorem dX6_small_0 : decode cX6_small 0 = .ok (.aload_n 0, 1) := by decide +kernel
theorem dX6_small_1 : decode cX6_small 1 = .ok (.bipush 97, 2) := by decide +kernel
theorem dX6_small_3 : decode cX6_small 3 = .ok (.invokevirtual 60, 3) := by decide +kernel
theorem dX6_small_6 : decode cX6_small 6 = .ok (.istore_n 1, 1) := by decide +kernel
theorem dX6_small_7 : decode cX6_small 7 = .ok (.iload_n 1, 1) := by decide +kernel
theorem dX6_small_8 : decode cX6_small 8 = .ok (.ifCond .le 11, 3) := by decide +kernel
theorem dX6_small_11 : decode cX6_small 11 = .ok (.aload_n 0, 1) := by decide +kernel
theorem dX6_small_12 : decode cX6_small 12 = .ok (.iload_n 1, 1) := by decide +kernel
theorem dX6_small_13 : decode cX6_small 13 = .ok (.invokevirtual 77, 3) := by decide +kernel
theorem dX6_small_16 : decode cX6_small 16 = .ok (.goto 22, 3) := by decide +kernel
theorem dX6_small_19 : decode cX6_small 19 = .ok (.aload_n 0, 1) := by decide +kernel
theorem dX6_small_20 : decode cX6_small 20 = .ok (.invokevirtual 74, 3) := by decide +kernel
theorem dX6_small_23 : decode cX6_small 23 = .ok (.ifCond .eq 14, 3) := by decide +kernel
theorem dX6_small_26 : decode cX6_small 26 = .ok (.aload_n 0, 1) := by decide +kernel
theorem dX6_small_27 : decode cX6_small 27 = .ok (.invokevirtual 67, 3) := by decide +kernel
theorem dX6_small_30 : decode cX6_small 30 = .ok (.ifCond .eq 7, 3) := by decide +kernel
theorem dX6_small_33 : decode cX6_small 33 = .ok (.iconst 1, 1) := by decide +kernel
theorem dX6_small_34 : decode cX6_small 34 = .ok (.goto 4, 3) := by decide +kernel
theorem dX6_small_37 : decode cX6_small 37 = .ok (.iconst 0, 1) := by decide +kernel
theorem dX6_small_38 : decode cX6_small 38 = .ok (.ireturn, 1) := by decide +kernel
set_option maxRecDepth 20000 in
theorem ggX6_and_X6_accepts : GoodIn wsX6_and wsX6_accepts := goodIn_r _ [5, 6, 7, 8, 9, 4, 10, 11, 12, 37, 38, 39, 40, 41, 42, 43, 44, 45, 46, 47, 48, 49, 50, 51, 52, 53, 54] (by decide +kernel) (by decide +kernel)
set_option maxRecDepth 20000 in
theorem gX6_and_X6_accepts : GoodIn wsX6_and (wsV RX6 50 RX6 yX6_accepts wsX6_accepts) := goodIn_app (goodIn_of _ (by decide +kernel)) ggX6_and_X6_accepts
set_option maxRecDepth 20000 in
theorem ggX6_and_X6_small : GoodIn wsX6_and wsX6_small := goodIn_r _ [16, 17, 18, 19, 4, 20, 6, 11, 12, 21, 22, 23, 24, 25, 26, 27, 1, 2, 3, 5, 7, 8, 9, 10, 28, 29, 30, 31, 32, 33, 34, 35, 36, 37, 38, 39, 40, 41, 42, 43, 44, 45, 46, 47, 48, 49, 50, 51, 52, 53, 54] (by decide +kernel) (by decide +kernel)
set_option maxRecDepth 20000 in
theorem gX6_and_X6_small : GoodIn wsX6_and (wsV RX6 81 RX6 yX6_small wsX6_small) := goodIn_app (goodIn_of _ (by decide +kernel)) ggX6_and_X6_small
theorem dX6_and_0 : decode cX6_and 0 = .ok (.aload_n 0, 1) := by decide +kernel
theorem dX6_and_1 : decode cX6_and 1 = .ok (.bipush 38, 2) := by decide +kernel
theorem dX6_and_3 : decode cX6_and 3 = .ok (.invokevirtual 50, 3) := by decide +kernel
theorem dX6_and_6 : decode cX6_and 6 = .ok (.ifCond .eq 10, 3) := by decide +kernel
theorem dX6_and_9 : decode cX6_and 9 = .ok (.aload_n 0, 1) := by decide +kernel
theorem dX6_and_10 : decode cX6_and 10 = .ok (.invokevirtual 81, 3) := by decide +kernel
theorem dX6_and_13 : decode cX6_and 13 = .ok (.ifCond .eq 7, 3) := by decide +kernel
theorem dX6_and_16 : decode cX6_and 16 = .ok (.iconst 1, 1) := by decide +kernel
theorem dX6_and_17 : decode cX6_and 17 = .ok (.goto 4, 3) := by decide +kernel
theorem dX6_and_20 : decode cX6_and 20 = .ok (.iconst 0, 1) := by decide +kernel
theorem dX6_and_21 : decode cX6_and 21 = .ok (.ireturn, 1) := by decide +kernel
set_option maxRecDepth 20000 in
theorem ggX6_half_X6_unitFrom : GoodIn wsX6_half wsX6_unitFrom := goodIn_r _ [9, 10, 11, 12, 43, 44, 45, 46, 47, 48, 49, 50, 51, 52, 53, 54, 55, 56, 57, 58, 59, 60] (by decide +kernel) (by decide +kernel)
set_option maxRecDepth 20000 in
theorem gX6_half_X6_unitFrom : GoodIn wsX6_half (wsV RX6 60 RX6 yX6_unitFrom wsX6_unitFrom) := goodIn_app (goodIn_of _ (by decide +kernel)) ggX6_half_X6_unitFrom
set_option maxRecDepth 20000 in
theorem ggX6_half_X6_accepts : GoodIn wsX6_half wsX6_accepts := goodIn_r _ [16, 10, 17, 18, 19, 8, 20, 11, 12, 43, 44, 45, 46, 47, 48, 49, 50, 51, 52, 53, 54, 55, 56, 57, 58, 59, 60] (by decide +kernel) (by decide +kernel)
set_option maxRecDepth 20000 in
theorem gX6_half_X6_accepts : GoodIn wsX6_half (wsV RX6 50 RX6 yX6_accepts wsX6_accepts) := goodIn_app (goodIn_of _ (by decide +kernel)) ggX6_half_X6_accepts
set_option maxRecDepth 20000 in
theorem ggX6_half_X6_and : GoodIn wsX6_half wsX6_and := goodIn_r _ [24, 13, 14, 15, 8, 16, 10, 17, 18, 19, 20, 11, 12, 25, 26, 27, 28, 5, 6, 7, 9, 29, 30, 31, 32, 3, 33, 34, 35, 36, 37, 38, 39, 40, 41, 42, 4, 43, 44, 45, 46, 47, 48, 49, 50, 51, 52, 53, 54, 55, 56, 57, 58, 59, 60] (by decide +kernel) (by decide +kernel)
set_option maxRecDepth 20000 in
theorem gX6_half_X6_and : GoodIn wsX6_half (wsV RX6 90 RX6 yX6_and wsX6_and) := goodIn_app (goodIn_of _ (by decide +kernel)) ggX6_half_X6_and
set_option maxRecDepth 20000 in
theorem ggX6_half_X6_plus : GoodIn wsX6_half wsX6_plus := goodIn_r _ [38, 33, 13, 14, 15, 8, 16, 10, 17, 18, 19, 20, 11, 12, 5, 6, 7, 9, 43, 44, 45, 46, 47, 48, 49, 50, 51, 52, 53, 54, 55, 56, 57, 58, 59, 60] (by decide +kernel) (by decide +kernel)
set_option maxRecDepth 20000 in
theorem gX6_half_X6_plus : GoodIn wsX6_half (wsV RX6 67 RX6 yX6_plus wsX6_plus) := goodIn_app (goodIn_of _ (by decide +kernel)) ggX6_half_X6_plus
theorem dX6_half_0 : decode cX6_half 0 = .ok (.aload_n 0, 1) := by decide +kernel
theorem dX6_half_1 : decode cX6_half 1 = .ok (.bipush 98, 2) := by decide +kernel
theorem dX6_half_3 : decode cX6_half 3 = .ok (.invokevirtual 60, 3) := by decide +kernel
theorem dX6_half_6 : decode cX6_half 6 = .ok (.istore_n 1, 1) := by decide +kernel
theorem dX6_half_7 : decode cX6_half 7 = .ok (.iload_n 1, 1) := by decide +kernel
theorem dX6_half_8 : decode cX6_half 8 = .ok (.ifCond .le 27, 3) := by decide +kernel
theorem dX6_half_11 : decode cX6_half 11 = .ok (.aload_n 0, 1) := by decide +kernel
theorem dX6_half_12 : decode cX6_half 12 = .ok (.bipush 71, 2) := by decide +kernel
theorem dX6_half_14 : decode cX6_half 14 = .ok (.invokevirtual 50, 3) := by decide +kernel
theorem dX6_half_17 : decode cX6_half 17 = .ok (.ifCond .eq 18, 3) := by decide +kernel
theorem dX6_half_20 : decode cX6_half 20 = .ok (.aload_n 0, 1) := by decide +kernel
theorem dX6_half_21 : decode cX6_half 21 = .ok (.iload_n 1, 1) := by decide +kernel
theorem dX6_half_22 : decode cX6_half 22 = .ok (.putfield 84, 3) := by decide +kernel
theorem dX6_half_25 : decode cX6_half 25 = .ok (.aload_n 0, 1) := by decide +kernel
theorem dX6_half_26 : decode cX6_half 26 = .ok (.iconst 1, 1) := by decide +kernel
theorem dX6_half_27 : decode cX6_half 27 = .ok (.putfield 87, 3) := by decide +kernel
theorem dX6_half_30 : decode cX6_half 30 = .ok (.aload_n 0, 1) := by decide +kernel
theorem dX6_half_31 : decode cX6_half 31 = .ok (.invokevirtual 90, 3) := by decide +kernel
theorem dX6_half_34 : decode cX6_half 34 = .ok (.ireturn, 1) := by decide +kernel
theorem dX6_half_35 : decode cX6_half 35 = .ok (.aload_n 0, 1) := by decide +kernel
theorem dX6_half_36 : decode cX6_half 36 = .ok (.iload_n 1, 1) := by decide +kernel
theorem dX6_half_37 : decode cX6_half 37 = .ok (.putfield 53, 3) := by decide +kernel
theorem dX6_half_40 : decode cX6_half 40 = .ok (.aload_n 0, 1) := by decide +kernel
theorem dX6_half_41 : decode cX6_half 41 = .ok (.iconst 1, 1) := by decide +kernel
theorem dX6_half_42 : decode cX6_half 42 = .ok (.putfield 56, 3) := by decide +kernel
theorem dX6_half_45 : decode cX6_half 45 = .ok (.iload_n 1, 1) := by decide +kernel
theorem dX6_half_46 : decode cX6_half 46 = .ok (.ifCond .le 23, 3) := by decide +kernel
theorem dX6_half_49 : decode cX6_half 49 = .ok (.aload_n 0, 1) := by decide +kernel
theorem dX6_half_50 : decode cX6_half 50 = .ok (.bipush 83, 2) := by decide +kernel
theorem dX6_half_52 : decode cX6_half 52 = .ok (.invokevirtual 50, 3) := by decide +kernel
theorem dX6_half_55 : decode cX6_half 55 = .ok (.ifCond .eq 14, 3) := by decide +kernel
theorem dX6_half_58 : decode cX6_half 58 = .ok (.aload_n 0, 1) := by decide +kernel
theorem dX6_half_59 : decode cX6_half 59 = .ok (.invokevirtual 67, 3) := by decide +kernel
theorem dX6_half_62 : decode cX6_half 62 = .ok (.ifCond .eq 7, 3) := by decide +kernel
theorem dX6_half_65 : decode cX6_half 65 = .ok (.iconst 1, 1) := by decide +kernel
theorem dX6_half_66 : decode cX6_half 66 = .ok (.goto 4, 3) := by decide +kernel
theorem dX6_half_69 : decode cX6_half 69 = .ok (.iconst 0, 1) := by decide +kernel
theorem dX6_half_70 : decode cX6_half 70 = .ok (.ireturn, 1) := by decide +kernel
set_option maxRecDepth 20000 in
theorem ggX6_number_X6_accepts : GoodIn wsX6_number wsX6_accepts := goodIn_r _ [6, 7, 8, 9, 10, 5, 11, 12, 13, 47, 48, 49, 50, 51, 52, 53, 54, 55, 56, 57, 58, 59, 60, 61, 62, 63, 64] (by decide +kernel) (by decide +kernel)
set_option maxRecDepth 20000 in
theorem gX6_number_X6_accepts : GoodIn wsX6_number (wsV RX6 50 RX6 yX6_accepts wsX6_accepts) := goodIn_app (goodIn_of _ (by decide +kernel)) ggX6_number_X6_accepts
set_option maxRecDepth 20000 in
theorem ggX6_number_X6_and : GoodIn wsX6_number wsX6_and := goodIn_r _ [17, 2, 3, 4, 5, 6, 7, 8, 9, 10, 11, 12, 13, 18, 19, 20, 21, 22, 23, 24, 25, 26, 27, 28, 29, 30, 31, 32, 33, 34, 35, 36, 37, 38, 39, 40, 41, 47, 48, 49, 50, 51, 52, 53, 54, 55, 56, 57, 58, 59, 60, 61, 62, 63, 64] (by decide +kernel) (by decide +kernel)
set_option maxRecDepth 20000 in
theorem gX6_number_X6_and : GoodIn wsX6_number (wsV RX6 90 RX6 yX6_and wsX6_and) := goodIn_app (goodIn_of _ (by decide +kernel)) ggX6_number_X6_and
set_option maxRecDepth 20000 in
theorem ggX6_number_X6_half : GoodIn wsX6_number wsX6_half := goodIn_r _ [45, 1, 46, 30, 41, 22, 23, 24, 5, 25, 7, 12, 13, 2, 3, 4, 6, 8, 9, 10, 11, 14, 15, 16, 17, 18, 19, 20, 21, 26, 27, 28, 29, 31, 32, 33, 34, 35, 36, 37, 38, 39, 40, 47, 48, 49, 50, 51, 52, 53, 54, 55, 56, 57, 58, 59, 60, 61, 62, 63, 64] (by decide +kernel) (by decide +kernel)
set_option maxRecDepth 20000 in
theorem gX6_number_X6_half : GoodIn wsX6_number (wsV RX6 93 RX6 yX6_half wsX6_half) := goodIn_app (goodIn_of _ (by decide +kernel)) ggX6_number_X6_half
set_option maxRecDepth 20000 in
theorem ggX6_number_X6_unitFrom : GoodIn wsX6_number wsX6_unitFrom := goodIn_r _ [25, 7, 12, 13, 47, 48, 49, 50, 51, 52, 53, 54, 55, 56, 57, 58, 59, 60, 61, 62, 63, 64] (by decide +kernel) (by decide +kernel)
set_option maxRecDepth 20000 in
theorem gX6_number_X6_unitFrom : GoodIn wsX6_number (wsV RX6 60 RX6 yX6_unitFrom wsX6_unitFrom) := goodIn_app (goodIn_of _ (by decide +kernel)) ggX6_number_X6_unitFrom
set_option maxRecDepth 20000 in
theorem ggX6_number_X6_smallFrom : GoodIn wsX6_number wsX6_smallFrom := goodIn_r _ [29, 30, 31, 32, 2, 3, 4, 5, 6, 7, 8, 9, 10, 11, 12, 13, 33, 34, 35, 36, 22, 23, 24, 25, 37, 38, 39, 40, 41, 47, 48, 49, 50, 51, 52, 53, 54, 55, 56, 57, 58, 59, 60, 61, 62, 63, 64] (by decide +kernel) (by decide +kernel)
set_option maxRecDepth 20000 in
theorem gX6_number_X6_smallFrom : GoodIn wsX6_number (wsV RX6 77 RX6 yX6_smallFrom wsX6_smallFrom) := goodIn_app (goodIn_of _ (by decide +kernel)) ggX6_number_X6_smallFrom
set_option maxRecDepth 20000 in
theorem ggX6_number_X6_base : GoodIn wsX6_number wsX6_base := goodIn_r _ [40, 30, 41, 2, 3, 4, 5, 6, 7, 8, 9, 10, 11, 12, 13, 22, 23, 24, 25, 47, 48, 49, 50, 51, 52, 53, 54, 55, 56, 57, 58, 59, 60, 61, 62, 63, 64] (by decide +kernel) (by decide +kernel)
set_option maxRecDepth 20000 in
theorem gX6_number_X6_base : GoodIn wsX6_number (wsV RX6 74 RX6 yX6_base wsX6_base) := goodIn_app (goodIn_of _ (by decide +kernel)) ggX6_number_X6_base
set_option maxRecDepth 20000 in
theorem ggX6_number_X6_plus : GoodIn wsX6_number wsX6_plus := goodIn_r _ [36, 31, 2, 3, 4, 5, 6, 7, 8, 9, 10, 11, 12, 13, 22, 23, 24, 25, 47, 48, 49, 50, 51, 52, 53, 54, 55, 56, 57, 58, 59, 60, 61, 62, 63, 64] (by decide +kernel) (by decide +kernel)
set_option maxRecDepth 20000 in
theorem gX6_number_X6_plus : GoodIn wsX6_number (wsV RX6 67 RX6 yX6_plus wsX6_plus) := goodIn_app (goodIn_of _ (by decide +kernel)) ggX6_number_X6_plus
theorem dX6_number_0 : decode cX6_number 0 = .ok (.aload_n 0, 1) := by decide +kernel
theorem dX6_number_1 : decode cX6_number 1 = .ok (.bipush 71, 2) := by decide +kernel
theorem dX6_number_3 : decode cX6_number 3 = .ok (.invokevirtual 50, 3) := by decide +kernel
theorem dX6_number_6 : decode cX6_number 6 = .ok (.ifCond .eq 13, 3) := by decide +kernel
theorem dX6_number_9 : decode cX6_number 9 = .ok (.aload_n 0, 1) := by decide +kernel
theorem dX6_number_10 : decode cX6_number 10 = .ok (.iconst 1, 1) := by decide +kernel
theorem dX6_number_11 : decode cX6_number 11 = .ok (.putfield 84, 3) := by decide +kernel
theorem dX6_number_14 : decode cX6_number 14 = .ok (.aload_n 0, 1) := by decide +kernel
theorem dX6_number_15 : decode cX6_number 15 = .ok (.invokevirtual 90, 3) := by decide +kernel
theorem dX6_number_18 : decode cX6_number 18 = .ok (.ireturn, 1) := by decide +kernel
theorem dX6_number_19 : decode cX6_number 19 = .ok (.aload_n 0, 1) := by decide +kernel
theorem dX6_number_20 : decode cX6_number 20 = .ok (.bipush 72, 2) := by decide +kernel
theorem dX6_number_22 : decode cX6_number 22 = .ok (.invokevirtual 50, 3) := by decide +kernel
theorem dX6_number_25 : decode cX6_number 25 = .ok (.ifCond .eq 8, 3) := by decide +kernel
theorem dX6_number_28 : decode cX6_number 28 = .ok (.aload_n 0, 1) := by decide +kernel
theorem dX6_number_29 : decode cX6_number 29 = .ok (.invokevirtual 93, 3) := by decide +kernel
theorem dX6_number_32 : decode cX6_number 32 = .ok (.ireturn, 1) := by decide +kernel
theorem dX6_number_33 : decode cX6_number 33 = .ok (.aload_n 0, 1) := by decide +kernel
theorem dX6_number_34 : decode cX6_number 34 = .ok (.bipush 97, 2) := by decide +kernel
theorem dX6_number_36 : decode cX6_number 36 = .ok (.invokevirtual 60, 3) := by decide +kernel
theorem dX6_number_39 : decode cX6_number 39 = .ok (.istore_n 1, 1) := by decide +kernel
theorem dX6_number_40 : decode cX6_number 40 = .ok (.iload_n 1, 1) := by decide +kernel
theorem dX6_number_41 : decode cX6_number 41 = .ok (.iconst 1, 1) := by decide +kernel
theorem dX6_number_42 : decode cX6_number 42 = .ok (.if_icmp .le 22, 3) := by decide +kernel
theorem dX6_number_45 : decode cX6_number 45 = .ok (.aload_n 0, 1) := by decide +kernel
theorem dX6_number_46 : decode cX6_number 46 = .ok (.bipush 71, 2) := by decide +kernel
theorem dX6_number_48 : decode cX6_number 48 = .ok (.invokevirtual 50, 3) := by decide +kernel
theorem dX6_number_51 : decode cX6_number 51 = .ok (.ifCond .eq 13, 3) := by decide +kernel
theorem dX6_number_54 : decode cX6_number 54 = .ok (.aload_n 0, 1) := by decide +kernel
theorem dX6_number_55 : decode cX6_number 55 = .ok (.iload_n 1, 1) := by decide +kernel
theorem dX6_number_56 : decode cX6_number 56 = .ok (.putfield 84, 3) := by decide +kernel
theorem dX6_number_59 : decode cX6_number 59 = .ok (.aload_n 0, 1) := by decide +kernel
theorem dX6_number_60 : decode cX6_number 60 = .ok (.invokevirtual 90, 3) := by decide +kernel
theorem dX6_number_63 : decode cX6_number 63 = .ok (.ireturn, 1) := by decide +kernel
theorem dX6_number_64 : decode cX6_number 64 = .ok (.iload_n 1, 1) := by decide +kernel
theorem dX6_number_65 : decode cX6_number 65 = .ok (.ifCond .le 11, 3) := by decide +kernel
theorem dX6_number_68 : decode cX6_number 68 = .ok (.aload_n 0, 1) := by decide +kernel
theorem dX6_number_69 : decode cX6_number 69 = .ok (.iload_n 1, 1) := by decide +kernel
theorem dX6_number_70 : decode cX6_number 70 = .ok (.invokevirtual 77, 3) := by decide +kernel
theorem dX6_number_73 : decode cX6_number 73 = .ok (.goto 22, 3) := by decide +kernel
theorem dX6_number_76 : decode cX6_number 76 = .ok (.aload_n 0, 1) := by decide +kernel
theorem dX6_number_77 : decode cX6_number 77 = .ok (.invokevirtual 74, 3) := by decide +kernel
theorem dX6_number_80 : decode cX6_number 80 = .ok (.ifCond .eq 14, 3) := by decide +kernel
theorem dX6_number_83 : decode cX6_number 83 = .ok (.aload_n 0, 1) := by decide +kernel
theorem dX6_number_84 : decode cX6_number 84 = .ok (.invokevirtual 67, 3) := by decide +kernel
theorem dX6_number_87 : decode cX6_number 87 = .ok (.ifCond .eq 7, 3) := by decide +kernel
theorem dX6_number_90 : decode cX6_number 90 = .ok (.iconst 1, 1) := by decide +kernel
theorem dX6_number_91 : decode cX6_number 91 = .ok (.goto 4, 3) := by decide +kernel
theorem dX6_number_94 : decode cX6_number 94 = .ok (.iconst 0, 1) := by decide +kernel
theorem dX6_number_95 : decode cX6_number 95 = .ok (.ireturn, 1) := by decide +kernel
set_option maxRecDepth 20000 in
theorem ggX6_faultOf_X6_number : GoodIn wsX6_faultOf wsX6_number := goodIn_r _ [13, 3, 14, 15, 16, 12, 17, 2, 18, 19, 20, 21, 1, 22, 23, 24, 25, 26, 27, 28, 29, 30, 31, 32, 33, 34, 35, 36, 37, 38, 4, 5, 8, 39, 40, 41, 42, 43, 44, 45, 46, 7, 47, 48, 49, 50, 6, 51, 52, 53, 54, 55, 56, 57, 58, 59, 60, 61, 62, 63, 64, 65, 66, 67, 68] (by decide +kernel) (by decide +kernel)
set_option maxRecDepth 20000 in
theorem gX6_faultOf_X6_number : GoodIn wsX6_faultOf (wsV RX6 96 RX6 yX6_number wsX6_number) := goodIn_app (goodIn_of _ (by decide +kernel)) ggX6_faultOf_X6_number
theorem dX6_faultOf_0 : decode cX6_faultOf 0 = .ok (.aload_n 0, 1) := by decide +kernel
theorem dX6_faultOf_1 : decode cX6_faultOf 1 = .ok (.iload_n 1, 1) := by decide +kernel
theorem dX6_faultOf_2 : decode cX6_faultOf 2 = .ok (.putfield 43, 3) := by decide +kernel
theorem dX6_faultOf_5 : decode cX6_faultOf 5 = .ok (.aload_n 0, 1) := by decide +kernel
theorem dX6_faultOf_6 : decode cX6_faultOf 6 = .ok (.iconst 0, 1) := by decide +kernel
theorem dX6_faultOf_7 : decode cX6_faultOf 7 = .ok (.putfield 40, 3) := by decide +kernel
theorem dX6_faultOf_10 : decode cX6_faultOf 10 = .ok (.aload_n 0, 1) := by decide +kernel
theorem dX6_faultOf_11 : decode cX6_faultOf 11 = .ok (.iconst 0, 1) := by decide +kernel
theorem dX6_faultOf_12 : decode cX6_faultOf 12 = .ok (.putfield 84, 3) := by decide +kernel
theorem dX6_faultOf_15 : decode cX6_faultOf 15 = .ok (.aload_n 0, 1) := by decide +kernel
theorem dX6_faultOf_16 : decode cX6_faultOf 16 = .ok (.iconst 0, 1) := by decide +kernel
theorem dX6_faultOf_17 : decode cX6_faultOf 17 = .ok (.putfield 53, 3) := by decide +kernel
theorem dX6_faultOf_20 : decode cX6_faultOf 20 = .ok (.aload_n 0, 1) := by decide +kernel
theorem dX6_faultOf_21 : decode cX6_faultOf 21 = .ok (.iconst 0, 1) := by decide +kernel
theorem dX6_faultOf_22 : decode cX6_faultOf 22 = .ok (.putfield 64, 3) := by decide +kernel
theorem dX6_faultOf_25 : decode cX6_faultOf 25 = .ok (.aload_n 0, 1) := by decide +kernel
theorem dX6_faultOf_26 : decode cX6_faultOf 26 = .ok (.iconst 0, 1) := by decide +kernel
theorem dX6_faultOf_27 : decode cX6_faultOf 27 = .ok (.putfield 87, 3) := by decide +kernel
theorem dX6_faultOf_30 : decode cX6_faultOf 30 = .ok (.aload_n 0, 1) := by decide +kernel
theorem dX6_faultOf_31 : decode cX6_faultOf 31 = .ok (.iconst 0, 1) := by decide +kernel
theorem dX6_faultOf_32 : decode cX6_faultOf 32 = .ok (.putfield 56, 3) := by decide +kernel
theorem dX6_faultOf_35 : decode cX6_faultOf 35 = .ok (.aload_n 0, 1) := by decide +kernel
theorem dX6_faultOf_36 : decode cX6_faultOf 36 = .ok (.iconst 0, 1) := by decide +kernel
theorem dX6_faultOf_37 : decode cX6_faultOf 37 = .ok (.putfield 71, 3) := by decide +kernel
theorem dX6_faultOf_40 : decode cX6_faultOf 40 = .ok (.aload_n 0, 1) := by decide +kernel
theorem dX6_faultOf_41 : decode cX6_faultOf 41 = .ok (.invokevirtual 96, 3) := by decide +kernel
theorem dX6_faultOf_44 : decode cX6_faultOf 44 = .ok (.istore_n 2, 1) := by decide +kernel
theorem dX6_faultOf_45 : decode cX6_faultOf 45 = .ok (.iload_n 2, 1) := by decide +kernel
theorem dX6_faultOf_46 : decode cX6_faultOf 46 = .ok (.ifCond .eq 18, 3) := by decide +kernel
theorem dX6_faultOf_49 : decode cX6_faultOf 49 = .ok (.aload_n 0, 1) := by decide +kernel
theorem dX6_faultOf_50 : decode cX6_faultOf 50 = .ok (.getfield 40, 3) := by decide +kernel
theorem dX6_faultOf_53 : decode cX6_faultOf 53 = .ok (.aload_n 0, 1) := by decide +kernel
theorem dX6_faultOf_54 : decode cX6_faultOf 54 = .ok (.getfield 43, 3) := by decide +kernel
theorem dX6_faultOf_57 : decode cX6_faultOf 57 = .ok (.if_icmp .ne 7, 3) := by decide +kernel
theorem dX6_faultOf_60 : decode cX6_faultOf 60 = .ok (.iconst (-1), 1) := by decide +kernel
theorem dX6_faultOf_61 : decode cX6_faultOf 61 = .ok (.goto 7, 3) := by decide +kernel
theorem dX6_faultOf_64 : decode cX6_faultOf 64 = .ok (.aload_n 0, 1) := by decide +kernel
theorem dX6_faultOf_65 : decode cX6_faultOf 65 = .ok (.getfield 40, 3) := by decide +kernel
theorem dX6_faultOf_68 : decode cX6_faultOf 68 = .ok (.ireturn, 1) := by decide +kernel
theorem dX6_meaningBy_0 : decode cX6_meaningBy 0 = .ok (.iload_n 3, 1) := by decide +kernel
theorem dX6_meaningBy_1 : decode cX6_meaningBy 1 = .ok (.ifCond .eq 9, 3) := by decide +kernel
theorem dX6_meaningBy_4 : decode cX6_meaningBy 4 = .ok (.sipush 400, 3) := by decide +kernel
theorem dX6_meaningBy_7 : decode cX6_meaningBy 7 = .ok (.goto 5, 3) := by decide +kernel
theorem dX6_meaningBy_10 : decode cX6_meaningBy 10 = .ok (.bipush 20, 2) := by decide +kernel
theorem dX6_meaningBy_12 : decode cX6_meaningBy 12 = .ok (.istore 4, 2) := by decide +kernel
theorem dX6_meaningBy_14 : decode cX6_meaningBy 14 = .ok (.iload 4, 2) := by decide +kernel
theorem dX6_meaningBy_16 : decode cX6_meaningBy 16 = .ok (.aload_n 0, 1) := by decide +kernel
theorem dX6_meaningBy_17 : decode cX6_meaningBy 17 = .ok (.getfield 84, 3) := by decide +kernel
theorem dX6_meaningBy_20 : decode cX6_meaningBy 20 = .ok (.imul, 1) := by decide +kernel
theorem dX6_meaningBy_21 : decode cX6_meaningBy 21 = .ok (.aload_n 0, 1) := by decide +kernel
theorem dX6_meaningBy_22 : decode cX6_meaningBy 22 = .ok (.getfield 87, 3) := by decide +kernel
theorem dX6_meaningBy_25 : decode cX6_meaningBy 25 = .ok (.ifCond .eq 14, 3) := by decide +kernel
theorem dX6_meaningBy_28 : decode cX6_meaningBy 28 = .ok (.iload_n 1, 1) := by decide +kernel
theorem dX6_meaningBy_29 : decode cX6_meaningBy 29 = .ok (.ifCond .eq 10, 3) := by decide +kernel
theorem dX6_meaningBy_32 : decode cX6_meaningBy 32 = .ok (.iload 4, 2) := by decide +kernel
theorem dX6_meaningBy_34 : decode cX6_meaningBy 34 = .ok (.iconst 2, 1) := by decide +kernel
theorem dX6_meaningBy_35 : decode cX6_meaningBy 35 = .ok (.idiv, 1) := by decide +kernel
theorem dX6_meaningBy_36 : decode cX6_meaningBy 36 = .ok (.goto 4, 3) := by decide +kernel
theorem dX6_meaningBy_39 : decode cX6_meaningBy 39 = .ok (.iconst 0, 1) := by decide +kernel
theorem dX6_meaningBy_40 : decode cX6_meaningBy 40 = .ok (.isub, 1) := by decide +kernel
theorem dX6_meaningBy_41 : decode cX6_meaningBy 41 = .ok (.istore 5, 2) := by decide +kernel
theorem dX6_meaningBy_43 : decode cX6_meaningBy 43 = .ok (.bipush 20, 2) := by decide +kernel
theorem dX6_meaningBy_45 : decode cX6_meaningBy 45 = .ok (.aload_n 0, 1) := by decide +kernel
theorem dX6_meaningBy_46 : decode cX6_meaningBy 46 = .ok (.getfield 53, 3) := by decide +kernel
theorem dX6_meaningBy_49 : decode cX6_meaningBy 49 = .ok (.imul, 1) := by decide +kernel
theorem dX6_meaningBy_50 : decode cX6_meaningBy 50 = .ok (.aload_n 0, 1) := by decide +kernel
theorem dX6_meaningBy_51 : decode cX6_meaningBy 51 = .ok (.getfield 56, 3) := by decide +kernel
theorem dX6_meaningBy_54 : decode cX6_meaningBy 54 = .ok (.ifCond .eq 12, 3) := by decide +kernel
theorem dX6_meaningBy_57 : decode cX6_meaningBy 57 = .ok (.iload_n 1, 1) := by decide +kernel
theorem dX6_meaningBy_58 : decode cX6_meaningBy 58 = .ok (.ifCond .eq 8, 3) := by decide +kernel
theorem dX6_meaningBy_61 : decode cX6_meaningBy 61 = .ok (.bipush 10, 2) := by decide +kernel
theorem dX6_meaningBy_63 : decode cX6_meaningBy 63 = .ok (.goto 4, 3) := by decide +kernel
theorem dX6_meaningBy_66 : decode cX6_meaningBy 66 = .ok (.iconst 0, 1) := by decide +kernel
theorem dX6_meaningBy_67 : decode cX6_meaningBy 67 = .ok (.isub, 1) := by decide +kernel
theorem dX6_meaningBy_68 : decode cX6_meaningBy 68 = .ok (.istore 6, 2) := by decide +kernel
theorem dX6_meaningBy_70 : decode cX6_meaningBy 70 = .ok (.iload 5, 2) := by decide +kernel
theorem dX6_meaningBy_72 : decode cX6_meaningBy 72 = .ok (.iload 6, 2) := by decide +kernel
theorem dX6_meaningBy_74 : decode cX6_meaningBy 74 = .ok (.iadd, 1) := by decide +kernel
theorem dX6_meaningBy_75 : decode cX6_meaningBy 75 = .ok (.aload_n 0, 1) := by decide +kernel
theorem dX6_meaningBy_76 : decode cX6_meaningBy 76 = .ok (.getfield 71, 3) := by decide +kernel
theorem dX6_meaningBy_79 : decode cX6_meaningBy 79 = .ok (.ifCond .eq 15, 3) := by decide +kernel
theorem dX6_meaningBy_82 : decode cX6_meaningBy 82 = .ok (.iload_n 2, 1) := by decide +kernel
theorem dX6_meaningBy_83 : decode cX6_meaningBy 83 = .ok (.ifCond .eq 11, 3) := by decide +kernel
theorem dX6_meaningBy_86 : decode cX6_meaningBy 86 = .ok (.aload_n 0, 1) := by decide +kernel
theorem dX6_meaningBy_87 : decode cX6_meaningBy 87 = .ok (.getfield 64, 3) := by decide +kernel
theorem dX6_meaningBy_90 : decode cX6_meaningBy 90 = .ok (.ineg, 1) := by decide +kernel
theorem dX6_meaningBy_91 : decode cX6_meaningBy 91 = .ok (.goto 7, 3) := by decide +kernel
theorem dX6_meaningBy_94 : decode cX6_meaningBy 94 = .ok (.aload_n 0, 1) := by decide +kernel
theorem dX6_meaningBy_95 : decode cX6_meaningBy 95 = .ok (.getfield 64, 3) := by decide +kernel
theorem dX6_meaningBy_98 : decode cX6_meaningBy 98 = .ok (.iadd, 1) := by decide +kernel
theorem dX6_meaningBy_99 : decode cX6_meaningBy 99 = .ok (.ireturn, 1) := by decide +kernel
set_option maxRecDepth 20000 in
theorem ggX6_understands_X6_faultOf : GoodIn wsX6_understands wsX6_faultOf := goodIn_r _ [6, 7, 8, 9, 10, 11, 12, 13, 14, 15, 16, 17, 5, 18, 19, 20, 21, 22, 23, 24, 25, 26, 27, 28, 29, 30, 31, 32, 33, 34, 35, 36, 37, 38, 39, 40, 41, 42, 43, 44, 45, 46, 47, 48, 49, 50, 51, 52, 53, 54, 55, 60, 61, 62, 63, 64, 65, 66, 67, 68, 69, 70, 71, 72, 73, 74, 75, 76, 77] (by decide +kernel) (by decide +kernel)
set_option maxRecDepth 20000 in
theorem gX6_understands_X6_faultOf : GoodIn wsX6_understands (wsV RX6 99 RX6 yX6_faultOf wsX6_faultOf) := goodIn_app (goodIn_of _ (by decide +kernel)) ggX6_understands_X6_faultOf
set_option maxRecDepth 20000 in
theorem ggX6_understands_X6_meaningBy : GoodIn wsX6_understands wsX6_meaningBy := goodIn_r _ [59, 9, 12, 10, 13, 14, 11, 60, 61, 62, 63, 64, 65, 66, 67, 68, 69, 70, 71, 72, 73, 74, 75, 76, 77] (by decide +kernel) (by decide +kernel)
set_option maxRecDepth 20000 in
theorem gX6_understands_X6_meaningBy : GoodIn wsX6_understands (wsV RX6 103 RX6 yX6_meaningBy wsX6_meaningBy) := goodIn_app (goodIn_of _ (by decide +kernel)) ggX6_understands_X6_meaningBy
theorem dX6_understands_0 : decode cX6_understands 0 = .ok (.bipush 9, 2) := by decide +kernel
theorem dX6_understands_2 : decode cX6_understands 2 = .ok (.iload_n 1, 1) := by decide +kernel
theorem dX6_understands_3 : decode cX6_understands 3 = .ok (.imul, 1) := by decide +kernel
theorem dX6_understands_4 : decode cX6_understands 4 = .ok (.istore_n 3, 1) := by decide +kernel
theorem dX6_understands_5 : decode cX6_understands 5 = .ok (.iload_n 2, 1) := by decide +kernel
theorem dX6_understands_6 : decode cX6_understands 6 = .ok (.aload_n 0, 1) := by decide +kernel
theorem dX6_understands_7 : decode cX6_understands 7 = .ok (.getfield 7, 3) := by decide +kernel
theorem dX6_understands_10 : decode cX6_understands 10 = .ok (.iload_n 3, 1) := by decide +kernel
theorem dX6_understands_11 : decode cX6_understands 11 = .ok (.bipush 6, 2) := by decide +kernel
theorem dX6_understands_13 : decode cX6_understands 13 = .ok (.iadd, 1) := by decide +kernel
theorem dX6_understands_14 : decode cX6_understands 14 = .ok (.iaload, 1) := by decide +kernel
theorem dX6_understands_15 : decode cX6_understands 15 = .ok (.if_icmp .ge 7, 3) := by decide +kernel
theorem dX6_understands_18 : decode cX6_understands 18 = .ok (.iload_n 2, 1) := by decide +kernel
theorem dX6_understands_19 : decode cX6_understands 19 = .ok (.goto 12, 3) := by decide +kernel
theorem dX6_understands_22 : decode cX6_understands 22 = .ok (.aload_n 0, 1) := by decide +kernel
theorem dX6_understands_23 : decode cX6_understands 23 = .ok (.getfield 7, 3) := by decide +kernel
theorem dX6_understands_26 : decode cX6_understands 26 = .ok (.iload_n 3, 1) := by decide +kernel
theorem dX6_understands_27 : decode cX6_understands 27 = .ok (.bipush 6, 2) := by decide +kernel
theorem dX6_understands_29 : decode cX6_understands 29 = .ok (.iadd, 1) := by decide +kernel
theorem dX6_understands_30 : decode cX6_understands 30 = .ok (.iaload, 1) := by decide +kernel
theorem dX6_understands_31 : decode cX6_understands 31 = .ok (.istore 4, 2) := by decide +kernel
theorem dX6_understands_33 : decode cX6_understands 33 = .ok (.aload_n 0, 1) := by decide +kernel
theorem dX6_understands_34 : decode cX6_understands 34 = .ok (.iload 4, 2) := by decide +kernel
theorem dX6_understands_36 : decode cX6_understands 36 = .ok (.invokevirtual 99, 3) := by decide +kernel
theorem dX6_understands_39 : decode cX6_understands 39 = .ok (.ifCond .lt 7, 3) := by decide +kernel
theorem dX6_understands_42 : decode cX6_understands 42 = .ok (.iconst 0, 1) := by decide +kernel
theorem dX6_understands_43 : decode cX6_understands 43 = .ok (.goto 58, 3) := by decide +kernel
theorem dX6_understands_46 : decode cX6_understands 46 = .ok (.aload_n 0, 1) := by decide +kernel
theorem dX6_understands_47 : decode cX6_understands 47 = .ok (.aload_n 0, 1) := by decide +kernel
theorem dX6_understands_48 : decode cX6_understands 48 = .ok (.getfield 7, 3) := by decide +kernel
theorem dX6_understands_51 : decode cX6_understands 51 = .ok (.iload_n 3, 1) := by decide +kernel
theorem dX6_understands_52 : decode cX6_understands 52 = .ok (.iconst 0, 1) := by decide +kernel
theorem dX6_understands_53 : decode cX6_understands 53 = .ok (.iadd, 1) := by decide +kernel
theorem dX6_understands_54 : decode cX6_understands 54 = .ok (.iaload, 1) := by decide +kernel
theorem dX6_understands_55 : decode cX6_understands 55 = .ok (.iconst 1, 1) := by decide +kernel
theorem dX6_understands_56 : decode cX6_understands 56 = .ok (.if_icmp .ne 7, 3) := by decide +kernel
theorem dX6_understands_59 : decode cX6_understands 59 = .ok (.iconst 1, 1) := by decide +kernel
theorem dX6_understands_60 : decode cX6_understands 60 = .ok (.goto 4, 3) := by decide +kernel
theorem dX6_understands_63 : decode cX6_understands 63 = .ok (.iconst 0, 1) := by decide +kernel
theorem dX6_understands_64 : decode cX6_understands 64 = .ok (.aload_n 0, 1) := by decide +kernel
theorem dX6_understands_65 : decode cX6_understands 65 = .ok (.getfield 7, 3) := by decide +kernel
theorem dX6_understands_68 : decode cX6_understands 68 = .ok (.iload_n 3, 1) := by decide +kernel
theorem dX6_understands_69 : decode cX6_understands 69 = .ok (.iconst 1, 1) := by decide +kernel
theorem dX6_understands_70 : decode cX6_understands 70 = .ok (.iadd, 1) := by decide +kernel
theorem dX6_understands_71 : decode cX6_understands 71 = .ok (.iaload, 1) := by decide +kernel
theorem dX6_understands_72 : decode cX6_understands 72 = .ok (.iconst 1, 1) := by decide +kernel
theorem dX6_understands_73 : decode cX6_understands 73 = .ok (.if_icmp .ne 7, 3) := by decide +kernel
theorem dX6_understands_76 : decode cX6_understands 76 = .ok (.iconst 1, 1) := by decide +kernel
theorem dX6_understands_77 : decode cX6_understands 77 = .ok (.goto 4, 3) := by decide +kernel
theorem dX6_understands_80 : decode cX6_understands 80 = .ok (.iconst 0, 1) := by decide +kernel
theorem dX6_understands_81 : decode cX6_understands 81 = .ok (.aload_n 0, 1) := by decide +kernel
theorem dX6_understands_82 : decode cX6_understands 82 = .ok (.getfield 7, 3) := by decide +kernel
theorem dX6_understands_85 : decode cX6_understands 85 = .ok (.iload_n 3, 1) := by decide +kernel
theorem dX6_understands_86 : decode cX6_understands 86 = .ok (.iconst 2, 1) := by decide +kernel
theorem dX6_understands_87 : decode cX6_understands 87 = .ok (.iadd, 1) := by decide +kernel
theorem dX6_understands_88 : decode cX6_understands 88 = .ok (.iaload, 1) := by decide +kernel
theorem dX6_understands_89 : decode cX6_understands 89 = .ok (.iconst 1, 1) := by decide +kernel
theorem dX6_understands_90 : decode cX6_understands 90 = .ok (.if_icmp .ne 7, 3) := by decide +kernel
theorem dX6_understands_93 : decode cX6_understands 93 = .ok (.iconst 1, 1) := by decide +kernel
theorem dX6_understands_94 : decode cX6_understands 94 = .ok (.goto 4, 3) := by decide +kernel
theorem dX6_understands_97 : decode cX6_understands 97 = .ok (.iconst 0, 1) := by decide +kernel
theorem dX6_understands_98 : decode cX6_understands 98 = .ok (.invokevirtual 103, 3) := by decide +kernel
theorem dX6_understands_101 : decode cX6_understands 101 = .ok (.ireturn, 1) := by decide +kernel
theorem dX6_put_0 : decode cX6_put 0 = .ok (.aload_n 0, 1) := by decide +kernel
theorem dX6_put_1 : decode cX6_put 1 = .ok (.getfield 23, 3) := by decide +kernel
theorem dX6_put_4 : decode cX6_put 4 = .ok (.bipush 10, 2) := by decide +kernel
theorem dX6_put_6 : decode cX6_put 6 = .ok (.aload_n 0, 1) := by decide +kernel
theorem dX6_put_7 : decode cX6_put 7 = .ok (.getfield 107, 3) := by decide +kernel
theorem dX6_put_10 : decode cX6_put 10 = .ok (.imul, 1) := by decide +kernel
theorem dX6_put_11 : decode cX6_put 11 = .ok (.aload_n 0, 1) := by decide +kernel
theorem dX6_put_12 : decode cX6_put 12 = .ok (.getfield 26, 3) := by decide +kernel
theorem dX6_put_15 : decode cX6_put 15 = .ok (.aload_n 0, 1) := by decide +kernel
theorem dX6_put_16 : decode cX6_put 16 = .ok (.getfield 107, 3) := by decide +kernel
theorem dX6_put_19 : decode cX6_put 19 = .ok (.iaload, 1) := by decide +kernel
theorem dX6_put_20 : decode cX6_put 20 = .ok (.iadd, 1) := by decide +kernel
theorem dX6_put_21 : decode cX6_put 21 = .ok (.iload_n 1, 1) := by decide +kernel
theorem dX6_put_22 : decode cX6_put 22 = .ok (.castore, 1) := by decide +kernel
theorem dX6_put_23 : decode cX6_put 23 = .ok (.aload_n 0, 1) := by decide +kernel
theorem dX6_put_24 : decode cX6_put 24 = .ok (.getfield 26, 3) := by decide +kernel
theorem dX6_put_27 : decode cX6_put 27 = .ok (.aload_n 0, 1) := by decide +kernel
theorem dX6_put_28 : decode cX6_put 28 = .ok (.getfield 107, 3) := by decide +kernel
theorem dX6_put_31 : decode cX6_put 31 = .ok (.dup2, 1) := by decide +kernel
theorem dX6_put_32 : decode cX6_put 32 = .ok (.iaload, 1) := by decide +kernel
theorem dX6_put_33 : decode cX6_put 33 = .ok (.iconst 1, 1) := by decide +kernel
theorem dX6_put_34 : decode cX6_put 34 = .ok (.iadd, 1) := by decide +kernel
theorem dX6_put_35 : decode cX6_put 35 = .ok (.iastore, 1) := by decide +kernel
theorem dX6_put_36 : decode cX6_put 36 = .ok (.return_, 1) := by decide +kernel
set_option maxRecDepth 20000 in
theorem ggX6_putCount_X6_put : GoodIn wsX6_putCount wsX6_put := goodIn_r _ [5, 6, 7, 8, 9, 10, 11, 12, 13, 14, 15, 16, 17, 18, 19, 20, 21, 22, 23, 24, 25, 26] (by decide +kernel) (by decide +kernel)
set_option maxRecDepth 20000 in
theorem gX6_putCount_X6_put : GoodIn wsX6_putCount (wsV RX6 110 RX6 yX6_put wsX6_put) := goodIn_app (goodIn_of _ (by decide +kernel)) ggX6_putCount_X6_put
theorem dX6_putCount_0 : decode cX6_putCount 0 = .ok (.iload_n 2, 1) := by decide +kernel
theorem dX6_putCount_1 : decode cX6_putCount 1 = .ok (.ifCond .eq 9, 3) := by decide +kernel
theorem dX6_putCount_4 : decode cX6_putCount 4 = .ok (.aload_n 0, 1) := by decide +kernel
theorem dX6_putCount_5 : decode cX6_putCount 5 = .ok (.bipush 72, 2) := by decide +kernel
theorem dX6_putCount_7 : decode cX6_putCount 7 = .ok (.invokevirtual 110, 3) := by decide +kernel
theorem dX6_putCount_10 : decode cX6_putCount 10 = .ok (.iload_n 1, 1) := by decide +kernel
theorem dX6_putCount_11 : decode cX6_putCount 11 = .ok (.iconst 1, 1) := by decide +kernel
theorem dX6_putCount_12 : decode cX6_putCount 12 = .ok (.if_icmp .le 14, 3) := by decide +kernel
theorem dX6_putCount_15 : decode cX6_putCount 15 = .ok (.aload_n 0, 1) := by decide +kernel
theorem dX6_putCount_16 : decode cX6_putCount 16 = .ok (.bipush 97, 2) := by decide +kernel
theorem dX6_putCount_18 : decode cX6_putCount 18 = .ok (.iload_n 1, 1) := by decide +kernel
theorem dX6_putCount_19 : decode cX6_putCount 19 = .ok (.iadd, 1) := by decide +kernel
theorem dX6_putCount_20 : decode cX6_putCount 20 = .ok (.iconst 1, 1) := by decide +kernel
theorem dX6_putCount_21 : decode cX6_putCount 21 = .ok (.isub, 1) := by decide +kernel
theorem dX6_putCount_22 : decode cX6_putCount 22 = .ok (.i2c, 1) := by decide +kernel
theorem dX6_putCount_23 : decode cX6_putCount 23 = .ok (.invokevirtual 110, 3) := by decide +kernel
theorem dX6_putCount_26 : decode cX6_putCount 26 = .ok (.aload_n 0, 1) := by decide +kernel
theorem dX6_putCount_27 : decode cX6_putCount 27 = .ok (.iload_n 3, 1) := by decide +kernel
theorem dX6_putCount_28 : decode cX6_putCount 28 = .ok (.invokevirtual 110, 3) := by decide +kernel
theorem dX6_putCount_31 : decode cX6_putCount 31 = .ok (.return_, 1) := by decide +kernel
set_option maxRecDepth 20000 in
theorem ggX6_begins_X6_putCount : GoodIn wsX6_begins wsX6_putCount := goodIn_r _ [7, 8, 9, 10, 6, 11, 12, 2, 1, 13, 14, 15, 16, 17, 18, 19, 20, 21, 22, 23, 24, 25, 26, 27, 28, 29, 30] (by decide +kernel) (by decide +kernel)
set_option maxRecDepth 20000 in
theorem gX6_begins_X6_putCount : GoodIn wsX6_begins (wsV RX6 114 RX6 yX6_putCount wsX6_putCount) := goodIn_app (goodIn_of _ (by decide +kernel)) ggX6_begins_X6_putCount
set_option maxRecDepth 20000 in
theorem ggX6_begins_X6_put : GoodIn wsX6_begins wsX6_put := goodIn_r _ [11, 12, 2, 1, 13, 14, 15, 16, 17, 18, 19, 20, 21, 22, 23, 24, 25, 26, 27, 28, 29, 30] (by decide +kernel) (by decide +kernel)
set_option maxRecDepth 20000 in
theorem gX6_begins_X6_put : GoodIn wsX6_begins (wsV RX6 110 RX6 yX6_put wsX6_put) := goodIn_app (goodIn_of _ (by decide +kernel)) ggX6_begins_X6_put
theorem dX6_begins_0 : decode cX6_begins 0 = .ok (.aload_n 0, 1) := by decide +kernel
theorem dX6_begins_1 : decode cX6_begins 1 = .ok (.getfield 26, 3) := by decide +kernel
theorem dX6_begins_4 : decode cX6_begins 4 = .ok (.aload_n 0, 1) := by decide +kernel
theorem dX6_begins_5 : decode cX6_begins 5 = .ok (.getfield 107, 3) := by decide +kernel
theorem dX6_begins_8 : decode cX6_begins 8 = .ok (.iconst 0, 1) := by decide +kernel
theorem dX6_begins_9 : decode cX6_begins 9 = .ok (.iastore, 1) := by decide +kernel
theorem dX6_begins_10 : decode cX6_begins 10 = .ok (.iload_n 1, 1) := by decide +kernel
theorem dX6_begins_11 : decode cX6_begins 11 = .ok (.ifCond .le 36, 3) := by decide +kernel
theorem dX6_begins_14 : decode cX6_begins 14 = .ok (.aload_n 0, 1) := by decide +kernel
theorem dX6_begins_15 : decode cX6_begins 15 = .ok (.iload_n 1, 1) := by decide +kernel
theorem dX6_begins_16 : decode cX6_begins 16 = .ok (.iconst 1, 1) := by decide +kernel
theorem dX6_begins_17 : decode cX6_begins 17 = .ok (.iadd, 1) := by decide +kernel
theorem dX6_begins_18 : decode cX6_begins 18 = .ok (.iconst 2, 1) := by decide +kernel
theorem dX6_begins_19 : decode cX6_begins 19 = .ok (.idiv, 1) := by decide +kernel
theorem dX6_begins_20 : decode cX6_begins 20 = .ok (.iload_n 1, 1) := by decide +kernel
theorem dX6_begins_21 : decode cX6_begins 21 = .ok (.iconst 2, 1) := by decide +kernel
theorem dX6_begins_22 : decode cX6_begins 22 = .ok (.irem, 1) := by decide +kernel
theorem dX6_begins_23 : decode cX6_begins 23 = .ok (.iconst 1, 1) := by decide +kernel
theorem dX6_begins_24 : decode cX6_begins 24 = .ok (.if_icmp .ne 7, 3) := by decide +kernel
theorem dX6_begins_27 : decode cX6_begins 27 = .ok (.iconst 1, 1) := by decide +kernel
theorem dX6_begins_28 : decode cX6_begins 28 = .ok (.goto 4, 3) := by decide +kernel
theorem dX6_begins_31 : decode cX6_begins 31 = .ok (.iconst 0, 1) := by decide +kernel
theorem dX6_begins_32 : decode cX6_begins 32 = .ok (.bipush 71, 2) := by decide +kernel
theorem dX6_begins_34 : decode cX6_begins 34 = .ok (.invokevirtual 114, 3) := by decide +kernel
theorem dX6_begins_37 : decode cX6_begins 37 = .ok (.iload_n 2, 1) := by decide +kernel
theorem dX6_begins_38 : decode cX6_begins 38 = .ok (.ifCond .eq 9, 3) := by decide +kernel
theorem dX6_begins_41 : decode cX6_begins 41 = .ok (.aload_n 0, 1) := by decide +kernel
theorem dX6_begins_42 : decode cX6_begins 42 = .ok (.bipush 38, 2) := by decide +kernel
theorem dX6_begins_44 : decode cX6_begins 44 = .ok (.invokevirtual 110, 3) := by decide +kernel
theorem dX6_begins_47 : decode cX6_begins 47 = .ok (.return_, 1) := by decide +kernel
set_option maxRecDepth 20000 in
theorem ggX6_isBase_X6_in : GoodIn wsX6_isBase wsX6_in := goodIn_r _ [4] (by decide +kernel) (by decide +kernel)
set_option maxRecDepth 20000 in
theorem gX6_isBase_X6_in : GoodIn wsX6_isBase (va_wsS RX6 32 yX6_in wsX6_in) := goodIn_app (goodIn_of _ (by decide +kernel)) ggX6_isBase_X6_in
theorem dX6_isBase_0 : decode cX6_isBase 0 = .ok (.iload_n 0, 1) := by decide +kernel
theorem dX6_isBase_1 : decode cX6_isBase 1 = .ok (.iconst 2, 1) := by decide +kernel
theorem dX6_isBase_2 : decode cX6_isBase 2 = .ok (.bipush 38, 2) := by decide +kernel
theorem dX6_isBase_4 : decode cX6_isBase 4 = .ok (.invokestatic 32, 3) := by decide +kernel
theorem dX6_isBase_7 : decode cX6_isBase 7 = .ok (.ireturn, 1) := by decide +kernel
set_option maxRecDepth 20000 in
theorem ggX6_putBase_X6_putCount : GoodIn wsX6_putBase wsX6_putCount := goodIn_r _ [5, 6, 7, 8, 4, 9, 10, 11, 12, 13, 14, 15, 16, 17, 18, 19, 20, 21, 22, 23, 24, 25, 26, 27, 28, 29, 30] (by decide +kernel) (by decide +kernel)
set_option maxRecDepth 20000 in
theorem gX6_putBase_X6_putCount : GoodIn wsX6_putBase (wsV RX6 114 RX6 yX6_putCount wsX6_putCount) := goodIn_app (goodIn_of _ (by decide +kernel)) ggX6_putBase_X6_putCount
theorem dX6_putBase_0 : decode cX6_putBase 0 = .ok (.aload_n 0, 1) := by decide +kernel
theorem dX6_putBase_1 : decode cX6_putBase 1 = .ok (.iload_n 1, 1) := by decide +kernel
theorem dX6_putBase_2 : decode cX6_putBase 2 = .ok (.iconst 1, 1) := by decide +kernel
theorem dX6_putBase_3 : decode cX6_putBase 3 = .ok (.iadd, 1) := by decide +kernel
theorem dX6_putBase_4 : decode cX6_putBase 4 = .ok (.iconst 2, 1) := by decide +kernel
theorem dX6_putBase_5 : decode cX6_putBase 5 = .ok (.idiv, 1) := by decide +kernel
theorem dX6_putBase_6 : decode cX6_putBase 6 = .ok (.iload_n 1, 1) := by decide +kernel
theorem dX6_putBase_7 : decode cX6_putBase 7 = .ok (.iconst 2, 1) := by decide +kernel
theorem dX6_putBase_8 : decode cX6_putBase 8 = .ok (.irem, 1) := by decide +kernel
theorem dX6_putBase_9 : decode cX6_putBase 9 = .ok (.iconst 1, 1) := by decide +kernel
theorem dX6_putBase_10 : decode cX6_putBase 10 = .ok (.if_icmp .ne 7, 3) := by decide +kernel
theorem dX6_putBase_13 : decode cX6_putBase 13 = .ok (.iconst 1, 1) := by decide +kernel
theorem dX6_putBase_14 : decode cX6_putBase 14 = .ok (.goto 4, 3) := by decide +kernel
theorem dX6_putBase_17 : decode cX6_putBase 17 = .ok (.iconst 0, 1) := by decide +kernel
theorem dX6_putBase_18 : decode cX6_putBase 18 = .ok (.bipush 83, 2) := by decide +kernel
theorem dX6_putBase_20 : decode cX6_putBase 20 = .ok (.invokevirtual 114, 3) := by decide +kernel
theorem dX6_putBase_23 : decode cX6_putBase 23 = .ok (.return_, 1) := by decide +kernel
set_option maxRecDepth 20000 in
theorem ggX6_smalls_X6_begins : GoodIn wsX6_smalls wsX6_begins := goodIn_r _ [6, 7, 1, 8, 9, 10, 5, 11, 12, 13, 14, 15, 16, 27, 28, 29, 30, 31, 32, 33, 34, 35, 36, 37, 38, 39, 40, 41, 42, 43, 44] (by decide +kernel) (by decide +kernel)
set_option maxRecDepth 20000 in
theorem gX6_smalls_X6_begins : GoodIn wsX6_smalls (wsV RX6 118 RX6 yX6_begins wsX6_begins) := goodIn_app (goodIn_of _ (by decide +kernel)) ggX6_smalls_X6_begins
set_option maxRecDepth 20000 in
theorem ggX6_smalls_X6_put : GoodIn wsX6_smalls wsX6_put := goodIn_r _ [15, 16, 1, 7, 27, 28, 29, 30, 31, 32, 33, 34, 35, 36, 37, 38, 39, 40, 41, 42, 43, 44] (by decide +kernel) (by decide +kernel)
set_option maxRecDepth 20000 in
theorem gX6_smalls_X6_put : GoodIn wsX6_smalls (wsV RX6 110 RX6 yX6_put wsX6_put) := goodIn_app (goodIn_of _ (by decide +kernel)) ggX6_smalls_X6_put
set_option maxRecDepth 20000 in
theorem ggX6_smalls_X6_isBase : GoodIn wsX6_smalls wsX6_isBase := goodIn_r _ [19, 20, 21, 5, 22] (by decide +kernel) (by decide +kernel)
set_option maxRecDepth 20000 in
theorem gX6_smalls_X6_isBase : GoodIn wsX6_smalls (va_wsS RX6 122 yX6_isBase wsX6_isBase) := goodIn_app (goodIn_of _ (by decide +kernel)) ggX6_smalls_X6_isBase
set_option maxRecDepth 20000 in
theorem ggX6_smalls_X6_putBase : GoodIn wsX6_smalls wsX6_putBase := goodIn_r _ [26, 8, 9, 10, 5, 11, 12, 13, 14, 15, 16, 1, 7, 27, 28, 29, 30, 31, 32, 33, 34, 35, 36, 37, 38, 39, 40, 41, 42, 43, 44] (by decide +kernel) (by decide +kernel)
set_option maxRecDepth 20000 in
theorem gX6_smalls_X6_putBase : GoodIn wsX6_smalls (wsV RX6 125 RX6 yX6_putBase wsX6_putBase) := goodIn_app (goodIn_of _ (by decide +kernel)) ggX6_smalls_X6_putBase
theorem dX6_smalls_0 : decode cX6_smalls 0 = .ok (.iload_n 2, 1) := by decide +kernel
theorem dX6_smalls_1 : decode cX6_smalls 1 = .ok (.bipush 20, 2) := by decide +kernel
theorem dX6_smalls_3 : decode cX6_smalls 3 = .ok (.if_icmp .ge 30, 3) := by decide +kernel
theorem dX6_smalls_6 : decode cX6_smalls 6 = .ok (.aload_n 0, 1) := by decide +kernel
theorem dX6_smalls_7 : decode cX6_smalls 7 = .ok (.iload_n 1, 1) := by decide +kernel
theorem dX6_smalls_8 : decode cX6_smalls 8 = .ok (.iconst 1, 1) := by decide +kernel
theorem dX6_smalls_9 : decode cX6_smalls 9 = .ok (.invokevirtual 118, 3) := by decide +kernel
theorem dX6_smalls_12 : decode cX6_smalls 12 = .ok (.aload_n 0, 1) := by decide +kernel
theorem dX6_smalls_13 : decode cX6_smalls 13 = .ok (.bipush 97, 2) := by decide +kernel
theorem dX6_smalls_15 : decode cX6_smalls 15 = .ok (.iload_n 2, 1) := by decide +kernel
theorem dX6_smalls_16 : decode cX6_smalls 16 = .ok (.iadd, 1) := by decide +kernel
theorem dX6_smalls_17 : decode cX6_smalls 17 = .ok (.iconst 1, 1) := by decide +kernel
theorem dX6_smalls_18 : decode cX6_smalls 18 = .ok (.isub, 1) := by decide +kernel
theorem dX6_smalls_19 : decode cX6_smalls 19 = .ok (.i2c, 1) := by decide +kernel
theorem dX6_smalls_20 : decode cX6_smalls 20 = .ok (.invokevirtual 110, 3) := by decide +kernel
theorem dX6_smalls_23 : decode cX6_smalls 23 = .ok (.aload_n 0, 1) := by decide +kernel
theorem dX6_smalls_24 : decode cX6_smalls 24 = .ok (.dup, 1) := by decide +kernel
theorem dX6_smalls_25 : decode cX6_smalls 25 = .ok (.getfield 107, 3) := by decide +kernel
theorem dX6_smalls_28 : decode cX6_smalls 28 = .ok (.iconst 1, 1) := by decide +kernel
theorem dX6_smalls_29 : decode cX6_smalls 29 = .ok (.iadd, 1) := by decide +kernel
theorem dX6_smalls_30 : decode cX6_smalls 30 = .ok (.putfield 107, 3) := by decide +kernel
theorem dX6_smalls_33 : decode cX6_smalls 33 = .ok (.bipush (-19), 2) := by decide +kernel
theorem dX6_smalls_35 : decode cX6_smalls 35 = .ok (.istore_n 3, 1) := by decide +kernel
theorem dX6_smalls_36 : decode cX6_smalls 36 = .ok (.iload_n 3, 1) := by decide +kernel
theorem dX6_smalls_37 : decode cX6_smalls 37 = .ok (.bipush 20, 2) := by decide +kernel
theorem dX6_smalls_39 : decode cX6_smalls 39 = .ok (.if_icmp .ge 105, 3) := by decide +kernel
theorem dX6_smalls_42 : decode cX6_smalls 42 = .ok (.iload_n 2, 1) := by decide +kernel
theorem dX6_smalls_43 : decode cX6_smalls 43 = .ok (.iload_n 3, 1) := by decide +kernel
theorem dX6_smalls_44 : decode cX6_smalls 44 = .ok (.iadd, 1) := by decide +kernel
theorem dX6_smalls_45 : decode cX6_smalls 45 = .ok (.istore 4, 2) := by decide +kernel
theorem dX6_smalls_47 : decode cX6_smalls 47 = .ok (.iload 4, 2) := by decide +kernel
theorem dX6_smalls_49 : decode cX6_smalls 49 = .ok (.ifCond .le 89, 3) := by decide +kernel
theorem dX6_smalls_52 : decode cX6_smalls 52 = .ok (.iload 4, 2) := by decide +kernel
theorem dX6_smalls_54 : decode cX6_smalls 54 = .ok (.bipush 10, 2) := by decide +kernel
theorem dX6_smalls_56 : decode cX6_smalls 56 = .ok (.irem, 1) := by decide +kernel
theorem dX6_smalls_57 : decode cX6_smalls 57 = .ok (.ifCond .ne 81, 3) := by decide +kernel
theorem dX6_smalls_60 : decode cX6_smalls 60 = .ok (.iload 4, 2) := by decide +kernel
theorem dX6_smalls_62 : decode cX6_smalls 62 = .ok (.bipush 10, 2) := by decide +kernel
theorem dX6_smalls_64 : decode cX6_smalls 64 = .ok (.idiv, 1) := by decide +kernel
theorem dX6_smalls_65 : decode cX6_smalls 65 = .ok (.invokestatic 122, 3) := by decide +kernel
theorem dX6_smalls_68 : decode cX6_smalls 68 = .ok (.ifCond .eq 70, 3) := by decide +kernel
theorem dX6_smalls_71 : decode cX6_smalls 71 = .ok (.aload_n 0, 1) := by decide +kernel
theorem dX6_smalls_72 : decode cX6_smalls 72 = .ok (.iload_n 1, 1) := by decide +kernel
theorem dX6_smalls_73 : decode cX6_smalls 73 = .ok (.iconst 1, 1) := by decide +kernel
theorem dX6_smalls_74 : decode cX6_smalls 74 = .ok (.invokevirtual 118, 3) := by decide +kernel
theorem dX6_smalls_77 : decode cX6_smalls 77 = .ok (.iload_n 3, 1) := by decide +kernel
theorem dX6_smalls_78 : decode cX6_smalls 78 = .ok (.ifCond .le 20, 3) := by decide +kernel
theorem dX6_smalls_81 : decode cX6_smalls 81 = .ok (.aload_n 0, 1) := by decide +kernel
theorem dX6_smalls_82 : decode cX6_smalls 82 = .ok (.bipush 97, 2) := by decide +kernel
theorem dX6_smalls_84 : decode cX6_smalls 84 = .ok (.iload_n 3, 1) := by decide +kernel
theorem dX6_smalls_85 : decode cX6_smalls 85 = .ok (.iadd, 1) := by decide +kernel
theorem dX6_smalls_86 : decode cX6_smalls 86 = .ok (.iconst 1, 1) := by decide +kernel
theorem dX6_smalls_87 : decode cX6_smalls 87 = .ok (.isub, 1) := by decide +kernel
theorem dX6_smalls_88 : decode cX6_smalls 88 = .ok (.i2c, 1) := by decide +kernel
