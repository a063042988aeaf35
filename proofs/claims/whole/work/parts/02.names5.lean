theorem dX6_smalls_89 : decode cX6_smalls 89 = .ok (.invokevirtual 110, 3) := by decide +kernel
theorem dX6_smalls_92 : decode cX6_smalls 92 = .ok (.aload_n 0, 1) := by decide +kernel
theorem dX6_smalls_93 : decode cX6_smalls 93 = .ok (.bipush 45, 2) := by decide +kernel
theorem dX6_smalls_95 : decode cX6_smalls 95 = .ok (.invokevirtual 110, 3) := by decide +kernel
theorem dX6_smalls_98 : decode cX6_smalls 98 = .ok (.aload_n 0, 1) := by decide +kernel
theorem dX6_smalls_99 : decode cX6_smalls 99 = .ok (.iload 4, 2) := by decide +kernel
theorem dX6_smalls_101 : decode cX6_smalls 101 = .ok (.bipush 10, 2) := by decide +kernel
theorem dX6_smalls_103 : decode cX6_smalls 103 = .ok (.idiv, 1) := by decide +kernel
theorem dX6_smalls_104 : decode cX6_smalls 104 = .ok (.invokevirtual 125, 3) := by decide +kernel
theorem dX6_smalls_107 : decode cX6_smalls 107 = .ok (.iload_n 3, 1) := by decide +kernel
theorem dX6_smalls_108 : decode cX6_smalls 108 = .ok (.ifCond .ge 20, 3) := by decide +kernel
theorem dX6_smalls_111 : decode cX6_smalls 111 = .ok (.aload_n 0, 1) := by decide +kernel
theorem dX6_smalls_112 : decode cX6_smalls 112 = .ok (.bipush 43, 2) := by decide +kernel
theorem dX6_smalls_114 : decode cX6_smalls 114 = .ok (.invokevirtual 110, 3) := by decide +kernel
theorem dX6_smalls_117 : decode cX6_smalls 117 = .ok (.aload_n 0, 1) := by decide +kernel
theorem dX6_smalls_118 : decode cX6_smalls 118 = .ok (.bipush 97, 2) := by decide +kernel
theorem dX6_smalls_120 : decode cX6_smalls 120 = .ok (.iload_n 3, 1) := by decide +kernel
theorem dX6_smalls_121 : decode cX6_smalls 121 = .ok (.isub, 1) := by decide +kernel
theorem dX6_smalls_122 : decode cX6_smalls 122 = .ok (.iconst 1, 1) := by decide +kernel
theorem dX6_smalls_123 : decode cX6_smalls 123 = .ok (.isub, 1) := by decide +kernel
theorem dX6_smalls_124 : decode cX6_smalls 124 = .ok (.i2c, 1) := by decide +kernel
theorem dX6_smalls_125 : decode cX6_smalls 125 = .ok (.invokevirtual 110, 3) := by decide +kernel
theorem dX6_smalls_128 : decode cX6_smalls 128 = .ok (.aload_n 0, 1) := by decide +kernel
theorem dX6_smalls_129 : decode cX6_smalls 129 = .ok (.dup, 1) := by decide +kernel
theorem dX6_smalls_130 : decode cX6_smalls 130 = .ok (.getfield 107, 3) := by decide +kernel
theorem dX6_smalls_133 : decode cX6_smalls 133 = .ok (.iconst 1, 1) := by decide +kernel
theorem dX6_smalls_134 : decode cX6_smalls 134 = .ok (.iadd, 1) := by decide +kernel
theorem dX6_smalls_135 : decode cX6_smalls 135 = .ok (.putfield 107, 3) := by decide +kernel
theorem dX6_smalls_138 : decode cX6_smalls 138 = .ok (.iinc 3 1, 3) := by decide +kernel
theorem dX6_smalls_141 : decode cX6_smalls 141 = .ok (.goto (-105), 3) := by decide +kernel
theorem dX6_smalls_144 : decode cX6_smalls 144 = .ok (.return_, 1) := by decide +kernel
theorem dX6_isAhead_0 : decode cX6_isAhead 0 = .ok (.aload_n 0, 1) := by decide +kernel
theorem dX6_isAhead_1 : decode cX6_isAhead 1 = .ok (.getfield 26, 3) := by decide +kernel
theorem dX6_isAhead_4 : decode cX6_isAhead 4 = .ok (.iload_n 1, 1) := by decide +kernel
theorem dX6_isAhead_5 : decode cX6_isAhead 5 = .ok (.iaload, 1) := by decide +kernel
theorem dX6_isAhead_6 : decode cX6_isAhead 6 = .ok (.aload_n 0, 1) := by decide +kernel
theorem dX6_isAhead_7 : decode cX6_isAhead 7 = .ok (.getfield 26, 3) := by decide +kernel
theorem dX6_isAhead_10 : decode cX6_isAhead 10 = .ok (.iload_n 2, 1) := by decide +kernel
theorem dX6_isAhead_11 : decode cX6_isAhead 11 = .ok (.iaload, 1) := by decide +kernel
theorem dX6_isAhead_12 : decode cX6_isAhead 12 = .ok (.if_icmp .eq 24, 3) := by decide +kernel
theorem dX6_isAhead_15 : decode cX6_isAhead 15 = .ok (.aload_n 0, 1) := by decide +kernel
theorem dX6_isAhead_16 : decode cX6_isAhead 16 = .ok (.getfield 26, 3) := by decide +kernel
theorem dX6_isAhead_19 : decode cX6_isAhead 19 = .ok (.iload_n 1, 1) := by decide +kernel
theorem dX6_isAhead_20 : decode cX6_isAhead 20 = .ok (.iaload, 1) := by decide +kernel
theorem dX6_isAhead_21 : decode cX6_isAhead 21 = .ok (.aload_n 0, 1) := by decide +kernel
theorem dX6_isAhead_22 : decode cX6_isAhead 22 = .ok (.getfield 26, 3) := by decide +kernel
theorem dX6_isAhead_25 : decode cX6_isAhead 25 = .ok (.iload_n 2, 1) := by decide +kernel
theorem dX6_isAhead_26 : decode cX6_isAhead 26 = .ok (.iaload, 1) := by decide +kernel
theorem dX6_isAhead_27 : decode cX6_isAhead 27 = .ok (.if_icmp .ge 7, 3) := by decide +kernel
theorem dX6_isAhead_30 : decode cX6_isAhead 30 = .ok (.iconst 1, 1) := by decide +kernel
theorem dX6_isAhead_31 : decode cX6_isAhead 31 = .ok (.goto 4, 3) := by decide +kernel
theorem dX6_isAhead_34 : decode cX6_isAhead 34 = .ok (.iconst 0, 1) := by decide +kernel
theorem dX6_isAhead_35 : decode cX6_isAhead 35 = .ok (.ireturn, 1) := by decide +kernel
theorem dX6_isAhead_36 : decode cX6_isAhead 36 = .ok (.iconst 0, 1) := by decide +kernel
theorem dX6_isAhead_37 : decode cX6_isAhead 37 = .ok (.istore_n 3, 1) := by decide +kernel
theorem dX6_isAhead_38 : decode cX6_isAhead 38 = .ok (.iload_n 3, 1) := by decide +kernel
theorem dX6_isAhead_39 : decode cX6_isAhead 39 = .ok (.aload_n 0, 1) := by decide +kernel
theorem dX6_isAhead_40 : decode cX6_isAhead 40 = .ok (.getfield 26, 3) := by decide +kernel
theorem dX6_isAhead_43 : decode cX6_isAhead 43 = .ok (.iload_n 1, 1) := by decide +kernel
theorem dX6_isAhead_44 : decode cX6_isAhead 44 = .ok (.iaload, 1) := by decide +kernel
theorem dX6_isAhead_45 : decode cX6_isAhead 45 = .ok (.if_icmp .ge 34, 3) := by decide +kernel
theorem dX6_isAhead_48 : decode cX6_isAhead 48 = .ok (.aload_n 0, 1) := by decide +kernel
theorem dX6_isAhead_49 : decode cX6_isAhead 49 = .ok (.getfield 23, 3) := by decide +kernel
theorem dX6_isAhead_52 : decode cX6_isAhead 52 = .ok (.bipush 10, 2) := by decide +kernel
theorem dX6_isAhead_54 : decode cX6_isAhead 54 = .ok (.iload_n 1, 1) := by decide +kernel
theorem dX6_isAhead_55 : decode cX6_isAhead 55 = .ok (.imul, 1) := by decide +kernel
theorem dX6_isAhead_56 : decode cX6_isAhead 56 = .ok (.iload_n 3, 1) := by decide +kernel
theorem dX6_isAhead_57 : decode cX6_isAhead 57 = .ok (.iadd, 1) := by decide +kernel
theorem dX6_isAhead_58 : decode cX6_isAhead 58 = .ok (.caload, 1) := by decide +kernel
theorem dX6_isAhead_59 : decode cX6_isAhead 59 = .ok (.aload_n 0, 1) := by decide +kernel
theorem dX6_isAhead_60 : decode cX6_isAhead 60 = .ok (.getfield 23, 3) := by decide +kernel
theorem dX6_isAhead_63 : decode cX6_isAhead 63 = .ok (.bipush 10, 2) := by decide +kernel
theorem dX6_isAhead_65 : decode cX6_isAhead 65 = .ok (.iload_n 2, 1) := by decide +kernel
theorem dX6_isAhead_66 : decode cX6_isAhead 66 = .ok (.imul, 1) := by decide +kernel
theorem dX6_isAhead_67 : decode cX6_isAhead 67 = .ok (.iload_n 3, 1) := by decide +kernel
theorem dX6_isAhead_68 : decode cX6_isAhead 68 = .ok (.iadd, 1) := by decide +kernel
theorem dX6_isAhead_69 : decode cX6_isAhead 69 = .ok (.caload, 1) := by decide +kernel
theorem dX6_isAhead_70 : decode cX6_isAhead 70 = .ok (.if_icmp .ne 9, 3) := by decide +kernel
theorem dX6_isAhead_73 : decode cX6_isAhead 73 = .ok (.iinc 3 1, 3) := by decide +kernel
theorem dX6_isAhead_76 : decode cX6_isAhead 76 = .ok (.goto (-38), 3) := by decide +kernel
theorem dX6_isAhead_79 : decode cX6_isAhead 79 = .ok (.iload_n 3, 1) := by decide +kernel
theorem dX6_isAhead_80 : decode cX6_isAhead 80 = .ok (.aload_n 0, 1) := by decide +kernel
theorem dX6_isAhead_81 : decode cX6_isAhead 81 = .ok (.getfield 26, 3) := by decide +kernel
theorem dX6_isAhead_84 : decode cX6_isAhead 84 = .ok (.iload_n 1, 1) := by decide +kernel
theorem dX6_isAhead_85 : decode cX6_isAhead 85 = .ok (.iaload, 1) := by decide +kernel
theorem dX6_isAhead_86 : decode cX6_isAhead 86 = .ok (.if_icmp .ge 32, 3) := by decide +kernel
theorem dX6_isAhead_89 : decode cX6_isAhead 89 = .ok (.aload_n 0, 1) := by decide +kernel
theorem dX6_isAhead_90 : decode cX6_isAhead 90 = .ok (.getfield 23, 3) := by decide +kernel
theorem dX6_isAhead_93 : decode cX6_isAhead 93 = .ok (.bipush 10, 2) := by decide +kernel
theorem dX6_isAhead_95 : decode cX6_isAhead 95 = .ok (.iload_n 1, 1) := by decide +kernel
theorem dX6_isAhead_96 : decode cX6_isAhead 96 = .ok (.imul, 1) := by decide +kernel
theorem dX6_isAhead_97 : decode cX6_isAhead 97 = .ok (.iload_n 3, 1) := by decide +kernel
theorem dX6_isAhead_98 : decode cX6_isAhead 98 = .ok (.iadd, 1) := by decide +kernel
theorem dX6_isAhead_99 : decode cX6_isAhead 99 = .ok (.caload, 1) := by decide +kernel
theorem dX6_isAhead_100 : decode cX6_isAhead 100 = .ok (.aload_n 0, 1) := by decide +kernel
theorem dX6_isAhead_101 : decode cX6_isAhead 101 = .ok (.getfield 23, 3) := by decide +kernel
theorem dX6_isAhead_104 : decode cX6_isAhead 104 = .ok (.bipush 10, 2) := by decide +kernel
theorem dX6_isAhead_106 : decode cX6_isAhead 106 = .ok (.iload_n 2, 1) := by decide +kernel
theorem dX6_isAhead_107 : decode cX6_isAhead 107 = .ok (.imul, 1) := by decide +kernel
theorem dX6_isAhead_108 : decode cX6_isAhead 108 = .ok (.iload_n 3, 1) := by decide +kernel
theorem dX6_isAhead_109 : decode cX6_isAhead 109 = .ok (.iadd, 1) := by decide +kernel
theorem dX6_isAhead_110 : decode cX6_isAhead 110 = .ok (.caload, 1) := by decide +kernel
theorem dX6_isAhead_111 : decode cX6_isAhead 111 = .ok (.if_icmp .ge 7, 3) := by decide +kernel
theorem dX6_isAhead_114 : decode cX6_isAhead 114 = .ok (.iconst 1, 1) := by decide +kernel
theorem dX6_isAhead_115 : decode cX6_isAhead 115 = .ok (.goto 4, 3) := by decide +kernel
theorem dX6_isAhead_118 : decode cX6_isAhead 118 = .ok (.iconst 0, 1) := by decide +kernel
theorem dX6_isAhead_119 : decode cX6_isAhead 119 = .ok (.ireturn, 1) := by decide +kernel
set_option maxRecDepth 20000 in
theorem ggX6_makes_X6_begins : GoodIn wsX6_makes wsX6_begins := goodIn_r _ [7, 8, 1, 9, 10, 11, 6, 12, 13, 14, 15, 16, 17, 36, 37, 38, 39, 40, 41, 42, 43, 44, 45, 46, 47, 48, 49, 50, 51, 52, 53] (by decide +kernel) (by decide +kernel)
set_option maxRecDepth 20000 in
theorem gX6_makes_X6_begins : GoodIn wsX6_makes (wsV RX6 118 RX6 yX6_begins wsX6_begins) := goodIn_app (goodIn_of _ (by decide +kernel)) ggX6_makes_X6_begins
set_option maxRecDepth 20000 in
theorem ggX6_makes_X6_smalls : GoodIn wsX6_makes wsX6_smalls := goodIn_r _ [21, 1, 3, 4, 5, 6, 7, 8, 9, 10, 11, 12, 13, 14, 15, 16, 17, 22, 23, 24, 25, 26, 27, 28, 29, 30, 31, 36, 37, 38, 39, 40, 41, 42, 43, 44, 45, 46, 47, 48, 49, 50, 51, 52, 53] (by decide +kernel) (by decide +kernel)
set_option maxRecDepth 20000 in
theorem gX6_makes_X6_smalls : GoodIn wsX6_makes (wsV RX6 129 RX6 yX6_smalls wsX6_smalls) := goodIn_app (goodIn_of _ (by decide +kernel)) ggX6_makes_X6_smalls
set_option maxRecDepth 20000 in
theorem ggX6_makes_X6_isAhead : GoodIn wsX6_makes wsX6_isAhead := goodIn_r _ [35, 8, 17, 36, 37, 38, 39, 40, 41, 42, 43, 44, 45, 46, 47, 48, 49, 50, 51, 52, 53] (by decide +kernel) (by decide +kernel)
set_option maxRecDepth 20000 in
theorem gX6_makes_X6_isAhead : GoodIn wsX6_makes (wsV RX6 133 RX6 yX6_isAhead wsX6_isAhead) := goodIn_app (goodIn_of _ (by decide +kernel)) ggX6_makes_X6_isAhead
theorem dX6_makes_0 : decode cX6_makes 0 = .ok (.aload_n 0, 1) := by decide +kernel
theorem dX6_makes_1 : decode cX6_makes 1 = .ok (.iconst 0, 1) := by decide +kernel
theorem dX6_makes_2 : decode cX6_makes 2 = .ok (.putfield 107, 3) := by decide +kernel
theorem dX6_makes_5 : decode cX6_makes 5 = .ok (.iconst 0, 1) := by decide +kernel
theorem dX6_makes_6 : decode cX6_makes 6 = .ok (.istore_n 2, 1) := by decide +kernel
theorem dX6_makes_7 : decode cX6_makes 7 = .ok (.iload_n 2, 1) := by decide +kernel
theorem dX6_makes_8 : decode cX6_makes 8 = .ok (.bipush 39, 2) := by decide +kernel
theorem dX6_makes_10 : decode cX6_makes 10 = .ok (.if_icmp .ge 67, 3) := by decide +kernel
theorem dX6_makes_13 : decode cX6_makes 13 = .ok (.iload_n 1, 1) := by decide +kernel
theorem dX6_makes_14 : decode cX6_makes 14 = .ok (.sipush 200, 3) := by decide +kernel
theorem dX6_makes_17 : decode cX6_makes 17 = .ok (.iload_n 2, 1) := by decide +kernel
theorem dX6_makes_18 : decode cX6_makes 18 = .ok (.imul, 1) := by decide +kernel
theorem dX6_makes_19 : decode cX6_makes 19 = .ok (.isub, 1) := by decide +kernel
theorem dX6_makes_20 : decode cX6_makes 20 = .ok (.istore_n 3, 1) := by decide +kernel
theorem dX6_makes_21 : decode cX6_makes 21 = .ok (.iload_n 2, 1) := by decide +kernel
theorem dX6_makes_22 : decode cX6_makes 22 = .ok (.iconst 1, 1) := by decide +kernel
theorem dX6_makes_23 : decode cX6_makes 23 = .ok (.if_icmp .eq 26, 3) := by decide +kernel
theorem dX6_makes_26 : decode cX6_makes 26 = .ok (.iload_n 3, 1) := by decide +kernel
theorem dX6_makes_27 : decode cX6_makes 27 = .ok (.ifCond .ne 22, 3) := by decide +kernel
theorem dX6_makes_30 : decode cX6_makes 30 = .ok (.aload_n 0, 1) := by decide +kernel
theorem dX6_makes_31 : decode cX6_makes 31 = .ok (.iload_n 2, 1) := by decide +kernel
theorem dX6_makes_32 : decode cX6_makes 32 = .ok (.iconst 0, 1) := by decide +kernel
theorem dX6_makes_33 : decode cX6_makes 33 = .ok (.invokevirtual 118, 3) := by decide +kernel
theorem dX6_makes_36 : decode cX6_makes 36 = .ok (.aload_n 0, 1) := by decide +kernel
theorem dX6_makes_37 : decode cX6_makes 37 = .ok (.dup, 1) := by decide +kernel
theorem dX6_makes_38 : decode cX6_makes 38 = .ok (.getfield 107, 3) := by decide +kernel
theorem dX6_makes_41 : decode cX6_makes 41 = .ok (.iconst 1, 1) := by decide +kernel
theorem dX6_makes_42 : decode cX6_makes 42 = .ok (.iadd, 1) := by decide +kernel
theorem dX6_makes_43 : decode cX6_makes 43 = .ok (.putfield 107, 3) := by decide +kernel
theorem dX6_makes_46 : decode cX6_makes 46 = .ok (.goto 25, 3) := by decide +kernel
theorem dX6_makes_49 : decode cX6_makes 49 = .ok (.iload_n 2, 1) := by decide +kernel
theorem dX6_makes_50 : decode cX6_makes 50 = .ok (.iconst 1, 1) := by decide +kernel
theorem dX6_makes_51 : decode cX6_makes 51 = .ok (.if_icmp .eq 20, 3) := by decide +kernel
theorem dX6_makes_54 : decode cX6_makes 54 = .ok (.iload_n 3, 1) := by decide +kernel
theorem dX6_makes_55 : decode cX6_makes 55 = .ok (.ifCond .le 16, 3) := by decide +kernel
theorem dX6_makes_58 : decode cX6_makes 58 = .ok (.iload_n 3, 1) := by decide +kernel
theorem dX6_makes_59 : decode cX6_makes 59 = .ok (.sipush 400, 3) := by decide +kernel
theorem dX6_makes_62 : decode cX6_makes 62 = .ok (.if_icmp .ge 9, 3) := by decide +kernel
theorem dX6_makes_65 : decode cX6_makes 65 = .ok (.aload_n 0, 1) := by decide +kernel
theorem dX6_makes_66 : decode cX6_makes 66 = .ok (.iload_n 2, 1) := by decide +kernel
theorem dX6_makes_67 : decode cX6_makes 67 = .ok (.iload_n 3, 1) := by decide +kernel
theorem dX6_makes_68 : decode cX6_makes 68 = .ok (.invokevirtual 129, 3) := by decide +kernel
theorem dX6_makes_71 : decode cX6_makes 71 = .ok (.iinc 2 1, 3) := by decide +kernel
theorem dX6_makes_74 : decode cX6_makes 74 = .ok (.goto (-67), 3) := by decide +kernel
theorem dX6_makes_77 : decode cX6_makes 77 = .ok (.iconst 0, 1) := by decide +kernel
theorem dX6_makes_78 : decode cX6_makes 78 = .ok (.istore_n 2, 1) := by decide +kernel
theorem dX6_makes_79 : decode cX6_makes 79 = .ok (.iload_n 2, 1) := by decide +kernel
theorem dX6_makes_80 : decode cX6_makes 80 = .ok (.aload_n 0, 1) := by decide +kernel
theorem dX6_makes_81 : decode cX6_makes 81 = .ok (.getfield 107, 3) := by decide +kernel
theorem dX6_makes_84 : decode cX6_makes 84 = .ok (.if_icmp .ge 54, 3) := by decide +kernel
theorem dX6_makes_87 : decode cX6_makes 87 = .ok (.iconst 0, 1) := by decide +kernel
theorem dX6_makes_88 : decode cX6_makes 88 = .ok (.istore_n 3, 1) := by decide +kernel
theorem dX6_makes_89 : decode cX6_makes 89 = .ok (.iconst 0, 1) := by decide +kernel
theorem dX6_makes_90 : decode cX6_makes 90 = .ok (.istore 4, 2) := by decide +kernel
theorem dX6_makes_92 : decode cX6_makes 92 = .ok (.iload 4, 2) := by decide +kernel
theorem dX6_makes_94 : decode cX6_makes 94 = .ok (.aload_n 0, 1) := by decide +kernel
theorem dX6_makes_95 : decode cX6_makes 95 = .ok (.getfield 107, 3) := by decide +kernel
theorem dX6_makes_98 : decode cX6_makes 98 = .ok (.if_icmp .ge 27, 3) := by decide +kernel
theorem dX6_makes_101 : decode cX6_makes 101 = .ok (.iload_n 3, 1) := by decide +kernel
theorem dX6_makes_102 : decode cX6_makes 102 = .ok (.aload_n 0, 1) := by decide +kernel
theorem dX6_makes_103 : decode cX6_makes 103 = .ok (.iload 4, 2) := by decide +kernel
theorem dX6_makes_105 : decode cX6_makes 105 = .ok (.iload_n 2, 1) := by decide +kernel
theorem dX6_makes_106 : decode cX6_makes 106 = .ok (.invokevirtual 133, 3) := by decide +kernel
theorem dX6_makes_109 : decode cX6_makes 109 = .ok (.ifCond .eq 7, 3) := by decide +kernel
theorem dX6_makes_112 : decode cX6_makes 112 = .ok (.iconst 1, 1) := by decide +kernel
theorem dX6_makes_113 : decode cX6_makes 113 = .ok (.goto 4, 3) := by decide +kernel
theorem dX6_makes_116 : decode cX6_makes 116 = .ok (.iconst 0, 1) := by decide +kernel
theorem dX6_makes_117 : decode cX6_makes 117 = .ok (.iadd, 1) := by decide +kernel
theorem dX6_makes_118 : decode cX6_makes 118 = .ok (.istore_n 3, 1) := by decide +kernel
theorem dX6_makes_119 : decode cX6_makes 119 = .ok (.iinc 4 1, 3) := by decide +kernel
theorem dX6_makes_122 : decode cX6_makes 122 = .ok (.goto (-30), 3) := by decide +kernel
theorem dX6_makes_125 : decode cX6_makes 125 = .ok (.aload_n 0, 1) := by decide +kernel
theorem dX6_makes_126 : decode cX6_makes 126 = .ok (.getfield 29, 3) := by decide +kernel
theorem dX6_makes_129 : decode cX6_makes 129 = .ok (.iload_n 3, 1) := by decide +kernel
theorem dX6_makes_130 : decode cX6_makes 130 = .ok (.iload_n 2, 1) := by decide +kernel
theorem dX6_makes_131 : decode cX6_makes 131 = .ok (.iastore, 1) := by decide +kernel
theorem dX6_makes_132 : decode cX6_makes 132 = .ok (.iinc 2 1, 3) := by decide +kernel
theorem dX6_makes_135 : decode cX6_makes 135 = .ok (.goto (-56), 3) := by decide +kernel
theorem dX6_makes_138 : decode cX6_makes 138 = .ok (.return_, 1) := by decide +kernel
theorem dX6_says_0 : decode cX6_says 0 = .ok (.aload_n 0, 1) := by decide +kernel
theorem dX6_says_1 : decode cX6_says 1 = .ok (.getfield 29, 3) := by decide +kernel
theorem dX6_says_4 : decode cX6_says 4 = .ok (.iload_n 1, 1) := by decide +kernel
theorem dX6_says_5 : decode cX6_says 5 = .ok (.iaload, 1) := by decide +kernel
theorem dX6_says_6 : decode cX6_says 6 = .ok (.istore_n 2, 1) := by decide +kernel
theorem dX6_says_7 : decode cX6_says 7 = .ok (.iconst 0, 1) := by decide +kernel
theorem dX6_says_8 : decode cX6_says 8 = .ok (.istore_n 3, 1) := by decide +kernel
theorem dX6_says_9 : decode cX6_says 9 = .ok (.iload_n 3, 1) := by decide +kernel
theorem dX6_says_10 : decode cX6_says 10 = .ok (.aload_n 0, 1) := by decide +kernel
theorem dX6_says_11 : decode cX6_says 11 = .ok (.getfield 26, 3) := by decide +kernel
theorem dX6_says_14 : decode cX6_says 14 = .ok (.iload_n 2, 1) := by decide +kernel
theorem dX6_says_15 : decode cX6_says 15 = .ok (.iaload, 1) := by decide +kernel
theorem dX6_says_16 : decode cX6_says 16 = .ok (.if_icmp .ge 26, 3) := by decide +kernel
theorem dX6_says_19 : decode cX6_says 19 = .ok (.aload_n 0, 1) := by decide +kernel
theorem dX6_says_20 : decode cX6_says 20 = .ok (.getfield 16, 3) := by decide +kernel
theorem dX6_says_23 : decode cX6_says 23 = .ok (.iload_n 3, 1) := by decide +kernel
theorem dX6_says_24 : decode cX6_says 24 = .ok (.aload_n 0, 1) := by decide +kernel
theorem dX6_says_25 : decode cX6_says 25 = .ok (.getfield 23, 3) := by decide +kernel
theorem dX6_says_28 : decode cX6_says 28 = .ok (.bipush 10, 2) := by decide +kernel
theorem dX6_says_30 : decode cX6_says 30 = .ok (.iload_n 2, 1) := by decide +kernel
theorem dX6_says_31 : decode cX6_says 31 = .ok (.imul, 1) := by decide +kernel
theorem dX6_says_32 : decode cX6_says 32 = .ok (.iload_n 3, 1) := by decide +kernel
theorem dX6_says_33 : decode cX6_says 33 = .ok (.iadd, 1) := by decide +kernel
theorem dX6_says_34 : decode cX6_says 34 = .ok (.caload, 1) := by decide +kernel
theorem dX6_says_35 : decode cX6_says 35 = .ok (.castore, 1) := by decide +kernel
theorem dX6_says_36 : decode cX6_says 36 = .ok (.iinc 3 1, 3) := by decide +kernel
theorem dX6_says_39 : decode cX6_says 39 = .ok (.goto (-30), 3) := by decide +kernel
theorem dX6_says_42 : decode cX6_says 42 = .ok (.aload_n 0, 1) := by decide +kernel
theorem dX6_says_43 : decode cX6_says 43 = .ok (.getfield 26, 3) := by decide +kernel
theorem dX6_says_46 : decode cX6_says 46 = .ok (.iload_n 2, 1) := by decide +kernel
theorem dX6_says_47 : decode cX6_says 47 = .ok (.iaload, 1) := by decide +kernel
theorem dX6_says_48 : decode cX6_says 48 = .ok (.ireturn, 1) := by decide +kernel
theorem dX6_has_0 : decode cX6_has 0 = .ok (.iconst 0, 1) := by decide +kernel
theorem dX6_has_1 : decode cX6_has 1 = .ok (.istore_n 3, 1) := by decide +kernel
theorem dX6_has_2 : decode cX6_has 2 = .ok (.iconst 0, 1) := by decide +kernel
theorem dX6_has_3 : decode cX6_has 3 = .ok (.istore 4, 2) := by decide +kernel
theorem dX6_has_5 : decode cX6_has 5 = .ok (.iload 4, 2) := by decide +kernel
theorem dX6_has_7 : decode cX6_has 7 = .ok (.aload_n 0, 1) := by decide +kernel
theorem dX6_has_8 : decode cX6_has 8 = .ok (.getfield 26, 3) := by decide +kernel
theorem dX6_has_11 : decode cX6_has 11 = .ok (.iload_n 1, 1) := by decide +kernel
theorem dX6_has_12 : decode cX6_has 12 = .ok (.iaload, 1) := by decide +kernel
theorem dX6_has_13 : decode cX6_has 13 = .ok (.if_icmp .ge 35, 3) := by decide +kernel
theorem dX6_has_16 : decode cX6_has 16 = .ok (.iload_n 3, 1) := by decide +kernel
theorem dX6_has_17 : decode cX6_has 17 = .ok (.ifCond .ne 19, 3) := by decide +kernel
theorem dX6_has_20 : decode cX6_has 20 = .ok (.aload_n 0, 1) := by decide +kernel
theorem dX6_has_21 : decode cX6_has 21 = .ok (.getfield 23, 3) := by decide +kernel
theorem dX6_has_24 : decode cX6_has 24 = .ok (.bipush 10, 2) := by decide +kernel
theorem dX6_has_26 : decode cX6_has 26 = .ok (.iload_n 1, 1) := by decide +kernel
theorem dX6_has_27 : decode cX6_has 27 = .ok (.imul, 1) := by decide +kernel
theorem dX6_has_28 : decode cX6_has 28 = .ok (.iload 4, 2) := by decide +kernel
theorem dX6_has_30 : decode cX6_has 30 = .ok (.iadd, 1) := by decide +kernel
theorem dX6_has_31 : decode cX6_has 31 = .ok (.caload, 1) := by decide +kernel
theorem dX6_has_32 : decode cX6_has 32 = .ok (.iload_n 2, 1) := by decide +kernel
theorem dX6_has_33 : decode cX6_has 33 = .ok (.if_icmp .ne 7, 3) := by decide +kernel
theorem dX6_has_36 : decode cX6_has 36 = .ok (.iconst 1, 1) := by decide +kernel
theorem dX6_has_37 : decode cX6_has 37 = .ok (.goto 4, 3) := by decide +kernel
theorem dX6_has_40 : decode cX6_has 40 = .ok (.iconst 0, 1) := by decide +kernel
theorem dX6_has_41 : decode cX6_has 41 = .ok (.istore_n 3, 1) := by decide +kernel
theorem dX6_has_42 : decode cX6_has 42 = .ok (.iinc 4 1, 3) := by decide +kernel
theorem dX6_has_45 : decode cX6_has 45 = .ok (.goto (-40), 3) := by decide +kernel
theorem dX6_has_48 : decode cX6_has 48 = .ok (.iload_n 3, 1) := by decide +kernel
theorem dX6_has_49 : decode cX6_has 49 = .ok (.ireturn, 1) := by decide +kernel
set_option maxRecDepth 20000 in
theorem ggX6_placeOf_X6_has : GoodIn wsX6_placeOf wsX6_has := goodIn_r _ [7, 8, 9, 10, 11, 12, 13, 14, 15, 16, 17, 18, 19, 20, 21, 22, 23, 24, 25, 26, 27] (by decide +kernel) (by decide +kernel)
set_option maxRecDepth 20000 in
theorem gX6_placeOf_X6_has : GoodIn wsX6_placeOf (wsV RX6 137 RX6 yX6_has wsX6_has) := goodIn_app (goodIn_of _ (by decide +kernel)) ggX6_placeOf_X6_has
theorem dX6_placeOf_0 : decode cX6_placeOf 0 = .ok (.iload_n 1, 1) := by decide +kernel
theorem dX6_placeOf_1 : decode cX6_placeOf 1 = .ok (.ifCond .ne 7, 3) := by decide +kernel
theorem dX6_placeOf_4 : decode cX6_placeOf 4 = .ok (.iconst 0, 1) := by decide +kernel
theorem dX6_placeOf_5 : decode cX6_placeOf 5 = .ok (.goto 5, 3) := by decide +kernel
theorem dX6_placeOf_8 : decode cX6_placeOf 8 = .ok (.bipush (-5), 2) := by decide +kernel
theorem dX6_placeOf_10 : decode cX6_placeOf 10 = .ok (.istore_n 2, 1) := by decide +kernel
theorem dX6_placeOf_11 : decode cX6_placeOf 11 = .ok (.aload_n 0, 1) := by decide +kernel
theorem dX6_placeOf_12 : decode cX6_placeOf 12 = .ok (.getfield 107, 3) := by decide +kernel
theorem dX6_placeOf_15 : decode cX6_placeOf 15 = .ok (.iconst 1, 1) := by decide +kernel
theorem dX6_placeOf_16 : decode cX6_placeOf 16 = .ok (.isub, 1) := by decide +kernel
theorem dX6_placeOf_17 : decode cX6_placeOf 17 = .ok (.istore_n 3, 1) := by decide +kernel
theorem dX6_placeOf_18 : decode cX6_placeOf 18 = .ok (.iload_n 3, 1) := by decide +kernel
theorem dX6_placeOf_19 : decode cX6_placeOf 19 = .ok (.ifCond .lt 90, 3) := by decide +kernel
theorem dX6_placeOf_22 : decode cX6_placeOf 22 = .ok (.aload_n 0, 1) := by decide +kernel
theorem dX6_placeOf_23 : decode cX6_placeOf 23 = .ok (.aload_n 0, 1) := by decide +kernel
theorem dX6_placeOf_24 : decode cX6_placeOf 24 = .ok (.getfield 29, 3) := by decide +kernel
theorem dX6_placeOf_27 : decode cX6_placeOf 27 = .ok (.iload_n 3, 1) := by decide +kernel
theorem dX6_placeOf_28 : decode cX6_placeOf 28 = .ok (.iaload, 1) := by decide +kernel
theorem dX6_placeOf_29 : decode cX6_placeOf 29 = .ok (.bipush 72, 2) := by decide +kernel
theorem dX6_placeOf_31 : decode cX6_placeOf 31 = .ok (.invokevirtual 137, 3) := by decide +kernel
theorem dX6_placeOf_34 : decode cX6_placeOf 34 = .ok (.istore 4, 2) := by decide +kernel
theorem dX6_placeOf_36 : decode cX6_placeOf 36 = .ok (.aload_n 0, 1) := by decide +kernel
theorem dX6_placeOf_37 : decode cX6_placeOf 37 = .ok (.aload_n 0, 1) := by decide +kernel
theorem dX6_placeOf_38 : decode cX6_placeOf 38 = .ok (.getfield 29, 3) := by decide +kernel
theorem dX6_placeOf_41 : decode cX6_placeOf 41 = .ok (.iload_n 3, 1) := by decide +kernel
theorem dX6_placeOf_42 : decode cX6_placeOf 42 = .ok (.iaload, 1) := by decide +kernel
theorem dX6_placeOf_43 : decode cX6_placeOf 43 = .ok (.bipush 45, 2) := by decide +kernel
theorem dX6_placeOf_45 : decode cX6_placeOf 45 = .ok (.invokevirtual 137, 3) := by decide +kernel
theorem dX6_placeOf_48 : decode cX6_placeOf 48 = .ok (.istore 5, 2) := by decide +kernel
theorem dX6_placeOf_50 : decode cX6_placeOf 50 = .ok (.iload_n 1, 1) := by decide +kernel
theorem dX6_placeOf_51 : decode cX6_placeOf 51 = .ok (.iconst 1, 1) := by decide +kernel
theorem dX6_placeOf_52 : decode cX6_placeOf 52 = .ok (.if_icmp .ne 8, 3) := by decide +kernel
theorem dX6_placeOf_55 : decode cX6_placeOf 55 = .ok (.iload 4, 2) := by decide +kernel
theorem dX6_placeOf_57 : decode cX6_placeOf 57 = .ok (.goto 33, 3) := by decide +kernel
theorem dX6_placeOf_60 : decode cX6_placeOf 60 = .ok (.iload_n 1, 1) := by decide +kernel
theorem dX6_placeOf_61 : decode cX6_placeOf 61 = .ok (.iconst 2, 1) := by decide +kernel
theorem dX6_placeOf_62 : decode cX6_placeOf 62 = .ok (.if_icmp .ne 8, 3) := by decide +kernel
theorem dX6_placeOf_65 : decode cX6_placeOf 65 = .ok (.iload 5, 2) := by decide +kernel
theorem dX6_placeOf_67 : decode cX6_placeOf 67 = .ok (.goto 23, 3) := by decide +kernel
theorem dX6_placeOf_70 : decode cX6_placeOf 70 = .ok (.iload_n 1, 1) := by decide +kernel
theorem dX6_placeOf_71 : decode cX6_placeOf 71 = .ok (.iconst 3, 1) := by decide +kernel
theorem dX6_placeOf_72 : decode cX6_placeOf 72 = .ok (.if_icmp .ne 17, 3) := by decide +kernel
theorem dX6_placeOf_75 : decode cX6_placeOf 75 = .ok (.iload 4, 2) := by decide +kernel
theorem dX6_placeOf_77 : decode cX6_placeOf 77 = .ok (.ifCond .ne 12, 3) := by decide +kernel
theorem dX6_placeOf_80 : decode cX6_placeOf 80 = .ok (.iload 5, 2) := by decide +kernel
theorem dX6_placeOf_82 : decode cX6_placeOf 82 = .ok (.ifCond .ne 7, 3) := by decide +kernel
theorem dX6_placeOf_85 : decode cX6_placeOf 85 = .ok (.iconst 1, 1) := by decide +kernel
theorem dX6_placeOf_86 : decode cX6_placeOf 86 = .ok (.goto 4, 3) := by decide +kernel
theorem dX6_placeOf_89 : decode cX6_placeOf 89 = .ok (.iconst 0, 1) := by decide +kernel
theorem dX6_placeOf_90 : decode cX6_placeOf 90 = .ok (.istore 6, 2) := by decide +kernel
theorem dX6_placeOf_92 : decode cX6_placeOf 92 = .ok (.iload 6, 2) := by decide +kernel
theorem dX6_placeOf_94 : decode cX6_placeOf 94 = .ok (.ifCond .eq 7, 3) := by decide +kernel
theorem dX6_placeOf_97 : decode cX6_placeOf 97 = .ok (.iload_n 3, 1) := by decide +kernel
theorem dX6_placeOf_98 : decode cX6_placeOf 98 = .ok (.goto 4, 3) := by decide +kernel
theorem dX6_placeOf_101 : decode cX6_placeOf 101 = .ok (.iload_n 2, 1) := by decide +kernel
theorem dX6_placeOf_102 : decode cX6_placeOf 102 = .ok (.istore_n 2, 1) := by decide +kernel
theorem dX6_placeOf_103 : decode cX6_placeOf 103 = .ok (.iinc 3 (-1), 3) := by decide +kernel
theorem dX6_placeOf_106 : decode cX6_placeOf 106 = .ok (.goto (-88), 3) := by decide +kernel
theorem dX6_placeOf_109 : decode cX6_placeOf 109 = .ok (.iload_n 2, 1) := by decide +kernel
theorem dX6_placeOf_110 : decode cX6_placeOf 110 = .ok (.bipush (-5), 2) := by decide +kernel
theorem dX6_placeOf_112 : decode cX6_placeOf 112 = .ok (.if_icmp .eq 7, 3) := by decide +kernel
theorem dX6_placeOf_115 : decode cX6_placeOf 115 = .ok (.iload_n 1, 1) := by decide +kernel
theorem dX6_placeOf_116 : decode cX6_placeOf 116 = .ok (.ifCond .ne 7, 3) := by decide +kernel
theorem dX6_placeOf_119 : decode cX6_placeOf 119 = .ok (.iconst 0, 1) := by decide +kernel
theorem dX6_placeOf_120 : decode cX6_placeOf 120 = .ok (.goto 4, 3) := by decide +kernel
theorem dX6_placeOf_123 : decode cX6_placeOf 123 = .ok (.iload_n 2, 1) := by decide +kernel
theorem dX6_placeOf_124 : decode cX6_placeOf 124 = .ok (.ireturn, 1) := by decide +kernel
theorem dX6_known_0 : decode cX6_known 0 = .ok (.bipush 9, 2) := by decide +kernel
theorem dX6_known_2 : decode cX6_known 2 = .ok (.iload_n 1, 1) := by decide +kernel
theorem dX6_known_3 : decode cX6_known 3 = .ok (.imul, 1) := by decide +kernel
theorem dX6_known_4 : decode cX6_known 4 = .ok (.istore_n 2, 1) := by decide +kernel
theorem dX6_known_5 : decode cX6_known 5 = .ok (.aload_n 0, 1) := by decide +kernel
theorem dX6_known_6 : decode cX6_known 6 = .ok (.getfield 7, 3) := by decide +kernel
theorem dX6_known_9 : decode cX6_known 9 = .ok (.iload_n 2, 1) := by decide +kernel
theorem dX6_known_10 : decode cX6_known 10 = .ok (.iaload, 1) := by decide +kernel
theorem dX6_known_11 : decode cX6_known 11 = .ok (.aload_n 0, 1) := by decide +kernel
theorem dX6_known_12 : decode cX6_known 12 = .ok (.getfield 7, 3) := by decide +kernel
theorem dX6_known_15 : decode cX6_known 15 = .ok (.iload_n 2, 1) := by decide +kernel
theorem dX6_known_16 : decode cX6_known 16 = .ok (.iconst 1, 1) := by decide +kernel
theorem dX6_known_17 : decode cX6_known 17 = .ok (.iadd, 1) := by decide +kernel
theorem dX6_known_18 : decode cX6_known 18 = .ok (.iaload, 1) := by decide +kernel
theorem dX6_known_19 : decode cX6_known 19 = .ok (.iadd, 1) := by decide +kernel
theorem dX6_known_20 : decode cX6_known 20 = .ok (.aload_n 0, 1) := by decide +kernel
theorem dX6_known_21 : decode cX6_known 21 = .ok (.getfield 7, 3) := by decide +kernel
theorem dX6_known_24 : decode cX6_known 24 = .ok (.iload_n 2, 1) := by decide +kernel
theorem dX6_known_25 : decode cX6_known 25 = .ok (.iconst 2, 1) := by decide +kernel
theorem dX6_known_26 : decode cX6_known 26 = .ok (.iadd, 1) := by decide +kernel
theorem dX6_known_27 : decode cX6_known 27 = .ok (.iaload, 1) := by decide +kernel
theorem dX6_known_28 : decode cX6_known 28 = .ok (.iadd, 1) := by decide +kernel
theorem dX6_known_29 : decode cX6_known 29 = .ok (.ireturn, 1) := by decide +kernel
set_option maxRecDepth 20000 in
theorem ggX6_makesKnown_X6_isHearer : GoodIn wsX6_makesKnown wsX6_isHearer := goodIn_r _ [5, 6, 7, 4, 8] (by decide +kernel) (by decide +kernel)
set_option maxRecDepth 20000 in
theorem gX6_makesKnown_X6_isHearer : GoodIn wsX6_makesKnown (va_wsS RX6 141 yX6_isHearer wsX6_isHearer) := goodIn_app (goodIn_of _ (by decide +kernel)) ggX6_makesKnown_X6_isHearer
set_option maxRecDepth 20000 in
theorem ggX6_makesKnown_X6_in : GoodIn wsX6_makesKnown wsX6_in := goodIn_r _ [8] (by decide +kernel) (by decide +kernel)
set_option maxRecDepth 20000 in
theorem gX6_makesKnown_X6_in : GoodIn wsX6_makesKnown (va_wsS RX6 32 yX6_in wsX6_in) := goodIn_app (goodIn_of _ (by decide +kernel)) ggX6_makesKnown_X6_in
set_option maxRecDepth 20000 in
theorem ggX6_makesKnown_X6_record : GoodIn wsX6_makesKnown wsX6_record := goodIn_r _ [12, 13, 14, 1, 19, 20, 21, 22, 23, 24, 25, 26, 27, 28, 29, 30, 31, 32, 33, 34, 35, 36] (by decide +kernel) (by decide +kernel)
set_option maxRecDepth 20000 in
theorem gX6_makesKnown_X6_record : GoodIn wsX6_makesKnown (wsV RX6 144 RX6 yX6_record wsX6_record) := goodIn_app (goodIn_of _ (by decide +kernel)) ggX6_makesKnown_X6_record
set_option maxRecDepth 20000 in
theorem ggX6_makesKnown_X6_known : GoodIn wsX6_makesKnown wsX6_known := goodIn_r _ [18, 1, 19, 20, 21, 22, 23, 24, 25, 26, 27, 28, 29, 30, 31, 32, 33, 34, 35, 36] (by decide +kernel) (by decide +kernel)
set_option maxRecDepth 20000 in
theorem gX6_makesKnown_X6_known : GoodIn wsX6_makesKnown (wsV RX6 147 RX6 yX6_known wsX6_known) := goodIn_app (goodIn_of _ (by decide +kernel)) ggX6_makesKnown_X6_known
theorem dX6_makesKnown_0 : decode cX6_makesKnown 0 = .ok (.iload_n 1, 1) := by decide +kernel
theorem dX6_makesKnown_1 : decode cX6_makesKnown 1 = .ok (.invokestatic 141, 3) := by decide +kernel
theorem dX6_makesKnown_4 : decode cX6_makesKnown 4 = .ok (.ifCond .eq 12, 3) := by decide +kernel
theorem dX6_makesKnown_7 : decode cX6_makesKnown 7 = .ok (.iload_n 2, 1) := by decide +kernel
theorem dX6_makesKnown_8 : decode cX6_makesKnown 8 = .ok (.iconst 0, 1) := by decide +kernel
theorem dX6_makesKnown_9 : decode cX6_makesKnown 9 = .ok (.iconst 2, 1) := by decide +kernel
theorem dX6_makesKnown_10 : decode cX6_makesKnown 10 = .ok (.invokestatic 32, 3) := by decide +kernel
theorem dX6_makesKnown_13 : decode cX6_makesKnown 13 = .ok (.ifCond .ne 5, 3) := by decide +kernel
theorem dX6_makesKnown_16 : decode cX6_makesKnown 16 = .ok (.iconst (-1), 1) := by decide +kernel
theorem dX6_makesKnown_17 : decode cX6_makesKnown 17 = .ok (.ireturn, 1) := by decide +kernel
theorem dX6_makesKnown_18 : decode cX6_makesKnown 18 = .ok (.aload_n 0, 1) := by decide +kernel
theorem dX6_makesKnown_19 : decode cX6_makesKnown 19 = .ok (.invokevirtual 144, 3) := by decide +kernel
theorem dX6_makesKnown_22 : decode cX6_makesKnown 22 = .ok (.aload_n 0, 1) := by decide +kernel
theorem dX6_makesKnown_23 : decode cX6_makesKnown 23 = .ok (.getfield 7, 3) := by decide +kernel
theorem dX6_makesKnown_26 : decode cX6_makesKnown 26 = .ok (.bipush 9, 2) := by decide +kernel
theorem dX6_makesKnown_28 : decode cX6_makesKnown 28 = .ok (.iload_n 1, 1) := by decide +kernel
theorem dX6_makesKnown_29 : decode cX6_makesKnown 29 = .ok (.imul, 1) := by decide +kernel
theorem dX6_makesKnown_30 : decode cX6_makesKnown 30 = .ok (.iload_n 2, 1) := by decide +kernel
theorem dX6_makesKnown_31 : decode cX6_makesKnown 31 = .ok (.iadd, 1) := by decide +kernel
theorem dX6_makesKnown_32 : decode cX6_makesKnown 32 = .ok (.iload_n 3, 1) := by decide +kernel
theorem dX6_makesKnown_33 : decode cX6_makesKnown 33 = .ok (.iastore, 1) := by decide +kernel
theorem dX6_makesKnown_34 : decode cX6_makesKnown 34 = .ok (.aload_n 0, 1) := by decide +kernel
theorem dX6_makesKnown_35 : decode cX6_makesKnown 35 = .ok (.getfield 7, 3) := by decide +kernel
theorem dX6_makesKnown_38 : decode cX6_makesKnown 38 = .ok (.bipush 9, 2) := by decide +kernel
theorem dX6_makesKnown_40 : decode cX6_makesKnown 40 = .ok (.iload_n 1, 1) := by decide +kernel
theorem dX6_makesKnown_41 : decode cX6_makesKnown 41 = .ok (.imul, 1) := by decide +kernel
theorem dX6_makesKnown_42 : decode cX6_makesKnown 42 = .ok (.iconst 3, 1) := by decide +kernel
theorem dX6_makesKnown_43 : decode cX6_makesKnown 43 = .ok (.iadd, 1) := by decide +kernel
theorem dX6_makesKnown_44 : decode cX6_makesKnown 44 = .ok (.iload_n 2, 1) := by decide +kernel
theorem dX6_makesKnown_45 : decode cX6_makesKnown 45 = .ok (.iadd, 1) := by decide +kernel
theorem dX6_makesKnown_46 : decode cX6_makesKnown 46 = .ok (.iconst 0, 1) := by decide +kernel
theorem dX6_makesKnown_47 : decode cX6_makesKnown 47 = .ok (.iastore, 1) := by decide +kernel
theorem dX6_makesKnown_48 : decode cX6_makesKnown 48 = .ok (.aload_n 0, 1) := by decide +kernel
theorem dX6_makesKnown_49 : decode cX6_makesKnown 49 = .ok (.iload_n 1, 1) := by decide +kernel
theorem dX6_makesKnown_50 : decode cX6_makesKnown 50 = .ok (.invokevirtual 147, 3) := by decide +kernel
theorem dX6_makesKnown_53 : decode cX6_makesKnown 53 = .ok (.ireturn, 1) := by decide +kernel
set_option maxRecDepth 20000 in
theorem ggX6_learn_X6_makesKnown : GoodIn wsX6_learn wsX6_makesKnown := goodIn_r _ [5, 6, 7, 8, 4, 9, 10, 11, 12, 13, 14, 15, 16, 17, 18, 19, 20, 21, 22, 23, 24, 25, 26, 27, 28, 29, 30, 31, 32, 33, 34, 35, 36, 37, 38, 39, 40] (by decide +kernel) (by decide +kernel)
set_option maxRecDepth 20000 in
theorem gX6_learn_X6_makesKnown : GoodIn wsX6_learn (wsV RX6 150 RX6 yX6_makesKnown wsX6_makesKnown) := goodIn_app (goodIn_of _ (by decide +kernel)) ggX6_learn_X6_makesKnown
theorem dX6_learn_0 : decode cX6_learn 0 = .ok (.aload_n 0, 1) := by decide +kernel
theorem dX6_learn_1 : decode cX6_learn 1 = .ok (.iload_n 1, 1) := by decide +kernel
theorem dX6_learn_2 : decode cX6_learn 2 = .ok (.iload_n 2, 1) := by decide +kernel
theorem dX6_learn_3 : decode cX6_learn 3 = .ok (.iconst 1, 1) := by decide +kernel
theorem dX6_learn_4 : decode cX6_learn 4 = .ok (.invokevirtual 150, 3) := by decide +kernel
theorem dX6_learn_7 : decode cX6_learn 7 = .ok (.ireturn, 1) := by decide +kernel
set_option maxRecDepth 20000 in
theorem ggX6_unlearn_X6_makesKnown : GoodIn wsX6_unlearn wsX6_makesKnown := goodIn_r _ [5, 6, 7, 8, 4, 9, 10, 11, 12, 13, 14, 15, 16, 17, 18, 19, 20, 21, 22, 23, 24, 25, 26, 27, 28, 29, 30, 31, 32, 33, 34, 35, 36, 37, 38, 39, 40] (by decide +kernel) (by decide +kernel)
set_option maxRecDepth 20000 in
theorem gX6_unlearn_X6_makesKnown : GoodIn wsX6_unlearn (wsV RX6 150 RX6 yX6_makesKnown wsX6_makesKnown) := goodIn_app (goodIn_of _ (by decide +kernel)) ggX6_unlearn_X6_makesKnown
theorem dX6_unlearn_0 : decode cX6_unlearn 0 = .ok (.aload_n 0, 1) := by decide +kernel
theorem dX6_unlearn_1 : decode cX6_unlearn 1 = .ok (.iload_n 1, 1) := by decide +kernel
theorem dX6_unlearn_2 : decode cX6_unlearn 2 = .ok (.iload_n 2, 1) := by decide +kernel
theorem dX6_unlearn_3 : decode cX6_unlearn 3 = .ok (.iconst 0, 1) := by decide +kernel
theorem dX6_unlearn_4 : decode cX6_unlearn 4 = .ok (.invokevirtual 150, 3) := by decide +kernel
theorem dX6_unlearn_7 : decode cX6_unlearn 7 = .ok (.ireturn, 1) := by decide +kernel
set_option maxRecDepth 20000 in
theorem ggX6_attend_X6_isHearer : GoodIn wsX6_attend wsX6_isHearer := goodIn_r _ [5, 6, 7, 4, 8] (by decide +kernel) (by decide +kernel)
set_option maxRecDepth 20000 in
theorem gX6_attend_X6_isHearer : GoodIn wsX6_attend (va_wsS RX6 141 yX6_isHearer wsX6_isHearer) := goodIn_app (goodIn_of _ (by decide +kernel)) ggX6_attend_X6_isHearer
set_option maxRecDepth 20000 in
theorem ggX6_attend_X6_in : GoodIn wsX6_attend wsX6_in := goodIn_r _ [8] (by decide +kernel) (by decide +kernel)
set_option maxRecDepth 20000 in
theorem gX6_attend_X6_in : GoodIn wsX6_attend (va_wsS RX6 32 yX6_in wsX6_in) := goodIn_app (goodIn_of _ (by decide +kernel)) ggX6_attend_X6_in
set_option maxRecDepth 20000 in
theorem ggX6_attend_X6_record : GoodIn wsX6_attend wsX6_record := goodIn_r _ [12, 13, 14, 1, 15, 16, 17, 18, 19, 20, 21, 22, 23, 24, 25, 26, 27, 28, 29, 30, 31, 32] (by decide +kernel) (by decide +kernel)
set_option maxRecDepth 20000 in
theorem gX6_attend_X6_record : GoodIn wsX6_attend (wsV RX6 144 RX6 yX6_record wsX6_record) := goodIn_app (goodIn_of _ (by decide +kernel)) ggX6_attend_X6_record
theorem dX6_attend_0 : decode cX6_attend 0 = .ok (.iload_n 1, 1) := by decide +kernel
theorem dX6_attend_1 : decode cX6_attend 1 = .ok (.invokestatic 141, 3) := by decide +kernel
theorem dX6_attend_4 : decode cX6_attend 4 = .ok (.ifCond .ne 5, 3) := by decide +kernel
theorem dX6_attend_7 : decode cX6_attend 7 = .ok (.iconst (-1), 1) := by decide +kernel
theorem dX6_attend_8 : decode cX6_attend 8 = .ok (.ireturn, 1) := by decide +kernel
theorem dX6_attend_9 : decode cX6_attend 9 = .ok (.iload_n 2, 1) := by decide +kernel
theorem dX6_attend_10 : decode cX6_attend 10 = .ok (.iconst 1, 1) := by decide +kernel
theorem dX6_attend_11 : decode cX6_attend 11 = .ok (.bipush 12, 2) := by decide +kernel
theorem dX6_attend_13 : decode cX6_attend 13 = .ok (.invokestatic 32, 3) := by decide +kernel
theorem dX6_attend_16 : decode cX6_attend 16 = .ok (.ifCond .ne 6, 3) := by decide +kernel
theorem dX6_attend_19 : decode cX6_attend 19 = .ok (.bipush (-2), 2) := by decide +kernel
theorem dX6_attend_21 : decode cX6_attend 21 = .ok (.ireturn, 1) := by decide +kernel
theorem dX6_attend_22 : decode cX6_attend 22 = .ok (.aload_n 0, 1) := by decide +kernel
theorem dX6_attend_23 : decode cX6_attend 23 = .ok (.invokevirtual 144, 3) := by decide +kernel
theorem dX6_attend_26 : decode cX6_attend 26 = .ok (.aload_n 0, 1) := by decide +kernel
theorem dX6_attend_27 : decode cX6_attend 27 = .ok (.getfield 7, 3) := by decide +kernel
theorem dX6_attend_30 : decode cX6_attend 30 = .ok (.bipush 9, 2) := by decide +kernel
theorem dX6_attend_32 : decode cX6_attend 32 = .ok (.iload_n 1, 1) := by decide +kernel
theorem dX6_attend_33 : decode cX6_attend 33 = .ok (.imul, 1) := by decide +kernel
theorem dX6_attend_34 : decode cX6_attend 34 = .ok (.bipush 6, 2) := by decide +kernel
theorem dX6_attend_36 : decode cX6_attend 36 = .ok (.iadd, 1) := by decide +kernel
theorem dX6_attend_37 : decode cX6_attend 37 = .ok (.iaload, 1) := by decide +kernel
theorem dX6_attend_38 : decode cX6_attend 38 = .ok (.istore_n 3, 1) := by decide +kernel
theorem dX6_attend_39 : decode cX6_attend 39 = .ok (.aload_n 0, 1) := by decide +kernel
theorem dX6_attend_40 : decode cX6_attend 40 = .ok (.getfield 7, 3) := by decide +kernel
theorem dX6_attend_43 : decode cX6_attend 43 = .ok (.bipush 9, 2) := by decide +kernel
theorem dX6_attend_45 : decode cX6_attend 45 = .ok (.iload_n 1, 1) := by decide +kernel
theorem dX6_attend_46 : decode cX6_attend 46 = .ok (.imul, 1) := by decide +kernel
theorem dX6_attend_47 : decode cX6_attend 47 = .ok (.bipush 6, 2) := by decide +kernel
theorem dX6_attend_49 : decode cX6_attend 49 = .ok (.iadd, 1) := by decide +kernel
theorem dX6_attend_50 : decode cX6_attend 50 = .ok (.iload_n 2, 1) := by decide +kernel
theorem dX6_attend_51 : decode cX6_attend 51 = .ok (.iastore, 1) := by decide +kernel
theorem dX6_attend_52 : decode cX6_attend 52 = .ok (.iload_n 3, 1) := by decide +kernel
theorem dX6_attend_53 : decode cX6_attend 53 = .ok (.ireturn, 1) := by decide +kernel
set_option maxRecDepth 20000 in
theorem ggX6_set_X6_in : GoodIn wsX6_set wsX6_in := goodIn_r _ [5] (by decide +kernel) (by decide +kernel)
set_option maxRecDepth 20000 in
theorem gX6_set_X6_in : GoodIn wsX6_set (va_wsS RX6 32 yX6_in wsX6_in) := goodIn_app (goodIn_of _ (by decide +kernel)) ggX6_set_X6_in
set_option maxRecDepth 20000 in
theorem ggX6_set_X6_record : GoodIn wsX6_set wsX6_record := goodIn_r _ [9, 10, 11, 1, 12, 13, 14, 15, 16, 17, 18, 19, 20, 21, 22, 23, 24, 25, 26, 27, 28, 29] (by decide +kernel) (by decide +kernel)
set_option maxRecDepth 20000 in
theorem gX6_set_X6_record : GoodIn wsX6_set (wsV RX6 144 RX6 yX6_record wsX6_record) := goodIn_app (goodIn_of _ (by decide +kernel)) ggX6_set_X6_record
theorem dX6_set_0 : decode cX6_set 0 = .ok (.iload_n 1, 1) := by decide +kernel
theorem dX6_set_1 : decode cX6_set 1 = .ok (.iconst 1, 1) := by decide +kernel
theorem dX6_set_2 : decode cX6_set 2 = .ok (.bipush 9, 2) := by decide +kernel
theorem dX6_set_4 : decode cX6_set 4 = .ok (.invokestatic 32, 3) := by decide +kernel
theorem dX6_set_7 : decode cX6_set 7 = .ok (.ifCond .ne 6, 3) := by decide +kernel
theorem dX6_set_10 : decode cX6_set 10 = .ok (.bipush (-2), 2) := by decide +kernel
theorem dX6_set_12 : decode cX6_set 12 = .ok (.ireturn, 1) := by decide +kernel
theorem dX6_set_13 : decode cX6_set 13 = .ok (.aload_n 0, 1) := by decide +kernel
theorem dX6_set_14 : decode cX6_set 14 = .ok (.invokevirtual 144, 3) := by decide +kernel
theorem dX6_set_17 : decode cX6_set 17 = .ok (.aload_n 0, 1) := by decide +kernel
theorem dX6_set_18 : decode cX6_set 18 = .ok (.getfield 7, 3) := by decide +kernel
theorem dX6_set_21 : decode cX6_set 21 = .ok (.bipush 54, 2) := by decide +kernel
theorem dX6_set_23 : decode cX6_set 23 = .ok (.iaload, 1) := by decide +kernel
theorem dX6_set_24 : decode cX6_set 24 = .ok (.istore_n 2, 1) := by decide +kernel
theorem dX6_set_25 : decode cX6_set 25 = .ok (.aload_n 0, 1) := by decide +kernel
theorem dX6_set_26 : decode cX6_set 26 = .ok (.getfield 7, 3) := by decide +kernel
theorem dX6_set_29 : decode cX6_set 29 = .ok (.bipush 54, 2) := by decide +kernel
theorem dX6_set_31 : decode cX6_set 31 = .ok (.iload_n 1, 1) := by decide +kernel
theorem dX6_set_32 : decode cX6_set 32 = .ok (.iastore, 1) := by decide +kernel
theorem dX6_set_33 : decode cX6_set 33 = .ok (.iload_n 2, 1) := by decide +kernel
theorem dX6_set_34 : decode cX6_set 34 = .ok (.ireturn, 1) := by decide +kernel
theorem dX6_saysWord_0 : decode cX6_saysWord 0 = .ok (.iconst 0, 1) := by decide +kernel
theorem dX6_saysWord_1 : decode cX6_saysWord 1 = .ok (.istore_n 3, 1) := by decide +kernel
theorem dX6_saysWord_2 : decode cX6_saysWord 2 = .ok (.iconst 0, 1) := by decide +kernel
theorem dX6_saysWord_3 : decode cX6_saysWord 3 = .ok (.istore 4, 2) := by decide +kernel
theorem dX6_saysWord_5 : decode cX6_saysWord 5 = .ok (.iload 4, 2) := by decide +kernel
theorem dX6_saysWord_7 : decode cX6_saysWord 7 = .ok (.iload_n 2, 1) := by decide +kernel
theorem dX6_saysWord_8 : decode cX6_saysWord 8 = .ok (.if_icmp .ge 30, 3) := by decide +kernel
theorem dX6_saysWord_11 : decode cX6_saysWord 11 = .ok (.iload_n 3, 1) := by decide +kernel
theorem dX6_saysWord_12 : decode cX6_saysWord 12 = .ok (.ifCond .ne 14, 3) := by decide +kernel
theorem dX6_saysWord_15 : decode cX6_saysWord 15 = .ok (.aload_n 0, 1) := by decide +kernel
theorem dX6_saysWord_16 : decode cX6_saysWord 16 = .ok (.getfield 16, 3) := by decide +kernel
theorem dX6_saysWord_19 : decode cX6_saysWord 19 = .ok (.iload 4, 2) := by decide +kernel
theorem dX6_saysWord_21 : decode cX6_saysWord 21 = .ok (.caload, 1) := by decide +kernel
theorem dX6_saysWord_22 : decode cX6_saysWord 22 = .ok (.iload_n 1, 1) := by decide +kernel
theorem dX6_saysWord_23 : decode cX6_saysWord 23 = .ok (.if_icmp .ne 7, 3) := by decide +kernel
theorem dX6_saysWord_26 : decode cX6_saysWord 26 = .ok (.iconst 1, 1) := by decide +kernel
theorem dX6_saysWord_27 : decode cX6_saysWord 27 = .ok (.goto 4, 3) := by decide +kernel
theorem dX6_saysWord_30 : decode cX6_saysWord 30 = .ok (.iconst 0, 1) := by decide +kernel
theorem dX6_saysWord_31 : decode cX6_saysWord 31 = .ok (.istore_n 3, 1) := by decide +kernel
theorem dX6_saysWord_32 : decode cX6_saysWord 32 = .ok (.iinc 4 1, 3) := by decide +kernel
theorem dX6_saysWord_35 : decode cX6_saysWord 35 = .ok (.goto (-30), 3) := by decide +kernel
theorem dX6_saysWord_38 : decode cX6_saysWord 38 = .ok (.iload_n 3, 1) := by decide +kernel
theorem dX6_saysWord_39 : decode cX6_saysWord 39 = .ok (.ireturn, 1) := by decide +kernel
theorem dX6_doubts_0 : decode cX6_doubts 0 = .ok (.bipush 9, 2) := by decide +kernel
theorem dX6_doubts_2 : decode cX6_doubts 2 = .ok (.iload_n 1, 1) := by decide +kernel
theorem dX6_doubts_3 : decode cX6_doubts 3 = .ok (.imul, 1) := by decide +kernel
theorem dX6_doubts_4 : decode cX6_doubts 4 = .ok (.istore_n 3, 1) := by decide +kernel
theorem dX6_doubts_5 : decode cX6_doubts 5 = .ok (.aload_n 0, 1) := by decide +kernel
theorem dX6_doubts_6 : decode cX6_doubts 6 = .ok (.getfield 7, 3) := by decide +kernel
theorem dX6_doubts_9 : decode cX6_doubts 9 = .ok (.iload_n 3, 1) := by decide +kernel
theorem dX6_doubts_10 : decode cX6_doubts 10 = .ok (.iload_n 2, 1) := by decide +kernel
theorem dX6_doubts_11 : decode cX6_doubts 11 = .ok (.iadd, 1) := by decide +kernel
theorem dX6_doubts_12 : decode cX6_doubts 12 = .ok (.iaload, 1) := by decide +kernel
theorem dX6_doubts_13 : decode cX6_doubts 13 = .ok (.iconst 1, 1) := by decide +kernel
theorem dX6_doubts_14 : decode cX6_doubts 14 = .ok (.if_icmp .ne 5, 3) := by decide +kernel
theorem dX6_doubts_17 : decode cX6_doubts 17 = .ok (.iconst 0, 1) := by decide +kernel
theorem dX6_doubts_18 : decode cX6_doubts 18 = .ok (.ireturn, 1) := by decide +kernel
theorem dX6_doubts_19 : decode cX6_doubts 19 = .ok (.aload_n 0, 1) := by decide +kernel
theorem dX6_doubts_20 : decode cX6_doubts 20 = .ok (.getfield 7, 3) := by decide +kernel
theorem dX6_doubts_23 : decode cX6_doubts 23 = .ok (.iload_n 3, 1) := by decide +kernel
theorem dX6_doubts_24 : decode cX6_doubts 24 = .ok (.iconst 3, 1) := by decide +kernel
theorem dX6_doubts_25 : decode cX6_doubts 25 = .ok (.iadd, 1) := by decide +kernel
theorem dX6_doubts_26 : decode cX6_doubts 26 = .ok (.iload_n 2, 1) := by decide +kernel
theorem dX6_doubts_27 : decode cX6_doubts 27 = .ok (.iadd, 1) := by decide +kernel
theorem dX6_doubts_28 : decode cX6_doubts 28 = .ok (.dup2, 1) := by decide +kernel
theorem dX6_doubts_29 : decode cX6_doubts 29 = .ok (.iaload, 1) := by decide +kernel
theorem dX6_doubts_30 : decode cX6_doubts 30 = .ok (.iconst 1, 1) := by decide +kernel
theorem dX6_doubts_31 : decode cX6_doubts 31 = .ok (.iadd, 1) := by decide +kernel
theorem dX6_doubts_32 : decode cX6_doubts 32 = .ok (.iastore, 1) := by decide +kernel
theorem dX6_doubts_33 : decode cX6_doubts 33 = .ok (.aload_n 0, 1) := by decide +kernel
theorem dX6_doubts_34 : decode cX6_doubts 34 = .ok (.getfield 7, 3) := by decide +kernel
theorem dX6_doubts_37 : decode cX6_doubts 37 = .ok (.iload_n 3, 1) := by decide +kernel
theorem dX6_doubts_38 : decode cX6_doubts 38 = .ok (.iconst 3, 1) := by decide +kernel
theorem dX6_doubts_39 : decode cX6_doubts 39 = .ok (.iadd, 1) := by decide +kernel
theorem dX6_doubts_40 : decode cX6_doubts 40 = .ok (.iload_n 2, 1) := by decide +kernel
theorem dX6_doubts_41 : decode cX6_doubts 41 = .ok (.iadd, 1) := by decide +kernel
theorem dX6_doubts_42 : decode cX6_doubts 42 = .ok (.iaload, 1) := by decide +kernel
theorem dX6_doubts_43 : decode cX6_doubts 43 = .ok (.aload_n 0, 1) := by decide +kernel
theorem dX6_doubts_44 : decode cX6_doubts 44 = .ok (.getfield 7, 3) := by decide +kernel
theorem dX6_doubts_47 : decode cX6_doubts 47 = .ok (.bipush 54, 2) := by decide +kernel
theorem dX6_doubts_49 : decode cX6_doubts 49 = .ok (.iaload, 1) := by decide +kernel
theorem dX6_doubts_50 : decode cX6_doubts 50 = .ok (.if_icmp .ge 5, 3) := by decide +kernel
theorem dX6_doubts_53 : decode cX6_doubts 53 = .ok (.iconst 0, 1) := by decide +kernel
theorem dX6_doubts_54 : decode cX6_doubts 54 = .ok (.ireturn, 1) := by decide +kernel
theorem dX6_doubts_55 : decode cX6_doubts 55 = .ok (.aload_n 0, 1) := by decide +kernel
theorem dX6_doubts_56 : decode cX6_doubts 56 = .ok (.getfield 7, 3) := by decide +kernel
theorem dX6_doubts_59 : decode cX6_doubts 59 = .ok (.iload_n 3, 1) := by decide +kernel
theorem dX6_doubts_60 : decode cX6_doubts 60 = .ok (.iload_n 2, 1) := by decide +kernel
theorem dX6_doubts_61 : decode cX6_doubts 61 = .ok (.iadd, 1) := by decide +kernel
theorem dX6_doubts_62 : decode cX6_doubts 62 = .ok (.iconst 1, 1) := by decide +kernel
theorem dX6_doubts_63 : decode cX6_doubts 63 = .ok (.iastore, 1) := by decide +kernel
theorem dX6_doubts_64 : decode cX6_doubts 64 = .ok (.aload_n 0, 1) := by decide +kernel
theorem dX6_doubts_65 : decode cX6_doubts 65 = .ok (.getfield 7, 3) := by decide +kernel
theorem dX6_doubts_68 : decode cX6_doubts 68 = .ok (.iload_n 3, 1) := by decide +kernel
theorem dX6_doubts_69 : decode cX6_doubts 69 = .ok (.iconst 3, 1) := by decide +kernel
theorem dX6_doubts_70 : decode cX6_doubts 70 = .ok (.iadd, 1) := by decide +kernel
theorem dX6_doubts_71 : decode cX6_doubts 71 = .ok (.iload_n 2, 1) := by decide +kernel
theorem dX6_doubts_72 : decode cX6_doubts 72 = .ok (.iadd, 1) := by decide +kernel
theorem dX6_doubts_73 : decode cX6_doubts 73 = .ok (.iconst 0, 1) := by decide +kernel
theorem dX6_doubts_74 : decode cX6_doubts 74 = .ok (.iastore, 1) := by decide +kernel
theorem dX6_doubts_75 : decode cX6_doubts 75 = .ok (.iconst 1, 1) := by decide +kernel
theorem dX6_doubts_76 : decode cX6_doubts 76 = .ok (.ireturn, 1) := by decide +kernel
theorem dX6_logs_0 : decode cX6_logs 0 = .ok (.aload_n 0, 1) := by decide +kernel
theorem dX6_logs_1 : decode cX6_logs 1 = .ok (.getfield 7, 3) := by decide +kernel
theorem dX6_logs_4 : decode cX6_logs 4 = .ok (.bipush 55, 2) := by decide +kernel
theorem dX6_logs_6 : decode cX6_logs 6 = .ok (.iaload, 1) := by decide +kernel
theorem dX6_logs_7 : decode cX6_logs 7 = .ok (.bipush 10, 2) := by decide +kernel
theorem dX6_logs_9 : decode cX6_logs 9 = .ok (.if_icmp .ne 47, 3) := by decide +kernel
theorem dX6_logs_12 : decode cX6_logs 12 = .ok (.bipush 56, 2) := by decide +kernel
theorem dX6_logs_14 : decode cX6_logs 14 = .ok (.istore 6, 2) := by decide +kernel
theorem dX6_logs_16 : decode cX6_logs 16 = .ok (.iload 6, 2) := by decide +kernel
theorem dX6_logs_18 : decode cX6_logs 18 = .ok (.bipush 101, 2) := by decide +kernel
theorem dX6_logs_20 : decode cX6_logs 20 = .ok (.if_icmp .ge 25, 3) := by decide +kernel
theorem dX6_logs_23 : decode cX6_logs 23 = .ok (.aload_n 0, 1) := by decide +kernel
theorem dX6_logs_24 : decode cX6_logs 24 = .ok (.getfield 7, 3) := by decide +kernel
theorem dX6_logs_27 : decode cX6_logs 27 = .ok (.iload 6, 2) := by decide +kernel
theorem dX6_logs_29 : decode cX6_logs 29 = .ok (.aload_n 0, 1) := by decide +kernel
theorem dX6_logs_30 : decode cX6_logs 30 = .ok (.getfield 7, 3) := by decide +kernel
theorem dX6_logs_33 : decode cX6_logs 33 = .ok (.iload 6, 2) := by decide +kernel
theorem dX6_logs_35 : decode cX6_logs 35 = .ok (.iconst 5, 1) := by decide +kernel
theorem dX6_logs_36 : decode cX6_logs 36 = .ok (.iadd, 1) := by decide +kernel
theorem dX6_logs_37 : decode cX6_logs 37 = .ok (.iaload, 1) := by decide +kernel
theorem dX6_logs_38 : decode cX6_logs 38 = .ok (.iastore, 1) := by decide +kernel
theorem dX6_logs_39 : decode cX6_logs 39 = .ok (.iinc 6 1, 3) := by decide +kernel
theorem dX6_logs_42 : decode cX6_logs 42 = .ok (.goto (-26), 3) := by decide +kernel
theorem dX6_logs_45 : decode cX6_logs 45 = .ok (.aload_n 0, 1) := by decide +kernel
theorem dX6_logs_46 : decode cX6_logs 46 = .ok (.getfield 7, 3) := by decide +kernel
theorem dX6_logs_49 : decode cX6_logs 49 = .ok (.bipush 55, 2) := by decide +kernel
theorem dX6_logs_51 : decode cX6_logs 51 = .ok (.dup2, 1) := by decide +kernel
theorem dX6_logs_52 : decode cX6_logs 52 = .ok (.iaload, 1) := by decide +kernel
theorem dX6_logs_53 : decode cX6_logs 53 = .ok (.iconst 1, 1) := by decide +kernel
theorem dX6_logs_54 : decode cX6_logs 54 = .ok (.isub, 1) := by decide +kernel
theorem dX6_logs_55 : decode cX6_logs 55 = .ok (.iastore, 1) := by decide +kernel
theorem dX6_logs_56 : decode cX6_logs 56 = .ok (.bipush 56, 2) := by decide +kernel
theorem dX6_logs_58 : decode cX6_logs 58 = .ok (.iconst 5, 1) := by decide +kernel
theorem dX6_logs_59 : decode cX6_logs 59 = .ok (.aload_n 0, 1) := by decide +kernel
theorem dX6_logs_60 : decode cX6_logs 60 = .ok (.getfield 7, 3) := by decide +kernel
theorem dX6_logs_63 : decode cX6_logs 63 = .ok (.bipush 55, 2) := by decide +kernel
theorem dX6_logs_65 : decode cX6_logs 65 = .ok (.iaload, 1) := by decide +kernel
theorem dX6_logs_66 : decode cX6_logs 66 = .ok (.imul, 1) := by decide +kernel
theorem dX6_logs_67 : decode cX6_logs 67 = .ok (.iadd, 1) := by decide +kernel
theorem dX6_logs_68 : decode cX6_logs 68 = .ok (.istore 6, 2) := by decide +kernel
theorem dX6_logs_70 : decode cX6_logs 70 = .ok (.aload_n 0, 1) := by decide +kernel
theorem dX6_logs_71 : decode cX6_logs 71 = .ok (.getfield 7, 3) := by decide +kernel
theorem dX6_logs_74 : decode cX6_logs 74 = .ok (.iload 6, 2) := by decide +kernel
theorem dX6_logs_76 : decode cX6_logs 76 = .ok (.iload_n 1, 1) := by decide +kernel
theorem dX6_logs_77 : decode cX6_logs 77 = .ok (.iastore, 1) := by decide +kernel
theorem dX6_logs_78 : decode cX6_logs 78 = .ok (.aload_n 0, 1) := by decide +kernel
theorem dX6_logs_79 : decode cX6_logs 79 = .ok (.getfield 7, 3) := by decide +kernel
theorem dX6_logs_82 : decode cX6_logs 82 = .ok (.iload 6, 2) := by decide +kernel
theorem dX6_logs_84 : decode cX6_logs 84 = .ok (.iconst 1, 1) := by decide +kernel
theorem dX6_logs_85 : decode cX6_logs 85 = .ok (.iadd, 1) := by decide +kernel
theorem dX6_logs_86 : decode cX6_logs 86 = .ok (.iload_n 2, 1) := by decide +kernel
theorem dX6_logs_87 : decode cX6_logs 87 = .ok (.iastore, 1) := by decide +kernel
theorem dX6_logs_88 : decode cX6_logs 88 = .ok (.aload_n 0, 1) := by decide +kernel
theorem dX6_logs_89 : decode cX6_logs 89 = .ok (.getfield 7, 3) := by decide +kernel
theorem dX6_logs_92 : decode cX6_logs 92 = .ok (.iload 6, 2) := by decide +kernel
theorem dX6_logs_94 : decode cX6_logs 94 = .ok (.iconst 2, 1) := by decide +kernel
theorem dX6_logs_95 : decode cX6_logs 95 = .ok (.iadd, 1) := by decide +kernel
theorem dX6_logs_96 : decode cX6_logs 96 = .ok (.iload_n 3, 1) := by decide +kernel
theorem dX6_logs_97 : decode cX6_logs 97 = .ok (.iastore, 1) := by decide +kernel
theorem dX6_logs_98 : decode cX6_logs 98 = .ok (.aload_n 0, 1) := by decide +kernel
theorem dX6_logs_99 : decode cX6_logs 99 = .ok (.getfield 7, 3) := by decide +kernel
theorem dX6_logs_102 : decode cX6_logs 102 = .ok (.iload 6, 2) := by decide +kernel
theorem dX6_logs_104 : decode cX6_logs 104 = .ok (.iconst 3, 1) := by decide +kernel
theorem dX6_logs_105 : decode cX6_logs 105 = .ok (.iadd, 1) := by decide +kernel
theorem dX6_logs_106 : decode cX6_logs 106 = .ok (.iload 4, 2) := by decide +kernel
theorem dX6_logs_108 : decode cX6_logs 108 = .ok (.iastore, 1) := by decide +kernel
theorem dX6_logs_109 : decode cX6_logs 109 = .ok (.aload_n 0, 1) := by decide +kernel
theorem dX6_logs_110 : decode cX6_logs 110 = .ok (.getfield 7, 3) := by decide +kernel
theorem dX6_logs_113 : decode cX6_logs 113 = .ok (.iload 6, 2) := by decide +kernel
theorem dX6_logs_115 : decode cX6_logs 115 = .ok (.iconst 4, 1) := by decide +kernel
theorem dX6_logs_116 : decode cX6_logs 116 = .ok (.iadd, 1) := by decide +kernel
theorem dX6_logs_117 : decode cX6_logs 117 = .ok (.iload 5, 2) := by decide +kernel
theorem dX6_logs_119 : decode cX6_logs 119 = .ok (.ifCond .le 7, 3) := by decide +kernel
theorem dX6_logs_122 : decode cX6_logs 122 = .ok (.iconst 1, 1) := by decide +kernel
theorem dX6_logs_123 : decode cX6_logs 123 = .ok (.goto 4, 3) := by decide +kernel
theorem dX6_logs_126 : decode cX6_logs 126 = .ok (.iconst 0, 1) := by decide +kernel
theorem dX6_logs_127 : decode cX6_logs 127 = .ok (.iastore, 1) := by decide +kernel
theorem dX6_logs_128 : decode cX6_logs 128 = .ok (.aload_n 0, 1) := by decide +kernel
theorem dX6_logs_129 : decode cX6_logs 129 = .ok (.getfield 7, 3) := by decide +kernel
theorem dX6_logs_132 : decode cX6_logs 132 = .ok (.bipush 55, 2) := by decide +kernel
theorem dX6_logs_134 : decode cX6_logs 134 = .ok (.dup2, 1) := by decide +kernel
theorem dX6_logs_135 : decode cX6_logs 135 = .ok (.iaload, 1) := by decide +kernel
theorem dX6_logs_136 : decode cX6_logs 136 = .ok (.iconst 1, 1) := by decide +kernel
theorem dX6_logs_137 : decode cX6_logs 137 = .ok (.iadd, 1) := by decide +kernel
theorem dX6_logs_138 : decode cX6_logs 138 = .ok (.iastore, 1) := by decide +kernel
theorem dX6_logs_139 : decode cX6_logs 139 = .ok (.return_, 1) := by decide +kernel
set_option maxRecDepth 20000 in
theorem ggX6_tells_X6_record : GoodIn wsX6_tells wsX6_record := goodIn_r _ [6, 7, 8, 1, 82, 83, 84, 85, 86, 87, 88, 89, 90, 91, 92, 93, 94, 95, 96, 97, 98, 99] (by decide +kernel) (by decide +kernel)
set_option maxRecDepth 20000 in
theorem gX6_tells_X6_record : GoodIn wsX6_tells (wsV RX6 144 RX6 yX6_record wsX6_record) := goodIn_app (goodIn_of _ (by decide +kernel)) ggX6_tells_X6_record
set_option maxRecDepth 20000 in
theorem ggX6_tells_X6_understands : GoodIn wsX6_tells wsX6_understands := goodIn_r _ [12, 1, 13, 14, 15, 5, 16, 17, 18, 19, 20, 21, 22, 23, 24, 25, 26, 27, 28, 29, 30, 31, 32, 33, 34, 35, 36, 37, 38, 39, 40, 41, 42, 43, 44, 45, 46, 47, 48, 49, 50, 51, 52, 53, 54, 55, 56, 57, 58, 59, 60, 61, 62, 63, 64, 65, 66, 67, 68, 69, 82, 83, 84, 85, 86, 87, 88, 89, 90, 91, 92, 93, 94, 95, 96, 97, 98, 99] (by decide +kernel) (by decide +kernel)
set_option maxRecDepth 20000 in
theorem gX6_tells_X6_understands : GoodIn wsX6_tells (wsV RX6 154 RX6 yX6_understands wsX6_understands) := goodIn_app (goodIn_of _ (by decide +kernel)) ggX6_tells_X6_understands
set_option maxRecDepth 20000 in
theorem ggX6_tells_X6_saysWord : GoodIn wsX6_tells wsX6_saysWord := goodIn_r _ [73, 37, 82, 83, 84, 85, 86, 87, 88, 89, 90, 91, 92, 93, 94, 95, 96, 97, 98, 99] (by decide +kernel) (by decide +kernel)
set_option maxRecDepth 20000 in
theorem gX6_tells_X6_saysWord : GoodIn wsX6_tells (wsV RX6 158 RX6 yX6_saysWord wsX6_saysWord) := goodIn_app (goodIn_of _ (by decide +kernel)) ggX6_tells_X6_saysWord
set_option maxRecDepth 20000 in
theorem ggX6_tells_X6_doubts : GoodIn wsX6_tells wsX6_doubts := goodIn_r _ [77, 1, 82, 83, 84, 85, 86, 87, 88, 89, 90, 91, 92, 93, 94, 95, 96, 97, 98, 99] (by decide +kernel) (by decide +kernel)
set_option maxRecDepth 20000 in
theorem gX6_tells_X6_doubts : GoodIn wsX6_tells (wsV RX6 162 RX6 yX6_doubts wsX6_doubts) := goodIn_app (goodIn_of _ (by decide +kernel)) ggX6_tells_X6_doubts
set_option maxRecDepth 20000 in
theorem ggX6_tells_X6_logs : GoodIn wsX6_tells wsX6_logs := goodIn_r _ [81, 1, 82, 83, 84, 85, 86, 87, 88, 89, 90, 91, 92, 93, 94, 95, 96, 97, 98, 99] (by decide +kernel) (by decide +kernel)
set_option maxRecDepth 20000 in
theorem gX6_tells_X6_logs : GoodIn wsX6_tells (wsV RX6 165 RX6 yX6_logs wsX6_logs) := goodIn_app (goodIn_of _ (by decide +kernel)) ggX6_tells_X6_logs
theorem dX6_tells_0 : decode cX6_tells 0 = .ok (.aload_n 0, 1) := by decide +kernel
theorem dX6_tells_1 : decode cX6_tells 1 = .ok (.invokevirtual 144, 3) := by decide +kernel
theorem dX6_tells_4 : decode cX6_tells 4 = .ok (.aload_n 0, 1) := by decide +kernel
theorem dX6_tells_5 : decode cX6_tells 5 = .ok (.iload_n 1, 1) := by decide +kernel
theorem dX6_tells_6 : decode cX6_tells 6 = .ok (.iload_n 3, 1) := by decide +kernel
theorem dX6_tells_7 : decode cX6_tells 7 = .ok (.invokevirtual 154, 3) := by decide +kernel
theorem dX6_tells_10 : decode cX6_tells 10 = .ok (.istore 4, 2) := by decide +kernel
theorem dX6_tells_12 : decode cX6_tells 12 = .ok (.iconst 0, 1) := by decide +kernel
theorem dX6_tells_13 : decode cX6_tells 13 = .ok (.istore 5, 2) := by decide +kernel
theorem dX6_tells_15 : decode cX6_tells 15 = .ok (.aload_n 0, 1) := by decide +kernel
theorem dX6_tells_16 : decode cX6_tells 16 = .ok (.getfield 7, 3) := by decide +kernel
theorem dX6_tells_19 : decode cX6_tells 19 = .ok (.bipush 9, 2) := by decide +kernel
theorem dX6_tells_21 : decode cX6_tells 21 = .ok (.iload_n 1, 1) := by decide +kernel
theorem dX6_tells_22 : decode cX6_tells 22 = .ok (.imul, 1) := by decide +kernel
theorem dX6_tells_23 : decode cX6_tells 23 = .ok (.bipush 7, 2) := by decide +kernel
theorem dX6_tells_25 : decode cX6_tells 25 = .ok (.iadd, 1) := by decide +kernel
theorem dX6_tells_26 : decode cX6_tells 26 = .ok (.dup2, 1) := by decide +kernel
theorem dX6_tells_27 : decode cX6_tells 27 = .ok (.iaload, 1) := by decide +kernel
theorem dX6_tells_28 : decode cX6_tells 28 = .ok (.iconst 1, 1) := by decide +kernel
theorem dX6_tells_29 : decode cX6_tells 29 = .ok (.iadd, 1) := by decide +kernel
theorem dX6_tells_30 : decode cX6_tells 30 = .ok (.iastore, 1) := by decide +kernel
theorem dX6_tells_31 : decode cX6_tells 31 = .ok (.iload 4, 2) := by decide +kernel
theorem dX6_tells_33 : decode cX6_tells 33 = .ok (.iload_n 2, 1) := by decide +kernel
theorem dX6_tells_34 : decode cX6_tells 34 = .ok (.if_icmp .eq 94, 3) := by decide +kernel
theorem dX6_tells_37 : decode cX6_tells 37 = .ok (.aload_n 0, 1) := by decide +kernel
theorem dX6_tells_38 : decode cX6_tells 38 = .ok (.getfield 7, 3) := by decide +kernel
theorem dX6_tells_41 : decode cX6_tells 41 = .ok (.bipush 9, 2) := by decide +kernel
theorem dX6_tells_43 : decode cX6_tells 43 = .ok (.iload_n 1, 1) := by decide +kernel
theorem dX6_tells_44 : decode cX6_tells 44 = .ok (.imul, 1) := by decide +kernel
theorem dX6_tells_45 : decode cX6_tells 45 = .ok (.bipush 8, 2) := by decide +kernel
theorem dX6_tells_47 : decode cX6_tells 47 = .ok (.iadd, 1) := by decide +kernel
theorem dX6_tells_48 : decode cX6_tells 48 = .ok (.dup2, 1) := by decide +kernel
theorem dX6_tells_49 : decode cX6_tells 49 = .ok (.iaload, 1) := by decide +kernel
theorem dX6_tells_50 : decode cX6_tells 50 = .ok (.iconst 1, 1) := by decide +kernel
theorem dX6_tells_51 : decode cX6_tells 51 = .ok (.iadd, 1) := by decide +kernel
theorem dX6_tells_52 : decode cX6_tells 52 = .ok (.iastore, 1) := by decide +kernel
theorem dX6_tells_53 : decode cX6_tells 53 = .ok (.iload 5, 2) := by decide +kernel
theorem dX6_tells_55 : decode cX6_tells 55 = .ok (.aload_n 0, 1) := by decide +kernel
theorem dX6_tells_56 : decode cX6_tells 56 = .ok (.bipush 72, 2) := by decide +kernel
theorem dX6_tells_58 : decode cX6_tells 58 = .ok (.iload_n 3, 1) := by decide +kernel
theorem dX6_tells_59 : decode cX6_tells 59 = .ok (.invokevirtual 158, 3) := by decide +kernel
theorem dX6_tells_62 : decode cX6_tells 62 = .ok (.ifCond .eq 12, 3) := by decide +kernel
theorem dX6_tells_65 : decode cX6_tells 65 = .ok (.aload_n 0, 1) := by decide +kernel
theorem dX6_tells_66 : decode cX6_tells 66 = .ok (.iload_n 1, 1) := by decide +kernel
theorem dX6_tells_67 : decode cX6_tells 67 = .ok (.iconst 0, 1) := by decide +kernel
theorem dX6_tells_68 : decode cX6_tells 68 = .ok (.invokevirtual 162, 3) := by decide +kernel
theorem dX6_tells_71 : decode cX6_tells 71 = .ok (.goto 4, 3) := by decide +kernel
theorem dX6_tells_74 : decode cX6_tells 74 = .ok (.iconst 0, 1) := by decide +kernel
theorem dX6_tells_75 : decode cX6_tells 75 = .ok (.iadd, 1) := by decide +kernel
theorem dX6_tells_76 : decode cX6_tells 76 = .ok (.istore 5, 2) := by decide +kernel
theorem dX6_tells_78 : decode cX6_tells 78 = .ok (.iload 5, 2) := by decide +kernel
theorem dX6_tells_80 : decode cX6_tells 80 = .ok (.aload_n 0, 1) := by decide +kernel
theorem dX6_tells_81 : decode cX6_tells 81 = .ok (.bipush 45, 2) := by decide +kernel
theorem dX6_tells_83 : decode cX6_tells 83 = .ok (.iload_n 3, 1) := by decide +kernel
theorem dX6_tells_84 : decode cX6_tells 84 = .ok (.invokevirtual 158, 3) := by decide +kernel
theorem dX6_tells_87 : decode cX6_tells 87 = .ok (.ifCond .eq 12, 3) := by decide +kernel
theorem dX6_tells_90 : decode cX6_tells 90 = .ok (.aload_n 0, 1) := by decide +kernel
theorem dX6_tells_91 : decode cX6_tells 91 = .ok (.iload_n 1, 1) := by decide +kernel
theorem dX6_tells_92 : decode cX6_tells 92 = .ok (.iconst 1, 1) := by decide +kernel
theorem dX6_tells_93 : decode cX6_tells 93 = .ok (.invokevirtual 162, 3) := by decide +kernel
theorem dX6_tells_96 : decode cX6_tells 96 = .ok (.goto 4, 3) := by decide +kernel
theorem dX6_tells_99 : decode cX6_tells 99 = .ok (.iconst 0, 1) := by decide +kernel
theorem dX6_tells_100 : decode cX6_tells 100 = .ok (.iadd, 1) := by decide +kernel
theorem dX6_tells_101 : decode cX6_tells 101 = .ok (.istore 5, 2) := by decide +kernel
theorem dX6_tells_103 : decode cX6_tells 103 = .ok (.iload 5, 2) := by decide +kernel
theorem dX6_tells_105 : decode cX6_tells 105 = .ok (.aload_n 0, 1) := by decide +kernel
theorem dX6_tells_106 : decode cX6_tells 106 = .ok (.bipush 71, 2) := by decide +kernel
theorem dX6_tells_108 : decode cX6_tells 108 = .ok (.iload_n 3, 1) := by decide +kernel
theorem dX6_tells_109 : decode cX6_tells 109 = .ok (.invokevirtual 158, 3) := by decide +kernel
theorem dX6_tells_112 : decode cX6_tells 112 = .ok (.ifCond .eq 12, 3) := by decide +kernel
theorem dX6_tells_115 : decode cX6_tells 115 = .ok (.aload_n 0, 1) := by decide +kernel
theorem dX6_tells_116 : decode cX6_tells 116 = .ok (.iload_n 1, 1) := by decide +kernel
theorem dX6_tells_117 : decode cX6_tells 117 = .ok (.iconst 2, 1) := by decide +kernel
theorem dX6_tells_118 : decode cX6_tells 118 = .ok (.invokevirtual 162, 3) := by decide +kernel
theorem dX6_tells_121 : decode cX6_tells 121 = .ok (.goto 4, 3) := by decide +kernel
theorem dX6_tells_124 : decode cX6_tells 124 = .ok (.iconst 0, 1) := by decide +kernel
theorem dX6_tells_125 : decode cX6_tells 125 = .ok (.iadd, 1) := by decide +kernel
theorem dX6_tells_126 : decode cX6_tells 126 = .ok (.istore 5, 2) := by decide +kernel
theorem dX6_tells_128 : decode cX6_tells 128 = .ok (.aload_n 0, 1) := by decide +kernel
theorem dX6_tells_129 : decode cX6_tells 129 = .ok (.iload_n 1, 1) := by decide +kernel
theorem dX6_tells_130 : decode cX6_tells 130 = .ok (.iload_n 2, 1) := by decide +kernel
theorem dX6_tells_131 : decode cX6_tells 131 = .ok (.iload_n 3, 1) := by decide +kernel
theorem dX6_tells_132 : decode cX6_tells 132 = .ok (.iload 4, 2) := by decide +kernel
theorem dX6_tells_134 : decode cX6_tells 134 = .ok (.iload 5, 2) := by decide +kernel
theorem dX6_tells_136 : decode cX6_tells 136 = .ok (.invokevirtual 165, 3) := by decide +kernel
theorem dX6_tells_139 : decode cX6_tells 139 = .ok (.iload 4, 2) := by decide +kernel
theorem dX6_tells_141 : decode cX6_tells 141 = .ok (.iload_n 2, 1) := by decide +kernel
theorem dX6_tells_142 : decode cX6_tells 142 = .ok (.if_icmp .ne 7, 3) := by decide +kernel
theorem dX6_tells_145 : decode cX6_tells 145 = .ok (.iconst 1, 1) := by decide +kernel
theorem dX6_tells_146 : decode cX6_tells 146 = .ok (.goto 4, 3) := by decide +kernel
theorem dX6_tells_149 : decode cX6_tells 149 = .ok (.iconst 0, 1) := by decide +kernel
theorem dX6_tells_150 : decode cX6_tells 150 = .ok (.ireturn, 1) := by decide +kernel
set_option maxRecDepth 20000 in
theorem ggX6_tell_X6_isHearer : GoodIn wsX6_tell wsX6_isHearer := goodIn_r _ [4, 5, 6, 3, 7] (by decide +kernel) (by decide +kernel)
set_option maxRecDepth 20000 in
theorem gX6_tell_X6_isHearer : GoodIn wsX6_tell (va_wsS RX6 141 yX6_isHearer wsX6_isHearer) := goodIn_app (goodIn_of _ (by decide +kernel)) ggX6_tell_X6_isHearer
set_option maxRecDepth 20000 in
theorem ggX6_tell_X6_in : GoodIn wsX6_tell wsX6_in := goodIn_r _ [7] (by decide +kernel) (by decide +kernel)
set_option maxRecDepth 20000 in
theorem gX6_tell_X6_in : GoodIn wsX6_tell (va_wsS RX6 32 yX6_in wsX6_in) := goodIn_app (goodIn_of _ (by decide +kernel)) ggX6_tell_X6_in
set_option maxRecDepth 20000 in
theorem ggX6_tell_X6_isNumber : GoodIn wsX6_tell wsX6_isNumber := goodIn_r _ [10, 5, 6, 3, 7] (by decide +kernel) (by decide +kernel)
set_option maxRecDepth 20000 in
theorem gX6_tell_X6_isNumber : GoodIn wsX6_tell (va_wsS RX6 169 yX6_isNumber wsX6_isNumber) := goodIn_app (goodIn_of _ (by decide +kernel)) ggX6_tell_X6_isNumber
set_option maxRecDepth 20000 in
theorem ggX6_tell_X6_makes : GoodIn wsX6_tell wsX6_makes := goodIn_r _ [14, 15, 16, 17, 18, 19, 3, 20, 21, 22, 23, 24, 25, 26, 27, 28, 29, 30, 31, 32, 33, 34, 35, 36, 37, 5, 6, 7, 38, 39, 40, 41, 42, 43, 44, 45, 142, 143, 144, 145, 146, 147, 148, 149, 150, 151, 152, 153, 154, 155, 156, 157, 158, 159] (by decide +kernel) (by decide +kernel)
set_option maxRecDepth 20000 in
theorem gX6_tell_X6_makes : GoodIn wsX6_tell (wsV RX6 172 RX6 yX6_makes wsX6_makes) := goodIn_app (goodIn_of _ (by decide +kernel)) ggX6_tell_X6_makes
set_option maxRecDepth 20000 in
theorem ggX6_tell_X6_placeOf : GoodIn wsX6_tell wsX6_placeOf := goodIn_r _ [49, 15, 16, 50, 51, 52, 3, 53, 21, 30, 142, 143, 144, 145, 146, 147, 148, 149, 150, 151, 152, 153, 154, 155, 156, 157, 158, 159] (by decide +kernel) (by decide +kernel)
set_option maxRecDepth 20000 in
theorem gX6_tell_X6_placeOf : GoodIn wsX6_tell (wsV RX6 175 RX6 yX6_placeOf wsX6_placeOf) := goodIn_app (goodIn_of _ (by decide +kernel)) ggX6_tell_X6_placeOf
set_option maxRecDepth 20000 in
theorem ggX6_tell_X6_says : GoodIn wsX6_tell wsX6_says := goodIn_r _ [57, 16, 21, 58, 30, 142, 143, 144, 145, 146, 147, 148, 149, 150, 151, 152, 153, 154, 155, 156, 157, 158, 159] (by decide +kernel) (by decide +kernel)
set_option maxRecDepth 20000 in
theorem gX6_tell_X6_says : GoodIn wsX6_tell (wsV RX6 178 RX6 yX6_says wsX6_says) := goodIn_app (goodIn_of _ (by decide +kernel)) ggX6_tell_X6_says
set_option maxRecDepth 20000 in
theorem ggX6_tell_X6_tells : GoodIn wsX6_tell wsX6_tells := goodIn_r _ [62, 63, 64, 65, 66, 3, 67, 68, 69, 70, 71, 72, 73, 74, 75, 76, 77, 78, 79, 80, 81, 82, 83, 84, 85, 86, 87, 88, 89, 90, 91, 92, 93, 94, 95, 96, 97, 58, 98, 99, 100, 101, 102, 103, 104, 105, 106, 107, 108, 109, 110, 111, 112, 113, 114, 115, 116, 117, 118, 119, 120, 121, 122, 123, 124, 125, 126, 127, 128, 129, 130, 131, 132, 133, 134, 135, 136, 137, 138, 139, 140, 141, 142, 143, 144, 145, 146, 147, 148, 149, 150, 151, 152, 153, 154, 155, 156, 157, 158, 159] (by decide +kernel) (by decide +kernel)
set_option maxRecDepth 20000 in
theorem gX6_tell_X6_tells : GoodIn wsX6_tell (wsV RX6 181 RX6 yX6_tells wsX6_tells) := goodIn_app (goodIn_of _ (by decide +kernel)) ggX6_tell_X6_tells
theorem dX6_tell_0 : decode cX6_tell 0 = .ok (.iload_n 1, 1) := by decide +kernel
theorem dX6_tell_1 : decode cX6_tell 1 = .ok (.invokestatic 141, 3) := by decide +kernel
theorem dX6_tell_4 : decode cX6_tell 4 = .ok (.ifCond .eq 12, 3) := by decide +kernel
theorem dX6_tell_7 : decode cX6_tell 7 = .ok (.iload_n 3, 1) := by decide +kernel
theorem dX6_tell_8 : decode cX6_tell 8 = .ok (.iconst 0, 1) := by decide +kernel
theorem dX6_tell_9 : decode cX6_tell 9 = .ok (.iconst 3, 1) := by decide +kernel
theorem dX6_tell_10 : decode cX6_tell 10 = .ok (.invokestatic 32, 3) := by decide +kernel
theorem dX6_tell_13 : decode cX6_tell 13 = .ok (.ifCond .ne 5, 3) := by decide +kernel
theorem dX6_tell_16 : decode cX6_tell 16 = .ok (.iconst (-1), 1) := by decide +kernel
theorem dX6_tell_17 : decode cX6_tell 17 = .ok (.ireturn, 1) := by decide +kernel
theorem dX6_tell_18 : decode cX6_tell 18 = .ok (.iload_n 2, 1) := by decide +kernel
theorem dX6_tell_19 : decode cX6_tell 19 = .ok (.invokestatic 169, 3) := by decide +kernel
theorem dX6_tell_22 : decode cX6_tell 22 = .ok (.ifCond .ne 6, 3) := by decide +kernel
theorem dX6_tell_25 : decode cX6_tell 25 = .ok (.bipush (-2), 2) := by decide +kernel
theorem dX6_tell_27 : decode cX6_tell 27 = .ok (.ireturn, 1) := by decide +kernel
theorem dX6_tell_28 : decode cX6_tell 28 = .ok (.aload_n 0, 1) := by decide +kernel
theorem dX6_tell_29 : decode cX6_tell 29 = .ok (.iload_n 2, 1) := by decide +kernel
theorem dX6_tell_30 : decode cX6_tell 30 = .ok (.invokevirtual 172, 3) := by decide +kernel
theorem dX6_tell_33 : decode cX6_tell 33 = .ok (.aload_n 0, 1) := by decide +kernel
theorem dX6_tell_34 : decode cX6_tell 34 = .ok (.iload_n 1, 1) := by decide +kernel
theorem dX6_tell_35 : decode cX6_tell 35 = .ok (.iload_n 2, 1) := by decide +kernel
theorem dX6_tell_36 : decode cX6_tell 36 = .ok (.aload_n 0, 1) := by decide +kernel
theorem dX6_tell_37 : decode cX6_tell 37 = .ok (.aload_n 0, 1) := by decide +kernel
theorem dX6_tell_38 : decode cX6_tell 38 = .ok (.iload_n 3, 1) := by decide +kernel
theorem dX6_tell_39 : decode cX6_tell 39 = .ok (.invokevirtual 175, 3) := by decide +kernel
theorem dX6_tell_42 : decode cX6_tell 42 = .ok (.invokevirtual 178, 3) := by decide +kernel
theorem dX6_tell_45 : decode cX6_tell 45 = .ok (.invokevirtual 181, 3) := by decide +kernel
theorem dX6_tell_48 : decode cX6_tell 48 = .ok (.ireturn, 1) := by decide +kernel
set_option maxRecDepth 20000 in
theorem ggX6_textFault_X6_faultOf : GoodIn wsX6_textFault wsX6_faultOf := goodIn_r _ [8, 9, 10, 11, 12, 13, 14, 15, 16, 17, 18, 19, 7, 20, 21, 22, 23, 24, 25, 26, 27, 28, 2, 29, 30, 31, 32, 33, 34, 35, 36, 37, 38, 39, 40, 41, 42, 43, 44, 45, 46, 47, 48, 49, 50, 51, 52, 53, 54, 55, 56, 57, 58, 59, 60, 61, 62, 63, 64, 65, 66, 67, 68, 69, 70, 71, 72, 73, 74] (by decide +kernel) (by decide +kernel)
set_option maxRecDepth 20000 in
theorem gX6_textFault_X6_faultOf : GoodIn wsX6_textFault (wsV RX6 99 RX6 yX6_faultOf wsX6_faultOf) := goodIn_app (goodIn_of _ (by decide +kernel)) ggX6_textFault_X6_faultOf
theorem dX6_textFault_0 : decode cX6_textFault 0 = .ok (.iconst 0, 1) := by decide +kernel
theorem dX6_textFault_1 : decode cX6_textFault 1 = .ok (.istore_n 1, 1) := by decide +kernel
theorem dX6_textFault_2 : decode cX6_textFault 2 = .ok (.iload_n 1, 1) := by decide +kernel
theorem dX6_textFault_3 : decode cX6_textFault 3 = .ok (.aload_n 0, 1) := by decide +kernel
theorem dX6_textFault_4 : decode cX6_textFault 4 = .ok (.getfield 184, 3) := by decide +kernel
theorem dX6_textFault_7 : decode cX6_textFault 7 = .ok (.if_icmp .ge 21, 3) := by decide +kernel
theorem dX6_textFault_10 : decode cX6_textFault 10 = .ok (.aload_n 0, 1) := by decide +kernel
theorem dX6_textFault_11 : decode cX6_textFault 11 = .ok (.getfield 16, 3) := by decide +kernel
theorem dX6_textFault_14 : decode cX6_textFault 14 = .ok (.iload_n 1, 1) := by decide +kernel
theorem dX6_textFault_15 : decode cX6_textFault 15 = .ok (.aload_n 0, 1) := by decide +kernel
theorem dX6_textFault_16 : decode cX6_textFault 16 = .ok (.getfield 20, 3) := by decide +kernel
theorem dX6_textFault_19 : decode cX6_textFault 19 = .ok (.iload_n 1, 1) := by decide +kernel
theorem dX6_textFault_20 : decode cX6_textFault 20 = .ok (.caload, 1) := by decide +kernel
theorem dX6_textFault_21 : decode cX6_textFault 21 = .ok (.castore, 1) := by decide +kernel
theorem dX6_textFault_22 : decode cX6_textFault 22 = .ok (.iinc 1 1, 3) := by decide +kernel
theorem dX6_textFault_25 : decode cX6_textFault 25 = .ok (.goto (-23), 3) := by decide +kernel
theorem dX6_textFault_28 : decode cX6_textFault 28 = .ok (.aload_n 0, 1) := by decide +kernel
theorem dX6_textFault_29 : decode cX6_textFault 29 = .ok (.aload_n 0, 1) := by decide +kernel
theorem dX6_textFault_30 : decode cX6_textFault 30 = .ok (.getfield 184, 3) := by decide +kernel
theorem dX6_textFault_33 : decode cX6_textFault 33 = .ok (.invokevirtual 99, 3) := by decide +kernel
theorem dX6_textFault_36 : decode cX6_textFault 36 = .ok (.ireturn, 1) := by decide +kernel
set_option maxRecDepth 20000 in
theorem ggX6_tellText_X6_isHearer : GoodIn wsX6_tellText wsX6_isHearer := goodIn_r _ [5, 6, 7, 4, 8] (by decide +kernel) (by decide +kernel)
set_option maxRecDepth 20000 in
theorem gX6_tellText_X6_isHearer : GoodIn wsX6_tellText (va_wsS RX6 141 yX6_isHearer wsX6_isHearer) := goodIn_app (goodIn_of _ (by decide +kernel)) ggX6_tellText_X6_isHearer
set_option maxRecDepth 20000 in
theorem ggX6_tellText_X6_textFault : GoodIn wsX6_tellText wsX6_textFault := goodIn_r _ [12, 1, 13, 14, 15, 16, 17, 4, 18, 19, 20, 21, 22, 23, 24, 25, 26, 27, 28, 29, 30, 31, 32, 33, 34, 35, 36, 37, 38, 39, 40, 41, 42, 43, 44, 45, 46, 47, 48, 49, 50, 51, 52, 53, 54, 55, 56, 57, 58, 59, 60, 61, 62, 63, 64, 65, 66, 98, 99, 100, 101, 102, 103, 104, 105, 106, 107, 108, 109, 110, 111, 112, 113, 114, 115] (by decide +kernel) (by decide +kernel)
set_option maxRecDepth 20000 in
theorem gX6_tellText_X6_textFault : GoodIn wsX6_tellText (wsV RX6 187 RX6 yX6_textFault wsX6_textFault) := goodIn_app (goodIn_of _ (by decide +kernel)) ggX6_tellText_X6_textFault
set_option maxRecDepth 20000 in
theorem ggX6_tellText_X6_meaningBy : GoodIn wsX6_tellText wsX6_meaningBy := goodIn_r _ [70, 21, 24, 22, 25, 26, 23, 98, 99, 100, 101, 102, 103, 104, 105, 106, 107, 108, 109, 110, 111, 112, 113, 114, 115] (by decide +kernel) (by decide +kernel)
set_option maxRecDepth 20000 in
theorem gX6_tellText_X6_meaningBy : GoodIn wsX6_tellText (wsV RX6 103 RX6 yX6_meaningBy wsX6_meaningBy) := goodIn_app (goodIn_of _ (by decide +kernel)) ggX6_tellText_X6_meaningBy
set_option maxRecDepth 20000 in
theorem ggX6_tellText_X6_tells : GoodIn wsX6_tellText wsX6_tells := goodIn_r _ [74, 75, 76, 77, 78, 4, 79, 80, 81, 82, 83, 84, 85, 15, 16, 17, 18, 19, 20, 21, 22, 23, 24, 25, 26, 27, 28, 29, 30, 31, 32, 33, 34, 35, 36, 37, 38, 13, 39, 40, 41, 42, 43, 44, 45, 46, 47, 48, 49, 50, 51, 52, 53, 54, 55, 56, 57, 58, 59, 60, 61, 62, 63, 64, 65, 66, 67, 68, 69, 70, 86, 87, 88, 89, 90, 91, 92, 93, 94, 95, 96, 97, 98, 99, 100, 101, 102, 103, 104, 105, 106, 107, 108, 109, 110, 111, 112, 113, 114, 115] (by decide +kernel) (by decide +kernel)
set_option maxRecDepth 20000 in
theorem gX6_tellText_X6_tells : GoodIn wsX6_tellText (wsV RX6 181 RX6 yX6_tells wsX6_tells) := goodIn_app (goodIn_of _ (by decide +kernel)) ggX6_tellText_X6_tells
theorem dX6_tellText_0 : decode cX6_tellText 0 = .ok (.iload_n 1, 1) := by decide +kernel
theorem dX6_tellText_1 : decode cX6_tellText 1 = .ok (.invokestatic 141, 3) := by decide +kernel
theorem dX6_tellText_4 : decode cX6_tellText 4 = .ok (.ifCond .ne 5, 3) := by decide +kernel
theorem dX6_tellText_7 : decode cX6_tellText 7 = .ok (.iconst (-1), 1) := by decide +kernel
theorem dX6_tellText_8 : decode cX6_tellText 8 = .ok (.ireturn, 1) := by decide +kernel
theorem dX6_tellText_9 : decode cX6_tellText 9 = .ok (.aload_n 0, 1) := by decide +kernel
theorem dX6_tellText_10 : decode cX6_tellText 10 = .ok (.invokevirtual 187, 3) := by decide +kernel
theorem dX6_tellText_13 : decode cX6_tellText 13 = .ok (.ifCond .lt 6, 3) := by decide +kernel
theorem dX6_tellText_16 : decode cX6_tellText 16 = .ok (.bipush (-3), 2) := by decide +kernel
theorem dX6_tellText_18 : decode cX6_tellText 18 = .ok (.ireturn, 1) := by decide +kernel
theorem dX6_tellText_19 : decode cX6_tellText 19 = .ok (.aload_n 0, 1) := by decide +kernel
theorem dX6_tellText_20 : decode cX6_tellText 20 = .ok (.iload_n 1, 1) := by decide +kernel
theorem dX6_tellText_21 : decode cX6_tellText 21 = .ok (.aload_n 0, 1) := by decide +kernel
theorem dX6_tellText_22 : decode cX6_tellText 22 = .ok (.iconst 1, 1) := by decide +kernel
theorem dX6_tellText_23 : decode cX6_tellText 23 = .ok (.iconst 1, 1) := by decide +kernel
theorem dX6_tellText_24 : decode cX6_tellText 24 = .ok (.iconst 1, 1) := by decide +kernel
theorem dX6_tellText_25 : decode cX6_tellText 25 = .ok (.invokevirtual 103, 3) := by decide +kernel
theorem dX6_tellText_28 : decode cX6_tellText 28 = .ok (.aload_n 0, 1) := by decide +kernel
theorem dX6_tellText_29 : decode cX6_tellText 29 = .ok (.getfield 184, 3) := by decide +kernel
theorem dX6_tellText_32 : decode cX6_tellText 32 = .ok (.invokevirtual 181, 3) := by decide +kernel
theorem dX6_tellText_35 : decode cX6_tellText 35 = .ok (.ireturn, 1) := by decide +kernel
set_option maxRecDepth 20000 in
theorem ggX6_append_X6_in : GoodIn wsX6_append wsX6_in := goodIn_r _ [6] (by decide +kernel) (by decide +kernel)
set_option maxRecDepth 20000 in
theorem gX6_append_X6_in : GoodIn wsX6_append (va_wsS RX6 32 yX6_in wsX6_in) := goodIn_app (goodIn_of _ (by decide +kernel)) ggX6_append_X6_in
