theorem dX5_treaty_13 : decode cX5_treaty 13 = .ok (.ireturn, 1) := by decide +kernel
theorem dX5_treaty_14 : decode cX5_treaty 14 = .ok (.iload_n 2, 1) := by decide +kernel
theorem dX5_treaty_15 : decode cX5_treaty 15 = .ok (.invokestatic 63, 3) := by decide +kernel
theorem dX5_treaty_18 : decode cX5_treaty 18 = .ok (.ifCond .ne 6, 3) := by decide +kernel
theorem dX5_treaty_21 : decode cX5_treaty 21 = .ok (.bipush (-2), 2) := by decide +kernel
theorem dX5_treaty_23 : decode cX5_treaty 23 = .ok (.ireturn, 1) := by decide +kernel
theorem dX5_treaty_24 : decode cX5_treaty 24 = .ok (.aload_n 0, 1) := by decide +kernel
theorem dX5_treaty_25 : decode cX5_treaty 25 = .ok (.getfield 13, 3) := by decide +kernel
theorem dX5_treaty_28 : decode cX5_treaty 28 = .ok (.iload_n 1, 1) := by decide +kernel
theorem dX5_treaty_29 : decode cX5_treaty 29 = .ok (.aaload, 1) := by decide +kernel
theorem dX5_treaty_30 : decode cX5_treaty 30 = .ok (.iload_n 2, 1) := by decide +kernel
theorem dX5_treaty_31 : decode cX5_treaty 31 = .ok (.iload_n 3, 1) := by decide +kernel
theorem dX5_treaty_32 : decode cX5_treaty 32 = .ok (.iload 4, 2) := by decide +kernel
theorem dX5_treaty_34 : decode cX5_treaty 34 = .ok (.invokestatic 66, 3) := by decide +kernel
theorem dX5_treaty_37 : decode cX5_treaty 37 = .ok (.istore 5, 2) := by decide +kernel
theorem dX5_treaty_39 : decode cX5_treaty 39 = .ok (.iload 5, 2) := by decide +kernel
theorem dX5_treaty_41 : decode cX5_treaty 41 = .ok (.ifCond .eq 10, 3) := by decide +kernel
theorem dX5_treaty_44 : decode cX5_treaty 44 = .ok (.aload_n 0, 1) := by decide +kernel
theorem dX5_treaty_45 : decode cX5_treaty 45 = .ok (.iload 5, 2) := by decide +kernel
theorem dX5_treaty_47 : decode cX5_treaty 47 = .ok (.invokevirtual 70, 3) := by decide +kernel
theorem dX5_treaty_50 : decode cX5_treaty 50 = .ok (.ireturn, 1) := by decide +kernel
theorem dX5_treaty_51 : decode cX5_treaty 51 = .ok (.aload_n 0, 1) := by decide +kernel
theorem dX5_treaty_52 : decode cX5_treaty 52 = .ok (.getfield 20, 3) := by decide +kernel
theorem dX5_treaty_55 : decode cX5_treaty 55 = .ok (.aload_n 0, 1) := by decide +kernel
theorem dX5_treaty_56 : decode cX5_treaty 56 = .ok (.getfield 13, 3) := by decide +kernel
theorem dX5_treaty_59 : decode cX5_treaty 59 = .ok (.iload_n 1, 1) := by decide +kernel
theorem dX5_treaty_60 : decode cX5_treaty 60 = .ok (.aaload, 1) := by decide +kernel
theorem dX5_treaty_61 : decode cX5_treaty 61 = .ok (.iload_n 3, 1) := by decide +kernel
theorem dX5_treaty_62 : decode cX5_treaty 62 = .ok (.iload 4, 2) := by decide +kernel
theorem dX5_treaty_64 : decode cX5_treaty 64 = .ok (.invokevirtual 74, 3) := by decide +kernel
theorem dX5_treaty_67 : decode cX5_treaty 67 = .ok (.aload_n 0, 1) := by decide +kernel
theorem dX5_treaty_68 : decode cX5_treaty 68 = .ok (.getfield 31, 3) := by decide +kernel
theorem dX5_treaty_71 : decode cX5_treaty 71 = .ok (.aload_n 0, 1) := by decide +kernel
theorem dX5_treaty_72 : decode cX5_treaty 72 = .ok (.getfield 20, 3) := by decide +kernel
theorem dX5_treaty_75 : decode cX5_treaty 75 = .ok (.invokevirtual 78, 3) := by decide +kernel
theorem dX5_treaty_78 : decode cX5_treaty 78 = .ok (.ifCond .ne 14, 3) := by decide +kernel
theorem dX5_treaty_81 : decode cX5_treaty 81 = .ok (.bipush (-100), 2) := by decide +kernel
theorem dX5_treaty_83 : decode cX5_treaty 83 = .ok (.aload_n 0, 1) := by decide +kernel
theorem dX5_treaty_84 : decode cX5_treaty 84 = .ok (.getfield 20, 3) := by decide +kernel
theorem dX5_treaty_87 : decode cX5_treaty 87 = .ok (.getfield 82, 3) := by decide +kernel
theorem dX5_treaty_90 : decode cX5_treaty 90 = .ok (.isub, 1) := by decide +kernel
theorem dX5_treaty_91 : decode cX5_treaty 91 = .ok (.ireturn, 1) := by decide +kernel
theorem dX5_treaty_92 : decode cX5_treaty 92 = .ok (.aload_n 0, 1) := by decide +kernel
theorem dX5_treaty_93 : decode cX5_treaty 93 = .ok (.invokevirtual 85, 3) := by decide +kernel
theorem dX5_treaty_96 : decode cX5_treaty 96 = .ok (.aload_n 0, 1) := by decide +kernel
theorem dX5_treaty_97 : decode cX5_treaty 97 = .ok (.getfield 27, 3) := by decide +kernel
theorem dX5_treaty_100 : decode cX5_treaty 100 = .ok (.getfield 88, 3) := by decide +kernel
theorem dX5_treaty_103 : decode cX5_treaty 103 = .ok (.ireturn, 1) := by decide +kernel
set_option maxRecDepth 20000 in
theorem ggX5_beginAnew_X1_nobody : GoodIn wsX5_beginAnew wsX1_nobody := goodIn_r _ [10, 11, 12, 13, 9, 14, 15, 29, 30] (by decide +kernel) (by decide +kernel)
set_option maxRecDepth 20000 in
theorem gX5_beginAnew_X1_nobody : GoodIn wsX5_beginAnew (wsV RX5 91 RX1 yX1_nobody wsX1_nobody) := goodIn_app (goodIn_of _ (by decide +kernel)) ggX5_beginAnew_X1_nobody
theorem dX5_beginAnew_0 : decode cX5_beginAnew 0 = .ok (.aload_n 0, 1) := by decide +kernel
theorem dX5_beginAnew_1 : decode cX5_beginAnew 1 = .ok (.getfield 27, 3) := by decide +kernel
theorem dX5_beginAnew_4 : decode cX5_beginAnew 4 = .ok (.astore_n 1, 1) := by decide +kernel
theorem dX5_beginAnew_5 : decode cX5_beginAnew 5 = .ok (.aload_n 0, 1) := by decide +kernel
theorem dX5_beginAnew_6 : decode cX5_beginAnew 6 = .ok (.aload_n 0, 1) := by decide +kernel
theorem dX5_beginAnew_7 : decode cX5_beginAnew 7 = .ok (.getfield 31, 3) := by decide +kernel
theorem dX5_beginAnew_10 : decode cX5_beginAnew 10 = .ok (.putfield 27, 3) := by decide +kernel
theorem dX5_beginAnew_13 : decode cX5_beginAnew 13 = .ok (.aload_n 0, 1) := by decide +kernel
theorem dX5_beginAnew_14 : decode cX5_beginAnew 14 = .ok (.aload_n 1, 1) := by decide +kernel
theorem dX5_beginAnew_15 : decode cX5_beginAnew 15 = .ok (.putfield 31, 3) := by decide +kernel
theorem dX5_beginAnew_18 : decode cX5_beginAnew 18 = .ok (.aload_n 0, 1) := by decide +kernel
theorem dX5_beginAnew_19 : decode cX5_beginAnew 19 = .ok (.getfield 37, 3) := by decide +kernel
theorem dX5_beginAnew_22 : decode cX5_beginAnew 22 = .ok (.invokevirtual 91, 3) := by decide +kernel
theorem dX5_beginAnew_25 : decode cX5_beginAnew 25 = .ok (.aload_n 0, 1) := by decide +kernel
theorem dX5_beginAnew_26 : decode cX5_beginAnew 26 = .ok (.getfield 47, 3) := by decide +kernel
theorem dX5_beginAnew_29 : decode cX5_beginAnew 29 = .ok (.iconst 0, 1) := by decide +kernel
theorem dX5_beginAnew_30 : decode cX5_beginAnew 30 = .ok (.putfield 94, 3) := by decide +kernel
theorem dX5_beginAnew_33 : decode cX5_beginAnew 33 = .ok (.return_, 1) := by decide +kernel
set_option maxRecDepth 20000 in
theorem ggX5_ofSon_X5_isSon : GoodIn wsX5_ofSon wsX5_isSon := goodIn_r _ [13, 1, 14, 21, 22, 23, 24, 25, 26, 27, 28, 29, 30, 31, 32, 33, 34, 35, 36, 37] (by decide +kernel) (by decide +kernel)
set_option maxRecDepth 20000 in
theorem gX5_ofSon_X5_isSon : GoodIn wsX5_ofSon (wsV RX5 97 RX5 yX5_isSon wsX5_isSon) := goodIn_app (goodIn_of _ (by decide +kernel)) ggX5_ofSon_X5_isSon
set_option maxRecDepth 20000 in
theorem ggX5_ofSon_X1_ever : GoodIn wsX5_ofSon wsX1_ever := goodIn_r _ [19, 20, 38, 39] (by decide +kernel) (by decide +kernel)
set_option maxRecDepth 20000 in
theorem gX5_ofSon_X1_ever : GoodIn wsX5_ofSon (wsV RX5 113 RX1 yX1_ever wsX1_ever) := goodIn_app (goodIn_of _ (by decide +kernel)) ggX5_ofSon_X1_ever
theorem dX5_ofSon_0 : decode cX5_ofSon 0 = .ok (.aload_n 0, 1) := by decide +kernel
theorem dX5_ofSon_1 : decode cX5_ofSon 1 = .ok (.iload_n 1, 1) := by decide +kernel
theorem dX5_ofSon_2 : decode cX5_ofSon 2 = .ok (.invokevirtual 97, 3) := by decide +kernel
theorem dX5_ofSon_5 : decode cX5_ofSon 5 = .ok (.ifCond .ne 5, 3) := by decide +kernel
theorem dX5_ofSon_8 : decode cX5_ofSon 8 = .ok (.iconst (-1), 1) := by decide +kernel
theorem dX5_ofSon_9 : decode cX5_ofSon 9 = .ok (.ireturn, 1) := by decide +kernel
theorem dX5_ofSon_10 : decode cX5_ofSon 10 = .ok (.iload_n 2, 1) := by decide +kernel
theorem dX5_ofSon_11 : decode cX5_ofSon 11 = .ok (.tableswitch 129 0 5 #[37, 47, 57, 67, 77, 103], 37) := by decide +kernel
theorem dX5_ofSon_48 : decode cX5_ofSon 48 = .ok (.aload_n 0, 1) := by decide +kernel
theorem dX5_ofSon_49 : decode cX5_ofSon 49 = .ok (.getfield 27, 3) := by decide +kernel
theorem dX5_ofSon_52 : decode cX5_ofSon 52 = .ok (.getfield 100, 3) := by decide +kernel
theorem dX5_ofSon_55 : decode cX5_ofSon 55 = .ok (.iload_n 1, 1) := by decide +kernel
theorem dX5_ofSon_56 : decode cX5_ofSon 56 = .ok (.iaload, 1) := by decide +kernel
theorem dX5_ofSon_57 : decode cX5_ofSon 57 = .ok (.ireturn, 1) := by decide +kernel
theorem dX5_ofSon_58 : decode cX5_ofSon 58 = .ok (.aload_n 0, 1) := by decide +kernel
theorem dX5_ofSon_59 : decode cX5_ofSon 59 = .ok (.getfield 27, 3) := by decide +kernel
theorem dX5_ofSon_62 : decode cX5_ofSon 62 = .ok (.getfield 104, 3) := by decide +kernel
theorem dX5_ofSon_65 : decode cX5_ofSon 65 = .ok (.iload_n 1, 1) := by decide +kernel
theorem dX5_ofSon_66 : decode cX5_ofSon 66 = .ok (.iaload, 1) := by decide +kernel
theorem dX5_ofSon_67 : decode cX5_ofSon 67 = .ok (.ireturn, 1) := by decide +kernel
theorem dX5_ofSon_68 : decode cX5_ofSon 68 = .ok (.aload_n 0, 1) := by decide +kernel
theorem dX5_ofSon_69 : decode cX5_ofSon 69 = .ok (.getfield 27, 3) := by decide +kernel
theorem dX5_ofSon_72 : decode cX5_ofSon 72 = .ok (.getfield 107, 3) := by decide +kernel
theorem dX5_ofSon_75 : decode cX5_ofSon 75 = .ok (.iload_n 1, 1) := by decide +kernel
theorem dX5_ofSon_76 : decode cX5_ofSon 76 = .ok (.iaload, 1) := by decide +kernel
theorem dX5_ofSon_77 : decode cX5_ofSon 77 = .ok (.ireturn, 1) := by decide +kernel
theorem dX5_ofSon_78 : decode cX5_ofSon 78 = .ok (.aload_n 0, 1) := by decide +kernel
theorem dX5_ofSon_79 : decode cX5_ofSon 79 = .ok (.getfield 27, 3) := by decide +kernel
theorem dX5_ofSon_82 : decode cX5_ofSon 82 = .ok (.getfield 110, 3) := by decide +kernel
theorem dX5_ofSon_85 : decode cX5_ofSon 85 = .ok (.iload_n 1, 1) := by decide +kernel
theorem dX5_ofSon_86 : decode cX5_ofSon 86 = .ok (.iaload, 1) := by decide +kernel
theorem dX5_ofSon_87 : decode cX5_ofSon 87 = .ok (.ireturn, 1) := by decide +kernel
theorem dX5_ofSon_88 : decode cX5_ofSon 88 = .ok (.aload_n 0, 1) := by decide +kernel
theorem dX5_ofSon_89 : decode cX5_ofSon 89 = .ok (.getfield 37, 3) := by decide +kernel
theorem dX5_ofSon_92 : decode cX5_ofSon 92 = .ok (.iload_n 1, 1) := by decide +kernel
theorem dX5_ofSon_93 : decode cX5_ofSon 93 = .ok (.invokevirtual 113, 3) := by decide +kernel
theorem dX5_ofSon_96 : decode cX5_ofSon 96 = .ok (.ifCond .eq 15, 3) := by decide +kernel
theorem dX5_ofSon_99 : decode cX5_ofSon 99 = .ok (.aload_n 0, 1) := by decide +kernel
theorem dX5_ofSon_100 : decode cX5_ofSon 100 = .ok (.getfield 37, 3) := by decide +kernel
theorem dX5_ofSon_103 : decode cX5_ofSon 103 = .ok (.getfield 116, 3) := by decide +kernel
theorem dX5_ofSon_106 : decode cX5_ofSon 106 = .ok (.iload_n 1, 1) := by decide +kernel
theorem dX5_ofSon_107 : decode cX5_ofSon 107 = .ok (.iaload, 1) := by decide +kernel
theorem dX5_ofSon_108 : decode cX5_ofSon 108 = .ok (.goto 5, 3) := by decide +kernel
theorem dX5_ofSon_111 : decode cX5_ofSon 111 = .ok (.bipush (-9), 2) := by decide +kernel
theorem dX5_ofSon_113 : decode cX5_ofSon 113 = .ok (.ireturn, 1) := by decide +kernel
theorem dX5_ofSon_114 : decode cX5_ofSon 114 = .ok (.aload_n 0, 1) := by decide +kernel
theorem dX5_ofSon_115 : decode cX5_ofSon 115 = .ok (.getfield 37, 3) := by decide +kernel
theorem dX5_ofSon_118 : decode cX5_ofSon 118 = .ok (.iload_n 1, 1) := by decide +kernel
theorem dX5_ofSon_119 : decode cX5_ofSon 119 = .ok (.invokevirtual 113, 3) := by decide +kernel
theorem dX5_ofSon_122 : decode cX5_ofSon 122 = .ok (.ifCond .eq 15, 3) := by decide +kernel
theorem dX5_ofSon_125 : decode cX5_ofSon 125 = .ok (.aload_n 0, 1) := by decide +kernel
theorem dX5_ofSon_126 : decode cX5_ofSon 126 = .ok (.getfield 37, 3) := by decide +kernel
theorem dX5_ofSon_129 : decode cX5_ofSon 129 = .ok (.getfield 119, 3) := by decide +kernel
theorem dX5_ofSon_132 : decode cX5_ofSon 132 = .ok (.iload_n 1, 1) := by decide +kernel
theorem dX5_ofSon_133 : decode cX5_ofSon 133 = .ok (.iaload, 1) := by decide +kernel
theorem dX5_ofSon_134 : decode cX5_ofSon 134 = .ok (.goto 5, 3) := by decide +kernel
theorem dX5_ofSon_137 : decode cX5_ofSon 137 = .ok (.bipush (-9), 2) := by decide +kernel
theorem dX5_ofSon_139 : decode cX5_ofSon 139 = .ok (.ireturn, 1) := by decide +kernel
theorem dX5_ofSon_140 : decode cX5_ofSon 140 = .ok (.bipush (-2), 2) := by decide +kernel
theorem dX5_ofSon_142 : decode cX5_ofSon 142 = .ok (.ireturn, 1) := by decide +kernel
set_option maxRecDepth 20000 in
theorem ggX5_gain_X5_isCourt : GoodIn wsX5_gain wsX5_isCourt := goodIn_r _ [7, 1, 8, 14, 15, 16, 17, 18, 19, 20, 21, 22, 23, 24, 25, 26, 27, 28, 29, 30] (by decide +kernel) (by decide +kernel)
set_option maxRecDepth 20000 in
theorem gX5_gain_X5_isCourt : GoodIn wsX5_gain (wsV RX5 122 RX5 yX5_isCourt wsX5_isCourt) := goodIn_app (goodIn_of _ (by decide +kernel)) ggX5_gain_X5_isCourt
set_option maxRecDepth 20000 in
theorem ggX5_gain_X5_isYear : GoodIn wsX5_gain wsX5_isYear := goodIn_r _ [12, 1, 13, 14, 15, 16, 17, 18, 19, 20, 21, 22, 23, 24, 25, 26, 27, 28, 29, 30] (by decide +kernel) (by decide +kernel)
set_option maxRecDepth 20000 in
theorem gX5_gain_X5_isYear : GoodIn wsX5_gain (wsV RX5 125 RX5 yX5_isYear wsX5_isYear) := goodIn_app (goodIn_of _ (by decide +kernel)) ggX5_gain_X5_isYear
theorem dX5_gain_0 : decode cX5_gain 0 = .ok (.aload_n 0, 1) := by decide +kernel
theorem dX5_gain_1 : decode cX5_gain 1 = .ok (.iload_n 1, 1) := by decide +kernel
theorem dX5_gain_2 : decode cX5_gain 2 = .ok (.invokevirtual 122, 3) := by decide +kernel
theorem dX5_gain_5 : decode cX5_gain 5 = .ok (.ifCond .ne 5, 3) := by decide +kernel
theorem dX5_gain_8 : decode cX5_gain 8 = .ok (.iconst (-1), 1) := by decide +kernel
theorem dX5_gain_9 : decode cX5_gain 9 = .ok (.ireturn, 1) := by decide +kernel
theorem dX5_gain_10 : decode cX5_gain 10 = .ok (.aload_n 0, 1) := by decide +kernel
theorem dX5_gain_11 : decode cX5_gain 11 = .ok (.iload_n 2, 1) := by decide +kernel
theorem dX5_gain_12 : decode cX5_gain 12 = .ok (.invokevirtual 125, 3) := by decide +kernel
theorem dX5_gain_15 : decode cX5_gain 15 = .ok (.ifCond .ne 6, 3) := by decide +kernel
theorem dX5_gain_18 : decode cX5_gain 18 = .ok (.bipush (-2), 2) := by decide +kernel
theorem dX5_gain_20 : decode cX5_gain 20 = .ok (.ireturn, 1) := by decide +kernel
theorem dX5_gain_21 : decode cX5_gain 21 = .ok (.aload_n 0, 1) := by decide +kernel
theorem dX5_gain_22 : decode cX5_gain 22 = .ok (.getfield 27, 3) := by decide +kernel
theorem dX5_gain_25 : decode cX5_gain 25 = .ok (.getfield 128, 3) := by decide +kernel
theorem dX5_gain_28 : decode cX5_gain 28 = .ok (.iload_n 1, 1) := by decide +kernel
theorem dX5_gain_29 : decode cX5_gain 29 = .ok (.aaload, 1) := by decide +kernel
theorem dX5_gain_30 : decode cX5_gain 30 = .ok (.iload_n 2, 1) := by decide +kernel
theorem dX5_gain_31 : decode cX5_gain 31 = .ok (.iaload, 1) := by decide +kernel
theorem dX5_gain_32 : decode cX5_gain 32 = .ok (.ireturn, 1) := by decide +kernel
set_option maxRecDepth 20000 in
theorem ggX5_tempt_X5_isCourt : GoodIn wsX5_tempt wsX5_isCourt := goodIn_r _ [7, 1, 8, 14, 15, 16, 17, 18, 19, 20, 21, 22, 23, 24, 25, 26, 27, 28, 29, 30] (by decide +kernel) (by decide +kernel)
set_option maxRecDepth 20000 in
theorem gX5_tempt_X5_isCourt : GoodIn wsX5_tempt (wsV RX5 122 RX5 yX5_isCourt wsX5_isCourt) := goodIn_app (goodIn_of _ (by decide +kernel)) ggX5_tempt_X5_isCourt
set_option maxRecDepth 20000 in
theorem ggX5_tempt_X5_isYear : GoodIn wsX5_tempt wsX5_isYear := goodIn_r _ [12, 1, 13, 14, 15, 16, 17, 18, 19, 20, 21, 22, 23, 24, 25, 26, 27, 28, 29, 30] (by decide +kernel) (by decide +kernel)
set_option maxRecDepth 20000 in
theorem gX5_tempt_X5_isYear : GoodIn wsX5_tempt (wsV RX5 125 RX5 yX5_isYear wsX5_isYear) := goodIn_app (goodIn_of _ (by decide +kernel)) ggX5_tempt_X5_isYear
theorem dX5_tempt_0 : decode cX5_tempt 0 = .ok (.aload_n 0, 1) := by decide +kernel
theorem dX5_tempt_1 : decode cX5_tempt 1 = .ok (.iload_n 1, 1) := by decide +kernel
theorem dX5_tempt_2 : decode cX5_tempt 2 = .ok (.invokevirtual 122, 3) := by decide +kernel
theorem dX5_tempt_5 : decode cX5_tempt 5 = .ok (.ifCond .ne 5, 3) := by decide +kernel
theorem dX5_tempt_8 : decode cX5_tempt 8 = .ok (.iconst (-1), 1) := by decide +kernel
theorem dX5_tempt_9 : decode cX5_tempt 9 = .ok (.ireturn, 1) := by decide +kernel
theorem dX5_tempt_10 : decode cX5_tempt 10 = .ok (.aload_n 0, 1) := by decide +kernel
theorem dX5_tempt_11 : decode cX5_tempt 11 = .ok (.iload_n 2, 1) := by decide +kernel
theorem dX5_tempt_12 : decode cX5_tempt 12 = .ok (.invokevirtual 125, 3) := by decide +kernel
theorem dX5_tempt_15 : decode cX5_tempt 15 = .ok (.ifCond .eq 13, 3) := by decide +kernel
theorem dX5_tempt_18 : decode cX5_tempt 18 = .ok (.iload_n 3, 1) := by decide +kernel
theorem dX5_tempt_19 : decode cX5_tempt 19 = .ok (.ifCond .lt 9, 3) := by decide +kernel
theorem dX5_tempt_22 : decode cX5_tempt 22 = .ok (.iload_n 3, 1) := by decide +kernel
theorem dX5_tempt_23 : decode cX5_tempt 23 = .ok (.bipush 9, 2) := by decide +kernel
theorem dX5_tempt_25 : decode cX5_tempt 25 = .ok (.if_icmp .le 6, 3) := by decide +kernel
theorem dX5_tempt_28 : decode cX5_tempt 28 = .ok (.bipush (-2), 2) := by decide +kernel
theorem dX5_tempt_30 : decode cX5_tempt 30 = .ok (.ireturn, 1) := by decide +kernel
theorem dX5_tempt_31 : decode cX5_tempt 31 = .ok (.aload_n 0, 1) := by decide +kernel
theorem dX5_tempt_32 : decode cX5_tempt 32 = .ok (.getfield 27, 3) := by decide +kernel
theorem dX5_tempt_35 : decode cX5_tempt 35 = .ok (.getfield 128, 3) := by decide +kernel
theorem dX5_tempt_38 : decode cX5_tempt 38 = .ok (.iload_n 1, 1) := by decide +kernel
theorem dX5_tempt_39 : decode cX5_tempt 39 = .ok (.aaload, 1) := by decide +kernel
theorem dX5_tempt_40 : decode cX5_tempt 40 = .ok (.iload_n 2, 1) := by decide +kernel
theorem dX5_tempt_41 : decode cX5_tempt 41 = .ok (.iaload, 1) := by decide +kernel
theorem dX5_tempt_42 : decode cX5_tempt 42 = .ok (.istore 4, 2) := by decide +kernel
theorem dX5_tempt_44 : decode cX5_tempt 44 = .ok (.aload_n 0, 1) := by decide +kernel
theorem dX5_tempt_45 : decode cX5_tempt 45 = .ok (.getfield 27, 3) := by decide +kernel
theorem dX5_tempt_48 : decode cX5_tempt 48 = .ok (.getfield 128, 3) := by decide +kernel
theorem dX5_tempt_51 : decode cX5_tempt 51 = .ok (.iload_n 1, 1) := by decide +kernel
theorem dX5_tempt_52 : decode cX5_tempt 52 = .ok (.aaload, 1) := by decide +kernel
theorem dX5_tempt_53 : decode cX5_tempt 53 = .ok (.iload_n 2, 1) := by decide +kernel
theorem dX5_tempt_54 : decode cX5_tempt 54 = .ok (.iload_n 3, 1) := by decide +kernel
theorem dX5_tempt_55 : decode cX5_tempt 55 = .ok (.iastore, 1) := by decide +kernel
theorem dX5_tempt_56 : decode cX5_tempt 56 = .ok (.iload 4, 2) := by decide +kernel
theorem dX5_tempt_58 : decode cX5_tempt 58 = .ok (.ireturn, 1) := by decide +kernel
set_option maxRecDepth 20000 in
theorem ggX5_send_X5_isSon : GoodIn wsX5_send wsX5_isSon := goodIn_r _ [10, 1, 11, 28, 29, 30, 31, 32, 33, 34, 35, 36, 37, 38, 39, 40, 41, 42, 43, 44] (by decide +kernel) (by decide +kernel)
set_option maxRecDepth 20000 in
theorem gX5_send_X5_isSon : GoodIn wsX5_send (wsV RX5 97 RX5 yX5_isSon wsX5_isSon) := goodIn_app (goodIn_of _ (by decide +kernel)) ggX5_send_X5_isSon
set_option maxRecDepth 20000 in
theorem ggX5_send_X5_isCourt : GoodIn wsX5_send wsX5_isCourt := goodIn_r _ [15, 1, 16, 28, 29, 30, 31, 32, 33, 34, 35, 36, 37, 38, 39, 40, 41, 42, 43, 44] (by decide +kernel) (by decide +kernel)
set_option maxRecDepth 20000 in
theorem gX5_send_X5_isCourt : GoodIn wsX5_send (wsV RX5 122 RX5 yX5_isCourt wsX5_isCourt) := goodIn_app (goodIn_of _ (by decide +kernel)) ggX5_send_X5_isCourt
set_option maxRecDepth 20000 in
theorem ggX5_send_X5_isYear : GoodIn wsX5_send wsX5_isYear := goodIn_r _ [20, 1, 21, 28, 29, 30, 31, 32, 33, 34, 35, 36, 37, 38, 39, 40, 41, 42, 43, 44] (by decide +kernel) (by decide +kernel)
set_option maxRecDepth 20000 in
theorem gX5_send_X5_isYear : GoodIn wsX5_send (wsV RX5 125 RX5 yX5_isYear wsX5_isYear) := goodIn_app (goodIn_of _ (by decide +kernel)) ggX5_send_X5_isYear
set_option maxRecDepth 20000 in
theorem ggX5_send_X1_ever : GoodIn wsX5_send wsX1_ever := goodIn_r _ [26, 27, 45, 46] (by decide +kernel) (by decide +kernel)
set_option maxRecDepth 20000 in
theorem gX5_send_X1_ever : GoodIn wsX5_send (wsV RX5 113 RX1 yX1_ever wsX1_ever) := goodIn_app (goodIn_of _ (by decide +kernel)) ggX5_send_X1_ever
theorem dX5_send_0 : decode cX5_send 0 = .ok (.aload_n 0, 1) := by decide +kernel
theorem dX5_send_1 : decode cX5_send 1 = .ok (.iload_n 1, 1) := by decide +kernel
theorem dX5_send_2 : decode cX5_send 2 = .ok (.invokevirtual 97, 3) := by decide +kernel
theorem dX5_send_5 : decode cX5_send 5 = .ok (.ifCond .eq 11, 3) := by decide +kernel
theorem dX5_send_8 : decode cX5_send 8 = .ok (.aload_n 0, 1) := by decide +kernel
theorem dX5_send_9 : decode cX5_send 9 = .ok (.iload_n 2, 1) := by decide +kernel
theorem dX5_send_10 : decode cX5_send 10 = .ok (.invokevirtual 122, 3) := by decide +kernel
theorem dX5_send_13 : decode cX5_send 13 = .ok (.ifCond .ne 5, 3) := by decide +kernel
theorem dX5_send_16 : decode cX5_send 16 = .ok (.iconst (-1), 1) := by decide +kernel
theorem dX5_send_17 : decode cX5_send 17 = .ok (.ireturn, 1) := by decide +kernel
theorem dX5_send_18 : decode cX5_send 18 = .ok (.aload_n 0, 1) := by decide +kernel
theorem dX5_send_19 : decode cX5_send 19 = .ok (.iload_n 3, 1) := by decide +kernel
theorem dX5_send_20 : decode cX5_send 20 = .ok (.invokevirtual 125, 3) := by decide +kernel
theorem dX5_send_23 : decode cX5_send 23 = .ok (.ifCond .ne 6, 3) := by decide +kernel
theorem dX5_send_26 : decode cX5_send 26 = .ok (.bipush (-2), 2) := by decide +kernel
theorem dX5_send_28 : decode cX5_send 28 = .ok (.ireturn, 1) := by decide +kernel
theorem dX5_send_29 : decode cX5_send 29 = .ok (.iload_n 2, 1) := by decide +kernel
theorem dX5_send_30 : decode cX5_send 30 = .ok (.aload_n 0, 1) := by decide +kernel
theorem dX5_send_31 : decode cX5_send 31 = .ok (.getfield 27, 3) := by decide +kernel
theorem dX5_send_34 : decode cX5_send 34 = .ok (.getfield 104, 3) := by decide +kernel
theorem dX5_send_37 : decode cX5_send 37 = .ok (.iload_n 1, 1) := by decide +kernel
theorem dX5_send_38 : decode cX5_send 38 = .ok (.iaload, 1) := by decide +kernel
theorem dX5_send_39 : decode cX5_send 39 = .ok (.if_icmp .ne 6, 3) := by decide +kernel
theorem dX5_send_42 : decode cX5_send 42 = .ok (.bipush (-3), 2) := by decide +kernel
theorem dX5_send_44 : decode cX5_send 44 = .ok (.ireturn, 1) := by decide +kernel
theorem dX5_send_45 : decode cX5_send 45 = .ok (.aload_n 0, 1) := by decide +kernel
theorem dX5_send_46 : decode cX5_send 46 = .ok (.getfield 37, 3) := by decide +kernel
theorem dX5_send_49 : decode cX5_send 49 = .ok (.iload_n 1, 1) := by decide +kernel
theorem dX5_send_50 : decode cX5_send 50 = .ok (.invokevirtual 113, 3) := by decide +kernel
theorem dX5_send_53 : decode cX5_send 53 = .ok (.ifCond .eq 33, 3) := by decide +kernel
theorem dX5_send_56 : decode cX5_send 56 = .ok (.aload_n 0, 1) := by decide +kernel
theorem dX5_send_57 : decode cX5_send 57 = .ok (.getfield 37, 3) := by decide +kernel
theorem dX5_send_60 : decode cX5_send 60 = .ok (.getfield 116, 3) := by decide +kernel
theorem dX5_send_63 : decode cX5_send 63 = .ok (.iload_n 1, 1) := by decide +kernel
theorem dX5_send_64 : decode cX5_send 64 = .ok (.iaload, 1) := by decide +kernel
theorem dX5_send_65 : decode cX5_send 65 = .ok (.iload_n 2, 1) := by decide +kernel
theorem dX5_send_66 : decode cX5_send 66 = .ok (.if_icmp .ne 16, 3) := by decide +kernel
theorem dX5_send_69 : decode cX5_send 69 = .ok (.aload_n 0, 1) := by decide +kernel
theorem dX5_send_70 : decode cX5_send 70 = .ok (.getfield 37, 3) := by decide +kernel
theorem dX5_send_73 : decode cX5_send 73 = .ok (.getfield 119, 3) := by decide +kernel
theorem dX5_send_76 : decode cX5_send 76 = .ok (.iload_n 1, 1) := by decide +kernel
theorem dX5_send_77 : decode cX5_send 77 = .ok (.iaload, 1) := by decide +kernel
theorem dX5_send_78 : decode cX5_send 78 = .ok (.iload_n 3, 1) := by decide +kernel
theorem dX5_send_79 : decode cX5_send 79 = .ok (.if_icmp .eq 7, 3) := by decide +kernel
theorem dX5_send_82 : decode cX5_send 82 = .ok (.iconst 1, 1) := by decide +kernel
theorem dX5_send_83 : decode cX5_send 83 = .ok (.goto 4, 3) := by decide +kernel
theorem dX5_send_86 : decode cX5_send 86 = .ok (.iconst 0, 1) := by decide +kernel
theorem dX5_send_87 : decode cX5_send 87 = .ok (.istore 4, 2) := by decide +kernel
theorem dX5_send_89 : decode cX5_send 89 = .ok (.aload_n 0, 1) := by decide +kernel
theorem dX5_send_90 : decode cX5_send 90 = .ok (.getfield 37, 3) := by decide +kernel
theorem dX5_send_93 : decode cX5_send 93 = .ok (.getfield 116, 3) := by decide +kernel
theorem dX5_send_96 : decode cX5_send 96 = .ok (.iload_n 1, 1) := by decide +kernel
theorem dX5_send_97 : decode cX5_send 97 = .ok (.iload_n 2, 1) := by decide +kernel
theorem dX5_send_98 : decode cX5_send 98 = .ok (.iastore, 1) := by decide +kernel
theorem dX5_send_99 : decode cX5_send 99 = .ok (.aload_n 0, 1) := by decide +kernel
theorem dX5_send_100 : decode cX5_send 100 = .ok (.getfield 37, 3) := by decide +kernel
theorem dX5_send_103 : decode cX5_send 103 = .ok (.getfield 119, 3) := by decide +kernel
theorem dX5_send_106 : decode cX5_send 106 = .ok (.iload_n 1, 1) := by decide +kernel
theorem dX5_send_107 : decode cX5_send 107 = .ok (.iload_n 3, 1) := by decide +kernel
theorem dX5_send_108 : decode cX5_send 108 = .ok (.iastore, 1) := by decide +kernel
theorem dX5_send_109 : decode cX5_send 109 = .ok (.iload 4, 2) := by decide +kernel
theorem dX5_send_111 : decode cX5_send 111 = .ok (.ifCond .eq 7, 3) := by decide +kernel
theorem dX5_send_114 : decode cX5_send 114 = .ok (.iconst 0, 1) := by decide +kernel
theorem dX5_send_115 : decode cX5_send 115 = .ok (.goto 4, 3) := by decide +kernel
theorem dX5_send_118 : decode cX5_send 118 = .ok (.iconst 1, 1) := by decide +kernel
theorem dX5_send_119 : decode cX5_send 119 = .ok (.ireturn, 1) := by decide +kernel
set_option maxRecDepth 20000 in
theorem ggX5_home_X5_isSon : GoodIn wsX5_home wsX5_isSon := goodIn_r _ [7, 8, 9, 16, 17, 18, 19, 20, 21, 22, 23, 24, 27, 28, 29, 30, 31, 32, 33, 34] (by decide +kernel) (by decide +kernel)
set_option maxRecDepth 20000 in
theorem gX5_home_X5_isSon : GoodIn wsX5_home (wsV RX5 97 RX5 yX5_isSon wsX5_isSon) := goodIn_app (goodIn_of _ (by decide +kernel)) ggX5_home_X5_isSon
set_option maxRecDepth 20000 in
theorem ggX5_home_X1_ever : GoodIn wsX5_home wsX1_ever := goodIn_r _ [14, 15, 25, 26] (by decide +kernel) (by decide +kernel)
set_option maxRecDepth 20000 in
theorem gX5_home_X1_ever : GoodIn wsX5_home (wsV RX5 113 RX1 yX1_ever wsX1_ever) := goodIn_app (goodIn_of _ (by decide +kernel)) ggX5_home_X1_ever
theorem dX5_home_0 : decode cX5_home 0 = .ok (.aload_n 0, 1) := by decide +kernel
theorem dX5_home_1 : decode cX5_home 1 = .ok (.iload_n 1, 1) := by decide +kernel
theorem dX5_home_2 : decode cX5_home 2 = .ok (.invokevirtual 97, 3) := by decide +kernel
theorem dX5_home_5 : decode cX5_home 5 = .ok (.ifCond .ne 5, 3) := by decide +kernel
theorem dX5_home_8 : decode cX5_home 8 = .ok (.iconst (-1), 1) := by decide +kernel
theorem dX5_home_9 : decode cX5_home 9 = .ok (.ireturn, 1) := by decide +kernel
theorem dX5_home_10 : decode cX5_home 10 = .ok (.aload_n 0, 1) := by decide +kernel
theorem dX5_home_11 : decode cX5_home 11 = .ok (.getfield 37, 3) := by decide +kernel
theorem dX5_home_14 : decode cX5_home 14 = .ok (.iload_n 1, 1) := by decide +kernel
theorem dX5_home_15 : decode cX5_home 15 = .ok (.invokevirtual 113, 3) := by decide +kernel
theorem dX5_home_18 : decode cX5_home 18 = .ok (.ifCond .ne 5, 3) := by decide +kernel
theorem dX5_home_21 : decode cX5_home 21 = .ok (.iconst 0, 1) := by decide +kernel
theorem dX5_home_22 : decode cX5_home 22 = .ok (.ireturn, 1) := by decide +kernel
theorem dX5_home_23 : decode cX5_home 23 = .ok (.aload_n 0, 1) := by decide +kernel
theorem dX5_home_24 : decode cX5_home 24 = .ok (.getfield 37, 3) := by decide +kernel
theorem dX5_home_27 : decode cX5_home 27 = .ok (.getfield 119, 3) := by decide +kernel
theorem dX5_home_30 : decode cX5_home 30 = .ok (.iload_n 1, 1) := by decide +kernel
theorem dX5_home_31 : decode cX5_home 31 = .ok (.bipush 6, 2) := by decide +kernel
theorem dX5_home_33 : decode cX5_home 33 = .ok (.iastore, 1) := by decide +kernel
theorem dX5_home_34 : decode cX5_home 34 = .ok (.iconst 1, 1) := by decide +kernel
theorem dX5_home_35 : decode cX5_home 35 = .ok (.ireturn, 1) := by decide +kernel
set_option maxRecDepth 20000 in
theorem ggX5_stake_X5_isSon : GoodIn wsX5_stake wsX5_isSon := goodIn_r _ [9, 2, 10, 29, 30, 31, 32, 33, 34, 35, 36, 37, 38, 39, 40, 41, 42, 43, 44, 45] (by decide +kernel) (by decide +kernel)
set_option maxRecDepth 20000 in
theorem gX5_stake_X5_isSon : GoodIn wsX5_stake (wsV RX5 97 RX5 yX5_isSon wsX5_isSon) := goodIn_app (goodIn_of _ (by decide +kernel)) ggX5_stake_X5_isSon
set_option maxRecDepth 20000 in
theorem ggX5_stake_X5_isYear : GoodIn wsX5_stake wsX5_isYear := goodIn_r _ [14, 2, 15, 29, 30, 31, 32, 33, 34, 35, 36, 37, 38, 39, 40, 41, 42, 43, 44, 45] (by decide +kernel) (by decide +kernel)
set_option maxRecDepth 20000 in
theorem gX5_stake_X5_isYear : GoodIn wsX5_stake (wsV RX5 125 RX5 yX5_isYear wsX5_isYear) := goodIn_app (goodIn_of _ (by decide +kernel)) ggX5_stake_X5_isYear
set_option maxRecDepth 20000 in
theorem ggX5_stake_X1_isAway : GoodIn wsX5_stake wsX1_isAway := goodIn_r _ [20, 21, 46, 47] (by decide +kernel) (by decide +kernel)
set_option maxRecDepth 20000 in
theorem gX5_stake_X1_isAway : GoodIn wsX5_stake (wsV RX5 132 RX1 yX1_isAway wsX1_isAway) := goodIn_app (goodIn_of _ (by decide +kernel)) ggX5_stake_X1_isAway
set_option maxRecDepth 20000 in
theorem ggX5_stake_X4_costOf : GoodIn wsX5_stake wsX4_costOf := goodIn_r _ [26, 27, 28, 38, 39, 40, 41, 42, 43, 44, 45] (by decide +kernel) (by decide +kernel)
set_option maxRecDepth 20000 in
theorem gX5_stake_X4_costOf : GoodIn wsX5_stake (wsV RX5 136 RX4 yX4_costOf wsX4_costOf) := goodIn_app (goodIn_of _ (by decide +kernel)) ggX5_stake_X4_costOf
theorem dX5_stake_0 : decode cX5_stake 0 = .ok (.aload_n 0, 1) := by decide +kernel
theorem dX5_stake_1 : decode cX5_stake 1 = .ok (.iload_n 1, 1) := by decide +kernel
theorem dX5_stake_2 : decode cX5_stake 2 = .ok (.invokevirtual 97, 3) := by decide +kernel
theorem dX5_stake_5 : decode cX5_stake 5 = .ok (.ifCond .ne 5, 3) := by decide +kernel
theorem dX5_stake_8 : decode cX5_stake 8 = .ok (.iconst (-1), 1) := by decide +kernel
theorem dX5_stake_9 : decode cX5_stake 9 = .ok (.ireturn, 1) := by decide +kernel
theorem dX5_stake_10 : decode cX5_stake 10 = .ok (.aload_n 0, 1) := by decide +kernel
theorem dX5_stake_11 : decode cX5_stake 11 = .ok (.iload_n 2, 1) := by decide +kernel
theorem dX5_stake_12 : decode cX5_stake 12 = .ok (.invokevirtual 125, 3) := by decide +kernel
theorem dX5_stake_15 : decode cX5_stake 15 = .ok (.ifCond .ne 6, 3) := by decide +kernel
theorem dX5_stake_18 : decode cX5_stake 18 = .ok (.bipush (-2), 2) := by decide +kernel
theorem dX5_stake_20 : decode cX5_stake 20 = .ok (.ireturn, 1) := by decide +kernel
theorem dX5_stake_21 : decode cX5_stake 21 = .ok (.aload_n 0, 1) := by decide +kernel
theorem dX5_stake_22 : decode cX5_stake 22 = .ok (.getfield 37, 3) := by decide +kernel
theorem dX5_stake_25 : decode cX5_stake 25 = .ok (.iload_n 1, 1) := by decide +kernel
theorem dX5_stake_26 : decode cX5_stake 26 = .ok (.iload_n 2, 1) := by decide +kernel
theorem dX5_stake_27 : decode cX5_stake 27 = .ok (.invokevirtual 132, 3) := by decide +kernel
theorem dX5_stake_30 : decode cX5_stake 30 = .ok (.ifCond .ne 6, 3) := by decide +kernel
theorem dX5_stake_33 : decode cX5_stake 33 = .ok (.bipush (-9), 2) := by decide +kernel
theorem dX5_stake_35 : decode cX5_stake 35 = .ok (.ireturn, 1) := by decide +kernel
theorem dX5_stake_36 : decode cX5_stake 36 = .ok (.aload_n 0, 1) := by decide +kernel
theorem dX5_stake_37 : decode cX5_stake 37 = .ok (.getfield 27, 3) := by decide +kernel
theorem dX5_stake_40 : decode cX5_stake 40 = .ok (.iload_n 1, 1) := by decide +kernel
theorem dX5_stake_41 : decode cX5_stake 41 = .ok (.aload_n 0, 1) := by decide +kernel
theorem dX5_stake_42 : decode cX5_stake 42 = .ok (.getfield 27, 3) := by decide +kernel
theorem dX5_stake_45 : decode cX5_stake 45 = .ok (.getfield 100, 3) := by decide +kernel
theorem dX5_stake_48 : decode cX5_stake 48 = .ok (.iload_n 1, 1) := by decide +kernel
theorem dX5_stake_49 : decode cX5_stake 49 = .ok (.iaload, 1) := by decide +kernel
theorem dX5_stake_50 : decode cX5_stake 50 = .ok (.iload_n 2, 1) := by decide +kernel
theorem dX5_stake_51 : decode cX5_stake 51 = .ok (.aload_n 0, 1) := by decide +kernel
theorem dX5_stake_52 : decode cX5_stake 52 = .ok (.getfield 37, 3) := by decide +kernel
theorem dX5_stake_55 : decode cX5_stake 55 = .ok (.getfield 119, 3) := by decide +kernel
theorem dX5_stake_58 : decode cX5_stake 58 = .ok (.iload_n 1, 1) := by decide +kernel
theorem dX5_stake_59 : decode cX5_stake 59 = .ok (.iaload, 1) := by decide +kernel
theorem dX5_stake_60 : decode cX5_stake 60 = .ok (.isub, 1) := by decide +kernel
theorem dX5_stake_61 : decode cX5_stake 61 = .ok (.invokevirtual 136, 3) := by decide +kernel
theorem dX5_stake_64 : decode cX5_stake 64 = .ok (.ireturn, 1) := by decide +kernel
set_option maxRecDepth 20000 in
theorem ggX5_stakes_X5_isCourt : GoodIn wsX5_stakes wsX5_isCourt := goodIn_r _ [7, 1, 8, 35, 36, 37, 38, 39, 40, 41, 42, 43, 44, 45, 46, 47, 48, 49, 50, 51] (by decide +kernel) (by decide +kernel)
set_option maxRecDepth 20000 in
theorem gX5_stakes_X5_isCourt : GoodIn wsX5_stakes (wsV RX5 122 RX5 yX5_isCourt wsX5_isCourt) := goodIn_app (goodIn_of _ (by decide +kernel)) ggX5_stakes_X5_isCourt
set_option maxRecDepth 20000 in
theorem ggX5_stakes_X5_isYear : GoodIn wsX5_stakes wsX5_isYear := goodIn_r _ [12, 1, 13, 35, 36, 37, 38, 39, 40, 41, 42, 43, 44, 45, 46, 47, 48, 49, 50, 51] (by decide +kernel) (by decide +kernel)
set_option maxRecDepth 20000 in
theorem gX5_stakes_X5_isYear : GoodIn wsX5_stakes (wsV RX5 125 RX5 yX5_isYear wsX5_isYear) := goodIn_app (goodIn_of _ (by decide +kernel)) ggX5_stakes_X5_isYear
set_option maxRecDepth 20000 in
theorem ggX5_stakes_X4_costsOf : GoodIn wsX5_stakes wsX4_costsOf := goodIn_r _ [18, 19, 20, 21, 22, 23, 24, 25, 26, 27, 28, 29, 30, 31, 17, 32, 33, 34, 44, 45, 46, 47, 48, 49, 50, 51, 52, 53] (by decide +kernel) (by decide +kernel)
set_option maxRecDepth 20000 in
theorem gX5_stakes_X4_costsOf : GoodIn wsX5_stakes (wsV RX5 140 RX4 yX4_costsOf wsX4_costsOf) := goodIn_app (goodIn_of _ (by decide +kernel)) ggX5_stakes_X4_costsOf
theorem dX5_stakes_0 : decode cX5_stakes 0 = .ok (.aload_n 0, 1) := by decide +kernel
theorem dX5_stakes_1 : decode cX5_stakes 1 = .ok (.iload_n 1, 1) := by decide +kernel
theorem dX5_stakes_2 : decode cX5_stakes 2 = .ok (.invokevirtual 122, 3) := by decide +kernel
theorem dX5_stakes_5 : decode cX5_stakes 5 = .ok (.ifCond .ne 5, 3) := by decide +kernel
theorem dX5_stakes_8 : decode cX5_stakes 8 = .ok (.iconst (-1), 1) := by decide +kernel
theorem dX5_stakes_9 : decode cX5_stakes 9 = .ok (.ireturn, 1) := by decide +kernel
theorem dX5_stakes_10 : decode cX5_stakes 10 = .ok (.aload_n 0, 1) := by decide +kernel
theorem dX5_stakes_11 : decode cX5_stakes 11 = .ok (.iload_n 2, 1) := by decide +kernel
theorem dX5_stakes_12 : decode cX5_stakes 12 = .ok (.invokevirtual 125, 3) := by decide +kernel
theorem dX5_stakes_15 : decode cX5_stakes 15 = .ok (.ifCond .ne 6, 3) := by decide +kernel
theorem dX5_stakes_18 : decode cX5_stakes 18 = .ok (.bipush (-2), 2) := by decide +kernel
theorem dX5_stakes_20 : decode cX5_stakes 20 = .ok (.ireturn, 1) := by decide +kernel
theorem dX5_stakes_21 : decode cX5_stakes 21 = .ok (.aload_n 0, 1) := by decide +kernel
theorem dX5_stakes_22 : decode cX5_stakes 22 = .ok (.getfield 27, 3) := by decide +kernel
theorem dX5_stakes_25 : decode cX5_stakes 25 = .ok (.iload_n 1, 1) := by decide +kernel
theorem dX5_stakes_26 : decode cX5_stakes 26 = .ok (.iload_n 2, 1) := by decide +kernel
theorem dX5_stakes_27 : decode cX5_stakes 27 = .ok (.aload_n 0, 1) := by decide +kernel
theorem dX5_stakes_28 : decode cX5_stakes 28 = .ok (.getfield 37, 3) := by decide +kernel
theorem dX5_stakes_31 : decode cX5_stakes 31 = .ok (.iconst 0, 1) := by decide +kernel
theorem dX5_stakes_32 : decode cX5_stakes 32 = .ok (.invokevirtual 140, 3) := by decide +kernel
theorem dX5_stakes_35 : decode cX5_stakes 35 = .ok (.ireturn, 1) := by decide +kernel
set_option maxRecDepth 20000 in
theorem ggX5_tempted_X5_hasTreaty : GoodIn wsX5_tempted wsX5_hasTreaty := goodIn_r _ [8, 1, 9, 41, 42, 43, 44, 45, 46, 47, 48, 49, 50, 51, 52, 53, 54, 55, 56, 57] (by decide +kernel) (by decide +kernel)
set_option maxRecDepth 20000 in
theorem gX5_tempted_X5_hasTreaty : GoodIn wsX5_tempted (wsV RX5 144 RX5 yX5_hasTreaty wsX5_hasTreaty) := goodIn_app (goodIn_of _ (by decide +kernel)) ggX5_tempted_X5_hasTreaty
set_option maxRecDepth 20000 in
theorem ggX5_tempted_X5_isYear : GoodIn wsX5_tempted wsX5_isYear := goodIn_r _ [13, 1, 14, 41, 42, 43, 44, 45, 46, 47, 48, 49, 50, 51, 52, 53, 54, 55, 56, 57] (by decide +kernel) (by decide +kernel)
set_option maxRecDepth 20000 in
theorem gX5_tempted_X5_isYear : GoodIn wsX5_tempted (wsV RX5 125 RX5 yX5_isYear wsX5_isYear) := goodIn_app (goodIn_of _ (by decide +kernel)) ggX5_tempted_X5_isYear
set_option maxRecDepth 20000 in
theorem ggX5_tempted_X4_wouldBreak : GoodIn wsX5_tempted wsX4_wouldBreak := goodIn_r _ [19, 20, 21, 22, 23, 18, 24, 25, 26, 27, 28, 29, 30, 31, 32, 33, 34, 35, 36, 37, 38, 39, 40, 50, 51, 52, 53, 54, 55, 56, 57, 58, 59] (by decide +kernel) (by decide +kernel)
set_option maxRecDepth 20000 in
theorem gX5_tempted_X4_wouldBreak : GoodIn wsX5_tempted (wsV RX5 151 RX4 yX4_wouldBreak wsX4_wouldBreak) := goodIn_app (goodIn_of _ (by decide +kernel)) ggX5_tempted_X4_wouldBreak
theorem dX5_tempted_0 : decode cX5_tempted 0 = .ok (.aload_n 0, 1) := by decide +kernel
theorem dX5_tempted_1 : decode cX5_tempted 1 = .ok (.invokevirtual 144, 3) := by decide +kernel
theorem dX5_tempted_4 : decode cX5_tempted 4 = .ok (.ifCond .ne 6, 3) := by decide +kernel
theorem dX5_tempted_7 : decode cX5_tempted 7 = .ok (.bipush (-3), 2) := by decide +kernel
theorem dX5_tempted_9 : decode cX5_tempted 9 = .ok (.ireturn, 1) := by decide +kernel
theorem dX5_tempted_10 : decode cX5_tempted 10 = .ok (.aload_n 0, 1) := by decide +kernel
theorem dX5_tempted_11 : decode cX5_tempted 11 = .ok (.iload_n 1, 1) := by decide +kernel
theorem dX5_tempted_12 : decode cX5_tempted 12 = .ok (.invokevirtual 125, 3) := by decide +kernel
theorem dX5_tempted_15 : decode cX5_tempted 15 = .ok (.ifCond .ne 6, 3) := by decide +kernel
theorem dX5_tempted_18 : decode cX5_tempted 18 = .ok (.bipush (-2), 2) := by decide +kernel
theorem dX5_tempted_20 : decode cX5_tempted 20 = .ok (.ireturn, 1) := by decide +kernel
theorem dX5_tempted_21 : decode cX5_tempted 21 = .ok (.iconst 0, 1) := by decide +kernel
theorem dX5_tempted_22 : decode cX5_tempted 22 = .ok (.istore_n 2, 1) := by decide +kernel
theorem dX5_tempted_23 : decode cX5_tempted 23 = .ok (.iconst 0, 1) := by decide +kernel
theorem dX5_tempted_24 : decode cX5_tempted 24 = .ok (.istore_n 3, 1) := by decide +kernel
theorem dX5_tempted_25 : decode cX5_tempted 25 = .ok (.iload_n 3, 1) := by decide +kernel
theorem dX5_tempted_26 : decode cX5_tempted 26 = .ok (.aload_n 0, 1) := by decide +kernel
theorem dX5_tempted_27 : decode cX5_tempted 27 = .ok (.getfield 27, 3) := by decide +kernel
theorem dX5_tempted_30 : decode cX5_tempted 30 = .ok (.getfield 148, 3) := by decide +kernel
theorem dX5_tempted_33 : decode cX5_tempted 33 = .ok (.if_icmp .ge 32, 3) := by decide +kernel
theorem dX5_tempted_36 : decode cX5_tempted 36 = .ok (.aload_n 0, 1) := by decide +kernel
theorem dX5_tempted_37 : decode cX5_tempted 37 = .ok (.getfield 27, 3) := by decide +kernel
theorem dX5_tempted_40 : decode cX5_tempted 40 = .ok (.iload_n 3, 1) := by decide +kernel
theorem dX5_tempted_41 : decode cX5_tempted 41 = .ok (.iload_n 1, 1) := by decide +kernel
theorem dX5_tempted_42 : decode cX5_tempted 42 = .ok (.aload_n 0, 1) := by decide +kernel
theorem dX5_tempted_43 : decode cX5_tempted 43 = .ok (.getfield 37, 3) := by decide +kernel
theorem dX5_tempted_46 : decode cX5_tempted 46 = .ok (.iconst 0, 1) := by decide +kernel
theorem dX5_tempted_47 : decode cX5_tempted 47 = .ok (.invokevirtual 151, 3) := by decide +kernel
theorem dX5_tempted_50 : decode cX5_tempted 50 = .ok (.ifCond .eq 9, 3) := by decide +kernel
theorem dX5_tempted_53 : decode cX5_tempted 53 = .ok (.iload_n 2, 1) := by decide +kernel
theorem dX5_tempted_54 : decode cX5_tempted 54 = .ok (.iconst 1, 1) := by decide +kernel
theorem dX5_tempted_55 : decode cX5_tempted 55 = .ok (.iload_n 3, 1) := by decide +kernel
theorem dX5_tempted_56 : decode cX5_tempted 56 = .ok (.ishl, 1) := by decide +kernel
theorem dX5_tempted_57 : decode cX5_tempted 57 = .ok (.ior, 1) := by decide +kernel
theorem dX5_tempted_58 : decode cX5_tempted 58 = .ok (.istore_n 2, 1) := by decide +kernel
theorem dX5_tempted_59 : decode cX5_tempted 59 = .ok (.iinc 3 1, 3) := by decide +kernel
theorem dX5_tempted_62 : decode cX5_tempted 62 = .ok (.goto (-37), 3) := by decide +kernel
theorem dX5_tempted_65 : decode cX5_tempted 65 = .ok (.iload_n 2, 1) := by decide +kernel
theorem dX5_tempted_66 : decode cX5_tempted 66 = .ok (.ireturn, 1) := by decide +kernel
set_option maxRecDepth 20000 in
theorem ggX5_broken_X5_hasTreaty : GoodIn wsX5_broken wsX5_hasTreaty := goodIn_r _ [6, 7, 8, 50, 51, 52, 53, 54, 55, 56, 57, 58, 59, 60, 61, 62, 63, 64, 65, 66] (by decide +kernel) (by decide +kernel)
set_option maxRecDepth 20000 in
theorem gX5_broken_X5_hasTreaty : GoodIn wsX5_broken (wsV RX5 144 RX5 yX5_hasTreaty wsX5_hasTreaty) := goodIn_app (goodIn_of _ (by decide +kernel)) ggX5_broken_X5_hasTreaty
set_option maxRecDepth 20000 in
theorem ggX5_broken_X5_ofBreak : GoodIn wsX5_broken wsX5_ofBreak := goodIn_r _ [12, 7, 13, 14, 15, 16, 17, 18, 19, 20, 21, 22, 23, 24, 25, 26, 27, 28, 29, 30, 31, 32, 33, 34, 35, 36, 37, 38, 39, 40, 41, 42, 43, 44, 45, 46, 47, 48, 49, 50, 51, 52, 53, 54, 55, 56, 57, 58, 59, 60, 61, 62, 63, 64, 65, 66, 67, 68] (by decide +kernel) (by decide +kernel)
set_option maxRecDepth 20000 in
theorem gX5_broken_X5_ofBreak : GoodIn wsX5_broken (wsV RX5 155 RX5 yX5_ofBreak wsX5_ofBreak) := goodIn_app (goodIn_of _ (by decide +kernel)) ggX5_broken_X5_ofBreak
theorem dX5_broken_0 : decode cX5_broken 0 = .ok (.iload_n 1, 1) := by decide +kernel
theorem dX5_broken_1 : decode cX5_broken 1 = .ok (.ifCond .eq 11, 3) := by decide +kernel
theorem dX5_broken_4 : decode cX5_broken 4 = .ok (.iload_n 1, 1) := by decide +kernel
theorem dX5_broken_5 : decode cX5_broken 5 = .ok (.iconst 1, 1) := by decide +kernel
theorem dX5_broken_6 : decode cX5_broken 6 = .ok (.if_icmp .eq 6, 3) := by decide +kernel
theorem dX5_broken_9 : decode cX5_broken 9 = .ok (.bipush (-2), 2) := by decide +kernel
theorem dX5_broken_11 : decode cX5_broken 11 = .ok (.ireturn, 1) := by decide +kernel
theorem dX5_broken_12 : decode cX5_broken 12 = .ok (.aload_n 0, 1) := by decide +kernel
theorem dX5_broken_13 : decode cX5_broken 13 = .ok (.invokevirtual 144, 3) := by decide +kernel
theorem dX5_broken_16 : decode cX5_broken 16 = .ok (.ifCond .ne 6, 3) := by decide +kernel
theorem dX5_broken_19 : decode cX5_broken 19 = .ok (.bipush (-3), 2) := by decide +kernel
theorem dX5_broken_21 : decode cX5_broken 21 = .ok (.ireturn, 1) := by decide +kernel
theorem dX5_broken_22 : decode cX5_broken 22 = .ok (.aload_n 0, 1) := by decide +kernel
theorem dX5_broken_23 : decode cX5_broken 23 = .ok (.aload_n 0, 1) := by decide +kernel
theorem dX5_broken_24 : decode cX5_broken 24 = .ok (.getfield 37, 3) := by decide +kernel
theorem dX5_broken_27 : decode cX5_broken 27 = .ok (.iload_n 1, 1) := by decide +kernel
theorem dX5_broken_28 : decode cX5_broken 28 = .ok (.invokevirtual 155, 3) := by decide +kernel
theorem dX5_broken_31 : decode cX5_broken 31 = .ok (.ireturn, 1) := by decide +kernel
set_option maxRecDepth 20000 in
theorem ggX5_ofBreak_X4_breakYear : GoodIn wsX5_ofBreak wsX4_breakYear := goodIn_r _ [6, 7, 8, 9, 10, 5, 11, 12, 13, 14, 15, 16, 17, 18, 19, 20, 21, 22, 23, 24, 25, 26, 27, 28, 29, 30, 31, 32, 33, 34, 35, 36, 37, 48, 49, 50, 51, 52, 53, 54, 55, 56, 57] (by decide +kernel) (by decide +kernel)
set_option maxRecDepth 20000 in
theorem gX5_ofBreak_X4_breakYear : GoodIn wsX5_ofBreak (wsV RX5 159 RX4 yX4_breakYear wsX4_breakYear) := goodIn_app (goodIn_of _ (by decide +kernel)) ggX5_ofBreak_X4_breakYear
set_option maxRecDepth 20000 in
theorem ggX5_ofBreak_X4_firstToBreak : GoodIn wsX5_ofBreak wsX4_firstToBreak := goodIn_r _ [11, 12, 13, 14, 15, 5, 16, 17, 18, 19, 20, 21, 22, 23, 24, 25, 26, 27, 28, 29, 30, 31, 32, 33, 34, 35, 36, 37, 48, 49, 50, 51, 52, 53, 54, 55, 56, 57] (by decide +kernel) (by decide +kernel)
set_option maxRecDepth 20000 in
theorem gX5_ofBreak_X4_firstToBreak : GoodIn wsX5_ofBreak (wsV RX5 162 RX4 yX4_firstToBreak wsX4_firstToBreak) := goodIn_app (goodIn_of _ (by decide +kernel)) ggX5_ofBreak_X4_firstToBreak
theorem dX5_ofBreak_0 : decode cX5_ofBreak 0 = .ok (.aload_n 0, 1) := by decide +kernel
theorem dX5_ofBreak_1 : decode cX5_ofBreak 1 = .ok (.getfield 27, 3) := by decide +kernel
theorem dX5_ofBreak_4 : decode cX5_ofBreak 4 = .ok (.aload_n 1, 1) := by decide +kernel
theorem dX5_ofBreak_5 : decode cX5_ofBreak 5 = .ok (.iconst 0, 1) := by decide +kernel
theorem dX5_ofBreak_6 : decode cX5_ofBreak 6 = .ok (.invokevirtual 159, 3) := by decide +kernel
theorem dX5_ofBreak_9 : decode cX5_ofBreak 9 = .ok (.istore_n 3, 1) := by decide +kernel
theorem dX5_ofBreak_10 : decode cX5_ofBreak 10 = .ok (.iload_n 2, 1) := by decide +kernel
theorem dX5_ofBreak_11 : decode cX5_ofBreak 11 = .ok (.ifCond .eq 9, 3) := by decide +kernel
theorem dX5_ofBreak_14 : decode cX5_ofBreak 14 = .ok (.iload_n 3, 1) := by decide +kernel
theorem dX5_ofBreak_15 : decode cX5_ofBreak 15 = .ok (.bipush (-9), 2) := by decide +kernel
theorem dX5_ofBreak_17 : decode cX5_ofBreak 17 = .ok (.if_icmp .ne 7, 3) := by decide +kernel
theorem dX5_ofBreak_20 : decode cX5_ofBreak 20 = .ok (.iload_n 3, 1) := by decide +kernel
theorem dX5_ofBreak_21 : decode cX5_ofBreak 21 = .ok (.goto 13, 3) := by decide +kernel
theorem dX5_ofBreak_24 : decode cX5_ofBreak 24 = .ok (.aload_n 0, 1) := by decide +kernel
theorem dX5_ofBreak_25 : decode cX5_ofBreak 25 = .ok (.getfield 27, 3) := by decide +kernel
theorem dX5_ofBreak_28 : decode cX5_ofBreak 28 = .ok (.iload_n 3, 1) := by decide +kernel
theorem dX5_ofBreak_29 : decode cX5_ofBreak 29 = .ok (.aload_n 1, 1) := by decide +kernel
theorem dX5_ofBreak_30 : decode cX5_ofBreak 30 = .ok (.iconst 0, 1) := by decide +kernel
theorem dX5_ofBreak_31 : decode cX5_ofBreak 31 = .ok (.invokevirtual 162, 3) := by decide +kernel
theorem dX5_ofBreak_34 : decode cX5_ofBreak 34 = .ok (.ireturn, 1) := by decide +kernel
set_option maxRecDepth 20000 in
theorem ggX5_plan_X5_isSheet : GoodIn wsX5_plan wsX5_isSheet := goodIn_r _ [8] (by decide +kernel) (by decide +kernel)
set_option maxRecDepth 20000 in
theorem gX5_plan_X5_isSheet : GoodIn wsX5_plan (va_wsS RX5 59 yX5_isSheet wsX5_isSheet) := goodIn_app (goodIn_of _ (by decide +kernel)) ggX5_plan_X5_isSheet
set_option maxRecDepth 20000 in
theorem ggX5_plan_X5_isLane : GoodIn wsX5_plan wsX5_isLane := goodIn_r _ [11] (by decide +kernel) (by decide +kernel)
set_option maxRecDepth 20000 in
theorem gX5_plan_X5_isLane : GoodIn wsX5_plan (va_wsS RX5 63 yX5_isLane wsX5_isLane) := goodIn_app (goodIn_of _ (by decide +kernel)) ggX5_plan_X5_isLane
set_option maxRecDepth 20000 in
theorem ggX5_plan_X5_isOfPlan : GoodIn wsX5_plan wsX5_isOfPlan := goodIn_r _ [14] (by decide +kernel) (by decide +kernel)
set_option maxRecDepth 20000 in
theorem gX5_plan_X5_isOfPlan : GoodIn wsX5_plan (va_wsS RX5 166 yX5_isOfPlan wsX5_isOfPlan) := goodIn_app (goodIn_of _ (by decide +kernel)) ggX5_plan_X5_isOfPlan
set_option maxRecDepth 20000 in
theorem ggX5_plan_X5_rowFault : GoodIn wsX5_plan wsX5_rowFault := goodIn_r _ [17, 18, 19, 7, 20, 21, 22, 23, 24, 25, 26, 27, 28, 134, 135, 136, 137] (by decide +kernel) (by decide +kernel)
set_option maxRecDepth 20000 in
theorem gX5_plan_X5_rowFault : GoodIn wsX5_plan (va_wsS RX5 66 yX5_rowFault wsX5_rowFault) := goodIn_app (goodIn_of _ (by decide +kernel)) ggX5_plan_X5_rowFault
set_option maxRecDepth 20000 in
theorem ggX5_plan_X5_faulted : GoodIn wsX5_plan wsX5_faulted := goodIn_r _ [32, 1, 117, 118, 119, 120, 121, 122, 123, 124, 125] (by decide +kernel) (by decide +kernel)
set_option maxRecDepth 20000 in
theorem gX5_plan_X5_faulted : GoodIn wsX5_plan (wsV RX5 70 RX5 yX5_faulted wsX5_faulted) := goodIn_app (goodIn_of _ (by decide +kernel)) ggX5_plan_X5_faulted
set_option maxRecDepth 20000 in
theorem ggX5_plan_X5_hasTreaty : GoodIn wsX5_plan wsX5_hasTreaty := goodIn_r _ [36, 3, 4, 117, 118, 119, 120, 121, 122, 123, 124, 125, 126, 127, 128, 129, 130, 131, 132, 133] (by decide +kernel) (by decide +kernel)
set_option maxRecDepth 20000 in
theorem gX5_plan_X5_hasTreaty : GoodIn wsX5_plan (wsV RX5 144 RX5 yX5_hasTreaty wsX5_hasTreaty) := goodIn_app (goodIn_of _ (by decide +kernel)) ggX5_plan_X5_hasTreaty
set_option maxRecDepth 20000 in
theorem ggX5_plan_X5_tryPlan : GoodIn wsX5_plan wsX5_tryPlan := goodIn_r _ [40, 41, 3, 4, 42, 43, 44, 45, 46, 47, 48, 49, 50, 51, 52, 53, 54, 55, 56, 26, 57, 58, 59, 60, 61, 62, 28, 117, 118, 119, 120, 121, 122, 123, 124, 125, 126, 127, 128, 129, 130, 131, 132, 133, 138, 139, 134, 135, 136, 137] (by decide +kernel) (by decide +kernel)
set_option maxRecDepth 20000 in
theorem gX5_plan_X5_tryPlan : GoodIn wsX5_plan (wsV RX5 169 RX5 yX5_tryPlan wsX5_tryPlan) := goodIn_app (goodIn_of _ (by decide +kernel)) ggX5_plan_X5_tryPlan
set_option maxRecDepth 20000 in
theorem ggX5_plan_X5_ofTrial : GoodIn wsX5_plan wsX5_ofTrial := goodIn_r _ [66, 3, 42, 41, 67, 68, 69, 7, 70, 71, 72, 73, 74, 75, 76, 77, 78, 79, 80, 81, 82, 83, 84, 85, 86, 87, 88, 89, 90, 91, 92, 93, 94, 95, 96, 97, 47, 98, 53, 99, 100, 101, 102, 103, 104, 105, 106, 107, 108, 109, 110, 111, 112, 113, 114, 115, 116, 117, 118, 119, 120, 121, 122, 123, 124, 125, 126, 127, 128, 129, 130, 131, 132, 133, 138, 139] (by decide +kernel) (by decide +kernel)
set_option maxRecDepth 20000 in
theorem gX5_plan_X5_ofTrial : GoodIn wsX5_plan (wsV RX5 173 RX5 yX5_ofTrial wsX5_ofTrial) := goodIn_app (goodIn_of _ (by decide +kernel)) ggX5_plan_X5_ofTrial
theorem dX5_plan_0 : decode cX5_plan 0 = .ok (.aload_n 0, 1) := by decide +kernel
theorem dX5_plan_1 : decode cX5_plan 1 = .ok (.iconst 0, 1) := by decide +kernel
theorem dX5_plan_2 : decode cX5_plan 2 = .ok (.putfield 55, 3) := by decide +kernel
theorem dX5_plan_5 : decode cX5_plan 5 = .ok (.iload_n 1, 1) := by decide +kernel
theorem dX5_plan_6 : decode cX5_plan 6 = .ok (.invokestatic 59, 3) := by decide +kernel
theorem dX5_plan_9 : decode cX5_plan 9 = .ok (.ifCond .ne 5, 3) := by decide +kernel
theorem dX5_plan_12 : decode cX5_plan 12 = .ok (.iconst (-1), 1) := by decide +kernel
theorem dX5_plan_13 : decode cX5_plan 13 = .ok (.ireturn, 1) := by decide +kernel
theorem dX5_plan_14 : decode cX5_plan 14 = .ok (.iload_n 2, 1) := by decide +kernel
theorem dX5_plan_15 : decode cX5_plan 15 = .ok (.invokestatic 63, 3) := by decide +kernel
theorem dX5_plan_18 : decode cX5_plan 18 = .ok (.ifCond .eq 11, 3) := by decide +kernel
theorem dX5_plan_21 : decode cX5_plan 21 = .ok (.iload 5, 2) := by decide +kernel
theorem dX5_plan_23 : decode cX5_plan 23 = .ok (.invokestatic 166, 3) := by decide +kernel
theorem dX5_plan_26 : decode cX5_plan 26 = .ok (.ifCond .ne 6, 3) := by decide +kernel
theorem dX5_plan_29 : decode cX5_plan 29 = .ok (.bipush (-2), 2) := by decide +kernel
theorem dX5_plan_31 : decode cX5_plan 31 = .ok (.ireturn, 1) := by decide +kernel
theorem dX5_plan_32 : decode cX5_plan 32 = .ok (.aload_n 0, 1) := by decide +kernel
theorem dX5_plan_33 : decode cX5_plan 33 = .ok (.getfield 13, 3) := by decide +kernel
theorem dX5_plan_36 : decode cX5_plan 36 = .ok (.iload_n 1, 1) := by decide +kernel
theorem dX5_plan_37 : decode cX5_plan 37 = .ok (.aaload, 1) := by decide +kernel
theorem dX5_plan_38 : decode cX5_plan 38 = .ok (.iload_n 2, 1) := by decide +kernel
theorem dX5_plan_39 : decode cX5_plan 39 = .ok (.iload_n 3, 1) := by decide +kernel
theorem dX5_plan_40 : decode cX5_plan 40 = .ok (.iload 4, 2) := by decide +kernel
theorem dX5_plan_42 : decode cX5_plan 42 = .ok (.invokestatic 66, 3) := by decide +kernel
theorem dX5_plan_45 : decode cX5_plan 45 = .ok (.istore 6, 2) := by decide +kernel
theorem dX5_plan_47 : decode cX5_plan 47 = .ok (.iload 6, 2) := by decide +kernel
theorem dX5_plan_49 : decode cX5_plan 49 = .ok (.ifCond .eq 10, 3) := by decide +kernel
theorem dX5_plan_52 : decode cX5_plan 52 = .ok (.aload_n 0, 1) := by decide +kernel
theorem dX5_plan_53 : decode cX5_plan 53 = .ok (.iload 6, 2) := by decide +kernel
theorem dX5_plan_55 : decode cX5_plan 55 = .ok (.invokevirtual 70, 3) := by decide +kernel
theorem dX5_plan_58 : decode cX5_plan 58 = .ok (.ireturn, 1) := by decide +kernel
theorem dX5_plan_59 : decode cX5_plan 59 = .ok (.aload_n 0, 1) := by decide +kernel
theorem dX5_plan_60 : decode cX5_plan 60 = .ok (.invokevirtual 144, 3) := by decide +kernel
theorem dX5_plan_63 : decode cX5_plan 63 = .ok (.ifCond .ne 6, 3) := by decide +kernel
theorem dX5_plan_66 : decode cX5_plan 66 = .ok (.bipush (-3), 2) := by decide +kernel
theorem dX5_plan_68 : decode cX5_plan 68 = .ok (.ireturn, 1) := by decide +kernel
theorem dX5_plan_69 : decode cX5_plan 69 = .ok (.iload 4, 2) := by decide +kernel
theorem dX5_plan_71 : decode cX5_plan 71 = .ok (.aload_n 0, 1) := by decide +kernel
theorem dX5_plan_72 : decode cX5_plan 72 = .ok (.getfield 27, 3) := by decide +kernel
theorem dX5_plan_75 : decode cX5_plan 75 = .ok (.getfield 88, 3) := by decide +kernel
theorem dX5_plan_78 : decode cX5_plan 78 = .ok (.if_icmp .ne 17, 3) := by decide +kernel
theorem dX5_plan_81 : decode cX5_plan 81 = .ok (.aload_n 0, 1) := by decide +kernel
theorem dX5_plan_82 : decode cX5_plan 82 = .ok (.aload_n 0, 1) := by decide +kernel
theorem dX5_plan_83 : decode cX5_plan 83 = .ok (.getfield 13, 3) := by decide +kernel
theorem dX5_plan_86 : decode cX5_plan 86 = .ok (.iload_n 1, 1) := by decide +kernel
theorem dX5_plan_87 : decode cX5_plan 87 = .ok (.aaload, 1) := by decide +kernel
theorem dX5_plan_88 : decode cX5_plan 88 = .ok (.iload_n 3, 1) := by decide +kernel
theorem dX5_plan_89 : decode cX5_plan 89 = .ok (.invokevirtual 169, 3) := by decide +kernel
theorem dX5_plan_92 : decode cX5_plan 92 = .ok (.ifCond .ne 6, 3) := by decide +kernel
theorem dX5_plan_95 : decode cX5_plan 95 = .ok (.bipush (-2), 2) := by decide +kernel
theorem dX5_plan_97 : decode cX5_plan 97 = .ok (.ireturn, 1) := by decide +kernel
theorem dX5_plan_98 : decode cX5_plan 98 = .ok (.aload_n 0, 1) := by decide +kernel
theorem dX5_plan_99 : decode cX5_plan 99 = .ok (.iload 5, 2) := by decide +kernel
theorem dX5_plan_101 : decode cX5_plan 101 = .ok (.invokevirtual 173, 3) := by decide +kernel
theorem dX5_plan_104 : decode cX5_plan 104 = .ok (.ireturn, 1) := by decide +kernel
theorem dX5_isOfPlan_0 : decode cX5_isOfPlan 0 = .ok (.iload_n 0, 1) := by decide +kernel
theorem dX5_isOfPlan_1 : decode cX5_isOfPlan 1 = .ok (.ifCond .lt 8, 3) := by decide +kernel
theorem dX5_isOfPlan_4 : decode cX5_isOfPlan 4 = .ok (.iload_n 0, 1) := by decide +kernel
theorem dX5_isOfPlan_5 : decode cX5_isOfPlan 5 = .ok (.iconst 2, 1) := by decide +kernel
theorem dX5_isOfPlan_6 : decode cX5_isOfPlan 6 = .ok (.if_icmp .le 15, 3) := by decide +kernel
theorem dX5_isOfPlan_9 : decode cX5_isOfPlan 9 = .ok (.iload_n 0, 1) := by decide +kernel
theorem dX5_isOfPlan_10 : decode cX5_isOfPlan 10 = .ok (.bipush 10, 2) := by decide +kernel
theorem dX5_isOfPlan_12 : decode cX5_isOfPlan 12 = .ok (.if_icmp .lt 13, 3) := by decide +kernel
theorem dX5_isOfPlan_15 : decode cX5_isOfPlan 15 = .ok (.iload_n 0, 1) := by decide +kernel
theorem dX5_isOfPlan_16 : decode cX5_isOfPlan 16 = .ok (.bipush 14, 2) := by decide +kernel
theorem dX5_isOfPlan_18 : decode cX5_isOfPlan 18 = .ok (.if_icmp .ge 7, 3) := by decide +kernel
theorem dX5_isOfPlan_21 : decode cX5_isOfPlan 21 = .ok (.iconst 1, 1) := by decide +kernel
theorem dX5_isOfPlan_22 : decode cX5_isOfPlan 22 = .ok (.goto 4, 3) := by decide +kernel
theorem dX5_isOfPlan_25 : decode cX5_isOfPlan 25 = .ok (.iconst 0, 1) := by decide +kernel
theorem dX5_isOfPlan_26 : decode cX5_isOfPlan 26 = .ok (.ireturn, 1) := by decide +kernel
set_option maxRecDepth 20000 in
theorem ggX5_tryPlan_X1_nobody : GoodIn wsX5_tryPlan wsX1_nobody := goodIn_r _ [10, 11, 12, 13, 9, 14, 15, 44, 45] (by decide +kernel) (by decide +kernel)
set_option maxRecDepth 20000 in
theorem gX5_tryPlan_X1_nobody : GoodIn wsX5_tryPlan (wsV RX5 91 RX1 yX1_nobody wsX1_nobody) := goodIn_app (goodIn_of _ (by decide +kernel)) ggX5_tryPlan_X1_nobody
set_option maxRecDepth 20000 in
theorem ggX5_tryPlan_X2_at : GoodIn wsX5_tryPlan wsX2_at := goodIn_r _ [20, 21, 22, 23, 24, 19, 25, 26, 46, 47, 48, 49] (by decide +kernel) (by decide +kernel)
set_option maxRecDepth 20000 in
theorem gX5_tryPlan_X2_at : GoodIn wsX5_tryPlan (wsV RX5 176 RX2 yX2_at wsX2_at) := goodIn_app (goodIn_of _ (by decide +kernel)) ggX5_tryPlan_X2_at
theorem dX5_tryPlan_0 : decode cX5_tryPlan 0 = .ok (.aload_n 0, 1) := by decide +kernel
theorem dX5_tryPlan_1 : decode cX5_tryPlan 1 = .ok (.getfield 41, 3) := by decide +kernel
theorem dX5_tryPlan_4 : decode cX5_tryPlan 4 = .ok (.invokevirtual 91, 3) := by decide +kernel
theorem dX5_tryPlan_7 : decode cX5_tryPlan 7 = .ok (.iconst 0, 1) := by decide +kernel
theorem dX5_tryPlan_8 : decode cX5_tryPlan 8 = .ok (.istore_n 3, 1) := by decide +kernel
theorem dX5_tryPlan_9 : decode cX5_tryPlan 9 = .ok (.iload_n 3, 1) := by decide +kernel
theorem dX5_tryPlan_10 : decode cX5_tryPlan 10 = .ok (.aload_n 0, 1) := by decide +kernel
theorem dX5_tryPlan_11 : decode cX5_tryPlan 11 = .ok (.getfield 27, 3) := by decide +kernel
theorem dX5_tryPlan_14 : decode cX5_tryPlan 14 = .ok (.getfield 88, 3) := by decide +kernel
theorem dX5_tryPlan_17 : decode cX5_tryPlan 17 = .ok (.if_icmp .ge 48, 3) := by decide +kernel
theorem dX5_tryPlan_20 : decode cX5_tryPlan 20 = .ok (.aload_n 1, 1) := by decide +kernel
theorem dX5_tryPlan_21 : decode cX5_tryPlan 21 = .ok (.iload_n 2, 1) := by decide +kernel
theorem dX5_tryPlan_22 : decode cX5_tryPlan 22 = .ok (.iload_n 3, 1) := by decide +kernel
theorem dX5_tryPlan_23 : decode cX5_tryPlan 23 = .ok (.iadd, 1) := by decide +kernel
theorem dX5_tryPlan_24 : decode cX5_tryPlan 24 = .ok (.invokevirtual 176, 3) := by decide +kernel
theorem dX5_tryPlan_27 : decode cX5_tryPlan 27 = .ok (.istore 4, 2) := by decide +kernel
theorem dX5_tryPlan_29 : decode cX5_tryPlan 29 = .ok (.iload 4, 2) := by decide +kernel
theorem dX5_tryPlan_31 : decode cX5_tryPlan 31 = .ok (.ifCond .lt 15, 3) := by decide +kernel
theorem dX5_tryPlan_34 : decode cX5_tryPlan 34 = .ok (.iload 4, 2) := by decide +kernel
theorem dX5_tryPlan_36 : decode cX5_tryPlan 36 = .ok (.aload_n 0, 1) := by decide +kernel
theorem dX5_tryPlan_37 : decode cX5_tryPlan 37 = .ok (.getfield 27, 3) := by decide +kernel
theorem dX5_tryPlan_40 : decode cX5_tryPlan 40 = .ok (.getfield 179, 3) := by decide +kernel
theorem dX5_tryPlan_43 : decode cX5_tryPlan 43 = .ok (.if_icmp .le 5, 3) := by decide +kernel
theorem dX5_tryPlan_46 : decode cX5_tryPlan 46 = .ok (.iconst 0, 1) := by decide +kernel
theorem dX5_tryPlan_47 : decode cX5_tryPlan 47 = .ok (.ireturn, 1) := by decide +kernel
theorem dX5_tryPlan_48 : decode cX5_tryPlan 48 = .ok (.aload_n 0, 1) := by decide +kernel
theorem dX5_tryPlan_49 : decode cX5_tryPlan 49 = .ok (.getfield 41, 3) := by decide +kernel
theorem dX5_tryPlan_52 : decode cX5_tryPlan 52 = .ok (.getfield 119, 3) := by decide +kernel
theorem dX5_tryPlan_55 : decode cX5_tryPlan 55 = .ok (.iload_n 3, 1) := by decide +kernel
theorem dX5_tryPlan_56 : decode cX5_tryPlan 56 = .ok (.iload 4, 2) := by decide +kernel
theorem dX5_tryPlan_58 : decode cX5_tryPlan 58 = .ok (.iastore, 1) := by decide +kernel
theorem dX5_tryPlan_59 : decode cX5_tryPlan 59 = .ok (.iinc 3 1, 3) := by decide +kernel
theorem dX5_tryPlan_62 : decode cX5_tryPlan 62 = .ok (.goto (-53), 3) := by decide +kernel
theorem dX5_tryPlan_65 : decode cX5_tryPlan 65 = .ok (.iconst 1, 1) := by decide +kernel
theorem dX5_tryPlan_66 : decode cX5_tryPlan 66 = .ok (.ireturn, 1) := by decide +kernel
set_option maxRecDepth 20000 in
theorem ggX5_ofTrial_X5_ofBreak : GoodIn wsX5_ofTrial wsX5_ofBreak := goodIn_r _ [8, 1, 9, 10, 11, 12, 13, 14, 15, 16, 17, 18, 19, 20, 21, 22, 23, 24, 25, 26, 27, 28, 29, 30, 31, 32, 33, 34, 35, 36, 37, 38, 39, 40, 41, 42, 43, 44, 45, 57, 58, 59, 60, 61, 62, 63, 64, 65, 66, 67, 68, 69, 70, 71, 72, 73, 74, 75] (by decide +kernel) (by decide +kernel)
set_option maxRecDepth 20000 in
theorem gX5_ofTrial_X5_ofBreak : GoodIn wsX5_ofTrial (wsV RX5 155 RX5 yX5_ofBreak wsX5_ofBreak) := goodIn_app (goodIn_of _ (by decide +kernel)) ggX5_ofTrial_X5_ofBreak
set_option maxRecDepth 20000 in
theorem ggX5_ofTrial_X1_howManyBy : GoodIn wsX5_ofTrial wsX1_howManyBy := goodIn_r _ [49, 50, 34, 35, 36, 37, 38, 74, 75] (by decide +kernel) (by decide +kernel)
set_option maxRecDepth 20000 in
theorem gX5_ofTrial_X1_howManyBy : GoodIn wsX5_ofTrial (wsV RX5 182 RX1 yX1_howManyBy wsX1_howManyBy) := goodIn_app (goodIn_of _ (by decide +kernel)) ggX5_ofTrial_X1_howManyBy
set_option maxRecDepth 20000 in
theorem ggX5_ofTrial_X5_isCourt : GoodIn wsX5_ofTrial wsX5_isCourt := goodIn_r _ [54, 1, 55, 57, 58, 59, 60, 61, 62, 63, 64, 65, 66, 67, 68, 69, 70, 71, 72, 73] (by decide +kernel) (by decide +kernel)
set_option maxRecDepth 20000 in
theorem gX5_ofTrial_X5_isCourt : GoodIn wsX5_ofTrial (wsV RX5 122 RX5 yX5_isCourt wsX5_isCourt) := goodIn_app (goodIn_of _ (by decide +kernel)) ggX5_ofTrial_X5_isCourt
set_option maxRecDepth 20000 in
theorem ggX5_ofTrial_X4_costsOf : GoodIn wsX5_ofTrial wsX4_costsOf := goodIn_r _ [28, 29, 30, 31, 32, 33, 34, 35, 36, 37, 38, 39, 40, 41, 12, 42, 43, 44, 66, 67, 68, 69, 70, 71, 72, 73, 74, 75] (by decide +kernel) (by decide +kernel)
set_option maxRecDepth 20000 in
theorem gX5_ofTrial_X4_costsOf : GoodIn wsX5_ofTrial (wsV RX5 140 RX4 yX4_costsOf wsX4_costsOf) := goodIn_app (goodIn_of _ (by decide +kernel)) ggX5_ofTrial_X4_costsOf
theorem dX5_ofTrial_0 : decode cX5_ofTrial 0 = .ok (.aload_n 0, 1) := by decide +kernel
theorem dX5_ofTrial_1 : decode cX5_ofTrial 1 = .ok (.getfield 27, 3) := by decide +kernel
theorem dX5_ofTrial_4 : decode cX5_ofTrial 4 = .ok (.getfield 179, 3) := by decide +kernel
theorem dX5_ofTrial_7 : decode cX5_ofTrial 7 = .ok (.iconst 1, 1) := by decide +kernel
theorem dX5_ofTrial_8 : decode cX5_ofTrial 8 = .ok (.isub, 1) := by decide +kernel
theorem dX5_ofTrial_9 : decode cX5_ofTrial 9 = .ok (.istore_n 2, 1) := by decide +kernel
theorem dX5_ofTrial_10 : decode cX5_ofTrial 10 = .ok (.iload_n 1, 1) := by decide +kernel
theorem dX5_ofTrial_11 : decode cX5_ofTrial 11 = .ok (.iconst 2, 1) := by decide +kernel
theorem dX5_ofTrial_12 : decode cX5_ofTrial 12 = .ok (.if_icmp .ge 13, 3) := by decide +kernel
theorem dX5_ofTrial_15 : decode cX5_ofTrial 15 = .ok (.aload_n 0, 1) := by decide +kernel
theorem dX5_ofTrial_16 : decode cX5_ofTrial 16 = .ok (.aload_n 0, 1) := by decide +kernel
theorem dX5_ofTrial_17 : decode cX5_ofTrial 17 = .ok (.getfield 41, 3) := by decide +kernel
theorem dX5_ofTrial_20 : decode cX5_ofTrial 20 = .ok (.iload_n 1, 1) := by decide +kernel
theorem dX5_ofTrial_21 : decode cX5_ofTrial 21 = .ok (.invokevirtual 155, 3) := by decide +kernel
theorem dX5_ofTrial_24 : decode cX5_ofTrial 24 = .ok (.ireturn, 1) := by decide +kernel
theorem dX5_ofTrial_25 : decode cX5_ofTrial 25 = .ok (.iload_n 1, 1) := by decide +kernel
theorem dX5_ofTrial_26 : decode cX5_ofTrial 26 = .ok (.iconst 2, 1) := by decide +kernel
theorem dX5_ofTrial_27 : decode cX5_ofTrial 27 = .ok (.if_icmp .ne 12, 3) := by decide +kernel
theorem dX5_ofTrial_30 : decode cX5_ofTrial 30 = .ok (.aload_n 0, 1) := by decide +kernel
theorem dX5_ofTrial_31 : decode cX5_ofTrial 31 = .ok (.getfield 41, 3) := by decide +kernel
theorem dX5_ofTrial_34 : decode cX5_ofTrial 34 = .ok (.iload_n 2, 1) := by decide +kernel
theorem dX5_ofTrial_35 : decode cX5_ofTrial 35 = .ok (.invokevirtual 182, 3) := by decide +kernel
theorem dX5_ofTrial_38 : decode cX5_ofTrial 38 = .ok (.ireturn, 1) := by decide +kernel
theorem dX5_ofTrial_39 : decode cX5_ofTrial 39 = .ok (.aload_n 0, 1) := by decide +kernel
theorem dX5_ofTrial_40 : decode cX5_ofTrial 40 = .ok (.iload_n 1, 1) := by decide +kernel
theorem dX5_ofTrial_41 : decode cX5_ofTrial 41 = .ok (.bipush 10, 2) := by decide +kernel
theorem dX5_ofTrial_43 : decode cX5_ofTrial 43 = .ok (.isub, 1) := by decide +kernel
theorem dX5_ofTrial_44 : decode cX5_ofTrial 44 = .ok (.invokevirtual 122, 3) := by decide +kernel
theorem dX5_ofTrial_47 : decode cX5_ofTrial 47 = .ok (.ifCond .eq 23, 3) := by decide +kernel
theorem dX5_ofTrial_50 : decode cX5_ofTrial 50 = .ok (.aload_n 0, 1) := by decide +kernel
theorem dX5_ofTrial_51 : decode cX5_ofTrial 51 = .ok (.getfield 27, 3) := by decide +kernel
theorem dX5_ofTrial_54 : decode cX5_ofTrial 54 = .ok (.iload_n 1, 1) := by decide +kernel
theorem dX5_ofTrial_55 : decode cX5_ofTrial 55 = .ok (.bipush 10, 2) := by decide +kernel
theorem dX5_ofTrial_57 : decode cX5_ofTrial 57 = .ok (.isub, 1) := by decide +kernel
theorem dX5_ofTrial_58 : decode cX5_ofTrial 58 = .ok (.iload_n 2, 1) := by decide +kernel
theorem dX5_ofTrial_59 : decode cX5_ofTrial 59 = .ok (.aload_n 0, 1) := by decide +kernel
theorem dX5_ofTrial_60 : decode cX5_ofTrial 60 = .ok (.getfield 41, 3) := by decide +kernel
theorem dX5_ofTrial_63 : decode cX5_ofTrial 63 = .ok (.iconst 0, 1) := by decide +kernel
theorem dX5_ofTrial_64 : decode cX5_ofTrial 64 = .ok (.invokevirtual 140, 3) := by decide +kernel
theorem dX5_ofTrial_67 : decode cX5_ofTrial 67 = .ok (.goto 5, 3) := by decide +kernel
theorem dX5_ofTrial_70 : decode cX5_ofTrial 70 = .ok (.bipush (-9), 2) := by decide +kernel
theorem dX5_ofTrial_72 : decode cX5_ofTrial 72 = .ok (.ireturn, 1) := by decide +kernel
set_option maxRecDepth 20000 in
theorem ggX5_least_X5_hasTreaty : GoodIn wsX5_least wsX5_hasTreaty := goodIn_r _ [8, 1, 2, 56, 57, 58, 59, 60, 61, 62, 63, 64, 65, 66, 67, 68, 69, 70, 71, 72] (by decide +kernel) (by decide +kernel)
set_option maxRecDepth 20000 in
theorem gX5_least_X5_hasTreaty : GoodIn wsX5_least (wsV RX5 144 RX5 yX5_hasTreaty wsX5_hasTreaty) := goodIn_app (goodIn_of _ (by decide +kernel)) ggX5_least_X5_hasTreaty
set_option maxRecDepth 20000 in
theorem ggX5_least_J6_bitCount_0f7a4 : GoodIn wsX5_least wsJ6_bitCount_0f7a4 := goodIn_r _ [12, 13, 14, 15] (by decide +kernel) (by decide +kernel)
set_option maxRecDepth 20000 in
theorem gX5_least_J6_bitCount_0f7a4 : GoodIn wsX5_least (va_wsS RX5 185 yJ6_bitCount_0f7a4 wsJ6_bitCount_0f7a4) := goodIn_app (goodIn_of _ (by decide +kernel)) ggX5_least_J6_bitCount_0f7a4
set_option maxRecDepth 20000 in
theorem ggX5_least_X1_fromTheStart : GoodIn wsX5_least wsX1_fromTheStart := goodIn_r _ [20, 21, 73, 74] (by decide +kernel) (by decide +kernel)
set_option maxRecDepth 20000 in
theorem gX5_least_X1_fromTheStart : GoodIn wsX5_least (wsV RX5 190 RX1 yX1_fromTheStart wsX1_fromTheStart) := goodIn_app (goodIn_of _ (by decide +kernel)) ggX5_least_X1_fromTheStart
set_option maxRecDepth 20000 in
theorem ggX5_least_X4_breakYear : GoodIn wsX5_least wsX4_breakYear := goodIn_r _ [26, 27, 28, 29, 30, 25, 31, 32, 33, 34, 35, 36, 37, 38, 39, 40, 41, 42, 43, 44, 45, 46, 47, 48, 19, 49, 21, 50, 51, 52, 53, 54, 55, 65, 66, 67, 68, 69, 70, 71, 72, 73, 74] (by decide +kernel) (by decide +kernel)
set_option maxRecDepth 20000 in
theorem gX5_least_X4_breakYear : GoodIn wsX5_least (wsV RX5 159 RX4 yX4_breakYear wsX4_breakYear) := goodIn_app (goodIn_of _ (by decide +kernel)) ggX5_least_X4_breakYear
theorem dX5_least_0 : decode cX5_least 0 = .ok (.aload_n 0, 1) := by decide +kernel
theorem dX5_least_1 : decode cX5_least 1 = .ok (.invokevirtual 144, 3) := by decide +kernel
theorem dX5_least_4 : decode cX5_least 4 = .ok (.ifCond .ne 6, 3) := by decide +kernel
theorem dX5_least_7 : decode cX5_least 7 = .ok (.bipush (-3), 2) := by decide +kernel
theorem dX5_least_9 : decode cX5_least 9 = .ok (.ireturn, 1) := by decide +kernel
theorem dX5_least_10 : decode cX5_least 10 = .ok (.bipush (-9), 2) := by decide +kernel
theorem dX5_least_12 : decode cX5_least 12 = .ok (.istore_n 1, 1) := by decide +kernel
theorem dX5_least_13 : decode cX5_least 13 = .ok (.iconst 0, 1) := by decide +kernel
theorem dX5_least_14 : decode cX5_least 14 = .ok (.istore_n 2, 1) := by decide +kernel
theorem dX5_least_15 : decode cX5_least 15 = .ok (.iload_n 2, 1) := by decide +kernel
theorem dX5_least_16 : decode cX5_least 16 = .ok (.iconst 1, 1) := by decide +kernel
theorem dX5_least_17 : decode cX5_least 17 = .ok (.aload_n 0, 1) := by decide +kernel
theorem dX5_least_18 : decode cX5_least 18 = .ok (.getfield 27, 3) := by decide +kernel
theorem dX5_least_21 : decode cX5_least 21 = .ok (.getfield 88, 3) := by decide +kernel
theorem dX5_least_24 : decode cX5_least 24 = .ok (.ishl, 1) := by decide +kernel
theorem dX5_least_25 : decode cX5_least 25 = .ok (.if_icmp .ge 67, 3) := by decide +kernel
theorem dX5_least_28 : decode cX5_least 28 = .ok (.iload_n 1, 1) := by decide +kernel
theorem dX5_least_29 : decode cX5_least 29 = .ok (.bipush (-9), 2) := by decide +kernel
theorem dX5_least_31 : decode cX5_least 31 = .ok (.if_icmp .eq 14, 3) := by decide +kernel
theorem dX5_least_34 : decode cX5_least 34 = .ok (.iload_n 2, 1) := by decide +kernel
theorem dX5_least_35 : decode cX5_least 35 = .ok (.invokestatic 185, 3) := by decide +kernel
theorem dX5_least_38 : decode cX5_least 38 = .ok (.iload_n 1, 1) := by decide +kernel
theorem dX5_least_39 : decode cX5_least 39 = .ok (.invokestatic 185, 3) := by decide +kernel
theorem dX5_least_42 : decode cX5_least 42 = .ok (.if_icmp .ge 7, 3) := by decide +kernel
theorem dX5_least_45 : decode cX5_least 45 = .ok (.iconst 1, 1) := by decide +kernel
theorem dX5_least_46 : decode cX5_least 46 = .ok (.goto 4, 3) := by decide +kernel
theorem dX5_least_49 : decode cX5_least 49 = .ok (.iconst 0, 1) := by decide +kernel
theorem dX5_least_50 : decode cX5_least 50 = .ok (.istore_n 3, 1) := by decide +kernel
theorem dX5_least_51 : decode cX5_least 51 = .ok (.iload_n 3, 1) := by decide +kernel
theorem dX5_least_52 : decode cX5_least 52 = .ok (.ifCond .eq 34, 3) := by decide +kernel
theorem dX5_least_55 : decode cX5_least 55 = .ok (.aload_n 0, 1) := by decide +kernel
theorem dX5_least_56 : decode cX5_least 56 = .ok (.getfield 41, 3) := by decide +kernel
theorem dX5_least_59 : decode cX5_least 59 = .ok (.iload_n 2, 1) := by decide +kernel
theorem dX5_least_60 : decode cX5_least 60 = .ok (.invokevirtual 190, 3) := by decide +kernel
theorem dX5_least_63 : decode cX5_least 63 = .ok (.aload_n 0, 1) := by decide +kernel
theorem dX5_least_64 : decode cX5_least 64 = .ok (.getfield 27, 3) := by decide +kernel
theorem dX5_least_67 : decode cX5_least 67 = .ok (.aload_n 0, 1) := by decide +kernel
theorem dX5_least_68 : decode cX5_least 68 = .ok (.getfield 41, 3) := by decide +kernel
theorem dX5_least_71 : decode cX5_least 71 = .ok (.iconst 0, 1) := by decide +kernel
theorem dX5_least_72 : decode cX5_least 72 = .ok (.invokevirtual 159, 3) := by decide +kernel
theorem dX5_least_75 : decode cX5_least 75 = .ok (.bipush (-9), 2) := by decide +kernel
theorem dX5_least_77 : decode cX5_least 77 = .ok (.if_icmp .ne 7, 3) := by decide +kernel
theorem dX5_least_80 : decode cX5_least 80 = .ok (.iload_n 2, 1) := by decide +kernel
theorem dX5_least_81 : decode cX5_least 81 = .ok (.goto 4, 3) := by decide +kernel
theorem dX5_least_84 : decode cX5_least 84 = .ok (.iload_n 1, 1) := by decide +kernel
theorem dX5_least_85 : decode cX5_least 85 = .ok (.istore_n 1, 1) := by decide +kernel
theorem dX5_least_86 : decode cX5_least 86 = .ok (.iinc 2 1, 3) := by decide +kernel
theorem dX5_least_89 : decode cX5_least 89 = .ok (.goto (-74), 3) := by decide +kernel
theorem dX5_least_92 : decode cX5_least 92 = .ok (.iload_n 1, 1) := by decide +kernel
theorem dX5_least_93 : decode cX5_least 93 = .ok (.ireturn, 1) := by decide +kernel
set_option maxRecDepth 20000 in
theorem ggX5_hole_X5_isCourt : GoodIn wsX5_hole wsX5_isCourt := goodIn_r _ [7, 2, 8, 49, 50, 51, 52, 53, 54, 55, 56, 57, 58, 59, 60, 61, 62, 63, 64, 65] (by decide +kernel) (by decide +kernel)
set_option maxRecDepth 20000 in
theorem gX5_hole_X5_isCourt : GoodIn wsX5_hole (wsV RX5 122 RX5 yX5_isCourt wsX5_isCourt) := goodIn_app (goodIn_of _ (by decide +kernel)) ggX5_hole_X5_isCourt
set_option maxRecDepth 20000 in
theorem ggX5_hole_X5_everySon : GoodIn wsX5_hole wsX5_everySon := goodIn_r _ [12, 2, 13, 49, 50, 51, 52, 53, 54, 55, 56, 57, 58, 59, 60, 61, 62, 63, 64, 65] (by decide +kernel) (by decide +kernel)
set_option maxRecDepth 20000 in
theorem gX5_hole_X5_everySon : GoodIn wsX5_hole (wsV RX5 194 RX5 yX5_everySon wsX5_everySon) := goodIn_app (goodIn_of _ (by decide +kernel)) ggX5_hole_X5_everySon
set_option maxRecDepth 20000 in
theorem ggX5_hole_X1_fromTheStart : GoodIn wsX5_hole wsX1_fromTheStart := goodIn_r _ [18, 19, 66, 67] (by decide +kernel) (by decide +kernel)
set_option maxRecDepth 20000 in
theorem gX5_hole_X1_fromTheStart : GoodIn wsX5_hole (wsV RX5 190 RX1 yX1_fromTheStart wsX1_fromTheStart) := goodIn_app (goodIn_of _ (by decide +kernel)) ggX5_hole_X1_fromTheStart
set_option maxRecDepth 20000 in
theorem ggX5_hole_X4_breakYearOf : GoodIn wsX5_hole wsX4_breakYearOf := goodIn_r _ [24, 25, 26, 27, 28, 23, 29, 30, 31, 32, 33, 34, 35, 36, 37, 38, 39, 40, 41, 17, 42, 19, 43, 44, 45, 46, 47, 48, 58, 59, 60, 61, 62, 63, 64, 65, 66, 67] (by decide +kernel) (by decide +kernel)
set_option maxRecDepth 20000 in
theorem gX5_hole_X4_breakYearOf : GoodIn wsX5_hole (wsV RX5 198 RX4 yX4_breakYearOf wsX4_breakYearOf) := goodIn_app (goodIn_of _ (by decide +kernel)) ggX5_hole_X4_breakYearOf
theorem dX5_hole_0 : decode cX5_hole 0 = .ok (.aload_n 0, 1) := by decide +kernel
theorem dX5_hole_1 : decode cX5_hole 1 = .ok (.iload_n 1, 1) := by decide +kernel
theorem dX5_hole_2 : decode cX5_hole 2 = .ok (.invokevirtual 122, 3) := by decide +kernel
theorem dX5_hole_5 : decode cX5_hole 5 = .ok (.ifCond .ne 5, 3) := by decide +kernel
theorem dX5_hole_8 : decode cX5_hole 8 = .ok (.iconst (-1), 1) := by decide +kernel
theorem dX5_hole_9 : decode cX5_hole 9 = .ok (.ireturn, 1) := by decide +kernel
theorem dX5_hole_10 : decode cX5_hole 10 = .ok (.aload_n 0, 1) := by decide +kernel
theorem dX5_hole_11 : decode cX5_hole 11 = .ok (.getfield 41, 3) := by decide +kernel
theorem dX5_hole_14 : decode cX5_hole 14 = .ok (.aload_n 0, 1) := by decide +kernel
theorem dX5_hole_15 : decode cX5_hole 15 = .ok (.invokevirtual 194, 3) := by decide +kernel
theorem dX5_hole_18 : decode cX5_hole 18 = .ok (.invokevirtual 190, 3) := by decide +kernel
theorem dX5_hole_21 : decode cX5_hole 21 = .ok (.aload_n 0, 1) := by decide +kernel
theorem dX5_hole_22 : decode cX5_hole 22 = .ok (.getfield 27, 3) := by decide +kernel
theorem dX5_hole_25 : decode cX5_hole 25 = .ok (.iload_n 1, 1) := by decide +kernel
theorem dX5_hole_26 : decode cX5_hole 26 = .ok (.aload_n 0, 1) := by decide +kernel
theorem dX5_hole_27 : decode cX5_hole 27 = .ok (.getfield 41, 3) := by decide +kernel
theorem dX5_hole_30 : decode cX5_hole 30 = .ok (.invokevirtual 198, 3) := by decide +kernel
theorem dX5_hole_33 : decode cX5_hole 33 = .ok (.ireturn, 1) := by decide +kernel
set_option maxRecDepth 20000 in
theorem ggX5_when_X5_isSon : GoodIn wsX5_when wsX5_isSon := goodIn_r _ [10, 2, 11, 51, 52, 53, 54, 55, 56, 57, 58, 59, 60, 61, 62, 63, 64, 65, 66, 67] (by decide +kernel) (by decide +kernel)
set_option maxRecDepth 20000 in
theorem gX5_when_X5_isSon : GoodIn wsX5_when (wsV RX5 97 RX5 yX5_isSon wsX5_isSon) := goodIn_app (goodIn_of _ (by decide +kernel)) ggX5_when_X5_isSon
set_option maxRecDepth 20000 in
theorem ggX5_when_X5_everySon : GoodIn wsX5_when wsX5_everySon := goodIn_r _ [15, 2, 11, 51, 52, 53, 54, 55, 56, 57, 58, 59, 60, 61, 62, 63, 64, 65, 66, 67] (by decide +kernel) (by decide +kernel)
set_option maxRecDepth 20000 in
theorem gX5_when_X5_everySon : GoodIn wsX5_when (wsV RX5 194 RX5 yX5_everySon wsX5_everySon) := goodIn_app (goodIn_of _ (by decide +kernel)) ggX5_when_X5_everySon
set_option maxRecDepth 20000 in
theorem ggX5_when_X1_fromTheStart : GoodIn wsX5_when wsX1_fromTheStart := goodIn_r _ [20, 21, 68, 69] (by decide +kernel) (by decide +kernel)
set_option maxRecDepth 20000 in
theorem gX5_when_X1_fromTheStart : GoodIn wsX5_when (wsV RX5 190 RX1 yX1_fromTheStart wsX1_fromTheStart) := goodIn_app (goodIn_of _ (by decide +kernel)) ggX5_when_X1_fromTheStart
set_option maxRecDepth 20000 in
theorem ggX5_when_X4_breakYearOf : GoodIn wsX5_when wsX4_breakYearOf := goodIn_r _ [26, 27, 28, 29, 30, 25, 31, 32, 33, 34, 35, 36, 37, 38, 39, 40, 41, 42, 43, 19, 44, 21, 45, 46, 47, 48, 49, 50, 60, 61, 62, 63, 64, 65, 66, 67, 68, 69] (by decide +kernel) (by decide +kernel)
set_option maxRecDepth 20000 in
theorem gX5_when_X4_breakYearOf : GoodIn wsX5_when (wsV RX5 198 RX4 yX4_breakYearOf wsX4_breakYearOf) := goodIn_app (goodIn_of _ (by decide +kernel)) ggX5_when_X4_breakYearOf
theorem dX5_when_0 : decode cX5_when 0 = .ok (.aload_n 0, 1) := by decide +kernel
theorem dX5_when_1 : decode cX5_when 1 = .ok (.iload_n 1, 1) := by decide +kernel
theorem dX5_when_2 : decode cX5_when 2 = .ok (.invokevirtual 97, 3) := by decide +kernel
theorem dX5_when_5 : decode cX5_when 5 = .ok (.ifCond .ne 5, 3) := by decide +kernel
theorem dX5_when_8 : decode cX5_when 8 = .ok (.iconst (-1), 1) := by decide +kernel
theorem dX5_when_9 : decode cX5_when 9 = .ok (.ireturn, 1) := by decide +kernel
theorem dX5_when_10 : decode cX5_when 10 = .ok (.aload_n 0, 1) := by decide +kernel
theorem dX5_when_11 : decode cX5_when 11 = .ok (.getfield 41, 3) := by decide +kernel
theorem dX5_when_14 : decode cX5_when 14 = .ok (.aload_n 0, 1) := by decide +kernel
theorem dX5_when_15 : decode cX5_when 15 = .ok (.invokevirtual 194, 3) := by decide +kernel
theorem dX5_when_18 : decode cX5_when 18 = .ok (.invokevirtual 190, 3) := by decide +kernel
theorem dX5_when_21 : decode cX5_when 21 = .ok (.aload_n 0, 1) := by decide +kernel
theorem dX5_when_22 : decode cX5_when 22 = .ok (.getfield 27, 3) := by decide +kernel
theorem dX5_when_25 : decode cX5_when 25 = .ok (.getfield 179, 3) := by decide +kernel
theorem dX5_when_28 : decode cX5_when 28 = .ok (.istore_n 2, 1) := by decide +kernel
theorem dX5_when_29 : decode cX5_when 29 = .ok (.iload_n 2, 1) := by decide +kernel
theorem dX5_when_30 : decode cX5_when 30 = .ok (.ifCond .lt 46, 3) := by decide +kernel
theorem dX5_when_33 : decode cX5_when 33 = .ok (.aload_n 0, 1) := by decide +kernel
theorem dX5_when_34 : decode cX5_when 34 = .ok (.getfield 41, 3) := by decide +kernel
theorem dX5_when_37 : decode cX5_when 37 = .ok (.getfield 119, 3) := by decide +kernel
theorem dX5_when_40 : decode cX5_when 40 = .ok (.iload_n 1, 1) := by decide +kernel
theorem dX5_when_41 : decode cX5_when 41 = .ok (.iload_n 2, 1) := by decide +kernel
theorem dX5_when_42 : decode cX5_when 42 = .ok (.iastore, 1) := by decide +kernel
theorem dX5_when_43 : decode cX5_when 43 = .ok (.aload_n 0, 1) := by decide +kernel
theorem dX5_when_44 : decode cX5_when 44 = .ok (.getfield 27, 3) := by decide +kernel
theorem dX5_when_47 : decode cX5_when 47 = .ok (.aload_n 0, 1) := by decide +kernel
theorem dX5_when_48 : decode cX5_when 48 = .ok (.getfield 27, 3) := by decide +kernel
theorem dX5_when_51 : decode cX5_when 51 = .ok (.getfield 104, 3) := by decide +kernel
theorem dX5_when_54 : decode cX5_when 54 = .ok (.iload_n 1, 1) := by decide +kernel
theorem dX5_when_55 : decode cX5_when 55 = .ok (.iaload, 1) := by decide +kernel
theorem dX5_when_56 : decode cX5_when 56 = .ok (.aload_n 0, 1) := by decide +kernel
theorem dX5_when_57 : decode cX5_when 57 = .ok (.getfield 41, 3) := by decide +kernel
theorem dX5_when_60 : decode cX5_when 60 = .ok (.invokevirtual 198, 3) := by decide +kernel
theorem dX5_when_63 : decode cX5_when 63 = .ok (.bipush (-9), 2) := by decide +kernel
theorem dX5_when_65 : decode cX5_when 65 = .ok (.if_icmp .ne 5, 3) := by decide +kernel
theorem dX5_when_68 : decode cX5_when 68 = .ok (.iload_n 2, 1) := by decide +kernel
theorem dX5_when_69 : decode cX5_when 69 = .ok (.ireturn, 1) := by decide +kernel
theorem dX5_when_70 : decode cX5_when 70 = .ok (.iinc 2 (-1), 3) := by decide +kernel
theorem dX5_when_73 : decode cX5_when 73 = .ok (.goto (-44), 3) := by decide +kernel
theorem dX5_when_76 : decode cX5_when 76 = .ok (.bipush (-9), 2) := by decide +kernel
theorem dX5_when_78 : decode cX5_when 78 = .ok (.ireturn, 1) := by decide +kernel
theorem dX5_everySon_0 : decode cX5_everySon 0 = .ok (.iconst 1, 1) := by decide +kernel
theorem dX5_everySon_1 : decode cX5_everySon 1 = .ok (.aload_n 0, 1) := by decide +kernel
theorem dX5_everySon_2 : decode cX5_everySon 2 = .ok (.getfield 27, 3) := by decide +kernel
theorem dX5_everySon_5 : decode cX5_everySon 5 = .ok (.getfield 88, 3) := by decide +kernel
theorem dX5_everySon_8 : decode cX5_everySon 8 = .ok (.ishl, 1) := by decide +kernel
theorem dX5_everySon_9 : decode cX5_everySon 9 = .ok (.iconst 1, 1) := by decide +kernel
theorem dX5_everySon_10 : decode cX5_everySon 10 = .ok (.isub, 1) := by decide +kernel
theorem dX5_everySon_11 : decode cX5_everySon 11 = .ok (.ireturn, 1) := by decide +kernel
set_option maxRecDepth 20000 in
theorem ggX5_reading_X5_isCourt : GoodIn wsX5_reading wsX5_isCourt := goodIn_r _ [6, 7, 8, 23, 24, 25, 26, 27, 28, 29, 30, 31, 32, 33, 34, 35, 36, 37, 38, 39] (by decide +kernel) (by decide +kernel)
set_option maxRecDepth 20000 in
theorem gX5_reading_X5_isCourt : GoodIn wsX5_reading (wsV RX5 122 RX5 yX5_isCourt wsX5_isCourt) := goodIn_app (goodIn_of _ (by decide +kernel)) ggX5_reading_X5_isCourt
set_option maxRecDepth 20000 in
theorem ggX5_reading_X5_isYear : GoodIn wsX5_reading wsX5_isYear := goodIn_r _ [12, 7, 13, 23, 24, 25, 26, 27, 28, 29, 30, 31, 32, 33, 34, 35, 36, 37, 38, 39] (by decide +kernel) (by decide +kernel)
set_option maxRecDepth 20000 in
theorem gX5_reading_X5_isYear : GoodIn wsX5_reading (wsV RX5 125 RX5 yX5_isYear wsX5_isYear) := goodIn_app (goodIn_of _ (by decide +kernel)) ggX5_reading_X5_isYear
set_option maxRecDepth 20000 in
theorem ggX5_reading_X0_note : GoodIn wsX5_reading wsX0_note := goodIn_r _ [18, 19, 20, 21, 22, 40, 41, 42, 43] (by decide +kernel) (by decide +kernel)
set_option maxRecDepth 20000 in
theorem gX5_reading_X0_note : GoodIn wsX5_reading (wsV RX5 202 RX0 yX0_note wsX0_note) := goodIn_app (goodIn_of _ (by decide +kernel)) ggX5_reading_X0_note
theorem dX5_reading_0 : decode cX5_reading 0 = .ok (.aload_n 0, 1) := by decide +kernel
theorem dX5_reading_1 : decode cX5_reading 1 = .ok (.iload_n 1, 1) := by decide +kernel
theorem dX5_reading_2 : decode cX5_reading 2 = .ok (.invokevirtual 122, 3) := by decide +kernel
theorem dX5_reading_5 : decode cX5_reading 5 = .ok (.ifCond .ne 5, 3) := by decide +kernel
theorem dX5_reading_8 : decode cX5_reading 8 = .ok (.iconst (-1), 1) := by decide +kernel
theorem dX5_reading_9 : decode cX5_reading 9 = .ok (.ireturn, 1) := by decide +kernel
theorem dX5_reading_10 : decode cX5_reading 10 = .ok (.aload_n 0, 1) := by decide +kernel
theorem dX5_reading_11 : decode cX5_reading 11 = .ok (.iload_n 2, 1) := by decide +kernel
theorem dX5_reading_12 : decode cX5_reading 12 = .ok (.invokevirtual 125, 3) := by decide +kernel
theorem dX5_reading_15 : decode cX5_reading 15 = .ok (.ifCond .ne 6, 3) := by decide +kernel
theorem dX5_reading_18 : decode cX5_reading 18 = .ok (.bipush (-2), 2) := by decide +kernel
theorem dX5_reading_20 : decode cX5_reading 20 = .ok (.ireturn, 1) := by decide +kernel
theorem dX5_reading_21 : decode cX5_reading 21 = .ok (.aload_n 0, 1) := by decide +kernel
theorem dX5_reading_22 : decode cX5_reading 22 = .ok (.getfield 47, 3) := by decide +kernel
theorem dX5_reading_25 : decode cX5_reading 25 = .ok (.iload_n 1, 1) := by decide +kernel
theorem dX5_reading_26 : decode cX5_reading 26 = .ok (.iload_n 2, 1) := by decide +kernel
theorem dX5_reading_27 : decode cX5_reading 27 = .ok (.iload_n 3, 1) := by decide +kernel
theorem dX5_reading_28 : decode cX5_reading 28 = .ok (.invokevirtual 202, 3) := by decide +kernel
theorem dX5_reading_31 : decode cX5_reading 31 = .ok (.ireturn, 1) := by decide +kernel
theorem dX5_back_0 : decode cX5_back 0 = .ok (.iload_n 1, 1) := by decide +kernel
theorem dX5_back_1 : decode cX5_back 1 = .ok (.ifCond .lt 14, 3) := by decide +kernel
theorem dX5_back_4 : decode cX5_back 4 = .ok (.iload_n 1, 1) := by decide +kernel
theorem dX5_back_5 : decode cX5_back 5 = .ok (.aload_n 0, 1) := by decide +kernel
theorem dX5_back_6 : decode cX5_back 6 = .ok (.getfield 47, 3) := by decide +kernel
theorem dX5_back_9 : decode cX5_back 9 = .ok (.getfield 94, 3) := by decide +kernel
theorem dX5_back_12 : decode cX5_back 12 = .ok (.if_icmp .le 6, 3) := by decide +kernel
theorem dX5_back_15 : decode cX5_back 15 = .ok (.bipush (-2), 2) := by decide +kernel
theorem dX5_back_17 : decode cX5_back 17 = .ok (.ireturn, 1) := by decide +kernel
theorem dX5_back_18 : decode cX5_back 18 = .ok (.aload_n 0, 1) := by decide +kernel
theorem dX5_back_19 : decode cX5_back 19 = .ok (.getfield 47, 3) := by decide +kernel
theorem dX5_back_22 : decode cX5_back 22 = .ok (.dup, 1) := by decide +kernel
theorem dX5_back_23 : decode cX5_back 23 = .ok (.getfield 94, 3) := by decide +kernel
theorem dX5_back_26 : decode cX5_back 26 = .ok (.iload_n 1, 1) := by decide +kernel
theorem dX5_back_27 : decode cX5_back 27 = .ok (.isub, 1) := by decide +kernel
theorem dX5_back_28 : decode cX5_back 28 = .ok (.putfield 94, 3) := by decide +kernel
theorem dX5_back_31 : decode cX5_back 31 = .ok (.aload_n 0, 1) := by decide +kernel
theorem dX5_back_32 : decode cX5_back 32 = .ok (.getfield 47, 3) := by decide +kernel
theorem dX5_back_35 : decode cX5_back 35 = .ok (.getfield 94, 3) := by decide +kernel
theorem dX5_back_38 : decode cX5_back 38 = .ok (.ireturn, 1) := by decide +kernel
set_option maxRecDepth 20000 in
theorem ggX5_worths_X5_isSon : GoodIn wsX5_worths wsX5_isSon := goodIn_r _ [7, 1, 8, 50, 51, 52, 53, 54, 55, 56, 57, 58, 59, 60, 61, 62, 63, 64, 65, 66] (by decide +kernel) (by decide +kernel)
set_option maxRecDepth 20000 in
theorem gX5_worths_X5_isSon : GoodIn wsX5_worths (wsV RX5 97 RX5 yX5_isSon wsX5_isSon) := goodIn_app (goodIn_of _ (by decide +kernel)) ggX5_worths_X5_isSon
set_option maxRecDepth 20000 in
theorem ggX5_worths_X5_fitting : GoodIn wsX5_worths wsX5_fitting := goodIn_r _ [12, 13, 1, 14, 15, 16, 17, 18, 19, 20, 21, 22, 23, 24, 25, 26, 27, 28, 29, 30, 31, 32, 33, 34, 35, 36, 37, 38, 39, 40, 41, 42, 43, 44, 45, 46, 47, 48, 49, 50, 51, 52, 53, 54, 55, 56, 57, 58, 67, 68, 69, 70, 59, 60, 61, 62, 63, 64, 65, 66, 71, 72] (by decide +kernel) (by decide +kernel)
set_option maxRecDepth 20000 in
theorem gX5_worths_X5_fitting : GoodIn wsX5_worths (wsV RX5 206 RX5 yX5_fitting wsX5_fitting) := goodIn_app (goodIn_of _ (by decide +kernel)) ggX5_worths_X5_fitting
theorem dX5_worths_0 : decode cX5_worths 0 = .ok (.aload_n 0, 1) := by decide +kernel
theorem dX5_worths_1 : decode cX5_worths 1 = .ok (.iload_n 1, 1) := by decide +kernel
theorem dX5_worths_2 : decode cX5_worths 2 = .ok (.invokevirtual 97, 3) := by decide +kernel
theorem dX5_worths_5 : decode cX5_worths 5 = .ok (.ifCond .eq 20, 3) := by decide +kernel
theorem dX5_worths_8 : decode cX5_worths 8 = .ok (.aload_n 0, 1) := by decide +kernel
theorem dX5_worths_9 : decode cX5_worths 9 = .ok (.aload_n 0, 1) := by decide +kernel
theorem dX5_worths_10 : decode cX5_worths 10 = .ok (.getfield 27, 3) := by decide +kernel
theorem dX5_worths_13 : decode cX5_worths 13 = .ok (.getfield 107, 3) := by decide +kernel
theorem dX5_worths_16 : decode cX5_worths 16 = .ok (.iload_n 1, 1) := by decide +kernel
theorem dX5_worths_17 : decode cX5_worths 17 = .ok (.bipush 9, 2) := by decide +kernel
theorem dX5_worths_19 : decode cX5_worths 19 = .ok (.invokevirtual 206, 3) := by decide +kernel
theorem dX5_worths_22 : decode cX5_worths 22 = .ok (.goto 4, 3) := by decide +kernel
theorem dX5_worths_25 : decode cX5_worths 25 = .ok (.iconst (-1), 1) := by decide +kernel
theorem dX5_worths_26 : decode cX5_worths 26 = .ok (.ireturn, 1) := by decide +kernel
set_option maxRecDepth 20000 in
theorem ggX5_kinds_X5_isSon : GoodIn wsX5_kinds wsX5_isSon := goodIn_r _ [7, 1, 8, 50, 51, 52, 53, 54, 55, 56, 57, 58, 59, 60, 61, 62, 63, 64, 65, 66] (by decide +kernel) (by decide +kernel)
set_option maxRecDepth 20000 in
theorem gX5_kinds_X5_isSon : GoodIn wsX5_kinds (wsV RX5 97 RX5 yX5_isSon wsX5_isSon) := goodIn_app (goodIn_of _ (by decide +kernel)) ggX5_kinds_X5_isSon
set_option maxRecDepth 20000 in
theorem ggX5_kinds_X5_fitting : GoodIn wsX5_kinds wsX5_fitting := goodIn_r _ [12, 13, 1, 14, 15, 16, 17, 18, 19, 20, 21, 22, 23, 24, 25, 26, 27, 28, 29, 30, 31, 32, 33, 34, 35, 36, 37, 38, 39, 40, 41, 42, 43, 44, 45, 46, 47, 48, 49, 50, 51, 52, 53, 54, 55, 56, 57, 58, 67, 68, 69, 70, 59, 60, 61, 62, 63, 64, 65, 66, 71, 72] (by decide +kernel) (by decide +kernel)
set_option maxRecDepth 20000 in
theorem gX5_kinds_X5_fitting : GoodIn wsX5_kinds (wsV RX5 206 RX5 yX5_fitting wsX5_fitting) := goodIn_app (goodIn_of _ (by decide +kernel)) ggX5_kinds_X5_fitting
theorem dX5_kinds_0 : decode cX5_kinds 0 = .ok (.aload_n 0, 1) := by decide +kernel
theorem dX5_kinds_1 : decode cX5_kinds 1 = .ok (.iload_n 1, 1) := by decide +kernel
theorem dX5_kinds_2 : decode cX5_kinds 2 = .ok (.invokevirtual 97, 3) := by decide +kernel
theorem dX5_kinds_5 : decode cX5_kinds 5 = .ok (.ifCond .eq 19, 3) := by decide +kernel
theorem dX5_kinds_8 : decode cX5_kinds 8 = .ok (.aload_n 0, 1) := by decide +kernel
theorem dX5_kinds_9 : decode cX5_kinds 9 = .ok (.aload_n 0, 1) := by decide +kernel
theorem dX5_kinds_10 : decode cX5_kinds 10 = .ok (.getfield 27, 3) := by decide +kernel
theorem dX5_kinds_13 : decode cX5_kinds 13 = .ok (.getfield 100, 3) := by decide +kernel
theorem dX5_kinds_16 : decode cX5_kinds 16 = .ok (.iload_n 1, 1) := by decide +kernel
theorem dX5_kinds_17 : decode cX5_kinds 17 = .ok (.iconst 2, 1) := by decide +kernel
theorem dX5_kinds_18 : decode cX5_kinds 18 = .ok (.invokevirtual 206, 3) := by decide +kernel
theorem dX5_kinds_21 : decode cX5_kinds 21 = .ok (.goto 4, 3) := by decide +kernel
theorem dX5_kinds_24 : decode cX5_kinds 24 = .ok (.iconst (-1), 1) := by decide +kernel
theorem dX5_kinds_25 : decode cX5_kinds 25 = .ok (.ireturn, 1) := by decide +kernel
set_option maxRecDepth 20000 in
theorem ggX5_fondness_X5_isSon : GoodIn wsX5_fondness wsX5_isSon := goodIn_r _ [7, 1, 8, 50, 51, 52, 53, 54, 55, 56, 57, 58, 59, 60, 61, 62, 63, 64, 65, 66] (by decide +kernel) (by decide +kernel)
set_option maxRecDepth 20000 in
theorem gX5_fondness_X5_isSon : GoodIn wsX5_fondness (wsV RX5 97 RX5 yX5_isSon wsX5_isSon) := goodIn_app (goodIn_of _ (by decide +kernel)) ggX5_fondness_X5_isSon
set_option maxRecDepth 20000 in
theorem ggX5_fondness_X5_fitting : GoodIn wsX5_fondness wsX5_fitting := goodIn_r _ [12, 13, 1, 14, 15, 16, 17, 18, 19, 20, 21, 22, 23, 24, 25, 26, 27, 28, 29, 30, 31, 32, 33, 34, 35, 36, 37, 38, 39, 40, 41, 42, 43, 44, 45, 46, 47, 48, 49, 50, 51, 52, 53, 54, 55, 56, 57, 58, 67, 68, 69, 70, 59, 60, 61, 62, 63, 64, 65, 66, 71, 72] (by decide +kernel) (by decide +kernel)
set_option maxRecDepth 20000 in
theorem gX5_fondness_X5_fitting : GoodIn wsX5_fondness (wsV RX5 206 RX5 yX5_fitting wsX5_fitting) := goodIn_app (goodIn_of _ (by decide +kernel)) ggX5_fondness_X5_fitting
theorem dX5_fondness_0 : decode cX5_fondness 0 = .ok (.aload_n 0, 1) := by decide +kernel
theorem dX5_fondness_1 : decode cX5_fondness 1 = .ok (.iload_n 1, 1) := by decide +kernel
theorem dX5_fondness_2 : decode cX5_fondness 2 = .ok (.invokevirtual 97, 3) := by decide +kernel
theorem dX5_fondness_5 : decode cX5_fondness 5 = .ok (.ifCond .eq 19, 3) := by decide +kernel
theorem dX5_fondness_8 : decode cX5_fondness 8 = .ok (.aload_n 0, 1) := by decide +kernel
theorem dX5_fondness_9 : decode cX5_fondness 9 = .ok (.aload_n 0, 1) := by decide +kernel
theorem dX5_fondness_10 : decode cX5_fondness 10 = .ok (.getfield 27, 3) := by decide +kernel
theorem dX5_fondness_13 : decode cX5_fondness 13 = .ok (.getfield 110, 3) := by decide +kernel
theorem dX5_fondness_16 : decode cX5_fondness 16 = .ok (.iload_n 1, 1) := by decide +kernel
theorem dX5_fondness_17 : decode cX5_fondness 17 = .ok (.iconst 3, 1) := by decide +kernel
theorem dX5_fondness_18 : decode cX5_fondness 18 = .ok (.invokevirtual 206, 3) := by decide +kernel
theorem dX5_fondness_21 : decode cX5_fondness 21 = .ok (.goto 4, 3) := by decide +kernel
theorem dX5_fondness_24 : decode cX5_fondness 24 = .ok (.iconst (-1), 1) := by decide +kernel
theorem dX5_fondness_25 : decode cX5_fondness 25 = .ok (.ireturn, 1) := by decide +kernel
set_option maxRecDepth 20000 in
theorem ggX5_fitting_X0_allSo : GoodIn wsX5_fitting wsX0_allSo := goodIn_r _ [8, 9, 10, 11, 12, 13, 14, 15, 16, 17, 18, 19, 20, 21, 22, 23, 24, 25, 26, 27, 28, 29, 30, 31, 32, 33, 34, 35, 36, 37, 38, 48, 49, 50, 51, 52, 53, 54, 55, 56, 57, 58, 59, 60, 61] (by decide +kernel) (by decide +kernel)
set_option maxRecDepth 20000 in
theorem gX5_fitting_X0_allSo : GoodIn wsX5_fitting (wsV RX5 210 RX0 yX0_allSo wsX0_allSo) := goodIn_app (goodIn_of _ (by decide +kernel)) ggX5_fitting_X0_allSo
