theorem dX6_against_52 : decode cX6_against 52 = .ok (.iload_n 1, 1) := by decide +kernel
theorem dX6_against_53 : decode cX6_against 53 = .ok (.iaload, 1) := by decide +kernel
theorem dX6_against_54 : decode cX6_against 54 = .ok (.if_icmp .gt 16, 3) := by decide +kernel
theorem dX6_against_57 : decode cX6_against 57 = .ok (.iload 4, 2) := by decide +kernel
theorem dX6_against_59 : decode cX6_against 59 = .ok (.aload_n 0, 1) := by decide +kernel
theorem dX6_against_60 : decode cX6_against 60 = .ok (.getfield 13, 3) := by decide +kernel
theorem dX6_against_63 : decode cX6_against 63 = .ok (.iload_n 1, 1) := by decide +kernel
theorem dX6_against_64 : decode cX6_against 64 = .ok (.iaload, 1) := by decide +kernel
theorem dX6_against_65 : decode cX6_against 65 = .ok (.iload_n 3, 1) := by decide +kernel
theorem dX6_against_66 : decode cX6_against 66 = .ok (.isub, 1) := by decide +kernel
theorem dX6_against_67 : decode cX6_against 67 = .ok (.if_icmp .le 7, 3) := by decide +kernel
theorem dX6_against_70 : decode cX6_against 70 = .ok (.iconst 3, 1) := by decide +kernel
theorem dX6_against_71 : decode cX6_against 71 = .ok (.goto 4, 3) := by decide +kernel
theorem dX6_against_74 : decode cX6_against 74 = .ok (.iconst 0, 1) := by decide +kernel
theorem dX6_against_75 : decode cX6_against 75 = .ok (.ireturn, 1) := by decide +kernel
theorem dX6_isCourt_0 : decode cX6_isCourt 0 = .ok (.iload_n 1, 1) := by decide +kernel
theorem dX6_isCourt_1 : decode cX6_isCourt 1 = .ok (.ifCond .lt 15, 3) := by decide +kernel
theorem dX6_isCourt_4 : decode cX6_isCourt 4 = .ok (.iload_n 1, 1) := by decide +kernel
theorem dX6_isCourt_5 : decode cX6_isCourt 5 = .ok (.aload_n 0, 1) := by decide +kernel
theorem dX6_isCourt_6 : decode cX6_isCourt 6 = .ok (.getfield 72, 3) := by decide +kernel
theorem dX6_isCourt_9 : decode cX6_isCourt 9 = .ok (.if_icmp .ge 7, 3) := by decide +kernel
theorem dX6_isCourt_12 : decode cX6_isCourt 12 = .ok (.iconst 1, 1) := by decide +kernel
theorem dX6_isCourt_13 : decode cX6_isCourt 13 = .ok (.goto 4, 3) := by decide +kernel
theorem dX6_isCourt_16 : decode cX6_isCourt 16 = .ok (.iconst 0, 1) := by decide +kernel
theorem dX6_isCourt_17 : decode cX6_isCourt 17 = .ok (.ireturn, 1) := by decide +kernel
theorem dX6_isYear_0 : decode cX6_isYear 0 = .ok (.iload_n 1, 1) := by decide +kernel
theorem dX6_isYear_1 : decode cX6_isYear 1 = .ok (.ifCond .lt 15, 3) := by decide +kernel
theorem dX6_isYear_4 : decode cX6_isYear 4 = .ok (.iload_n 1, 1) := by decide +kernel
theorem dX6_isYear_5 : decode cX6_isYear 5 = .ok (.aload_n 0, 1) := by decide +kernel
theorem dX6_isYear_6 : decode cX6_isYear 6 = .ok (.getfield 75, 3) := by decide +kernel
theorem dX6_isYear_9 : decode cX6_isYear 9 = .ok (.if_icmp .ge 7, 3) := by decide +kernel
theorem dX6_isYear_12 : decode cX6_isYear 12 = .ok (.iconst 1, 1) := by decide +kernel
theorem dX6_isYear_13 : decode cX6_isYear 13 = .ok (.goto 4, 3) := by decide +kernel
theorem dX6_isYear_16 : decode cX6_isYear 16 = .ok (.iconst 0, 1) := by decide +kernel
theorem dX6_isYear_17 : decode cX6_isYear 17 = .ok (.ireturn, 1) := by decide +kernel
theorem dX6_isSon_0 : decode cX6_isSon 0 = .ok (.iload_n 1, 1) := by decide +kernel
theorem dX6_isSon_1 : decode cX6_isSon 1 = .ok (.ifCond .lt 15, 3) := by decide +kernel
theorem dX6_isSon_4 : decode cX6_isSon 4 = .ok (.iload_n 1, 1) := by decide +kernel
theorem dX6_isSon_5 : decode cX6_isSon 5 = .ok (.aload_n 0, 1) := by decide +kernel
theorem dX6_isSon_6 : decode cX6_isSon 6 = .ok (.getfield 78, 3) := by decide +kernel
theorem dX6_isSon_9 : decode cX6_isSon 9 = .ok (.if_icmp .ge 7, 3) := by decide +kernel
theorem dX6_isSon_12 : decode cX6_isSon 12 = .ok (.iconst 1, 1) := by decide +kernel
theorem dX6_isSon_13 : decode cX6_isSon 13 = .ok (.goto 4, 3) := by decide +kernel
theorem dX6_isSon_16 : decode cX6_isSon 16 = .ok (.iconst 0, 1) := by decide +kernel
theorem dX6_isSon_17 : decode cX6_isSon 17 = .ok (.ireturn, 1) := by decide +kernel
set_option maxRecDepth 20000 in
theorem ggX6_digit_X6_within : GoodIn wsX6_digit wsX6_within := goodIn_r _ [6] (by decide +kernel) (by decide +kernel)
set_option maxRecDepth 20000 in
theorem gX6_digit_X6_within : GoodIn wsX6_digit (va_wsS RX6 68 yX6_within wsX6_within) := goodIn_app (goodIn_of _ (by decide +kernel)) ggX6_digit_X6_within
theorem dX6_digit_0 : decode cX6_digit 0 = .ok (.aload_n 0, 1) := by decide +kernel
theorem dX6_digit_1 : decode cX6_digit 1 = .ok (.getfield 81, 3) := by decide +kernel
theorem dX6_digit_4 : decode cX6_digit 4 = .ok (.iload_n 1, 1) := by decide +kernel
theorem dX6_digit_5 : decode cX6_digit 5 = .ok (.if_icmp .ge 26, 3) := by decide +kernel
theorem dX6_digit_8 : decode cX6_digit 8 = .ok (.aload_n 0, 1) := by decide +kernel
theorem dX6_digit_9 : decode cX6_digit 9 = .ok (.getfield 16, 3) := by decide +kernel
theorem dX6_digit_12 : decode cX6_digit 12 = .ok (.aload_n 0, 1) := by decide +kernel
theorem dX6_digit_13 : decode cX6_digit 13 = .ok (.getfield 81, 3) := by decide +kernel
theorem dX6_digit_16 : decode cX6_digit 16 = .ok (.iaload, 1) := by decide +kernel
theorem dX6_digit_17 : decode cX6_digit 17 = .ok (.bipush 48, 2) := by decide +kernel
theorem dX6_digit_19 : decode cX6_digit 19 = .ok (.iload_n 2, 1) := by decide +kernel
theorem dX6_digit_20 : decode cX6_digit 20 = .ok (.iadd, 1) := by decide +kernel
theorem dX6_digit_21 : decode cX6_digit 21 = .ok (.bipush 48, 2) := by decide +kernel
theorem dX6_digit_23 : decode cX6_digit 23 = .ok (.iload_n 3, 1) := by decide +kernel
theorem dX6_digit_24 : decode cX6_digit 24 = .ok (.iadd, 1) := by decide +kernel
theorem dX6_digit_25 : decode cX6_digit 25 = .ok (.invokestatic 68, 3) := by decide +kernel
theorem dX6_digit_28 : decode cX6_digit 28 = .ok (.ifCond .ne 6, 3) := by decide +kernel
theorem dX6_digit_31 : decode cX6_digit 31 = .ok (.bipush (-9), 2) := by decide +kernel
theorem dX6_digit_33 : decode cX6_digit 33 = .ok (.ireturn, 1) := by decide +kernel
theorem dX6_digit_34 : decode cX6_digit 34 = .ok (.aload_n 0, 1) := by decide +kernel
theorem dX6_digit_35 : decode cX6_digit 35 = .ok (.dup, 1) := by decide +kernel
theorem dX6_digit_36 : decode cX6_digit 36 = .ok (.getfield 81, 3) := by decide +kernel
theorem dX6_digit_39 : decode cX6_digit 39 = .ok (.iconst 1, 1) := by decide +kernel
theorem dX6_digit_40 : decode cX6_digit 40 = .ok (.iadd, 1) := by decide +kernel
theorem dX6_digit_41 : decode cX6_digit 41 = .ok (.putfield 81, 3) := by decide +kernel
theorem dX6_digit_44 : decode cX6_digit 44 = .ok (.aload_n 0, 1) := by decide +kernel
theorem dX6_digit_45 : decode cX6_digit 45 = .ok (.getfield 16, 3) := by decide +kernel
theorem dX6_digit_48 : decode cX6_digit 48 = .ok (.aload_n 0, 1) := by decide +kernel
theorem dX6_digit_49 : decode cX6_digit 49 = .ok (.getfield 81, 3) := by decide +kernel
theorem dX6_digit_52 : decode cX6_digit 52 = .ok (.iconst 1, 1) := by decide +kernel
theorem dX6_digit_53 : decode cX6_digit 53 = .ok (.isub, 1) := by decide +kernel
theorem dX6_digit_54 : decode cX6_digit 54 = .ok (.iaload, 1) := by decide +kernel
theorem dX6_digit_55 : decode cX6_digit 55 = .ok (.bipush 48, 2) := by decide +kernel
theorem dX6_digit_57 : decode cX6_digit 57 = .ok (.isub, 1) := by decide +kernel
theorem dX6_digit_58 : decode cX6_digit 58 = .ok (.ireturn, 1) := by decide +kernel
theorem dX6_isSign_0 : decode cX6_isSign 0 = .ok (.aload_n 0, 1) := by decide +kernel
theorem dX6_isSign_1 : decode cX6_isSign 1 = .ok (.getfield 81, 3) := by decide +kernel
theorem dX6_isSign_4 : decode cX6_isSign 4 = .ok (.iload_n 1, 1) := by decide +kernel
theorem dX6_isSign_5 : decode cX6_isSign 5 = .ok (.if_icmp .ge 16, 3) := by decide +kernel
theorem dX6_isSign_8 : decode cX6_isSign 8 = .ok (.aload_n 0, 1) := by decide +kernel
theorem dX6_isSign_9 : decode cX6_isSign 9 = .ok (.getfield 16, 3) := by decide +kernel
theorem dX6_isSign_12 : decode cX6_isSign 12 = .ok (.aload_n 0, 1) := by decide +kernel
theorem dX6_isSign_13 : decode cX6_isSign 13 = .ok (.getfield 81, 3) := by decide +kernel
theorem dX6_isSign_16 : decode cX6_isSign 16 = .ok (.iaload, 1) := by decide +kernel
theorem dX6_isSign_17 : decode cX6_isSign 17 = .ok (.iload_n 2, 1) := by decide +kernel
theorem dX6_isSign_18 : decode cX6_isSign 18 = .ok (.if_icmp .eq 5, 3) := by decide +kernel
theorem dX6_isSign_21 : decode cX6_isSign 21 = .ok (.iconst 0, 1) := by decide +kernel
theorem dX6_isSign_22 : decode cX6_isSign 22 = .ok (.ireturn, 1) := by decide +kernel
theorem dX6_isSign_23 : decode cX6_isSign 23 = .ok (.aload_n 0, 1) := by decide +kernel
theorem dX6_isSign_24 : decode cX6_isSign 24 = .ok (.dup, 1) := by decide +kernel
theorem dX6_isSign_25 : decode cX6_isSign 25 = .ok (.getfield 81, 3) := by decide +kernel
theorem dX6_isSign_28 : decode cX6_isSign 28 = .ok (.iconst 1, 1) := by decide +kernel
theorem dX6_isSign_29 : decode cX6_isSign 29 = .ok (.iadd, 1) := by decide +kernel
theorem dX6_isSign_30 : decode cX6_isSign 30 = .ok (.putfield 81, 3) := by decide +kernel
theorem dX6_isSign_33 : decode cX6_isSign 33 = .ok (.iconst 1, 1) := by decide +kernel
theorem dX6_isSign_34 : decode cX6_isSign 34 = .ok (.ireturn, 1) := by decide +kernel
set_option maxRecDepth 20000 in
theorem ggX6_treaty_X6_isSheet : GoodIn wsX6_treaty wsX6_isSheet := goodIn_r _ [7, 8, 9, 6, 10] (by decide +kernel) (by decide +kernel)
set_option maxRecDepth 20000 in
theorem gX6_treaty_X6_isSheet : GoodIn wsX6_treaty (va_wsS RX6 84 yX6_isSheet wsX6_isSheet) := goodIn_app (goodIn_of _ (by decide +kernel)) ggX6_treaty_X6_isSheet
set_option maxRecDepth 20000 in
theorem ggX6_treaty_X6_isSort : GoodIn wsX6_treaty wsX6_isSort := goodIn_r _ [13, 8, 9, 6, 10] (by decide +kernel) (by decide +kernel)
set_option maxRecDepth 20000 in
theorem gX6_treaty_X6_isSort : GoodIn wsX6_treaty (va_wsS RX6 88 yX6_isSort wsX6_isSort) := goodIn_app (goodIn_of _ (by decide +kernel)) ggX6_treaty_X6_isSort
set_option maxRecDepth 20000 in
theorem ggX6_treaty_X6_against : GoodIn wsX6_treaty wsX6_against := goodIn_r _ [17, 18, 19, 64, 65, 66, 67, 68, 69, 70, 71, 72, 73, 74, 75, 76, 77, 78, 79, 80, 81, 82, 83, 84, 85, 86, 87, 88, 89, 90] (by decide +kernel) (by decide +kernel)
set_option maxRecDepth 20000 in
theorem gX6_treaty_X6_against : GoodIn wsX6_treaty (wsV RX6 91 RX6 yX6_against wsX6_against) := goodIn_app (goodIn_of _ (by decide +kernel)) ggX6_treaty_X6_against
set_option maxRecDepth 20000 in
theorem ggX6_treaty_X6_fails : GoodIn wsX6_treaty wsX6_fails := goodIn_r _ [23, 1, 64, 65, 66, 67, 68, 69, 70, 71, 72, 73, 74, 75, 76, 77, 78, 79, 80, 81, 82, 83, 84, 85, 86, 87, 88, 89, 90] (by decide +kernel) (by decide +kernel)
set_option maxRecDepth 20000 in
theorem gX6_treaty_X6_fails : GoodIn wsX6_treaty (wsV RX6 95 RX6 yX6_fails wsX6_fails) := goodIn_app (goodIn_of _ (by decide +kernel)) ggX6_treaty_X6_fails
set_option maxRecDepth 20000 in
theorem ggX6_treaty_X6_readTreaty : GoodIn wsX6_treaty wsX6_readTreaty := goodIn_r _ [27, 28, 29, 30, 2, 31, 32, 33, 6, 34, 35, 36, 37, 38, 39, 8, 9, 10, 40, 41, 42, 43, 44, 45, 46, 47, 48, 49, 64, 65, 66, 67, 68, 69, 70, 71, 72, 73, 74, 75, 76, 77, 78, 79, 80, 81, 82, 83, 84, 85, 86, 87, 88, 89, 90] (by decide +kernel) (by decide +kernel)
set_option maxRecDepth 20000 in
theorem gX6_treaty_X6_readTreaty : GoodIn wsX6_treaty (wsV RX6 99 RX6 yX6_readTreaty wsX6_readTreaty) := goodIn_app (goodIn_of _ (by decide +kernel)) ggX6_treaty_X6_readTreaty
set_option maxRecDepth 20000 in
theorem ggX6_treaty_X6_takeTreaty : GoodIn wsX6_treaty wsX6_takeTreaty := goodIn_r _ [53, 29, 54, 30, 55, 56, 44, 28, 3, 57, 49, 58, 59, 60, 61, 62, 63, 64, 65, 66, 67, 68, 69, 70, 71, 72, 73, 74, 75, 76, 77, 78, 79, 80, 81, 82, 83, 84, 85, 86, 87, 88, 89, 90] (by decide +kernel) (by decide +kernel)
set_option maxRecDepth 20000 in
theorem gX6_treaty_X6_takeTreaty : GoodIn wsX6_treaty (wsV RX6 102 RX6 yX6_takeTreaty wsX6_takeTreaty) := goodIn_app (goodIn_of _ (by decide +kernel)) ggX6_treaty_X6_takeTreaty
theorem dX6_treaty_0 : decode cX6_treaty 0 = .ok (.aload_n 0, 1) := by decide +kernel
theorem dX6_treaty_1 : decode cX6_treaty 1 = .ok (.iconst 0, 1) := by decide +kernel
theorem dX6_treaty_2 : decode cX6_treaty 2 = .ok (.putfield 62, 3) := by decide +kernel
theorem dX6_treaty_5 : decode cX6_treaty 5 = .ok (.iload_n 1, 1) := by decide +kernel
theorem dX6_treaty_6 : decode cX6_treaty 6 = .ok (.invokestatic 84, 3) := by decide +kernel
theorem dX6_treaty_9 : decode cX6_treaty 9 = .ok (.ifCond .ne 5, 3) := by decide +kernel
theorem dX6_treaty_12 : decode cX6_treaty 12 = .ok (.iconst (-1), 1) := by decide +kernel
theorem dX6_treaty_13 : decode cX6_treaty 13 = .ok (.ireturn, 1) := by decide +kernel
theorem dX6_treaty_14 : decode cX6_treaty 14 = .ok (.iload_n 2, 1) := by decide +kernel
theorem dX6_treaty_15 : decode cX6_treaty 15 = .ok (.invokestatic 88, 3) := by decide +kernel
theorem dX6_treaty_18 : decode cX6_treaty 18 = .ok (.ifCond .ne 6, 3) := by decide +kernel
theorem dX6_treaty_21 : decode cX6_treaty 21 = .ok (.bipush (-2), 2) := by decide +kernel
theorem dX6_treaty_23 : decode cX6_treaty 23 = .ok (.ireturn, 1) := by decide +kernel
theorem dX6_treaty_24 : decode cX6_treaty 24 = .ok (.aload_n 0, 1) := by decide +kernel
theorem dX6_treaty_25 : decode cX6_treaty 25 = .ok (.iload_n 1, 1) := by decide +kernel
theorem dX6_treaty_26 : decode cX6_treaty 26 = .ok (.iload_n 2, 1) := by decide +kernel
theorem dX6_treaty_27 : decode cX6_treaty 27 = .ok (.iload_n 3, 1) := by decide +kernel
theorem dX6_treaty_28 : decode cX6_treaty 28 = .ok (.iload 4, 2) := by decide +kernel
theorem dX6_treaty_30 : decode cX6_treaty 30 = .ok (.invokevirtual 91, 3) := by decide +kernel
theorem dX6_treaty_33 : decode cX6_treaty 33 = .ok (.istore 5, 2) := by decide +kernel
theorem dX6_treaty_35 : decode cX6_treaty 35 = .ok (.iload 5, 2) := by decide +kernel
theorem dX6_treaty_37 : decode cX6_treaty 37 = .ok (.ifCond .eq 10, 3) := by decide +kernel
theorem dX6_treaty_40 : decode cX6_treaty 40 = .ok (.aload_n 0, 1) := by decide +kernel
theorem dX6_treaty_41 : decode cX6_treaty 41 = .ok (.iload 5, 2) := by decide +kernel
theorem dX6_treaty_43 : decode cX6_treaty 43 = .ok (.invokevirtual 95, 3) := by decide +kernel
theorem dX6_treaty_46 : decode cX6_treaty 46 = .ok (.ireturn, 1) := by decide +kernel
theorem dX6_treaty_47 : decode cX6_treaty 47 = .ok (.bipush 60, 2) := by decide +kernel
theorem dX6_treaty_49 : decode cX6_treaty 49 = .ok (.iload_n 1, 1) := by decide +kernel
theorem dX6_treaty_50 : decode cX6_treaty 50 = .ok (.imul, 1) := by decide +kernel
theorem dX6_treaty_51 : decode cX6_treaty 51 = .ok (.iload_n 3, 1) := by decide +kernel
theorem dX6_treaty_52 : decode cX6_treaty 52 = .ok (.iadd, 1) := by decide +kernel
theorem dX6_treaty_53 : decode cX6_treaty 53 = .ok (.istore 6, 2) := by decide +kernel
theorem dX6_treaty_55 : decode cX6_treaty 55 = .ok (.aload_n 0, 1) := by decide +kernel
theorem dX6_treaty_56 : decode cX6_treaty 56 = .ok (.iload 6, 2) := by decide +kernel
theorem dX6_treaty_58 : decode cX6_treaty 58 = .ok (.putfield 81, 3) := by decide +kernel
theorem dX6_treaty_61 : decode cX6_treaty 61 = .ok (.aload_n 0, 1) := by decide +kernel
theorem dX6_treaty_62 : decode cX6_treaty 62 = .ok (.iload 6, 2) := by decide +kernel
theorem dX6_treaty_64 : decode cX6_treaty 64 = .ok (.iload 4, 2) := by decide +kernel
theorem dX6_treaty_66 : decode cX6_treaty 66 = .ok (.iadd, 1) := by decide +kernel
theorem dX6_treaty_67 : decode cX6_treaty 67 = .ok (.invokevirtual 99, 3) := by decide +kernel
theorem dX6_treaty_70 : decode cX6_treaty 70 = .ok (.ifCond .ne 14, 3) := by decide +kernel
theorem dX6_treaty_73 : decode cX6_treaty 73 = .ok (.bipush (-100), 2) := by decide +kernel
theorem dX6_treaty_75 : decode cX6_treaty 75 = .ok (.aload_n 0, 1) := by decide +kernel
theorem dX6_treaty_76 : decode cX6_treaty 76 = .ok (.getfield 81, 3) := by decide +kernel
theorem dX6_treaty_79 : decode cX6_treaty 79 = .ok (.iload 6, 2) := by decide +kernel
theorem dX6_treaty_81 : decode cX6_treaty 81 = .ok (.isub, 1) := by decide +kernel
theorem dX6_treaty_82 : decode cX6_treaty 82 = .ok (.isub, 1) := by decide +kernel
theorem dX6_treaty_83 : decode cX6_treaty 83 = .ok (.ireturn, 1) := by decide +kernel
theorem dX6_treaty_84 : decode cX6_treaty 84 = .ok (.aload_n 0, 1) := by decide +kernel
theorem dX6_treaty_85 : decode cX6_treaty 85 = .ok (.invokevirtual 102, 3) := by decide +kernel
theorem dX6_treaty_88 : decode cX6_treaty 88 = .ok (.aload_n 0, 1) := by decide +kernel
theorem dX6_treaty_89 : decode cX6_treaty 89 = .ok (.getfield 78, 3) := by decide +kernel
theorem dX6_treaty_92 : decode cX6_treaty 92 = .ok (.ireturn, 1) := by decide +kernel
theorem dX6_takeTreaty_0 : decode cX6_takeTreaty 0 = .ok (.aload_n 0, 1) := by decide +kernel
theorem dX6_takeTreaty_1 : decode cX6_takeTreaty 1 = .ok (.aload_n 0, 1) := by decide +kernel
theorem dX6_takeTreaty_2 : decode cX6_takeTreaty 2 = .ok (.getfield 105, 3) := by decide +kernel
theorem dX6_takeTreaty_5 : decode cX6_takeTreaty 5 = .ok (.putfield 72, 3) := by decide +kernel
theorem dX6_takeTreaty_8 : decode cX6_takeTreaty 8 = .ok (.aload_n 0, 1) := by decide +kernel
theorem dX6_takeTreaty_9 : decode cX6_takeTreaty 9 = .ok (.aload_n 0, 1) := by decide +kernel
theorem dX6_takeTreaty_10 : decode cX6_takeTreaty 10 = .ok (.getfield 108, 3) := by decide +kernel
theorem dX6_takeTreaty_13 : decode cX6_takeTreaty 13 = .ok (.putfield 75, 3) := by decide +kernel
theorem dX6_takeTreaty_16 : decode cX6_takeTreaty 16 = .ok (.iconst 0, 1) := by decide +kernel
theorem dX6_takeTreaty_17 : decode cX6_takeTreaty 17 = .ok (.istore_n 1, 1) := by decide +kernel
theorem dX6_takeTreaty_18 : decode cX6_takeTreaty 18 = .ok (.iload_n 1, 1) := by decide +kernel
theorem dX6_takeTreaty_19 : decode cX6_takeTreaty 19 = .ok (.bipush 24, 2) := by decide +kernel
theorem dX6_takeTreaty_21 : decode cX6_takeTreaty 21 = .ok (.if_icmp .ge 21, 3) := by decide +kernel
theorem dX6_takeTreaty_24 : decode cX6_takeTreaty 24 = .ok (.aload_n 0, 1) := by decide +kernel
theorem dX6_takeTreaty_25 : decode cX6_takeTreaty 25 = .ok (.getfield 19, 3) := by decide +kernel
theorem dX6_takeTreaty_28 : decode cX6_takeTreaty 28 = .ok (.iload_n 1, 1) := by decide +kernel
theorem dX6_takeTreaty_29 : decode cX6_takeTreaty 29 = .ok (.aload_n 0, 1) := by decide +kernel
theorem dX6_takeTreaty_30 : decode cX6_takeTreaty 30 = .ok (.getfield 40, 3) := by decide +kernel
theorem dX6_takeTreaty_33 : decode cX6_takeTreaty 33 = .ok (.iload_n 1, 1) := by decide +kernel
theorem dX6_takeTreaty_34 : decode cX6_takeTreaty 34 = .ok (.iaload, 1) := by decide +kernel
theorem dX6_takeTreaty_35 : decode cX6_takeTreaty 35 = .ok (.iastore, 1) := by decide +kernel
theorem dX6_takeTreaty_36 : decode cX6_takeTreaty 36 = .ok (.iinc 1 1, 3) := by decide +kernel
theorem dX6_takeTreaty_39 : decode cX6_takeTreaty 39 = .ok (.goto (-21), 3) := by decide +kernel
theorem dX6_takeTreaty_42 : decode cX6_takeTreaty 42 = .ok (.aload_n 0, 1) := by decide +kernel
theorem dX6_takeTreaty_43 : decode cX6_takeTreaty 43 = .ok (.aload_n 0, 1) := by decide +kernel
theorem dX6_takeTreaty_44 : decode cX6_takeTreaty 44 = .ok (.getfield 111, 3) := by decide +kernel
theorem dX6_takeTreaty_47 : decode cX6_takeTreaty 47 = .ok (.putfield 78, 3) := by decide +kernel
theorem dX6_takeTreaty_50 : decode cX6_takeTreaty 50 = .ok (.iconst 0, 1) := by decide +kernel
theorem dX6_takeTreaty_51 : decode cX6_takeTreaty 51 = .ok (.istore_n 1, 1) := by decide +kernel
theorem dX6_takeTreaty_52 : decode cX6_takeTreaty 52 = .ok (.iload_n 1, 1) := by decide +kernel
theorem dX6_takeTreaty_53 : decode cX6_takeTreaty 53 = .ok (.aload_n 0, 1) := by decide +kernel
theorem dX6_takeTreaty_54 : decode cX6_takeTreaty 54 = .ok (.getfield 78, 3) := by decide +kernel
theorem dX6_takeTreaty_57 : decode cX6_takeTreaty 57 = .ok (.if_icmp .ge 87, 3) := by decide +kernel
theorem dX6_takeTreaty_60 : decode cX6_takeTreaty 60 = .ok (.aload_n 0, 1) := by decide +kernel
theorem dX6_takeTreaty_61 : decode cX6_takeTreaty 61 = .ok (.getfield 22, 3) := by decide +kernel
theorem dX6_takeTreaty_64 : decode cX6_takeTreaty 64 = .ok (.iload_n 1, 1) := by decide +kernel
theorem dX6_takeTreaty_65 : decode cX6_takeTreaty 65 = .ok (.aload_n 0, 1) := by decide +kernel
theorem dX6_takeTreaty_66 : decode cX6_takeTreaty 66 = .ok (.getfield 43, 3) := by decide +kernel
theorem dX6_takeTreaty_69 : decode cX6_takeTreaty 69 = .ok (.iconst 4, 1) := by decide +kernel
theorem dX6_takeTreaty_70 : decode cX6_takeTreaty 70 = .ok (.iload_n 1, 1) := by decide +kernel
theorem dX6_takeTreaty_71 : decode cX6_takeTreaty 71 = .ok (.imul, 1) := by decide +kernel
theorem dX6_takeTreaty_72 : decode cX6_takeTreaty 72 = .ok (.iaload, 1) := by decide +kernel
theorem dX6_takeTreaty_73 : decode cX6_takeTreaty 73 = .ok (.iastore, 1) := by decide +kernel
theorem dX6_takeTreaty_74 : decode cX6_takeTreaty 74 = .ok (.aload_n 0, 1) := by decide +kernel
theorem dX6_takeTreaty_75 : decode cX6_takeTreaty 75 = .ok (.getfield 25, 3) := by decide +kernel
theorem dX6_takeTreaty_78 : decode cX6_takeTreaty 78 = .ok (.iload_n 1, 1) := by decide +kernel
theorem dX6_takeTreaty_79 : decode cX6_takeTreaty 79 = .ok (.aload_n 0, 1) := by decide +kernel
theorem dX6_takeTreaty_80 : decode cX6_takeTreaty 80 = .ok (.getfield 43, 3) := by decide +kernel
theorem dX6_takeTreaty_83 : decode cX6_takeTreaty 83 = .ok (.iconst 4, 1) := by decide +kernel
theorem dX6_takeTreaty_84 : decode cX6_takeTreaty 84 = .ok (.iload_n 1, 1) := by decide +kernel
theorem dX6_takeTreaty_85 : decode cX6_takeTreaty 85 = .ok (.imul, 1) := by decide +kernel
theorem dX6_takeTreaty_86 : decode cX6_takeTreaty 86 = .ok (.iconst 1, 1) := by decide +kernel
theorem dX6_takeTreaty_87 : decode cX6_takeTreaty 87 = .ok (.iadd, 1) := by decide +kernel
theorem dX6_takeTreaty_88 : decode cX6_takeTreaty 88 = .ok (.iaload, 1) := by decide +kernel
theorem dX6_takeTreaty_89 : decode cX6_takeTreaty 89 = .ok (.iastore, 1) := by decide +kernel
theorem dX6_takeTreaty_90 : decode cX6_takeTreaty 90 = .ok (.aload_n 0, 1) := by decide +kernel
theorem dX6_takeTreaty_91 : decode cX6_takeTreaty 91 = .ok (.getfield 28, 3) := by decide +kernel
theorem dX6_takeTreaty_94 : decode cX6_takeTreaty 94 = .ok (.iload_n 1, 1) := by decide +kernel
theorem dX6_takeTreaty_95 : decode cX6_takeTreaty 95 = .ok (.aload_n 0, 1) := by decide +kernel
theorem dX6_takeTreaty_96 : decode cX6_takeTreaty 96 = .ok (.getfield 43, 3) := by decide +kernel
theorem dX6_takeTreaty_99 : decode cX6_takeTreaty 99 = .ok (.iconst 4, 1) := by decide +kernel
theorem dX6_takeTreaty_100 : decode cX6_takeTreaty 100 = .ok (.iload_n 1, 1) := by decide +kernel
theorem dX6_takeTreaty_101 : decode cX6_takeTreaty 101 = .ok (.imul, 1) := by decide +kernel
theorem dX6_takeTreaty_102 : decode cX6_takeTreaty 102 = .ok (.iconst 2, 1) := by decide +kernel
theorem dX6_takeTreaty_103 : decode cX6_takeTreaty 103 = .ok (.iadd, 1) := by decide +kernel
theorem dX6_takeTreaty_104 : decode cX6_takeTreaty 104 = .ok (.iaload, 1) := by decide +kernel
theorem dX6_takeTreaty_105 : decode cX6_takeTreaty 105 = .ok (.iastore, 1) := by decide +kernel
theorem dX6_takeTreaty_106 : decode cX6_takeTreaty 106 = .ok (.aload_n 0, 1) := by decide +kernel
theorem dX6_takeTreaty_107 : decode cX6_takeTreaty 107 = .ok (.getfield 31, 3) := by decide +kernel
theorem dX6_takeTreaty_110 : decode cX6_takeTreaty 110 = .ok (.iload_n 1, 1) := by decide +kernel
theorem dX6_takeTreaty_111 : decode cX6_takeTreaty 111 = .ok (.aload_n 0, 1) := by decide +kernel
theorem dX6_takeTreaty_112 : decode cX6_takeTreaty 112 = .ok (.getfield 43, 3) := by decide +kernel
theorem dX6_takeTreaty_115 : decode cX6_takeTreaty 115 = .ok (.iconst 4, 1) := by decide +kernel
theorem dX6_takeTreaty_116 : decode cX6_takeTreaty 116 = .ok (.iload_n 1, 1) := by decide +kernel
theorem dX6_takeTreaty_117 : decode cX6_takeTreaty 117 = .ok (.imul, 1) := by decide +kernel
theorem dX6_takeTreaty_118 : decode cX6_takeTreaty 118 = .ok (.iconst 3, 1) := by decide +kernel
theorem dX6_takeTreaty_119 : decode cX6_takeTreaty 119 = .ok (.iadd, 1) := by decide +kernel
theorem dX6_takeTreaty_120 : decode cX6_takeTreaty 120 = .ok (.iaload, 1) := by decide +kernel
theorem dX6_takeTreaty_121 : decode cX6_takeTreaty 121 = .ok (.iastore, 1) := by decide +kernel
theorem dX6_takeTreaty_122 : decode cX6_takeTreaty 122 = .ok (.aload_n 0, 1) := by decide +kernel
theorem dX6_takeTreaty_123 : decode cX6_takeTreaty 123 = .ok (.getfield 34, 3) := by decide +kernel
theorem dX6_takeTreaty_126 : decode cX6_takeTreaty 126 = .ok (.iload_n 1, 1) := by decide +kernel
theorem dX6_takeTreaty_127 : decode cX6_takeTreaty 127 = .ok (.bipush (-9), 2) := by decide +kernel
theorem dX6_takeTreaty_129 : decode cX6_takeTreaty 129 = .ok (.iastore, 1) := by decide +kernel
theorem dX6_takeTreaty_130 : decode cX6_takeTreaty 130 = .ok (.aload_n 0, 1) := by decide +kernel
theorem dX6_takeTreaty_131 : decode cX6_takeTreaty 131 = .ok (.getfield 37, 3) := by decide +kernel
theorem dX6_takeTreaty_134 : decode cX6_takeTreaty 134 = .ok (.iload_n 1, 1) := by decide +kernel
theorem dX6_takeTreaty_135 : decode cX6_takeTreaty 135 = .ok (.bipush (-9), 2) := by decide +kernel
theorem dX6_takeTreaty_137 : decode cX6_takeTreaty 137 = .ok (.iastore, 1) := by decide +kernel
theorem dX6_takeTreaty_138 : decode cX6_takeTreaty 138 = .ok (.iinc 1 1, 3) := by decide +kernel
theorem dX6_takeTreaty_141 : decode cX6_takeTreaty 141 = .ok (.goto (-89), 3) := by decide +kernel
theorem dX6_takeTreaty_144 : decode cX6_takeTreaty 144 = .ok (.aload_n 0, 1) := by decide +kernel
theorem dX6_takeTreaty_145 : decode cX6_takeTreaty 145 = .ok (.iconst 0, 1) := by decide +kernel
theorem dX6_takeTreaty_146 : decode cX6_takeTreaty 146 = .ok (.putfield 114, 3) := by decide +kernel
theorem dX6_takeTreaty_149 : decode cX6_takeTreaty 149 = .ok (.return_, 1) := by decide +kernel
set_option maxRecDepth 20000 in
theorem ggX6_readTreaty_X6_isSign : GoodIn wsX6_readTreaty wsX6_isSign := goodIn_r _ [9, 4, 10, 28, 29, 30, 31, 32, 33, 34, 35, 36, 37, 38, 39, 40, 41, 42, 43, 44, 45, 46, 47, 48, 49, 50, 51, 52, 53, 54] (by decide +kernel) (by decide +kernel)
set_option maxRecDepth 20000 in
theorem gX6_readTreaty_X6_isSign : GoodIn wsX6_readTreaty (wsV RX6 117 RX6 yX6_isSign wsX6_isSign) := goodIn_app (goodIn_of _ (by decide +kernel)) ggX6_readTreaty_X6_isSign
set_option maxRecDepth 20000 in
theorem ggX6_readTreaty_X6_digit : GoodIn wsX6_readTreaty wsX6_digit := goodIn_r _ [14, 4, 10, 15, 16, 8, 17, 28, 29, 30, 31, 32, 33, 34, 35, 36, 37, 38, 39, 40, 41, 42, 43, 44, 45, 46, 47, 48, 49, 50, 51, 52, 53, 54] (by decide +kernel) (by decide +kernel)
set_option maxRecDepth 20000 in
theorem gX6_readTreaty_X6_digit : GoodIn wsX6_readTreaty (wsV RX6 121 RX6 yX6_digit wsX6_digit) := goodIn_app (goodIn_of _ (by decide +kernel)) ggX6_readTreaty_X6_digit
set_option maxRecDepth 20000 in
theorem ggX6_readTreaty_X6_readCourt : GoodIn wsX6_readTreaty wsX6_readCourt := goodIn_r _ [21, 3, 22, 11, 12, 13, 8, 14, 4, 10, 15, 16, 17, 28, 29, 30, 31, 32, 33, 34, 35, 36, 37, 38, 39, 40, 41, 42, 43, 44, 45, 46, 47, 48, 49, 50, 51, 52, 53, 54] (by decide +kernel) (by decide +kernel)
set_option maxRecDepth 20000 in
theorem gX6_readTreaty_X6_readCourt : GoodIn wsX6_readTreaty (wsV RX6 125 RX6 yX6_readCourt wsX6_readCourt) := goodIn_app (goodIn_of _ (by decide +kernel)) ggX6_readTreaty_X6_readCourt
set_option maxRecDepth 20000 in
theorem ggX6_readTreaty_X6_readSon : GoodIn wsX6_readTreaty wsX6_readSon := goodIn_r _ [26, 1, 4, 10, 27, 2, 11, 12, 13, 8, 14, 15, 16, 17, 28, 29, 30, 31, 32, 33, 34, 35, 36, 37, 38, 39, 40, 41, 42, 43, 44, 45, 46, 47, 48, 49, 50, 51, 52, 53, 54] (by decide +kernel) (by decide +kernel)
set_option maxRecDepth 20000 in
theorem gX6_readTreaty_X6_readSon : GoodIn wsX6_readTreaty (wsV RX6 128 RX6 yX6_readSon wsX6_readSon) := goodIn_app (goodIn_of _ (by decide +kernel)) ggX6_readTreaty_X6_readSon
theorem dX6_readTreaty_0 : decode cX6_readTreaty 0 = .ok (.aload_n 0, 1) := by decide +kernel
theorem dX6_readTreaty_1 : decode cX6_readTreaty 1 = .ok (.iconst 0, 1) := by decide +kernel
theorem dX6_readTreaty_2 : decode cX6_readTreaty 2 = .ok (.putfield 111, 3) := by decide +kernel
theorem dX6_readTreaty_5 : decode cX6_readTreaty 5 = .ok (.aload_n 0, 1) := by decide +kernel
theorem dX6_readTreaty_6 : decode cX6_readTreaty 6 = .ok (.iload_n 1, 1) := by decide +kernel
theorem dX6_readTreaty_7 : decode cX6_readTreaty 7 = .ok (.bipush 120, 2) := by decide +kernel
theorem dX6_readTreaty_9 : decode cX6_readTreaty 9 = .ok (.invokevirtual 117, 3) := by decide +kernel
theorem dX6_readTreaty_12 : decode cX6_readTreaty 12 = .ok (.ifCond .ne 5, 3) := by decide +kernel
theorem dX6_readTreaty_15 : decode cX6_readTreaty 15 = .ok (.iconst 0, 1) := by decide +kernel
theorem dX6_readTreaty_16 : decode cX6_readTreaty 16 = .ok (.ireturn, 1) := by decide +kernel
theorem dX6_readTreaty_17 : decode cX6_readTreaty 17 = .ok (.aload_n 0, 1) := by decide +kernel
theorem dX6_readTreaty_18 : decode cX6_readTreaty 18 = .ok (.aload_n 0, 1) := by decide +kernel
theorem dX6_readTreaty_19 : decode cX6_readTreaty 19 = .ok (.iload_n 1, 1) := by decide +kernel
theorem dX6_readTreaty_20 : decode cX6_readTreaty 20 = .ok (.iconst 2, 1) := by decide +kernel
theorem dX6_readTreaty_21 : decode cX6_readTreaty 21 = .ok (.iconst 4, 1) := by decide +kernel
theorem dX6_readTreaty_22 : decode cX6_readTreaty 22 = .ok (.invokevirtual 121, 3) := by decide +kernel
theorem dX6_readTreaty_25 : decode cX6_readTreaty 25 = .ok (.putfield 105, 3) := by decide +kernel
theorem dX6_readTreaty_28 : decode cX6_readTreaty 28 = .ok (.aload_n 0, 1) := by decide +kernel
theorem dX6_readTreaty_29 : decode cX6_readTreaty 29 = .ok (.getfield 105, 3) := by decide +kernel
theorem dX6_readTreaty_32 : decode cX6_readTreaty 32 = .ok (.bipush (-9), 2) := by decide +kernel
theorem dX6_readTreaty_34 : decode cX6_readTreaty 34 = .ok (.if_icmp .ne 5, 3) := by decide +kernel
theorem dX6_readTreaty_37 : decode cX6_readTreaty 37 = .ok (.iconst 0, 1) := by decide +kernel
theorem dX6_readTreaty_38 : decode cX6_readTreaty 38 = .ok (.ireturn, 1) := by decide +kernel
theorem dX6_readTreaty_39 : decode cX6_readTreaty 39 = .ok (.aload_n 0, 1) := by decide +kernel
theorem dX6_readTreaty_40 : decode cX6_readTreaty 40 = .ok (.aload_n 0, 1) := by decide +kernel
theorem dX6_readTreaty_41 : decode cX6_readTreaty 41 = .ok (.iload_n 1, 1) := by decide +kernel
theorem dX6_readTreaty_42 : decode cX6_readTreaty 42 = .ok (.iconst 1, 1) := by decide +kernel
theorem dX6_readTreaty_43 : decode cX6_readTreaty 43 = .ok (.bipush 6, 2) := by decide +kernel
theorem dX6_readTreaty_45 : decode cX6_readTreaty 45 = .ok (.invokevirtual 121, 3) := by decide +kernel
theorem dX6_readTreaty_48 : decode cX6_readTreaty 48 = .ok (.putfield 108, 3) := by decide +kernel
theorem dX6_readTreaty_51 : decode cX6_readTreaty 51 = .ok (.aload_n 0, 1) := by decide +kernel
theorem dX6_readTreaty_52 : decode cX6_readTreaty 52 = .ok (.getfield 108, 3) := by decide +kernel
theorem dX6_readTreaty_55 : decode cX6_readTreaty 55 = .ok (.bipush (-9), 2) := by decide +kernel
theorem dX6_readTreaty_57 : decode cX6_readTreaty 57 = .ok (.if_icmp .ne 5, 3) := by decide +kernel
theorem dX6_readTreaty_60 : decode cX6_readTreaty 60 = .ok (.iconst 0, 1) := by decide +kernel
theorem dX6_readTreaty_61 : decode cX6_readTreaty 61 = .ok (.ireturn, 1) := by decide +kernel
theorem dX6_readTreaty_62 : decode cX6_readTreaty 62 = .ok (.iconst 0, 1) := by decide +kernel
theorem dX6_readTreaty_63 : decode cX6_readTreaty 63 = .ok (.istore_n 2, 1) := by decide +kernel
theorem dX6_readTreaty_64 : decode cX6_readTreaty 64 = .ok (.iload_n 2, 1) := by decide +kernel
theorem dX6_readTreaty_65 : decode cX6_readTreaty 65 = .ok (.aload_n 0, 1) := by decide +kernel
theorem dX6_readTreaty_66 : decode cX6_readTreaty 66 = .ok (.getfield 105, 3) := by decide +kernel
theorem dX6_readTreaty_69 : decode cX6_readTreaty 69 = .ok (.if_icmp .ge 30, 3) := by decide +kernel
theorem dX6_readTreaty_72 : decode cX6_readTreaty 72 = .ok (.aload_n 0, 1) := by decide +kernel
theorem dX6_readTreaty_73 : decode cX6_readTreaty 73 = .ok (.iload_n 1, 1) := by decide +kernel
theorem dX6_readTreaty_74 : decode cX6_readTreaty 74 = .ok (.bipush 47, 2) := by decide +kernel
theorem dX6_readTreaty_76 : decode cX6_readTreaty 76 = .ok (.invokevirtual 117, 3) := by decide +kernel
theorem dX6_readTreaty_79 : decode cX6_readTreaty 79 = .ok (.ifCond .eq 12, 3) := by decide +kernel
theorem dX6_readTreaty_82 : decode cX6_readTreaty 82 = .ok (.aload_n 0, 1) := by decide +kernel
theorem dX6_readTreaty_83 : decode cX6_readTreaty 83 = .ok (.iload_n 1, 1) := by decide +kernel
theorem dX6_readTreaty_84 : decode cX6_readTreaty 84 = .ok (.iload_n 2, 1) := by decide +kernel
theorem dX6_readTreaty_85 : decode cX6_readTreaty 85 = .ok (.invokevirtual 125, 3) := by decide +kernel
theorem dX6_readTreaty_88 : decode cX6_readTreaty 88 = .ok (.ifCond .ne 5, 3) := by decide +kernel
theorem dX6_readTreaty_91 : decode cX6_readTreaty 91 = .ok (.iconst 0, 1) := by decide +kernel
theorem dX6_readTreaty_92 : decode cX6_readTreaty 92 = .ok (.ireturn, 1) := by decide +kernel
theorem dX6_readTreaty_93 : decode cX6_readTreaty 93 = .ok (.iinc 2 1, 3) := by decide +kernel
theorem dX6_readTreaty_96 : decode cX6_readTreaty 96 = .ok (.goto (-32), 3) := by decide +kernel
theorem dX6_readTreaty_99 : decode cX6_readTreaty 99 = .ok (.aload_n 0, 1) := by decide +kernel
theorem dX6_readTreaty_100 : decode cX6_readTreaty 100 = .ok (.getfield 111, 3) := by decide +kernel
theorem dX6_readTreaty_103 : decode cX6_readTreaty 103 = .ok (.ifCond .eq 19, 3) := by decide +kernel
theorem dX6_readTreaty_106 : decode cX6_readTreaty 106 = .ok (.aload_n 0, 1) := by decide +kernel
theorem dX6_readTreaty_107 : decode cX6_readTreaty 107 = .ok (.getfield 111, 3) := by decide +kernel
theorem dX6_readTreaty_110 : decode cX6_readTreaty 110 = .ok (.iconst 5, 1) := by decide +kernel
theorem dX6_readTreaty_111 : decode cX6_readTreaty 111 = .ok (.if_icmp .ge 31, 3) := by decide +kernel
theorem dX6_readTreaty_114 : decode cX6_readTreaty 114 = .ok (.aload_n 0, 1) := by decide +kernel
theorem dX6_readTreaty_115 : decode cX6_readTreaty 115 = .ok (.getfield 81, 3) := by decide +kernel
theorem dX6_readTreaty_118 : decode cX6_readTreaty 118 = .ok (.iload_n 1, 1) := by decide +kernel
theorem dX6_readTreaty_119 : decode cX6_readTreaty 119 = .ok (.if_icmp .ge 23, 3) := by decide +kernel
theorem dX6_readTreaty_122 : decode cX6_readTreaty 122 = .ok (.aload_n 0, 1) := by decide +kernel
theorem dX6_readTreaty_123 : decode cX6_readTreaty 123 = .ok (.iload_n 1, 1) := by decide +kernel
theorem dX6_readTreaty_124 : decode cX6_readTreaty 124 = .ok (.bipush 44, 2) := by decide +kernel
theorem dX6_readTreaty_126 : decode cX6_readTreaty 126 = .ok (.invokevirtual 117, 3) := by decide +kernel
theorem dX6_readTreaty_129 : decode cX6_readTreaty 129 = .ok (.ifCond .eq 11, 3) := by decide +kernel
theorem dX6_readTreaty_132 : decode cX6_readTreaty 132 = .ok (.aload_n 0, 1) := by decide +kernel
theorem dX6_readTreaty_133 : decode cX6_readTreaty 133 = .ok (.iload_n 1, 1) := by decide +kernel
theorem dX6_readTreaty_134 : decode cX6_readTreaty 134 = .ok (.invokevirtual 128, 3) := by decide +kernel
theorem dX6_readTreaty_137 : decode cX6_readTreaty 137 = .ok (.ifCond .ne (-38), 3) := by decide +kernel
theorem dX6_readTreaty_140 : decode cX6_readTreaty 140 = .ok (.iconst 0, 1) := by decide +kernel
theorem dX6_readTreaty_141 : decode cX6_readTreaty 141 = .ok (.ireturn, 1) := by decide +kernel
theorem dX6_readTreaty_142 : decode cX6_readTreaty 142 = .ok (.aload_n 0, 1) := by decide +kernel
theorem dX6_readTreaty_143 : decode cX6_readTreaty 143 = .ok (.getfield 81, 3) := by decide +kernel
theorem dX6_readTreaty_146 : decode cX6_readTreaty 146 = .ok (.iload_n 1, 1) := by decide +kernel
theorem dX6_readTreaty_147 : decode cX6_readTreaty 147 = .ok (.if_icmp .ne 7, 3) := by decide +kernel
theorem dX6_readTreaty_150 : decode cX6_readTreaty 150 = .ok (.iconst 1, 1) := by decide +kernel
theorem dX6_readTreaty_151 : decode cX6_readTreaty 151 = .ok (.goto 4, 3) := by decide +kernel
theorem dX6_readTreaty_154 : decode cX6_readTreaty 154 = .ok (.iconst 0, 1) := by decide +kernel
theorem dX6_readTreaty_155 : decode cX6_readTreaty 155 = .ok (.ireturn, 1) := by decide +kernel
set_option maxRecDepth 20000 in
theorem ggX6_readCourt_X6_digit : GoodIn wsX6_readCourt wsX6_digit := goodIn_r _ [7, 8, 9, 10, 11, 6, 12, 13, 14, 15, 16, 17, 18, 19, 20, 21, 22, 23, 24, 25, 26, 27, 28, 29, 30, 31, 32, 33, 34, 35, 36, 37, 38, 39] (by decide +kernel) (by decide +kernel)
set_option maxRecDepth 20000 in
theorem gX6_readCourt_X6_digit : GoodIn wsX6_readCourt (wsV RX6 121 RX6 yX6_digit wsX6_digit) := goodIn_app (goodIn_of _ (by decide +kernel)) ggX6_readCourt_X6_digit
theorem dX6_readCourt_0 : decode cX6_readCourt 0 = .ok (.iconst 0, 1) := by decide +kernel
theorem dX6_readCourt_1 : decode cX6_readCourt 1 = .ok (.istore_n 3, 1) := by decide +kernel
theorem dX6_readCourt_2 : decode cX6_readCourt 2 = .ok (.iload_n 3, 1) := by decide +kernel
theorem dX6_readCourt_3 : decode cX6_readCourt 3 = .ok (.aload_n 0, 1) := by decide +kernel
theorem dX6_readCourt_4 : decode cX6_readCourt 4 = .ok (.getfield 108, 3) := by decide +kernel
theorem dX6_readCourt_7 : decode cX6_readCourt 7 = .ok (.if_icmp .ge 46, 3) := by decide +kernel
theorem dX6_readCourt_10 : decode cX6_readCourt 10 = .ok (.aload_n 0, 1) := by decide +kernel
theorem dX6_readCourt_11 : decode cX6_readCourt 11 = .ok (.getfield 40, 3) := by decide +kernel
theorem dX6_readCourt_14 : decode cX6_readCourt 14 = .ok (.bipush 6, 2) := by decide +kernel
theorem dX6_readCourt_16 : decode cX6_readCourt 16 = .ok (.iload_n 2, 1) := by decide +kernel
theorem dX6_readCourt_17 : decode cX6_readCourt 17 = .ok (.imul, 1) := by decide +kernel
theorem dX6_readCourt_18 : decode cX6_readCourt 18 = .ok (.iload_n 3, 1) := by decide +kernel
theorem dX6_readCourt_19 : decode cX6_readCourt 19 = .ok (.iadd, 1) := by decide +kernel
theorem dX6_readCourt_20 : decode cX6_readCourt 20 = .ok (.aload_n 0, 1) := by decide +kernel
theorem dX6_readCourt_21 : decode cX6_readCourt 21 = .ok (.iload_n 1, 1) := by decide +kernel
theorem dX6_readCourt_22 : decode cX6_readCourt 22 = .ok (.iconst 0, 1) := by decide +kernel
theorem dX6_readCourt_23 : decode cX6_readCourt 23 = .ok (.bipush 9, 2) := by decide +kernel
theorem dX6_readCourt_25 : decode cX6_readCourt 25 = .ok (.invokevirtual 121, 3) := by decide +kernel
theorem dX6_readCourt_28 : decode cX6_readCourt 28 = .ok (.iastore, 1) := by decide +kernel
theorem dX6_readCourt_29 : decode cX6_readCourt 29 = .ok (.aload_n 0, 1) := by decide +kernel
theorem dX6_readCourt_30 : decode cX6_readCourt 30 = .ok (.getfield 40, 3) := by decide +kernel
theorem dX6_readCourt_33 : decode cX6_readCourt 33 = .ok (.bipush 6, 2) := by decide +kernel
theorem dX6_readCourt_35 : decode cX6_readCourt 35 = .ok (.iload_n 2, 1) := by decide +kernel
theorem dX6_readCourt_36 : decode cX6_readCourt 36 = .ok (.imul, 1) := by decide +kernel
theorem dX6_readCourt_37 : decode cX6_readCourt 37 = .ok (.iload_n 3, 1) := by decide +kernel
theorem dX6_readCourt_38 : decode cX6_readCourt 38 = .ok (.iadd, 1) := by decide +kernel
theorem dX6_readCourt_39 : decode cX6_readCourt 39 = .ok (.iaload, 1) := by decide +kernel
theorem dX6_readCourt_40 : decode cX6_readCourt 40 = .ok (.bipush (-9), 2) := by decide +kernel
theorem dX6_readCourt_42 : decode cX6_readCourt 42 = .ok (.if_icmp .ne 5, 3) := by decide +kernel
theorem dX6_readCourt_45 : decode cX6_readCourt 45 = .ok (.iconst 0, 1) := by decide +kernel
theorem dX6_readCourt_46 : decode cX6_readCourt 46 = .ok (.ireturn, 1) := by decide +kernel
theorem dX6_readCourt_47 : decode cX6_readCourt 47 = .ok (.iinc 3 1, 3) := by decide +kernel
theorem dX6_readCourt_50 : decode cX6_readCourt 50 = .ok (.goto (-48), 3) := by decide +kernel
theorem dX6_readCourt_53 : decode cX6_readCourt 53 = .ok (.iconst 1, 1) := by decide +kernel
theorem dX6_readCourt_54 : decode cX6_readCourt 54 = .ok (.ireturn, 1) := by decide +kernel
set_option maxRecDepth 20000 in
theorem ggX6_readSon_X6_digit : GoodIn wsX6_readSon wsX6_digit := goodIn_r _ [10, 2, 3, 11, 12, 9, 13, 14, 15, 16, 17, 18, 19, 20, 21, 22, 23, 24, 25, 26, 27, 28, 29, 30, 31, 32, 33, 34, 35, 36, 37, 38, 39, 40] (by decide +kernel) (by decide +kernel)
set_option maxRecDepth 20000 in
theorem gX6_readSon_X6_digit : GoodIn wsX6_readSon (wsV RX6 121 RX6 yX6_digit wsX6_digit) := goodIn_app (goodIn_of _ (by decide +kernel)) ggX6_readSon_X6_digit
theorem dX6_readSon_0 : decode cX6_readSon 0 = .ok (.iconst 4, 1) := by decide +kernel
theorem dX6_readSon_1 : decode cX6_readSon 1 = .ok (.aload_n 0, 1) := by decide +kernel
theorem dX6_readSon_2 : decode cX6_readSon 2 = .ok (.getfield 111, 3) := by decide +kernel
theorem dX6_readSon_5 : decode cX6_readSon 5 = .ok (.imul, 1) := by decide +kernel
theorem dX6_readSon_6 : decode cX6_readSon 6 = .ok (.istore_n 2, 1) := by decide +kernel
theorem dX6_readSon_7 : decode cX6_readSon 7 = .ok (.aload_n 0, 1) := by decide +kernel
theorem dX6_readSon_8 : decode cX6_readSon 8 = .ok (.getfield 81, 3) := by decide +kernel
theorem dX6_readSon_11 : decode cX6_readSon 11 = .ok (.iload_n 1, 1) := by decide +kernel
theorem dX6_readSon_12 : decode cX6_readSon 12 = .ok (.if_icmp .ge 15, 3) := by decide +kernel
theorem dX6_readSon_15 : decode cX6_readSon 15 = .ok (.aload_n 0, 1) := by decide +kernel
theorem dX6_readSon_16 : decode cX6_readSon 16 = .ok (.getfield 16, 3) := by decide +kernel
theorem dX6_readSon_19 : decode cX6_readSon 19 = .ok (.aload_n 0, 1) := by decide +kernel
theorem dX6_readSon_20 : decode cX6_readSon 20 = .ok (.getfield 81, 3) := by decide +kernel
theorem dX6_readSon_23 : decode cX6_readSon 23 = .ok (.iaload, 1) := by decide +kernel
theorem dX6_readSon_24 : decode cX6_readSon 24 = .ok (.goto 4, 3) := by decide +kernel
theorem dX6_readSon_27 : decode cX6_readSon 27 = .ok (.iconst 0, 1) := by decide +kernel
theorem dX6_readSon_28 : decode cX6_readSon 28 = .ok (.istore_n 3, 1) := by decide +kernel
theorem dX6_readSon_29 : decode cX6_readSon 29 = .ok (.aload_n 0, 1) := by decide +kernel
theorem dX6_readSon_30 : decode cX6_readSon 30 = .ok (.getfield 43, 3) := by decide +kernel
theorem dX6_readSon_33 : decode cX6_readSon 33 = .ok (.iload_n 2, 1) := by decide +kernel
theorem dX6_readSon_34 : decode cX6_readSon 34 = .ok (.iload_n 3, 1) := by decide +kernel
theorem dX6_readSon_35 : decode cX6_readSon 35 = .ok (.bipush 115, 2) := by decide +kernel
theorem dX6_readSon_37 : decode cX6_readSon 37 = .ok (.if_icmp .ne 7, 3) := by decide +kernel
theorem dX6_readSon_40 : decode cX6_readSon 40 = .ok (.iconst 0, 1) := by decide +kernel
theorem dX6_readSon_41 : decode cX6_readSon 41 = .ok (.goto 25, 3) := by decide +kernel
theorem dX6_readSon_44 : decode cX6_readSon 44 = .ok (.iload_n 3, 1) := by decide +kernel
theorem dX6_readSon_45 : decode cX6_readSon 45 = .ok (.bipush 104, 2) := by decide +kernel
theorem dX6_readSon_47 : decode cX6_readSon 47 = .ok (.if_icmp .ne 7, 3) := by decide +kernel
theorem dX6_readSon_50 : decode cX6_readSon 50 = .ok (.iconst 1, 1) := by decide +kernel
theorem dX6_readSon_51 : decode cX6_readSon 51 = .ok (.goto 15, 3) := by decide +kernel
theorem dX6_readSon_54 : decode cX6_readSon 54 = .ok (.iload_n 3, 1) := by decide +kernel
theorem dX6_readSon_55 : decode cX6_readSon 55 = .ok (.bipush 112, 2) := by decide +kernel
theorem dX6_readSon_57 : decode cX6_readSon 57 = .ok (.if_icmp .ne 7, 3) := by decide +kernel
theorem dX6_readSon_60 : decode cX6_readSon 60 = .ok (.iconst 2, 1) := by decide +kernel
theorem dX6_readSon_61 : decode cX6_readSon 61 = .ok (.goto 5, 3) := by decide +kernel
theorem dX6_readSon_64 : decode cX6_readSon 64 = .ok (.bipush (-9), 2) := by decide +kernel
theorem dX6_readSon_66 : decode cX6_readSon 66 = .ok (.iastore, 1) := by decide +kernel
theorem dX6_readSon_67 : decode cX6_readSon 67 = .ok (.aload_n 0, 1) := by decide +kernel
theorem dX6_readSon_68 : decode cX6_readSon 68 = .ok (.getfield 43, 3) := by decide +kernel
theorem dX6_readSon_71 : decode cX6_readSon 71 = .ok (.iload_n 2, 1) := by decide +kernel
theorem dX6_readSon_72 : decode cX6_readSon 72 = .ok (.iaload, 1) := by decide +kernel
theorem dX6_readSon_73 : decode cX6_readSon 73 = .ok (.bipush (-9), 2) := by decide +kernel
theorem dX6_readSon_75 : decode cX6_readSon 75 = .ok (.if_icmp .ne 5, 3) := by decide +kernel
theorem dX6_readSon_78 : decode cX6_readSon 78 = .ok (.iconst 0, 1) := by decide +kernel
theorem dX6_readSon_79 : decode cX6_readSon 79 = .ok (.ireturn, 1) := by decide +kernel
theorem dX6_readSon_80 : decode cX6_readSon 80 = .ok (.aload_n 0, 1) := by decide +kernel
theorem dX6_readSon_81 : decode cX6_readSon 81 = .ok (.dup, 1) := by decide +kernel
theorem dX6_readSon_82 : decode cX6_readSon 82 = .ok (.getfield 81, 3) := by decide +kernel
theorem dX6_readSon_85 : decode cX6_readSon 85 = .ok (.iconst 1, 1) := by decide +kernel
theorem dX6_readSon_86 : decode cX6_readSon 86 = .ok (.iadd, 1) := by decide +kernel
theorem dX6_readSon_87 : decode cX6_readSon 87 = .ok (.putfield 81, 3) := by decide +kernel
theorem dX6_readSon_90 : decode cX6_readSon 90 = .ok (.iconst 1, 1) := by decide +kernel
theorem dX6_readSon_91 : decode cX6_readSon 91 = .ok (.istore 4, 2) := by decide +kernel
theorem dX6_readSon_93 : decode cX6_readSon 93 = .ok (.iload 4, 2) := by decide +kernel
theorem dX6_readSon_95 : decode cX6_readSon 95 = .ok (.iconst 4, 1) := by decide +kernel
theorem dX6_readSon_96 : decode cX6_readSon 96 = .ok (.if_icmp .ge 67, 3) := by decide +kernel
theorem dX6_readSon_99 : decode cX6_readSon 99 = .ok (.aload_n 0, 1) := by decide +kernel
theorem dX6_readSon_100 : decode cX6_readSon 100 = .ok (.getfield 43, 3) := by decide +kernel
theorem dX6_readSon_103 : decode cX6_readSon 103 = .ok (.iload_n 2, 1) := by decide +kernel
theorem dX6_readSon_104 : decode cX6_readSon 104 = .ok (.iload 4, 2) := by decide +kernel
theorem dX6_readSon_106 : decode cX6_readSon 106 = .ok (.iadd, 1) := by decide +kernel
theorem dX6_readSon_107 : decode cX6_readSon 107 = .ok (.aload_n 0, 1) := by decide +kernel
theorem dX6_readSon_108 : decode cX6_readSon 108 = .ok (.iload_n 1, 1) := by decide +kernel
theorem dX6_readSon_109 : decode cX6_readSon 109 = .ok (.iconst 0, 1) := by decide +kernel
theorem dX6_readSon_110 : decode cX6_readSon 110 = .ok (.iload 4, 2) := by decide +kernel
theorem dX6_readSon_112 : decode cX6_readSon 112 = .ok (.iconst 1, 1) := by decide +kernel
theorem dX6_readSon_113 : decode cX6_readSon 113 = .ok (.if_icmp .ne 12, 3) := by decide +kernel
theorem dX6_readSon_116 : decode cX6_readSon 116 = .ok (.aload_n 0, 1) := by decide +kernel
theorem dX6_readSon_117 : decode cX6_readSon 117 = .ok (.getfield 105, 3) := by decide +kernel
theorem dX6_readSon_120 : decode cX6_readSon 120 = .ok (.iconst 1, 1) := by decide +kernel
theorem dX6_readSon_121 : decode cX6_readSon 121 = .ok (.isub, 1) := by decide +kernel
theorem dX6_readSon_122 : decode cX6_readSon 122 = .ok (.goto 15, 3) := by decide +kernel
theorem dX6_readSon_125 : decode cX6_readSon 125 = .ok (.iload 4, 2) := by decide +kernel
theorem dX6_readSon_127 : decode cX6_readSon 127 = .ok (.iconst 2, 1) := by decide +kernel
theorem dX6_readSon_128 : decode cX6_readSon 128 = .ok (.if_icmp .ne 8, 3) := by decide +kernel
theorem dX6_readSon_131 : decode cX6_readSon 131 = .ok (.bipush 9, 2) := by decide +kernel
theorem dX6_readSon_133 : decode cX6_readSon 133 = .ok (.goto 4, 3) := by decide +kernel
theorem dX6_readSon_136 : decode cX6_readSon 136 = .ok (.iconst 3, 1) := by decide +kernel
theorem dX6_readSon_137 : decode cX6_readSon 137 = .ok (.invokevirtual 121, 3) := by decide +kernel
theorem dX6_readSon_140 : decode cX6_readSon 140 = .ok (.iastore, 1) := by decide +kernel
theorem dX6_readSon_141 : decode cX6_readSon 141 = .ok (.aload_n 0, 1) := by decide +kernel
theorem dX6_readSon_142 : decode cX6_readSon 142 = .ok (.getfield 43, 3) := by decide +kernel
theorem dX6_readSon_145 : decode cX6_readSon 145 = .ok (.iload_n 2, 1) := by decide +kernel
theorem dX6_readSon_146 : decode cX6_readSon 146 = .ok (.iload 4, 2) := by decide +kernel
theorem dX6_readSon_148 : decode cX6_readSon 148 = .ok (.iadd, 1) := by decide +kernel
theorem dX6_readSon_149 : decode cX6_readSon 149 = .ok (.iaload, 1) := by decide +kernel
theorem dX6_readSon_150 : decode cX6_readSon 150 = .ok (.bipush (-9), 2) := by decide +kernel
theorem dX6_readSon_152 : decode cX6_readSon 152 = .ok (.if_icmp .ne 5, 3) := by decide +kernel
theorem dX6_readSon_155 : decode cX6_readSon 155 = .ok (.iconst 0, 1) := by decide +kernel
theorem dX6_readSon_156 : decode cX6_readSon 156 = .ok (.ireturn, 1) := by decide +kernel
theorem dX6_readSon_157 : decode cX6_readSon 157 = .ok (.iinc 4 1, 3) := by decide +kernel
theorem dX6_readSon_160 : decode cX6_readSon 160 = .ok (.goto (-67), 3) := by decide +kernel
theorem dX6_readSon_163 : decode cX6_readSon 163 = .ok (.aload_n 0, 1) := by decide +kernel
theorem dX6_readSon_164 : decode cX6_readSon 164 = .ok (.dup, 1) := by decide +kernel
theorem dX6_readSon_165 : decode cX6_readSon 165 = .ok (.getfield 111, 3) := by decide +kernel
theorem dX6_readSon_168 : decode cX6_readSon 168 = .ok (.iconst 1, 1) := by decide +kernel
theorem dX6_readSon_169 : decode cX6_readSon 169 = .ok (.iadd, 1) := by decide +kernel
theorem dX6_readSon_170 : decode cX6_readSon 170 = .ok (.putfield 111, 3) := by decide +kernel
theorem dX6_readSon_173 : decode cX6_readSon 173 = .ok (.iconst 1, 1) := by decide +kernel
theorem dX6_readSon_174 : decode cX6_readSon 174 = .ok (.ireturn, 1) := by decide +kernel
set_option maxRecDepth 20000 in
theorem ggX6_ofSon_X6_isSon : GoodIn wsX6_ofSon wsX6_isSon := goodIn_r _ [11, 12, 13, 14, 15, 16, 17, 18, 19, 20, 21, 22, 23, 24, 25, 26, 27, 28, 29, 30, 31, 32, 33, 34, 35, 36, 37, 38, 39] (by decide +kernel) (by decide +kernel)
set_option maxRecDepth 20000 in
theorem gX6_ofSon_X6_isSon : GoodIn wsX6_ofSon (wsV RX6 131 RX6 yX6_isSon wsX6_isSon) := goodIn_app (goodIn_of _ (by decide +kernel)) ggX6_ofSon_X6_isSon
theorem dX6_ofSon_0 : decode cX6_ofSon 0 = .ok (.aload_n 0, 1) := by decide +kernel
theorem dX6_ofSon_1 : decode cX6_ofSon 1 = .ok (.iload_n 1, 1) := by decide +kernel
theorem dX6_ofSon_2 : decode cX6_ofSon 2 = .ok (.invokevirtual 131, 3) := by decide +kernel
theorem dX6_ofSon_5 : decode cX6_ofSon 5 = .ok (.ifCond .ne 5, 3) := by decide +kernel
theorem dX6_ofSon_8 : decode cX6_ofSon 8 = .ok (.iconst (-1), 1) := by decide +kernel
theorem dX6_ofSon_9 : decode cX6_ofSon 9 = .ok (.ireturn, 1) := by decide +kernel
theorem dX6_ofSon_10 : decode cX6_ofSon 10 = .ok (.iload_n 2, 1) := by decide +kernel
theorem dX6_ofSon_11 : decode cX6_ofSon 11 = .ok (.tableswitch 79 0 5 #[37, 44, 51, 58, 65, 72], 37) := by decide +kernel
theorem dX6_ofSon_48 : decode cX6_ofSon 48 = .ok (.aload_n 0, 1) := by decide +kernel
theorem dX6_ofSon_49 : decode cX6_ofSon 49 = .ok (.getfield 22, 3) := by decide +kernel
theorem dX6_ofSon_52 : decode cX6_ofSon 52 = .ok (.iload_n 1, 1) := by decide +kernel
theorem dX6_ofSon_53 : decode cX6_ofSon 53 = .ok (.iaload, 1) := by decide +kernel
theorem dX6_ofSon_54 : decode cX6_ofSon 54 = .ok (.ireturn, 1) := by decide +kernel
theorem dX6_ofSon_55 : decode cX6_ofSon 55 = .ok (.aload_n 0, 1) := by decide +kernel
theorem dX6_ofSon_56 : decode cX6_ofSon 56 = .ok (.getfield 25, 3) := by decide +kernel
theorem dX6_ofSon_59 : decode cX6_ofSon 59 = .ok (.iload_n 1, 1) := by decide +kernel
theorem dX6_ofSon_60 : decode cX6_ofSon 60 = .ok (.iaload, 1) := by decide +kernel
theorem dX6_ofSon_61 : decode cX6_ofSon 61 = .ok (.ireturn, 1) := by decide +kernel
theorem dX6_ofSon_62 : decode cX6_ofSon 62 = .ok (.aload_n 0, 1) := by decide +kernel
theorem dX6_ofSon_63 : decode cX6_ofSon 63 = .ok (.getfield 28, 3) := by decide +kernel
theorem dX6_ofSon_66 : decode cX6_ofSon 66 = .ok (.iload_n 1, 1) := by decide +kernel
theorem dX6_ofSon_67 : decode cX6_ofSon 67 = .ok (.iaload, 1) := by decide +kernel
theorem dX6_ofSon_68 : decode cX6_ofSon 68 = .ok (.ireturn, 1) := by decide +kernel
theorem dX6_ofSon_69 : decode cX6_ofSon 69 = .ok (.aload_n 0, 1) := by decide +kernel
theorem dX6_ofSon_70 : decode cX6_ofSon 70 = .ok (.getfield 31, 3) := by decide +kernel
theorem dX6_ofSon_73 : decode cX6_ofSon 73 = .ok (.iload_n 1, 1) := by decide +kernel
theorem dX6_ofSon_74 : decode cX6_ofSon 74 = .ok (.iaload, 1) := by decide +kernel
theorem dX6_ofSon_75 : decode cX6_ofSon 75 = .ok (.ireturn, 1) := by decide +kernel
theorem dX6_ofSon_76 : decode cX6_ofSon 76 = .ok (.aload_n 0, 1) := by decide +kernel
theorem dX6_ofSon_77 : decode cX6_ofSon 77 = .ok (.getfield 34, 3) := by decide +kernel
theorem dX6_ofSon_80 : decode cX6_ofSon 80 = .ok (.iload_n 1, 1) := by decide +kernel
theorem dX6_ofSon_81 : decode cX6_ofSon 81 = .ok (.iaload, 1) := by decide +kernel
theorem dX6_ofSon_82 : decode cX6_ofSon 82 = .ok (.ireturn, 1) := by decide +kernel
theorem dX6_ofSon_83 : decode cX6_ofSon 83 = .ok (.aload_n 0, 1) := by decide +kernel
theorem dX6_ofSon_84 : decode cX6_ofSon 84 = .ok (.getfield 37, 3) := by decide +kernel
theorem dX6_ofSon_87 : decode cX6_ofSon 87 = .ok (.iload_n 1, 1) := by decide +kernel
theorem dX6_ofSon_88 : decode cX6_ofSon 88 = .ok (.iaload, 1) := by decide +kernel
theorem dX6_ofSon_89 : decode cX6_ofSon 89 = .ok (.ireturn, 1) := by decide +kernel
theorem dX6_ofSon_90 : decode cX6_ofSon 90 = .ok (.bipush (-2), 2) := by decide +kernel
theorem dX6_ofSon_92 : decode cX6_ofSon 92 = .ok (.ireturn, 1) := by decide +kernel
set_option maxRecDepth 20000 in
theorem ggX6_gain_X6_isCourt : GoodIn wsX6_gain wsX6_isCourt := goodIn_r _ [6, 7, 13, 14, 15, 16, 17, 18, 19, 20, 21, 22, 23, 24, 25, 26, 27, 28, 29, 30, 31, 32, 33, 34, 35, 36, 37, 38, 39] (by decide +kernel) (by decide +kernel)
set_option maxRecDepth 20000 in
theorem gX6_gain_X6_isCourt : GoodIn wsX6_gain (wsV RX6 134 RX6 yX6_isCourt wsX6_isCourt) := goodIn_app (goodIn_of _ (by decide +kernel)) ggX6_gain_X6_isCourt
set_option maxRecDepth 20000 in
theorem ggX6_gain_X6_isYear : GoodIn wsX6_gain wsX6_isYear := goodIn_r _ [11, 12, 13, 14, 15, 16, 17, 18, 19, 20, 21, 22, 23, 24, 25, 26, 27, 28, 29, 30, 31, 32, 33, 34, 35, 36, 37, 38, 39] (by decide +kernel) (by decide +kernel)
set_option maxRecDepth 20000 in
theorem gX6_gain_X6_isYear : GoodIn wsX6_gain (wsV RX6 137 RX6 yX6_isYear wsX6_isYear) := goodIn_app (goodIn_of _ (by decide +kernel)) ggX6_gain_X6_isYear
theorem dX6_gain_0 : decode cX6_gain 0 = .ok (.aload_n 0, 1) := by decide +kernel
theorem dX6_gain_1 : decode cX6_gain 1 = .ok (.iload_n 1, 1) := by decide +kernel
theorem dX6_gain_2 : decode cX6_gain 2 = .ok (.invokevirtual 134, 3) := by decide +kernel
theorem dX6_gain_5 : decode cX6_gain 5 = .ok (.ifCond .ne 5, 3) := by decide +kernel
theorem dX6_gain_8 : decode cX6_gain 8 = .ok (.iconst (-1), 1) := by decide +kernel
theorem dX6_gain_9 : decode cX6_gain 9 = .ok (.ireturn, 1) := by decide +kernel
theorem dX6_gain_10 : decode cX6_gain 10 = .ok (.aload_n 0, 1) := by decide +kernel
theorem dX6_gain_11 : decode cX6_gain 11 = .ok (.iload_n 2, 1) := by decide +kernel
theorem dX6_gain_12 : decode cX6_gain 12 = .ok (.invokevirtual 137, 3) := by decide +kernel
theorem dX6_gain_15 : decode cX6_gain 15 = .ok (.ifCond .eq 17, 3) := by decide +kernel
theorem dX6_gain_18 : decode cX6_gain 18 = .ok (.aload_n 0, 1) := by decide +kernel
theorem dX6_gain_19 : decode cX6_gain 19 = .ok (.getfield 19, 3) := by decide +kernel
theorem dX6_gain_22 : decode cX6_gain 22 = .ok (.bipush 6, 2) := by decide +kernel
theorem dX6_gain_24 : decode cX6_gain 24 = .ok (.iload_n 1, 1) := by decide +kernel
theorem dX6_gain_25 : decode cX6_gain 25 = .ok (.imul, 1) := by decide +kernel
theorem dX6_gain_26 : decode cX6_gain 26 = .ok (.iload_n 2, 1) := by decide +kernel
theorem dX6_gain_27 : decode cX6_gain 27 = .ok (.iadd, 1) := by decide +kernel
theorem dX6_gain_28 : decode cX6_gain 28 = .ok (.iaload, 1) := by decide +kernel
theorem dX6_gain_29 : decode cX6_gain 29 = .ok (.goto 5, 3) := by decide +kernel
theorem dX6_gain_32 : decode cX6_gain 32 = .ok (.bipush (-2), 2) := by decide +kernel
theorem dX6_gain_34 : decode cX6_gain 34 = .ok (.ireturn, 1) := by decide +kernel
set_option maxRecDepth 20000 in
theorem ggX6_tempt_X6_isCourt : GoodIn wsX6_tempt wsX6_isCourt := goodIn_r _ [6, 7, 16, 17, 18, 19, 20, 21, 22, 23, 24, 25, 26, 27, 28, 29, 30, 31, 32, 33, 34, 35, 36, 37, 38, 39, 40, 41, 42] (by decide +kernel) (by decide +kernel)
set_option maxRecDepth 20000 in
theorem gX6_tempt_X6_isCourt : GoodIn wsX6_tempt (wsV RX6 134 RX6 yX6_isCourt wsX6_isCourt) := goodIn_app (goodIn_of _ (by decide +kernel)) ggX6_tempt_X6_isCourt
set_option maxRecDepth 20000 in
theorem ggX6_tempt_X6_isYear : GoodIn wsX6_tempt wsX6_isYear := goodIn_r _ [11, 12, 16, 17, 18, 19, 20, 21, 22, 23, 24, 25, 26, 27, 28, 29, 30, 31, 32, 33, 34, 35, 36, 37, 38, 39, 40, 41, 42] (by decide +kernel) (by decide +kernel)
set_option maxRecDepth 20000 in
theorem gX6_tempt_X6_isYear : GoodIn wsX6_tempt (wsV RX6 137 RX6 yX6_isYear wsX6_isYear) := goodIn_app (goodIn_of _ (by decide +kernel)) ggX6_tempt_X6_isYear
set_option maxRecDepth 20000 in
theorem ggX6_tempt_X6_within : GoodIn wsX6_tempt wsX6_within := goodIn_r _ [15] (by decide +kernel) (by decide +kernel)
set_option maxRecDepth 20000 in
theorem gX6_tempt_X6_within : GoodIn wsX6_tempt (va_wsS RX6 68 yX6_within wsX6_within) := goodIn_app (goodIn_of _ (by decide +kernel)) ggX6_tempt_X6_within
theorem dX6_tempt_0 : decode cX6_tempt 0 = .ok (.aload_n 0, 1) := by decide +kernel
theorem dX6_tempt_1 : decode cX6_tempt 1 = .ok (.iload_n 1, 1) := by decide +kernel
theorem dX6_tempt_2 : decode cX6_tempt 2 = .ok (.invokevirtual 134, 3) := by decide +kernel
theorem dX6_tempt_5 : decode cX6_tempt 5 = .ok (.ifCond .ne 5, 3) := by decide +kernel
theorem dX6_tempt_8 : decode cX6_tempt 8 = .ok (.iconst (-1), 1) := by decide +kernel
theorem dX6_tempt_9 : decode cX6_tempt 9 = .ok (.ireturn, 1) := by decide +kernel
theorem dX6_tempt_10 : decode cX6_tempt 10 = .ok (.aload_n 0, 1) := by decide +kernel
theorem dX6_tempt_11 : decode cX6_tempt 11 = .ok (.iload_n 2, 1) := by decide +kernel
theorem dX6_tempt_12 : decode cX6_tempt 12 = .ok (.invokevirtual 137, 3) := by decide +kernel
theorem dX6_tempt_15 : decode cX6_tempt 15 = .ok (.ifCond .eq 13, 3) := by decide +kernel
theorem dX6_tempt_18 : decode cX6_tempt 18 = .ok (.iload_n 3, 1) := by decide +kernel
theorem dX6_tempt_19 : decode cX6_tempt 19 = .ok (.iconst 0, 1) := by decide +kernel
theorem dX6_tempt_20 : decode cX6_tempt 20 = .ok (.bipush 9, 2) := by decide +kernel
theorem dX6_tempt_22 : decode cX6_tempt 22 = .ok (.invokestatic 68, 3) := by decide +kernel
theorem dX6_tempt_25 : decode cX6_tempt 25 = .ok (.ifCond .ne 6, 3) := by decide +kernel
theorem dX6_tempt_28 : decode cX6_tempt 28 = .ok (.bipush (-2), 2) := by decide +kernel
theorem dX6_tempt_30 : decode cX6_tempt 30 = .ok (.ireturn, 1) := by decide +kernel
theorem dX6_tempt_31 : decode cX6_tempt 31 = .ok (.aload_n 0, 1) := by decide +kernel
theorem dX6_tempt_32 : decode cX6_tempt 32 = .ok (.getfield 19, 3) := by decide +kernel
theorem dX6_tempt_35 : decode cX6_tempt 35 = .ok (.bipush 6, 2) := by decide +kernel
theorem dX6_tempt_37 : decode cX6_tempt 37 = .ok (.iload_n 1, 1) := by decide +kernel
theorem dX6_tempt_38 : decode cX6_tempt 38 = .ok (.imul, 1) := by decide +kernel
theorem dX6_tempt_39 : decode cX6_tempt 39 = .ok (.iload_n 2, 1) := by decide +kernel
theorem dX6_tempt_40 : decode cX6_tempt 40 = .ok (.iadd, 1) := by decide +kernel
theorem dX6_tempt_41 : decode cX6_tempt 41 = .ok (.iaload, 1) := by decide +kernel
theorem dX6_tempt_42 : decode cX6_tempt 42 = .ok (.istore 4, 2) := by decide +kernel
theorem dX6_tempt_44 : decode cX6_tempt 44 = .ok (.aload_n 0, 1) := by decide +kernel
theorem dX6_tempt_45 : decode cX6_tempt 45 = .ok (.getfield 19, 3) := by decide +kernel
theorem dX6_tempt_48 : decode cX6_tempt 48 = .ok (.bipush 6, 2) := by decide +kernel
theorem dX6_tempt_50 : decode cX6_tempt 50 = .ok (.iload_n 1, 1) := by decide +kernel
theorem dX6_tempt_51 : decode cX6_tempt 51 = .ok (.imul, 1) := by decide +kernel
theorem dX6_tempt_52 : decode cX6_tempt 52 = .ok (.iload_n 2, 1) := by decide +kernel
theorem dX6_tempt_53 : decode cX6_tempt 53 = .ok (.iadd, 1) := by decide +kernel
theorem dX6_tempt_54 : decode cX6_tempt 54 = .ok (.iload_n 3, 1) := by decide +kernel
theorem dX6_tempt_55 : decode cX6_tempt 55 = .ok (.iastore, 1) := by decide +kernel
theorem dX6_tempt_56 : decode cX6_tempt 56 = .ok (.iload 4, 2) := by decide +kernel
theorem dX6_tempt_58 : decode cX6_tempt 58 = .ok (.ireturn, 1) := by decide +kernel
set_option maxRecDepth 20000 in
theorem ggX6_send_X6_isSon : GoodIn wsX6_send wsX6_isSon := goodIn_r _ [8, 9, 20, 21, 22, 23, 24, 25, 26, 27, 28, 29, 30, 31, 32, 33, 34, 35, 36, 37, 38, 39, 40, 41, 42, 43, 44, 45, 46] (by decide +kernel) (by decide +kernel)
set_option maxRecDepth 20000 in
theorem gX6_send_X6_isSon : GoodIn wsX6_send (wsV RX6 131 RX6 yX6_isSon wsX6_isSon) := goodIn_app (goodIn_of _ (by decide +kernel)) ggX6_send_X6_isSon
set_option maxRecDepth 20000 in
theorem ggX6_send_X6_isCourt : GoodIn wsX6_send wsX6_isCourt := goodIn_r _ [13, 14, 20, 21, 22, 23, 24, 25, 26, 27, 28, 29, 30, 31, 32, 33, 34, 35, 36, 37, 38, 39, 40, 41, 42, 43, 44, 45, 46] (by decide +kernel) (by decide +kernel)
set_option maxRecDepth 20000 in
theorem gX6_send_X6_isCourt : GoodIn wsX6_send (wsV RX6 134 RX6 yX6_isCourt wsX6_isCourt) := goodIn_app (goodIn_of _ (by decide +kernel)) ggX6_send_X6_isCourt
set_option maxRecDepth 20000 in
theorem ggX6_send_X6_isYear : GoodIn wsX6_send wsX6_isYear := goodIn_r _ [18, 19, 20, 21, 22, 23, 24, 25, 26, 27, 28, 29, 30, 31, 32, 33, 34, 35, 36, 37, 38, 39, 40, 41, 42, 43, 44, 45, 46] (by decide +kernel) (by decide +kernel)
set_option maxRecDepth 20000 in
theorem gX6_send_X6_isYear : GoodIn wsX6_send (wsV RX6 137 RX6 yX6_isYear wsX6_isYear) := goodIn_app (goodIn_of _ (by decide +kernel)) ggX6_send_X6_isYear
theorem dX6_send_0 : decode cX6_send 0 = .ok (.aload_n 0, 1) := by decide +kernel
theorem dX6_send_1 : decode cX6_send 1 = .ok (.iload_n 1, 1) := by decide +kernel
theorem dX6_send_2 : decode cX6_send 2 = .ok (.invokevirtual 131, 3) := by decide +kernel
theorem dX6_send_5 : decode cX6_send 5 = .ok (.ifCond .eq 11, 3) := by decide +kernel
theorem dX6_send_8 : decode cX6_send 8 = .ok (.aload_n 0, 1) := by decide +kernel
theorem dX6_send_9 : decode cX6_send 9 = .ok (.iload_n 2, 1) := by decide +kernel
theorem dX6_send_10 : decode cX6_send 10 = .ok (.invokevirtual 134, 3) := by decide +kernel
theorem dX6_send_13 : decode cX6_send 13 = .ok (.ifCond .ne 5, 3) := by decide +kernel
theorem dX6_send_16 : decode cX6_send 16 = .ok (.iconst (-1), 1) := by decide +kernel
theorem dX6_send_17 : decode cX6_send 17 = .ok (.ireturn, 1) := by decide +kernel
theorem dX6_send_18 : decode cX6_send 18 = .ok (.aload_n 0, 1) := by decide +kernel
theorem dX6_send_19 : decode cX6_send 19 = .ok (.iload_n 3, 1) := by decide +kernel
theorem dX6_send_20 : decode cX6_send 20 = .ok (.invokevirtual 137, 3) := by decide +kernel
theorem dX6_send_23 : decode cX6_send 23 = .ok (.ifCond .ne 6, 3) := by decide +kernel
theorem dX6_send_26 : decode cX6_send 26 = .ok (.bipush (-2), 2) := by decide +kernel
theorem dX6_send_28 : decode cX6_send 28 = .ok (.ireturn, 1) := by decide +kernel
theorem dX6_send_29 : decode cX6_send 29 = .ok (.aload_n 0, 1) := by decide +kernel
theorem dX6_send_30 : decode cX6_send 30 = .ok (.getfield 25, 3) := by decide +kernel
theorem dX6_send_33 : decode cX6_send 33 = .ok (.iload_n 1, 1) := by decide +kernel
theorem dX6_send_34 : decode cX6_send 34 = .ok (.iaload, 1) := by decide +kernel
theorem dX6_send_35 : decode cX6_send 35 = .ok (.iload_n 2, 1) := by decide +kernel
theorem dX6_send_36 : decode cX6_send 36 = .ok (.if_icmp .ne 6, 3) := by decide +kernel
theorem dX6_send_39 : decode cX6_send 39 = .ok (.bipush (-3), 2) := by decide +kernel
theorem dX6_send_41 : decode cX6_send 41 = .ok (.ireturn, 1) := by decide +kernel
theorem dX6_send_42 : decode cX6_send 42 = .ok (.aload_n 0, 1) := by decide +kernel
theorem dX6_send_43 : decode cX6_send 43 = .ok (.getfield 34, 3) := by decide +kernel
theorem dX6_send_46 : decode cX6_send 46 = .ok (.iload_n 1, 1) := by decide +kernel
theorem dX6_send_47 : decode cX6_send 47 = .ok (.iaload, 1) := by decide +kernel
theorem dX6_send_48 : decode cX6_send 48 = .ok (.bipush (-9), 2) := by decide +kernel
theorem dX6_send_50 : decode cX6_send 50 = .ok (.if_icmp .eq 23, 3) := by decide +kernel
theorem dX6_send_53 : decode cX6_send 53 = .ok (.aload_n 0, 1) := by decide +kernel
theorem dX6_send_54 : decode cX6_send 54 = .ok (.getfield 34, 3) := by decide +kernel
theorem dX6_send_57 : decode cX6_send 57 = .ok (.iload_n 1, 1) := by decide +kernel
theorem dX6_send_58 : decode cX6_send 58 = .ok (.iaload, 1) := by decide +kernel
theorem dX6_send_59 : decode cX6_send 59 = .ok (.iload_n 2, 1) := by decide +kernel
theorem dX6_send_60 : decode cX6_send 60 = .ok (.if_icmp .ne 17, 3) := by decide +kernel
theorem dX6_send_63 : decode cX6_send 63 = .ok (.aload_n 0, 1) := by decide +kernel
theorem dX6_send_64 : decode cX6_send 64 = .ok (.getfield 37, 3) := by decide +kernel
theorem dX6_send_67 : decode cX6_send 67 = .ok (.iload_n 1, 1) := by decide +kernel
theorem dX6_send_68 : decode cX6_send 68 = .ok (.iaload, 1) := by decide +kernel
theorem dX6_send_69 : decode cX6_send 69 = .ok (.iload_n 3, 1) := by decide +kernel
theorem dX6_send_70 : decode cX6_send 70 = .ok (.if_icmp .ne 7, 3) := by decide +kernel
theorem dX6_send_73 : decode cX6_send 73 = .ok (.iconst 1, 1) := by decide +kernel
theorem dX6_send_74 : decode cX6_send 74 = .ok (.goto 4, 3) := by decide +kernel
theorem dX6_send_77 : decode cX6_send 77 = .ok (.iconst 0, 1) := by decide +kernel
theorem dX6_send_78 : decode cX6_send 78 = .ok (.istore 4, 2) := by decide +kernel
theorem dX6_send_80 : decode cX6_send 80 = .ok (.aload_n 0, 1) := by decide +kernel
theorem dX6_send_81 : decode cX6_send 81 = .ok (.getfield 34, 3) := by decide +kernel
theorem dX6_send_84 : decode cX6_send 84 = .ok (.iload_n 1, 1) := by decide +kernel
theorem dX6_send_85 : decode cX6_send 85 = .ok (.iload_n 2, 1) := by decide +kernel
theorem dX6_send_86 : decode cX6_send 86 = .ok (.iastore, 1) := by decide +kernel
theorem dX6_send_87 : decode cX6_send 87 = .ok (.aload_n 0, 1) := by decide +kernel
theorem dX6_send_88 : decode cX6_send 88 = .ok (.getfield 37, 3) := by decide +kernel
theorem dX6_send_91 : decode cX6_send 91 = .ok (.iload_n 1, 1) := by decide +kernel
theorem dX6_send_92 : decode cX6_send 92 = .ok (.iload_n 3, 1) := by decide +kernel
theorem dX6_send_93 : decode cX6_send 93 = .ok (.iastore, 1) := by decide +kernel
theorem dX6_send_94 : decode cX6_send 94 = .ok (.iload 4, 2) := by decide +kernel
theorem dX6_send_96 : decode cX6_send 96 = .ok (.ireturn, 1) := by decide +kernel
set_option maxRecDepth 20000 in
theorem ggX6_home_X6_isSon : GoodIn wsX6_home wsX6_isSon := goodIn_r _ [7, 8, 9, 10, 11, 12, 13, 14, 15, 16, 17, 18, 19, 20, 21, 22, 23, 24, 25, 26, 27, 28, 29, 30, 31, 32, 33, 34, 35] (by decide +kernel) (by decide +kernel)
set_option maxRecDepth 20000 in
theorem gX6_home_X6_isSon : GoodIn wsX6_home (wsV RX6 131 RX6 yX6_isSon wsX6_isSon) := goodIn_app (goodIn_of _ (by decide +kernel)) ggX6_home_X6_isSon
theorem dX6_home_0 : decode cX6_home 0 = .ok (.aload_n 0, 1) := by decide +kernel
theorem dX6_home_1 : decode cX6_home 1 = .ok (.iload_n 1, 1) := by decide +kernel
theorem dX6_home_2 : decode cX6_home 2 = .ok (.invokevirtual 131, 3) := by decide +kernel
theorem dX6_home_5 : decode cX6_home 5 = .ok (.ifCond .ne 5, 3) := by decide +kernel
theorem dX6_home_8 : decode cX6_home 8 = .ok (.iconst (-1), 1) := by decide +kernel
theorem dX6_home_9 : decode cX6_home 9 = .ok (.ireturn, 1) := by decide +kernel
theorem dX6_home_10 : decode cX6_home 10 = .ok (.aload_n 0, 1) := by decide +kernel
theorem dX6_home_11 : decode cX6_home 11 = .ok (.getfield 34, 3) := by decide +kernel
theorem dX6_home_14 : decode cX6_home 14 = .ok (.iload_n 1, 1) := by decide +kernel
theorem dX6_home_15 : decode cX6_home 15 = .ok (.iaload, 1) := by decide +kernel
theorem dX6_home_16 : decode cX6_home 16 = .ok (.bipush (-9), 2) := by decide +kernel
theorem dX6_home_18 : decode cX6_home 18 = .ok (.if_icmp .ne 7, 3) := by decide +kernel
theorem dX6_home_21 : decode cX6_home 21 = .ok (.iconst 0, 1) := by decide +kernel
theorem dX6_home_22 : decode cX6_home 22 = .ok (.goto 4, 3) := by decide +kernel
theorem dX6_home_25 : decode cX6_home 25 = .ok (.iconst 1, 1) := by decide +kernel
theorem dX6_home_26 : decode cX6_home 26 = .ok (.istore_n 2, 1) := by decide +kernel
theorem dX6_home_27 : decode cX6_home 27 = .ok (.aload_n 0, 1) := by decide +kernel
theorem dX6_home_28 : decode cX6_home 28 = .ok (.getfield 34, 3) := by decide +kernel
theorem dX6_home_31 : decode cX6_home 31 = .ok (.iload_n 1, 1) := by decide +kernel
theorem dX6_home_32 : decode cX6_home 32 = .ok (.bipush (-9), 2) := by decide +kernel
theorem dX6_home_34 : decode cX6_home 34 = .ok (.iastore, 1) := by decide +kernel
theorem dX6_home_35 : decode cX6_home 35 = .ok (.aload_n 0, 1) := by decide +kernel
theorem dX6_home_36 : decode cX6_home 36 = .ok (.getfield 37, 3) := by decide +kernel
theorem dX6_home_39 : decode cX6_home 39 = .ok (.iload_n 1, 1) := by decide +kernel
theorem dX6_home_40 : decode cX6_home 40 = .ok (.bipush (-9), 2) := by decide +kernel
theorem dX6_home_42 : decode cX6_home 42 = .ok (.iastore, 1) := by decide +kernel
theorem dX6_home_43 : decode cX6_home 43 = .ok (.iload_n 2, 1) := by decide +kernel
theorem dX6_home_44 : decode cX6_home 44 = .ok (.ireturn, 1) := by decide +kernel
theorem dX6_stakeBy_0 : decode cX6_stakeBy 0 = .ok (.aload_n 0, 1) := by decide +kernel
theorem dX6_stakeBy_1 : decode cX6_stakeBy 1 = .ok (.getfield 28, 3) := by decide +kernel
theorem dX6_stakeBy_4 : decode cX6_stakeBy 4 = .ok (.iload_n 1, 1) := by decide +kernel
theorem dX6_stakeBy_5 : decode cX6_stakeBy 5 = .ok (.iaload, 1) := by decide +kernel
theorem dX6_stakeBy_6 : decode cX6_stakeBy 6 = .ok (.aload_n 0, 1) := by decide +kernel
theorem dX6_stakeBy_7 : decode cX6_stakeBy 7 = .ok (.getfield 31, 3) := by decide +kernel
theorem dX6_stakeBy_10 : decode cX6_stakeBy 10 = .ok (.iload_n 1, 1) := by decide +kernel
theorem dX6_stakeBy_11 : decode cX6_stakeBy 11 = .ok (.iaload, 1) := by decide +kernel
theorem dX6_stakeBy_12 : decode cX6_stakeBy 12 = .ok (.iload_n 3, 1) := by decide +kernel
theorem dX6_stakeBy_13 : decode cX6_stakeBy 13 = .ok (.iload_n 2, 1) := by decide +kernel
theorem dX6_stakeBy_14 : decode cX6_stakeBy 14 = .ok (.isub, 1) := by decide +kernel
theorem dX6_stakeBy_15 : decode cX6_stakeBy 15 = .ok (.imul, 1) := by decide +kernel
theorem dX6_stakeBy_16 : decode cX6_stakeBy 16 = .ok (.isub, 1) := by decide +kernel
theorem dX6_stakeBy_17 : decode cX6_stakeBy 17 = .ok (.istore 4, 2) := by decide +kernel
theorem dX6_stakeBy_19 : decode cX6_stakeBy 19 = .ok (.iload 4, 2) := by decide +kernel
theorem dX6_stakeBy_21 : decode cX6_stakeBy 21 = .ok (.ifCond .ge 7, 3) := by decide +kernel
theorem dX6_stakeBy_24 : decode cX6_stakeBy 24 = .ok (.iconst 0, 1) := by decide +kernel
theorem dX6_stakeBy_25 : decode cX6_stakeBy 25 = .ok (.goto 5, 3) := by decide +kernel
theorem dX6_stakeBy_28 : decode cX6_stakeBy 28 = .ok (.iload 4, 2) := by decide +kernel
theorem dX6_stakeBy_30 : decode cX6_stakeBy 30 = .ok (.istore 4, 2) := by decide +kernel
theorem dX6_stakeBy_32 : decode cX6_stakeBy 32 = .ok (.aload_n 0, 1) := by decide +kernel
theorem dX6_stakeBy_33 : decode cX6_stakeBy 33 = .ok (.getfield 22, 3) := by decide +kernel
theorem dX6_stakeBy_36 : decode cX6_stakeBy 36 = .ok (.iload_n 1, 1) := by decide +kernel
theorem dX6_stakeBy_37 : decode cX6_stakeBy 37 = .ok (.iaload, 1) := by decide +kernel
theorem dX6_stakeBy_38 : decode cX6_stakeBy 38 = .ok (.ifCond .ne 8, 3) := by decide +kernel
theorem dX6_stakeBy_41 : decode cX6_stakeBy 41 = .ok (.iload 4, 2) := by decide +kernel
theorem dX6_stakeBy_43 : decode cX6_stakeBy 43 = .ok (.goto 24, 3) := by decide +kernel
theorem dX6_stakeBy_46 : decode cX6_stakeBy 46 = .ok (.aload_n 0, 1) := by decide +kernel
theorem dX6_stakeBy_47 : decode cX6_stakeBy 47 = .ok (.getfield 22, 3) := by decide +kernel
theorem dX6_stakeBy_50 : decode cX6_stakeBy 50 = .ok (.iload_n 1, 1) := by decide +kernel
theorem dX6_stakeBy_51 : decode cX6_stakeBy 51 = .ok (.iaload, 1) := by decide +kernel
theorem dX6_stakeBy_52 : decode cX6_stakeBy 52 = .ok (.iconst 1, 1) := by decide +kernel
theorem dX6_stakeBy_53 : decode cX6_stakeBy 53 = .ok (.if_icmp .ne 10, 3) := by decide +kernel
theorem dX6_stakeBy_56 : decode cX6_stakeBy 56 = .ok (.iload 4, 2) := by decide +kernel
theorem dX6_stakeBy_58 : decode cX6_stakeBy 58 = .ok (.iconst 2, 1) := by decide +kernel
theorem dX6_stakeBy_59 : decode cX6_stakeBy 59 = .ok (.iadd, 1) := by decide +kernel
theorem dX6_stakeBy_60 : decode cX6_stakeBy 60 = .ok (.goto 7, 3) := by decide +kernel
theorem dX6_stakeBy_63 : decode cX6_stakeBy 63 = .ok (.iload 4, 2) := by decide +kernel
theorem dX6_stakeBy_65 : decode cX6_stakeBy 65 = .ok (.iconst 2, 1) := by decide +kernel
theorem dX6_stakeBy_66 : decode cX6_stakeBy 66 = .ok (.idiv, 1) := by decide +kernel
theorem dX6_stakeBy_67 : decode cX6_stakeBy 67 = .ok (.ireturn, 1) := by decide +kernel
set_option maxRecDepth 20000 in
theorem ggX6_stake_X6_isSon : GoodIn wsX6_stake wsX6_isSon := goodIn_r _ [6, 7, 20, 21, 22, 23, 24, 25, 26, 27, 28, 29, 30, 31, 32, 33, 34, 35, 36, 37, 38, 39, 40, 41, 42, 43, 44, 45, 46] (by decide +kernel) (by decide +kernel)
set_option maxRecDepth 20000 in
theorem gX6_stake_X6_isSon : GoodIn wsX6_stake (wsV RX6 131 RX6 yX6_isSon wsX6_isSon) := goodIn_app (goodIn_of _ (by decide +kernel)) ggX6_stake_X6_isSon
set_option maxRecDepth 20000 in
theorem ggX6_stake_X6_isYear : GoodIn wsX6_stake wsX6_isYear := goodIn_r _ [11, 12, 20, 21, 22, 23, 24, 25, 26, 27, 28, 29, 30, 31, 32, 33, 34, 35, 36, 37, 38, 39, 40, 41, 42, 43, 44, 45, 46] (by decide +kernel) (by decide +kernel)
set_option maxRecDepth 20000 in
theorem gX6_stake_X6_isYear : GoodIn wsX6_stake (wsV RX6 137 RX6 yX6_isYear wsX6_isYear) := goodIn_app (goodIn_of _ (by decide +kernel)) ggX6_stake_X6_isYear
set_option maxRecDepth 20000 in
theorem ggX6_stake_X6_stakeBy : GoodIn wsX6_stake wsX6_stakeBy := goodIn_r _ [16, 17, 18, 19, 20, 21, 22, 23, 24, 25, 26, 27, 28, 29, 30, 31, 32, 33, 34, 35, 36, 37, 38, 39, 40, 41, 42, 43, 44, 45, 46] (by decide +kernel) (by decide +kernel)
set_option maxRecDepth 20000 in
theorem gX6_stake_X6_stakeBy : GoodIn wsX6_stake (wsV RX6 140 RX6 yX6_stakeBy wsX6_stakeBy) := goodIn_app (goodIn_of _ (by decide +kernel)) ggX6_stake_X6_stakeBy
theorem dX6_stake_0 : decode cX6_stake 0 = .ok (.aload_n 0, 1) := by decide +kernel
theorem dX6_stake_1 : decode cX6_stake 1 = .ok (.iload_n 1, 1) := by decide +kernel
theorem dX6_stake_2 : decode cX6_stake 2 = .ok (.invokevirtual 131, 3) := by decide +kernel
theorem dX6_stake_5 : decode cX6_stake 5 = .ok (.ifCond .ne 5, 3) := by decide +kernel
theorem dX6_stake_8 : decode cX6_stake 8 = .ok (.iconst (-1), 1) := by decide +kernel
theorem dX6_stake_9 : decode cX6_stake 9 = .ok (.ireturn, 1) := by decide +kernel
theorem dX6_stake_10 : decode cX6_stake 10 = .ok (.aload_n 0, 1) := by decide +kernel
theorem dX6_stake_11 : decode cX6_stake 11 = .ok (.iload_n 2, 1) := by decide +kernel
theorem dX6_stake_12 : decode cX6_stake 12 = .ok (.invokevirtual 137, 3) := by decide +kernel
theorem dX6_stake_15 : decode cX6_stake 15 = .ok (.ifCond .ne 6, 3) := by decide +kernel
theorem dX6_stake_18 : decode cX6_stake 18 = .ok (.bipush (-2), 2) := by decide +kernel
theorem dX6_stake_20 : decode cX6_stake 20 = .ok (.ireturn, 1) := by decide +kernel
theorem dX6_stake_21 : decode cX6_stake 21 = .ok (.aload_n 0, 1) := by decide +kernel
theorem dX6_stake_22 : decode cX6_stake 22 = .ok (.getfield 37, 3) := by decide +kernel
theorem dX6_stake_25 : decode cX6_stake 25 = .ok (.iload_n 1, 1) := by decide +kernel
theorem dX6_stake_26 : decode cX6_stake 26 = .ok (.iaload, 1) := by decide +kernel
theorem dX6_stake_27 : decode cX6_stake 27 = .ok (.bipush (-9), 2) := by decide +kernel
theorem dX6_stake_29 : decode cX6_stake 29 = .ok (.if_icmp .eq 13, 3) := by decide +kernel
theorem dX6_stake_32 : decode cX6_stake 32 = .ok (.aload_n 0, 1) := by decide +kernel
theorem dX6_stake_33 : decode cX6_stake 33 = .ok (.getfield 37, 3) := by decide +kernel
theorem dX6_stake_36 : decode cX6_stake 36 = .ok (.iload_n 1, 1) := by decide +kernel
theorem dX6_stake_37 : decode cX6_stake 37 = .ok (.iaload, 1) := by decide +kernel
theorem dX6_stake_38 : decode cX6_stake 38 = .ok (.iload_n 2, 1) := by decide +kernel
theorem dX6_stake_39 : decode cX6_stake 39 = .ok (.if_icmp .le 8, 3) := by decide +kernel
theorem dX6_stake_42 : decode cX6_stake 42 = .ok (.bipush (-9), 2) := by decide +kernel
theorem dX6_stake_44 : decode cX6_stake 44 = .ok (.goto 15, 3) := by decide +kernel
theorem dX6_stake_47 : decode cX6_stake 47 = .ok (.aload_n 0, 1) := by decide +kernel
theorem dX6_stake_48 : decode cX6_stake 48 = .ok (.iload_n 1, 1) := by decide +kernel
theorem dX6_stake_49 : decode cX6_stake 49 = .ok (.aload_n 0, 1) := by decide +kernel
theorem dX6_stake_50 : decode cX6_stake 50 = .ok (.getfield 37, 3) := by decide +kernel
theorem dX6_stake_53 : decode cX6_stake 53 = .ok (.iload_n 1, 1) := by decide +kernel
theorem dX6_stake_54 : decode cX6_stake 54 = .ok (.iaload, 1) := by decide +kernel
theorem dX6_stake_55 : decode cX6_stake 55 = .ok (.iload_n 2, 1) := by decide +kernel
theorem dX6_stake_56 : decode cX6_stake 56 = .ok (.invokevirtual 140, 3) := by decide +kernel
theorem dX6_stake_59 : decode cX6_stake 59 = .ok (.ireturn, 1) := by decide +kernel
theorem dX6_askNow_0 : decode cX6_askNow 0 = .ok (.iconst 0, 1) := by decide +kernel
theorem dX6_askNow_1 : decode cX6_askNow 1 = .ok (.istore_n 1, 1) := by decide +kernel
theorem dX6_askNow_2 : decode cX6_askNow 2 = .ok (.iload_n 1, 1) := by decide +kernel
theorem dX6_askNow_3 : decode cX6_askNow 3 = .ok (.aload_n 0, 1) := by decide +kernel
theorem dX6_askNow_4 : decode cX6_askNow 4 = .ok (.getfield 78, 3) := by decide +kernel
theorem dX6_askNow_7 : decode cX6_askNow 7 = .ok (.if_icmp .ge 39, 3) := by decide +kernel
theorem dX6_askNow_10 : decode cX6_askNow 10 = .ok (.aload_n 0, 1) := by decide +kernel
theorem dX6_askNow_11 : decode cX6_askNow 11 = .ok (.getfield 46, 3) := by decide +kernel
theorem dX6_askNow_14 : decode cX6_askNow 14 = .ok (.iload_n 1, 1) := by decide +kernel
theorem dX6_askNow_15 : decode cX6_askNow 15 = .ok (.aload_n 0, 1) := by decide +kernel
theorem dX6_askNow_16 : decode cX6_askNow 16 = .ok (.getfield 37, 3) := by decide +kernel
theorem dX6_askNow_19 : decode cX6_askNow 19 = .ok (.iload_n 1, 1) := by decide +kernel
theorem dX6_askNow_20 : decode cX6_askNow 20 = .ok (.iaload, 1) := by decide +kernel
theorem dX6_askNow_21 : decode cX6_askNow 21 = .ok (.bipush (-9), 2) := by decide +kernel
theorem dX6_askNow_23 : decode cX6_askNow 23 = .ok (.if_icmp .ne 10, 3) := by decide +kernel
theorem dX6_askNow_26 : decode cX6_askNow 26 = .ok (.aload_n 0, 1) := by decide +kernel
theorem dX6_askNow_27 : decode cX6_askNow 27 = .ok (.getfield 75, 3) := by decide +kernel
theorem dX6_askNow_30 : decode cX6_askNow 30 = .ok (.goto 9, 3) := by decide +kernel
theorem dX6_askNow_33 : decode cX6_askNow 33 = .ok (.aload_n 0, 1) := by decide +kernel
theorem dX6_askNow_34 : decode cX6_askNow 34 = .ok (.getfield 37, 3) := by decide +kernel
theorem dX6_askNow_37 : decode cX6_askNow 37 = .ok (.iload_n 1, 1) := by decide +kernel
theorem dX6_askNow_38 : decode cX6_askNow 38 = .ok (.iaload, 1) := by decide +kernel
theorem dX6_askNow_39 : decode cX6_askNow 39 = .ok (.iastore, 1) := by decide +kernel
theorem dX6_askNow_40 : decode cX6_askNow 40 = .ok (.iinc 1 1, 3) := by decide +kernel
theorem dX6_askNow_43 : decode cX6_askNow 43 = .ok (.goto (-41), 3) := by decide +kernel
theorem dX6_askNow_46 : decode cX6_askNow 46 = .ok (.return_, 1) := by decide +kernel
set_option maxRecDepth 20000 in
theorem ggX6_stakesBy_X6_stakeBy : GoodIn wsX6_stakesBy wsX6_stakeBy := goodIn_r _ [8, 9, 10, 11, 12, 13, 14, 15, 16, 17, 18, 19, 20, 21, 22, 23, 24, 25, 26, 27, 28, 29, 30, 31, 32, 33, 34, 35, 36, 37, 38] (by decide +kernel) (by decide +kernel)
set_option maxRecDepth 20000 in
theorem gX6_stakesBy_X6_stakeBy : GoodIn wsX6_stakesBy (wsV RX6 140 RX6 yX6_stakeBy wsX6_stakeBy) := goodIn_app (goodIn_of _ (by decide +kernel)) ggX6_stakesBy_X6_stakeBy
theorem dX6_stakesBy_0 : decode cX6_stakesBy 0 = .ok (.iconst 0, 1) := by decide +kernel
theorem dX6_stakesBy_1 : decode cX6_stakesBy 1 = .ok (.istore_n 3, 1) := by decide +kernel
theorem dX6_stakesBy_2 : decode cX6_stakesBy 2 = .ok (.iconst 0, 1) := by decide +kernel
theorem dX6_stakesBy_3 : decode cX6_stakesBy 3 = .ok (.istore 4, 2) := by decide +kernel
theorem dX6_stakesBy_5 : decode cX6_stakesBy 5 = .ok (.iload 4, 2) := by decide +kernel
theorem dX6_stakesBy_7 : decode cX6_stakesBy 7 = .ok (.aload_n 0, 1) := by decide +kernel
theorem dX6_stakesBy_8 : decode cX6_stakesBy 8 = .ok (.getfield 78, 3) := by decide +kernel
theorem dX6_stakesBy_11 : decode cX6_stakesBy 11 = .ok (.if_icmp .ge 52, 3) := by decide +kernel
theorem dX6_stakesBy_14 : decode cX6_stakesBy 14 = .ok (.iload_n 3, 1) := by decide +kernel
theorem dX6_stakesBy_15 : decode cX6_stakesBy 15 = .ok (.aload_n 0, 1) := by decide +kernel
theorem dX6_stakesBy_16 : decode cX6_stakesBy 16 = .ok (.getfield 25, 3) := by decide +kernel
theorem dX6_stakesBy_19 : decode cX6_stakesBy 19 = .ok (.iload 4, 2) := by decide +kernel
theorem dX6_stakesBy_21 : decode cX6_stakesBy 21 = .ok (.iaload, 1) := by decide +kernel
theorem dX6_stakesBy_22 : decode cX6_stakesBy 22 = .ok (.iload_n 1, 1) := by decide +kernel
theorem dX6_stakesBy_23 : decode cX6_stakesBy 23 = .ok (.if_icmp .ne 31, 3) := by decide +kernel
theorem dX6_stakesBy_26 : decode cX6_stakesBy 26 = .ok (.aload_n 0, 1) := by decide +kernel
theorem dX6_stakesBy_27 : decode cX6_stakesBy 27 = .ok (.getfield 46, 3) := by decide +kernel
theorem dX6_stakesBy_30 : decode cX6_stakesBy 30 = .ok (.iload 4, 2) := by decide +kernel
theorem dX6_stakesBy_32 : decode cX6_stakesBy 32 = .ok (.iaload, 1) := by decide +kernel
theorem dX6_stakesBy_33 : decode cX6_stakesBy 33 = .ok (.iload_n 2, 1) := by decide +kernel
theorem dX6_stakesBy_34 : decode cX6_stakesBy 34 = .ok (.if_icmp .gt 20, 3) := by decide +kernel
theorem dX6_stakesBy_37 : decode cX6_stakesBy 37 = .ok (.aload_n 0, 1) := by decide +kernel
theorem dX6_stakesBy_38 : decode cX6_stakesBy 38 = .ok (.iload 4, 2) := by decide +kernel
theorem dX6_stakesBy_40 : decode cX6_stakesBy 40 = .ok (.aload_n 0, 1) := by decide +kernel
theorem dX6_stakesBy_41 : decode cX6_stakesBy 41 = .ok (.getfield 46, 3) := by decide +kernel
theorem dX6_stakesBy_44 : decode cX6_stakesBy 44 = .ok (.iload 4, 2) := by decide +kernel
theorem dX6_stakesBy_46 : decode cX6_stakesBy 46 = .ok (.iaload, 1) := by decide +kernel
theorem dX6_stakesBy_47 : decode cX6_stakesBy 47 = .ok (.iload_n 2, 1) := by decide +kernel
theorem dX6_stakesBy_48 : decode cX6_stakesBy 48 = .ok (.invokevirtual 140, 3) := by decide +kernel
theorem dX6_stakesBy_51 : decode cX6_stakesBy 51 = .ok (.goto 4, 3) := by decide +kernel
theorem dX6_stakesBy_54 : decode cX6_stakesBy 54 = .ok (.iconst 0, 1) := by decide +kernel
theorem dX6_stakesBy_55 : decode cX6_stakesBy 55 = .ok (.iadd, 1) := by decide +kernel
theorem dX6_stakesBy_56 : decode cX6_stakesBy 56 = .ok (.istore_n 3, 1) := by decide +kernel
theorem dX6_stakesBy_57 : decode cX6_stakesBy 57 = .ok (.iinc 4 1, 3) := by decide +kernel
theorem dX6_stakesBy_60 : decode cX6_stakesBy 60 = .ok (.goto (-55), 3) := by decide +kernel
theorem dX6_stakesBy_63 : decode cX6_stakesBy 63 = .ok (.iload_n 3, 1) := by decide +kernel
theorem dX6_stakesBy_64 : decode cX6_stakesBy 64 = .ok (.ireturn, 1) := by decide +kernel
set_option maxRecDepth 20000 in
theorem ggX6_isTempted_X6_stakesBy : GoodIn wsX6_isTempted wsX6_stakesBy := goodIn_r _ [6, 7, 8, 9, 10, 11, 12, 5, 13, 14, 15, 16, 17, 18, 19, 20, 21, 22, 23, 24, 25, 26, 27, 28, 29, 30, 31, 32, 33, 34, 35, 36, 37, 38, 39, 40, 41, 42, 43] (by decide +kernel) (by decide +kernel)
set_option maxRecDepth 20000 in
theorem gX6_isTempted_X6_stakesBy : GoodIn wsX6_isTempted (wsV RX6 143 RX6 yX6_stakesBy wsX6_stakesBy) := goodIn_app (goodIn_of _ (by decide +kernel)) ggX6_isTempted_X6_stakesBy
theorem dX6_isTempted_0 : decode cX6_isTempted 0 = .ok (.aload_n 0, 1) := by decide +kernel
theorem dX6_isTempted_1 : decode cX6_isTempted 1 = .ok (.getfield 19, 3) := by decide +kernel
theorem dX6_isTempted_4 : decode cX6_isTempted 4 = .ok (.bipush 6, 2) := by decide +kernel
theorem dX6_isTempted_6 : decode cX6_isTempted 6 = .ok (.iload_n 1, 1) := by decide +kernel
theorem dX6_isTempted_7 : decode cX6_isTempted 7 = .ok (.imul, 1) := by decide +kernel
theorem dX6_isTempted_8 : decode cX6_isTempted 8 = .ok (.iload_n 2, 1) := by decide +kernel
theorem dX6_isTempted_9 : decode cX6_isTempted 9 = .ok (.iadd, 1) := by decide +kernel
theorem dX6_isTempted_10 : decode cX6_isTempted 10 = .ok (.iaload, 1) := by decide +kernel
theorem dX6_isTempted_11 : decode cX6_isTempted 11 = .ok (.aload_n 0, 1) := by decide +kernel
theorem dX6_isTempted_12 : decode cX6_isTempted 12 = .ok (.iload_n 1, 1) := by decide +kernel
theorem dX6_isTempted_13 : decode cX6_isTempted 13 = .ok (.iload_n 2, 1) := by decide +kernel
theorem dX6_isTempted_14 : decode cX6_isTempted 14 = .ok (.invokevirtual 143, 3) := by decide +kernel
theorem dX6_isTempted_17 : decode cX6_isTempted 17 = .ok (.if_icmp .le 7, 3) := by decide +kernel
theorem dX6_isTempted_20 : decode cX6_isTempted 20 = .ok (.iconst 1, 1) := by decide +kernel
theorem dX6_isTempted_21 : decode cX6_isTempted 21 = .ok (.goto 4, 3) := by decide +kernel
theorem dX6_isTempted_24 : decode cX6_isTempted 24 = .ok (.iconst 0, 1) := by decide +kernel
theorem dX6_isTempted_25 : decode cX6_isTempted 25 = .ok (.ireturn, 1) := by decide +kernel
set_option maxRecDepth 20000 in
theorem ggX6_stakes_X6_isCourt : GoodIn wsX6_stakes wsX6_isCourt := goodIn_r _ [5, 6, 31, 32, 33, 34, 35, 36, 37, 38, 39, 40, 41, 42, 43, 44, 45, 46, 47, 48, 49, 50, 51, 52, 53, 54, 55, 56, 57] (by decide +kernel) (by decide +kernel)
set_option maxRecDepth 20000 in
theorem gX6_stakes_X6_isCourt : GoodIn wsX6_stakes (wsV RX6 134 RX6 yX6_isCourt wsX6_isCourt) := goodIn_app (goodIn_of _ (by decide +kernel)) ggX6_stakes_X6_isCourt
set_option maxRecDepth 20000 in
theorem ggX6_stakes_X6_isYear : GoodIn wsX6_stakes wsX6_isYear := goodIn_r _ [10, 11, 31, 32, 33, 34, 35, 36, 37, 38, 39, 40, 41, 42, 43, 44, 45, 46, 47, 48, 49, 50, 51, 52, 53, 54, 55, 56, 57] (by decide +kernel) (by decide +kernel)
set_option maxRecDepth 20000 in
theorem gX6_stakes_X6_isYear : GoodIn wsX6_stakes (wsV RX6 137 RX6 yX6_isYear wsX6_isYear) := goodIn_app (goodIn_of _ (by decide +kernel)) ggX6_stakes_X6_isYear
set_option maxRecDepth 20000 in
theorem ggX6_stakes_X6_askNow : GoodIn wsX6_stakes wsX6_askNow := goodIn_r _ [15, 16, 17, 18, 11, 31, 32, 33, 34, 35, 36, 37, 38, 39, 40, 41, 42, 43, 44, 45, 46, 47, 48, 49, 50, 51, 52, 53, 54, 55, 56, 57] (by decide +kernel) (by decide +kernel)
set_option maxRecDepth 20000 in
theorem gX6_stakes_X6_askNow : GoodIn wsX6_stakes (wsV RX6 147 RX6 yX6_askNow wsX6_askNow) := goodIn_app (goodIn_of _ (by decide +kernel)) ggX6_stakes_X6_askNow
set_option maxRecDepth 20000 in
theorem ggX6_stakes_X6_stakesBy : GoodIn wsX6_stakes wsX6_stakesBy := goodIn_r _ [22, 16, 23, 17, 24, 25, 26, 4, 27, 28, 29, 30, 31, 32, 33, 34, 35, 36, 37, 38, 39, 40, 41, 42, 43, 44, 45, 46, 47, 48, 49, 50, 51, 52, 53, 54, 55, 56, 57] (by decide +kernel) (by decide +kernel)
set_option maxRecDepth 20000 in
theorem gX6_stakes_X6_stakesBy : GoodIn wsX6_stakes (wsV RX6 143 RX6 yX6_stakesBy wsX6_stakesBy) := goodIn_app (goodIn_of _ (by decide +kernel)) ggX6_stakes_X6_stakesBy
theorem dX6_stakes_0 : decode cX6_stakes 0 = .ok (.aload_n 0, 1) := by decide +kernel
theorem dX6_stakes_1 : decode cX6_stakes 1 = .ok (.iload_n 1, 1) := by decide +kernel
theorem dX6_stakes_2 : decode cX6_stakes 2 = .ok (.invokevirtual 134, 3) := by decide +kernel
theorem dX6_stakes_5 : decode cX6_stakes 5 = .ok (.ifCond .ne 5, 3) := by decide +kernel
theorem dX6_stakes_8 : decode cX6_stakes 8 = .ok (.iconst (-1), 1) := by decide +kernel
theorem dX6_stakes_9 : decode cX6_stakes 9 = .ok (.ireturn, 1) := by decide +kernel
theorem dX6_stakes_10 : decode cX6_stakes 10 = .ok (.aload_n 0, 1) := by decide +kernel
theorem dX6_stakes_11 : decode cX6_stakes 11 = .ok (.iload_n 2, 1) := by decide +kernel
theorem dX6_stakes_12 : decode cX6_stakes 12 = .ok (.invokevirtual 137, 3) := by decide +kernel
theorem dX6_stakes_15 : decode cX6_stakes 15 = .ok (.ifCond .ne 6, 3) := by decide +kernel
theorem dX6_stakes_18 : decode cX6_stakes 18 = .ok (.bipush (-2), 2) := by decide +kernel
theorem dX6_stakes_20 : decode cX6_stakes 20 = .ok (.ireturn, 1) := by decide +kernel
theorem dX6_stakes_21 : decode cX6_stakes 21 = .ok (.aload_n 0, 1) := by decide +kernel
theorem dX6_stakes_22 : decode cX6_stakes 22 = .ok (.invokevirtual 147, 3) := by decide +kernel
theorem dX6_stakes_25 : decode cX6_stakes 25 = .ok (.aload_n 0, 1) := by decide +kernel
theorem dX6_stakes_26 : decode cX6_stakes 26 = .ok (.iload_n 1, 1) := by decide +kernel
theorem dX6_stakes_27 : decode cX6_stakes 27 = .ok (.iload_n 2, 1) := by decide +kernel
theorem dX6_stakes_28 : decode cX6_stakes 28 = .ok (.invokevirtual 143, 3) := by decide +kernel
theorem dX6_stakes_31 : decode cX6_stakes 31 = .ok (.ireturn, 1) := by decide +kernel
set_option maxRecDepth 20000 in
theorem ggX6_temptedSet_X6_isTempted : GoodIn wsX6_temptedSet wsX6_isTempted := goodIn_r _ [6, 7, 8, 9, 10, 5, 11, 12, 13, 14, 15, 16, 17, 18, 19, 20, 21, 22, 23, 24, 25, 26, 27, 28, 29, 30, 31, 32, 33, 34, 35, 36, 37, 38, 39, 40, 41, 42, 43, 44, 45, 46, 47, 48] (by decide +kernel) (by decide +kernel)
set_option maxRecDepth 20000 in
theorem gX6_temptedSet_X6_isTempted : GoodIn wsX6_temptedSet (wsV RX6 150 RX6 yX6_isTempted wsX6_isTempted) := goodIn_app (goodIn_of _ (by decide +kernel)) ggX6_temptedSet_X6_isTempted
theorem dX6_temptedSet_0 : decode cX6_temptedSet 0 = .ok (.iconst 0, 1) := by decide +kernel
theorem dX6_temptedSet_1 : decode cX6_temptedSet 1 = .ok (.istore_n 2, 1) := by decide +kernel
theorem dX6_temptedSet_2 : decode cX6_temptedSet 2 = .ok (.iconst 0, 1) := by decide +kernel
theorem dX6_temptedSet_3 : decode cX6_temptedSet 3 = .ok (.istore_n 3, 1) := by decide +kernel
theorem dX6_temptedSet_4 : decode cX6_temptedSet 4 = .ok (.iload_n 3, 1) := by decide +kernel
theorem dX6_temptedSet_5 : decode cX6_temptedSet 5 = .ok (.aload_n 0, 1) := by decide +kernel
theorem dX6_temptedSet_6 : decode cX6_temptedSet 6 = .ok (.getfield 72, 3) := by decide +kernel
theorem dX6_temptedSet_9 : decode cX6_temptedSet 9 = .ok (.if_icmp .ge 28, 3) := by decide +kernel
theorem dX6_temptedSet_12 : decode cX6_temptedSet 12 = .ok (.iload_n 2, 1) := by decide +kernel
theorem dX6_temptedSet_13 : decode cX6_temptedSet 13 = .ok (.aload_n 0, 1) := by decide +kernel
theorem dX6_temptedSet_14 : decode cX6_temptedSet 14 = .ok (.iload_n 3, 1) := by decide +kernel
theorem dX6_temptedSet_15 : decode cX6_temptedSet 15 = .ok (.iload_n 1, 1) := by decide +kernel
theorem dX6_temptedSet_16 : decode cX6_temptedSet 16 = .ok (.invokevirtual 150, 3) := by decide +kernel
theorem dX6_temptedSet_19 : decode cX6_temptedSet 19 = .ok (.ifCond .eq 9, 3) := by decide +kernel
theorem dX6_temptedSet_22 : decode cX6_temptedSet 22 = .ok (.iconst 1, 1) := by decide +kernel
theorem dX6_temptedSet_23 : decode cX6_temptedSet 23 = .ok (.iload_n 3, 1) := by decide +kernel
theorem dX6_temptedSet_24 : decode cX6_temptedSet 24 = .ok (.ishl, 1) := by decide +kernel
theorem dX6_temptedSet_25 : decode cX6_temptedSet 25 = .ok (.goto 4, 3) := by decide +kernel
theorem dX6_temptedSet_28 : decode cX6_temptedSet 28 = .ok (.iconst 0, 1) := by decide +kernel
theorem dX6_temptedSet_29 : decode cX6_temptedSet 29 = .ok (.ior, 1) := by decide +kernel
theorem dX6_temptedSet_30 : decode cX6_temptedSet 30 = .ok (.istore_n 2, 1) := by decide +kernel
theorem dX6_temptedSet_31 : decode cX6_temptedSet 31 = .ok (.iinc 3 1, 3) := by decide +kernel
theorem dX6_temptedSet_34 : decode cX6_temptedSet 34 = .ok (.goto (-30), 3) := by decide +kernel
theorem dX6_temptedSet_37 : decode cX6_temptedSet 37 = .ok (.iload_n 2, 1) := by decide +kernel
theorem dX6_temptedSet_38 : decode cX6_temptedSet 38 = .ok (.ireturn, 1) := by decide +kernel
set_option maxRecDepth 20000 in
theorem ggX6_tempted_X6_isYear : GoodIn wsX6_tempted wsX6_isYear := goodIn_r _ [6, 7, 36, 37, 38, 39, 40, 41, 42, 43, 44, 45, 46, 47, 48, 49, 50, 51, 52, 53, 54, 55, 56, 57, 58, 59, 60, 61, 62] (by decide +kernel) (by decide +kernel)
set_option maxRecDepth 20000 in
theorem gX6_tempted_X6_isYear : GoodIn wsX6_tempted (wsV RX6 137 RX6 yX6_isYear wsX6_isYear) := goodIn_app (goodIn_of _ (by decide +kernel)) ggX6_tempted_X6_isYear
set_option maxRecDepth 20000 in
theorem ggX6_tempted_X6_askNow : GoodIn wsX6_tempted wsX6_askNow := goodIn_r _ [11, 12, 13, 14, 7, 36, 37, 38, 39, 40, 41, 42, 43, 44, 45, 46, 47, 48, 49, 50, 51, 52, 53, 54, 55, 56, 57, 58, 59, 60, 61, 62] (by decide +kernel) (by decide +kernel)
set_option maxRecDepth 20000 in
theorem gX6_tempted_X6_askNow : GoodIn wsX6_tempted (wsV RX6 147 RX6 yX6_askNow wsX6_askNow) := goodIn_app (goodIn_of _ (by decide +kernel)) ggX6_tempted_X6_askNow
set_option maxRecDepth 20000 in
theorem ggX6_tempted_X6_temptedSet : GoodIn wsX6_tempted wsX6_temptedSet := goodIn_r _ [18, 1, 19, 20, 21, 5, 22, 23, 24, 25, 26, 27, 12, 28, 13, 29, 30, 31, 32, 33, 34, 35, 36, 37, 38, 39, 40, 41, 42, 43, 44, 45, 46, 47, 48, 49, 50, 51, 52, 53, 54, 55, 56, 57, 58, 59, 60, 61, 62] (by decide +kernel) (by decide +kernel)
set_option maxRecDepth 20000 in
theorem gX6_tempted_X6_temptedSet : GoodIn wsX6_tempted (wsV RX6 153 RX6 yX6_temptedSet wsX6_temptedSet) := goodIn_app (goodIn_of _ (by decide +kernel)) ggX6_tempted_X6_temptedSet
theorem dX6_tempted_0 : decode cX6_tempted 0 = .ok (.aload_n 0, 1) := by decide +kernel
theorem dX6_tempted_1 : decode cX6_tempted 1 = .ok (.getfield 72, 3) := by decide +kernel
