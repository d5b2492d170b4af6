theorem dX6_tempted_4 : decode cX6_tempted 4 = .ok (.ifCond .ne 6, 3) := by decide +kernel
theorem dX6_tempted_7 : decode cX6_tempted 7 = .ok (.bipush (-3), 2) := by decide +kernel
theorem dX6_tempted_9 : decode cX6_tempted 9 = .ok (.ireturn, 1) := by decide +kernel
theorem dX6_tempted_10 : decode cX6_tempted 10 = .ok (.aload_n 0, 1) := by decide +kernel
theorem dX6_tempted_11 : decode cX6_tempted 11 = .ok (.iload_n 1, 1) := by decide +kernel
theorem dX6_tempted_12 : decode cX6_tempted 12 = .ok (.invokevirtual 137, 3) := by decide +kernel
theorem dX6_tempted_15 : decode cX6_tempted 15 = .ok (.ifCond .ne 6, 3) := by decide +kernel
theorem dX6_tempted_18 : decode cX6_tempted 18 = .ok (.bipush (-2), 2) := by decide +kernel
theorem dX6_tempted_20 : decode cX6_tempted 20 = .ok (.ireturn, 1) := by decide +kernel
theorem dX6_tempted_21 : decode cX6_tempted 21 = .ok (.aload_n 0, 1) := by decide +kernel
theorem dX6_tempted_22 : decode cX6_tempted 22 = .ok (.invokevirtual 147, 3) := by decide +kernel
theorem dX6_tempted_25 : decode cX6_tempted 25 = .ok (.aload_n 0, 1) := by decide +kernel
theorem dX6_tempted_26 : decode cX6_tempted 26 = .ok (.iload_n 1, 1) := by decide +kernel
theorem dX6_tempted_27 : decode cX6_tempted 27 = .ok (.invokevirtual 153, 3) := by decide +kernel
theorem dX6_tempted_30 : decode cX6_tempted 30 = .ok (.ireturn, 1) := by decide +kernel
set_option maxRecDepth 20000 in
theorem ggX6_breakYear_X6_temptedSet : GoodIn wsX6_breakYear wsX6_temptedSet := goodIn_r _ [6, 7, 8, 9, 10, 5, 11, 12, 13, 14, 15, 16, 17, 18, 19, 20, 21, 22, 23, 24, 25, 26, 27, 28, 29, 30, 31, 32, 33, 34, 35, 36, 37, 38, 39, 40, 41, 42, 43, 44, 45, 46, 47, 48, 49, 50, 51, 52, 53] (by decide +kernel) (by decide +kernel)
set_option maxRecDepth 20000 in
theorem gX6_breakYear_X6_temptedSet : GoodIn wsX6_breakYear (wsV RX6 153 RX6 yX6_temptedSet wsX6_temptedSet) := goodIn_app (goodIn_of _ (by decide +kernel)) ggX6_breakYear_X6_temptedSet
theorem dX6_breakYear_0 : decode cX6_breakYear 0 = .ok (.iconst 0, 1) := by decide +kernel
theorem dX6_breakYear_1 : decode cX6_breakYear 1 = .ok (.istore_n 1, 1) := by decide +kernel
theorem dX6_breakYear_2 : decode cX6_breakYear 2 = .ok (.iload_n 1, 1) := by decide +kernel
theorem dX6_breakYear_3 : decode cX6_breakYear 3 = .ok (.aload_n 0, 1) := by decide +kernel
theorem dX6_breakYear_4 : decode cX6_breakYear 4 = .ok (.getfield 75, 3) := by decide +kernel
theorem dX6_breakYear_7 : decode cX6_breakYear 7 = .ok (.if_icmp .ge 19, 3) := by decide +kernel
theorem dX6_breakYear_10 : decode cX6_breakYear 10 = .ok (.aload_n 0, 1) := by decide +kernel
theorem dX6_breakYear_11 : decode cX6_breakYear 11 = .ok (.iload_n 1, 1) := by decide +kernel
theorem dX6_breakYear_12 : decode cX6_breakYear 12 = .ok (.invokevirtual 153, 3) := by decide +kernel
theorem dX6_breakYear_15 : decode cX6_breakYear 15 = .ok (.ifCond .eq 5, 3) := by decide +kernel
theorem dX6_breakYear_18 : decode cX6_breakYear 18 = .ok (.iload_n 1, 1) := by decide +kernel
theorem dX6_breakYear_19 : decode cX6_breakYear 19 = .ok (.ireturn, 1) := by decide +kernel
theorem dX6_breakYear_20 : decode cX6_breakYear 20 = .ok (.iinc 1 1, 3) := by decide +kernel
theorem dX6_breakYear_23 : decode cX6_breakYear 23 = .ok (.goto (-21), 3) := by decide +kernel
theorem dX6_breakYear_26 : decode cX6_breakYear 26 = .ok (.bipush (-9), 2) := by decide +kernel
theorem dX6_breakYear_28 : decode cX6_breakYear 28 = .ok (.ireturn, 1) := by decide +kernel
set_option maxRecDepth 20000 in
theorem ggX6_breakCourt_X6_breakYear : GoodIn wsX6_breakCourt wsX6_breakYear := goodIn_r _ [6, 7, 8, 9, 10, 5, 11, 1, 12, 13, 14, 15, 16, 17, 18, 19, 20, 21, 22, 23, 24, 25, 26, 27, 28, 29, 30, 31, 32, 33, 34, 35, 36, 37, 38, 39, 40, 41, 42, 43, 44, 45, 46, 47, 48, 49, 50, 51, 52, 53, 54, 55, 56, 57] (by decide +kernel) (by decide +kernel)
set_option maxRecDepth 20000 in
theorem gX6_breakCourt_X6_breakYear : GoodIn wsX6_breakCourt (wsV RX6 156 RX6 yX6_breakYear wsX6_breakYear) := goodIn_app (goodIn_of _ (by decide +kernel)) ggX6_breakCourt_X6_breakYear
set_option maxRecDepth 20000 in
theorem ggX6_breakCourt_X6_isTempted : GoodIn wsX6_breakCourt wsX6_isTempted := goodIn_r _ [15, 16, 17, 18, 19, 5, 20, 21, 22, 23, 24, 25, 26, 27, 28, 29, 30, 31, 32, 33, 34, 35, 36, 37, 38, 39, 40, 41, 42, 43, 44, 45, 46, 47, 48, 49, 50, 51, 52, 53, 54, 55, 56, 57] (by decide +kernel) (by decide +kernel)
set_option maxRecDepth 20000 in
theorem gX6_breakCourt_X6_isTempted : GoodIn wsX6_breakCourt (wsV RX6 150 RX6 yX6_isTempted wsX6_isTempted) := goodIn_app (goodIn_of _ (by decide +kernel)) ggX6_breakCourt_X6_isTempted
theorem dX6_breakCourt_0 : decode cX6_breakCourt 0 = .ok (.aload_n 0, 1) := by decide +kernel
theorem dX6_breakCourt_1 : decode cX6_breakCourt 1 = .ok (.invokevirtual 156, 3) := by decide +kernel
theorem dX6_breakCourt_4 : decode cX6_breakCourt 4 = .ok (.istore_n 1, 1) := by decide +kernel
theorem dX6_breakCourt_5 : decode cX6_breakCourt 5 = .ok (.iconst 0, 1) := by decide +kernel
theorem dX6_breakCourt_6 : decode cX6_breakCourt 6 = .ok (.istore_n 2, 1) := by decide +kernel
theorem dX6_breakCourt_7 : decode cX6_breakCourt 7 = .ok (.iload_n 2, 1) := by decide +kernel
theorem dX6_breakCourt_8 : decode cX6_breakCourt 8 = .ok (.aload_n 0, 1) := by decide +kernel
theorem dX6_breakCourt_9 : decode cX6_breakCourt 9 = .ok (.getfield 72, 3) := by decide +kernel
theorem dX6_breakCourt_12 : decode cX6_breakCourt 12 = .ok (.if_icmp .ge 26, 3) := by decide +kernel
theorem dX6_breakCourt_15 : decode cX6_breakCourt 15 = .ok (.iload_n 1, 1) := by decide +kernel
theorem dX6_breakCourt_16 : decode cX6_breakCourt 16 = .ok (.bipush (-9), 2) := by decide +kernel
theorem dX6_breakCourt_18 : decode cX6_breakCourt 18 = .ok (.if_icmp .eq 20, 3) := by decide +kernel
theorem dX6_breakCourt_21 : decode cX6_breakCourt 21 = .ok (.aload_n 0, 1) := by decide +kernel
theorem dX6_breakCourt_22 : decode cX6_breakCourt 22 = .ok (.iload_n 2, 1) := by decide +kernel
theorem dX6_breakCourt_23 : decode cX6_breakCourt 23 = .ok (.iload_n 1, 1) := by decide +kernel
theorem dX6_breakCourt_24 : decode cX6_breakCourt 24 = .ok (.invokevirtual 150, 3) := by decide +kernel
theorem dX6_breakCourt_27 : decode cX6_breakCourt 27 = .ok (.ifCond .eq 5, 3) := by decide +kernel
theorem dX6_breakCourt_30 : decode cX6_breakCourt 30 = .ok (.iload_n 2, 1) := by decide +kernel
theorem dX6_breakCourt_31 : decode cX6_breakCourt 31 = .ok (.ireturn, 1) := by decide +kernel
theorem dX6_breakCourt_32 : decode cX6_breakCourt 32 = .ok (.iinc 2 1, 3) := by decide +kernel
theorem dX6_breakCourt_35 : decode cX6_breakCourt 35 = .ok (.goto (-28), 3) := by decide +kernel
theorem dX6_breakCourt_38 : decode cX6_breakCourt 38 = .ok (.bipush (-9), 2) := by decide +kernel
theorem dX6_breakCourt_40 : decode cX6_breakCourt 40 = .ok (.ireturn, 1) := by decide +kernel
set_option maxRecDepth 20000 in
theorem ggX6_broken_X6_within : GoodIn wsX6_broken wsX6_within := goodIn_r _ [5] (by decide +kernel) (by decide +kernel)
set_option maxRecDepth 20000 in
theorem gX6_broken_X6_within : GoodIn wsX6_broken (va_wsS RX6 68 yX6_within wsX6_within) := goodIn_app (goodIn_of _ (by decide +kernel)) ggX6_broken_X6_within
set_option maxRecDepth 20000 in
theorem ggX6_broken_X6_askNow : GoodIn wsX6_broken wsX6_askNow := goodIn_r _ [9, 10, 11, 12, 13, 43, 44, 45, 46, 47, 48, 49, 50, 51, 52, 53, 54, 55, 56, 57, 58, 59, 60, 61, 62, 63, 64, 65, 66, 67, 68, 69] (by decide +kernel) (by decide +kernel)
set_option maxRecDepth 20000 in
theorem gX6_broken_X6_askNow : GoodIn wsX6_broken (wsV RX6 147 RX6 yX6_askNow wsX6_askNow) := goodIn_app (goodIn_of _ (by decide +kernel)) ggX6_broken_X6_askNow
set_option maxRecDepth 20000 in
theorem ggX6_broken_X6_breakYear : GoodIn wsX6_broken wsX6_breakYear := goodIn_r _ [17, 13, 18, 19, 20, 4, 21, 1, 22, 23, 24, 25, 26, 27, 28, 29, 30, 10, 31, 11, 32, 33, 34, 35, 36, 37, 38, 43, 44, 45, 46, 47, 48, 49, 50, 51, 52, 53, 54, 55, 56, 57, 58, 59, 60, 61, 62, 63, 64, 65, 66, 67, 68, 69] (by decide +kernel) (by decide +kernel)
set_option maxRecDepth 20000 in
theorem gX6_broken_X6_breakYear : GoodIn wsX6_broken (wsV RX6 156 RX6 yX6_breakYear wsX6_breakYear) := goodIn_app (goodIn_of _ (by decide +kernel)) ggX6_broken_X6_breakYear
set_option maxRecDepth 20000 in
theorem ggX6_broken_X6_breakCourt : GoodIn wsX6_broken wsX6_breakCourt := goodIn_r _ [42, 1, 14, 15, 16, 4, 17, 13, 18, 19, 20, 21, 22, 23, 24, 25, 26, 27, 28, 29, 30, 10, 31, 11, 32, 33, 34, 35, 36, 37, 38, 43, 44, 45, 46, 47, 48, 49, 50, 51, 52, 53, 54, 55, 56, 57, 58, 59, 60, 61, 62, 63, 64, 65, 66, 67, 68, 69] (by decide +kernel) (by decide +kernel)
set_option maxRecDepth 20000 in
theorem gX6_broken_X6_breakCourt : GoodIn wsX6_broken (wsV RX6 160 RX6 yX6_breakCourt wsX6_breakCourt) := goodIn_app (goodIn_of _ (by decide +kernel)) ggX6_broken_X6_breakCourt
theorem dX6_broken_0 : decode cX6_broken 0 = .ok (.iload_n 1, 1) := by decide +kernel
theorem dX6_broken_1 : decode cX6_broken 1 = .ok (.iconst 0, 1) := by decide +kernel
theorem dX6_broken_2 : decode cX6_broken 2 = .ok (.iconst 1, 1) := by decide +kernel
theorem dX6_broken_3 : decode cX6_broken 3 = .ok (.invokestatic 68, 3) := by decide +kernel
theorem dX6_broken_6 : decode cX6_broken 6 = .ok (.ifCond .ne 6, 3) := by decide +kernel
theorem dX6_broken_9 : decode cX6_broken 9 = .ok (.bipush (-2), 2) := by decide +kernel
theorem dX6_broken_11 : decode cX6_broken 11 = .ok (.ireturn, 1) := by decide +kernel
theorem dX6_broken_12 : decode cX6_broken 12 = .ok (.aload_n 0, 1) := by decide +kernel
theorem dX6_broken_13 : decode cX6_broken 13 = .ok (.getfield 72, 3) := by decide +kernel
theorem dX6_broken_16 : decode cX6_broken 16 = .ok (.ifCond .ne 6, 3) := by decide +kernel
theorem dX6_broken_19 : decode cX6_broken 19 = .ok (.bipush (-3), 2) := by decide +kernel
theorem dX6_broken_21 : decode cX6_broken 21 = .ok (.ireturn, 1) := by decide +kernel
theorem dX6_broken_22 : decode cX6_broken 22 = .ok (.aload_n 0, 1) := by decide +kernel
theorem dX6_broken_23 : decode cX6_broken 23 = .ok (.invokevirtual 147, 3) := by decide +kernel
theorem dX6_broken_26 : decode cX6_broken 26 = .ok (.iload_n 1, 1) := by decide +kernel
theorem dX6_broken_27 : decode cX6_broken 27 = .ok (.ifCond .ne 10, 3) := by decide +kernel
theorem dX6_broken_30 : decode cX6_broken 30 = .ok (.aload_n 0, 1) := by decide +kernel
theorem dX6_broken_31 : decode cX6_broken 31 = .ok (.invokevirtual 156, 3) := by decide +kernel
theorem dX6_broken_34 : decode cX6_broken 34 = .ok (.goto 7, 3) := by decide +kernel
theorem dX6_broken_37 : decode cX6_broken 37 = .ok (.aload_n 0, 1) := by decide +kernel
theorem dX6_broken_38 : decode cX6_broken 38 = .ok (.invokevirtual 160, 3) := by decide +kernel
theorem dX6_broken_41 : decode cX6_broken 41 = .ok (.ireturn, 1) := by decide +kernel
set_option maxRecDepth 20000 in
theorem ggX6_plan_X6_isSheet : GoodIn wsX6_plan wsX6_isSheet := goodIn_r _ [10, 11, 12, 9, 13] (by decide +kernel) (by decide +kernel)
set_option maxRecDepth 20000 in
theorem gX6_plan_X6_isSheet : GoodIn wsX6_plan (va_wsS RX6 84 yX6_isSheet wsX6_isSheet) := goodIn_app (goodIn_of _ (by decide +kernel)) ggX6_plan_X6_isSheet
set_option maxRecDepth 20000 in
theorem ggX6_plan_X6_isSort : GoodIn wsX6_plan wsX6_isSort := goodIn_r _ [16, 11, 12, 9, 13] (by decide +kernel) (by decide +kernel)
set_option maxRecDepth 20000 in
theorem gX6_plan_X6_isSort : GoodIn wsX6_plan (va_wsS RX6 88 yX6_isSort wsX6_isSort) := goodIn_app (goodIn_of _ (by decide +kernel)) ggX6_plan_X6_isSort
set_option maxRecDepth 20000 in
theorem ggX6_plan_X6_within : GoodIn wsX6_plan wsX6_within := goodIn_r _ [13] (by decide +kernel) (by decide +kernel)
set_option maxRecDepth 20000 in
theorem gX6_plan_X6_within : GoodIn wsX6_plan (va_wsS RX6 68 yX6_within wsX6_within) := goodIn_app (goodIn_of _ (by decide +kernel)) ggX6_plan_X6_within
set_option maxRecDepth 20000 in
theorem ggX6_plan_X6_against : GoodIn wsX6_plan wsX6_against := goodIn_r _ [20, 21, 22, 64, 65, 66, 67, 68, 69, 70, 71, 72, 73, 74, 75, 76, 77, 78, 79, 80, 81, 82, 83, 84, 85, 86, 87, 88, 89, 90] (by decide +kernel) (by decide +kernel)
set_option maxRecDepth 20000 in
theorem gX6_plan_X6_against : GoodIn wsX6_plan (wsV RX6 91 RX6 yX6_against wsX6_against) := goodIn_app (goodIn_of _ (by decide +kernel)) ggX6_plan_X6_against
set_option maxRecDepth 20000 in
theorem ggX6_plan_X6_fails : GoodIn wsX6_plan wsX6_fails := goodIn_r _ [26, 1, 64, 65, 66, 67, 68, 69, 70, 71, 72, 73, 74, 75, 76, 77, 78, 79, 80, 81, 82, 83, 84, 85, 86, 87, 88, 89, 90] (by decide +kernel) (by decide +kernel)
set_option maxRecDepth 20000 in
theorem gX6_plan_X6_fails : GoodIn wsX6_plan (wsV RX6 95 RX6 yX6_fails wsX6_fails) := goodIn_app (goodIn_of _ (by decide +kernel)) ggX6_plan_X6_fails
set_option maxRecDepth 20000 in
theorem ggX6_plan_X6_tellPlan : GoodIn wsX6_plan wsX6_tellPlan := goodIn_r _ [30, 3, 4, 6, 31, 32, 33, 9, 34, 35, 36, 37, 38, 2, 39, 40, 41, 42, 43, 44, 45, 46, 47, 48, 49, 50, 51, 52, 53, 54, 55, 56, 57, 58, 59, 60, 61, 62, 63, 64, 65, 66, 67, 68, 69, 70, 71, 72, 73, 74, 75, 76, 77, 78, 79, 80, 81, 82, 83, 84, 85, 86, 87, 88, 89, 90] (by decide +kernel) (by decide +kernel)
set_option maxRecDepth 20000 in
theorem gX6_plan_X6_tellPlan : GoodIn wsX6_plan (wsV RX6 163 RX6 yX6_tellPlan wsX6_tellPlan) := goodIn_app (goodIn_of _ (by decide +kernel)) ggX6_plan_X6_tellPlan
theorem dX6_plan_0 : decode cX6_plan 0 = .ok (.aload_n 0, 1) := by decide +kernel
theorem dX6_plan_1 : decode cX6_plan 1 = .ok (.iconst 0, 1) := by decide +kernel
theorem dX6_plan_2 : decode cX6_plan 2 = .ok (.putfield 62, 3) := by decide +kernel
theorem dX6_plan_5 : decode cX6_plan 5 = .ok (.iload_n 1, 1) := by decide +kernel
theorem dX6_plan_6 : decode cX6_plan 6 = .ok (.invokestatic 84, 3) := by decide +kernel
theorem dX6_plan_9 : decode cX6_plan 9 = .ok (.ifCond .ne 5, 3) := by decide +kernel
theorem dX6_plan_12 : decode cX6_plan 12 = .ok (.iconst (-1), 1) := by decide +kernel
theorem dX6_plan_13 : decode cX6_plan 13 = .ok (.ireturn, 1) := by decide +kernel
theorem dX6_plan_14 : decode cX6_plan 14 = .ok (.iload_n 2, 1) := by decide +kernel
theorem dX6_plan_15 : decode cX6_plan 15 = .ok (.invokestatic 88, 3) := by decide +kernel
theorem dX6_plan_18 : decode cX6_plan 18 = .ok (.ifCond .eq 25, 3) := by decide +kernel
theorem dX6_plan_21 : decode cX6_plan 21 = .ok (.iload 5, 2) := by decide +kernel
theorem dX6_plan_23 : decode cX6_plan 23 = .ok (.iconst 0, 1) := by decide +kernel
theorem dX6_plan_24 : decode cX6_plan 24 = .ok (.iconst 2, 1) := by decide +kernel
theorem dX6_plan_25 : decode cX6_plan 25 = .ok (.invokestatic 68, 3) := by decide +kernel
theorem dX6_plan_28 : decode cX6_plan 28 = .ok (.ifCond .ne 18, 3) := by decide +kernel
theorem dX6_plan_31 : decode cX6_plan 31 = .ok (.iload 5, 2) := by decide +kernel
theorem dX6_plan_33 : decode cX6_plan 33 = .ok (.bipush 10, 2) := by decide +kernel
theorem dX6_plan_35 : decode cX6_plan 35 = .ok (.bipush 13, 2) := by decide +kernel
theorem dX6_plan_37 : decode cX6_plan 37 = .ok (.invokestatic 68, 3) := by decide +kernel
theorem dX6_plan_40 : decode cX6_plan 40 = .ok (.ifCond .ne 6, 3) := by decide +kernel
theorem dX6_plan_43 : decode cX6_plan 43 = .ok (.bipush (-2), 2) := by decide +kernel
theorem dX6_plan_45 : decode cX6_plan 45 = .ok (.ireturn, 1) := by decide +kernel
theorem dX6_plan_46 : decode cX6_plan 46 = .ok (.aload_n 0, 1) := by decide +kernel
theorem dX6_plan_47 : decode cX6_plan 47 = .ok (.iload_n 1, 1) := by decide +kernel
theorem dX6_plan_48 : decode cX6_plan 48 = .ok (.iload_n 2, 1) := by decide +kernel
theorem dX6_plan_49 : decode cX6_plan 49 = .ok (.iload_n 3, 1) := by decide +kernel
theorem dX6_plan_50 : decode cX6_plan 50 = .ok (.iload 4, 2) := by decide +kernel
theorem dX6_plan_52 : decode cX6_plan 52 = .ok (.invokevirtual 91, 3) := by decide +kernel
theorem dX6_plan_55 : decode cX6_plan 55 = .ok (.istore 6, 2) := by decide +kernel
theorem dX6_plan_57 : decode cX6_plan 57 = .ok (.iload 6, 2) := by decide +kernel
theorem dX6_plan_59 : decode cX6_plan 59 = .ok (.ifCond .eq 10, 3) := by decide +kernel
theorem dX6_plan_62 : decode cX6_plan 62 = .ok (.aload_n 0, 1) := by decide +kernel
theorem dX6_plan_63 : decode cX6_plan 63 = .ok (.iload 6, 2) := by decide +kernel
theorem dX6_plan_65 : decode cX6_plan 65 = .ok (.invokevirtual 95, 3) := by decide +kernel
theorem dX6_plan_68 : decode cX6_plan 68 = .ok (.ireturn, 1) := by decide +kernel
theorem dX6_plan_69 : decode cX6_plan 69 = .ok (.aload_n 0, 1) := by decide +kernel
theorem dX6_plan_70 : decode cX6_plan 70 = .ok (.getfield 72, 3) := by decide +kernel
theorem dX6_plan_73 : decode cX6_plan 73 = .ok (.ifCond .ne 6, 3) := by decide +kernel
theorem dX6_plan_76 : decode cX6_plan 76 = .ok (.bipush (-3), 2) := by decide +kernel
theorem dX6_plan_78 : decode cX6_plan 78 = .ok (.ireturn, 1) := by decide +kernel
theorem dX6_plan_79 : decode cX6_plan 79 = .ok (.iload 4, 2) := by decide +kernel
theorem dX6_plan_81 : decode cX6_plan 81 = .ok (.aload_n 0, 1) := by decide +kernel
theorem dX6_plan_82 : decode cX6_plan 82 = .ok (.getfield 78, 3) := by decide +kernel
theorem dX6_plan_85 : decode cX6_plan 85 = .ok (.if_icmp .eq 6, 3) := by decide +kernel
theorem dX6_plan_88 : decode cX6_plan 88 = .ok (.bipush (-2), 2) := by decide +kernel
theorem dX6_plan_90 : decode cX6_plan 90 = .ok (.ireturn, 1) := by decide +kernel
theorem dX6_plan_91 : decode cX6_plan 91 = .ok (.iconst 0, 1) := by decide +kernel
theorem dX6_plan_92 : decode cX6_plan 92 = .ok (.istore 7, 2) := by decide +kernel
theorem dX6_plan_94 : decode cX6_plan 94 = .ok (.iload 7, 2) := by decide +kernel
theorem dX6_plan_96 : decode cX6_plan 96 = .ok (.iload 4, 2) := by decide +kernel
theorem dX6_plan_98 : decode cX6_plan 98 = .ok (.if_icmp .ge 51, 3) := by decide +kernel
theorem dX6_plan_101 : decode cX6_plan 101 = .ok (.aload_n 0, 1) := by decide +kernel
theorem dX6_plan_102 : decode cX6_plan 102 = .ok (.getfield 46, 3) := by decide +kernel
theorem dX6_plan_105 : decode cX6_plan 105 = .ok (.iload 7, 2) := by decide +kernel
theorem dX6_plan_107 : decode cX6_plan 107 = .ok (.aload_n 0, 1) := by decide +kernel
theorem dX6_plan_108 : decode cX6_plan 108 = .ok (.getfield 16, 3) := by decide +kernel
theorem dX6_plan_111 : decode cX6_plan 111 = .ok (.bipush 60, 2) := by decide +kernel
theorem dX6_plan_113 : decode cX6_plan 113 = .ok (.iload_n 1, 1) := by decide +kernel
theorem dX6_plan_114 : decode cX6_plan 114 = .ok (.imul, 1) := by decide +kernel
theorem dX6_plan_115 : decode cX6_plan 115 = .ok (.iload_n 3, 1) := by decide +kernel
theorem dX6_plan_116 : decode cX6_plan 116 = .ok (.iadd, 1) := by decide +kernel
theorem dX6_plan_117 : decode cX6_plan 117 = .ok (.iload 7, 2) := by decide +kernel
theorem dX6_plan_119 : decode cX6_plan 119 = .ok (.iadd, 1) := by decide +kernel
theorem dX6_plan_120 : decode cX6_plan 120 = .ok (.iaload, 1) := by decide +kernel
theorem dX6_plan_121 : decode cX6_plan 121 = .ok (.iastore, 1) := by decide +kernel
theorem dX6_plan_122 : decode cX6_plan 122 = .ok (.aload_n 0, 1) := by decide +kernel
theorem dX6_plan_123 : decode cX6_plan 123 = .ok (.getfield 46, 3) := by decide +kernel
theorem dX6_plan_126 : decode cX6_plan 126 = .ok (.iload 7, 2) := by decide +kernel
theorem dX6_plan_128 : decode cX6_plan 128 = .ok (.iaload, 1) := by decide +kernel
theorem dX6_plan_129 : decode cX6_plan 129 = .ok (.iconst 0, 1) := by decide +kernel
theorem dX6_plan_130 : decode cX6_plan 130 = .ok (.aload_n 0, 1) := by decide +kernel
theorem dX6_plan_131 : decode cX6_plan 131 = .ok (.getfield 75, 3) := by decide +kernel
theorem dX6_plan_134 : decode cX6_plan 134 = .ok (.invokestatic 68, 3) := by decide +kernel
theorem dX6_plan_137 : decode cX6_plan 137 = .ok (.ifCond .ne 6, 3) := by decide +kernel
theorem dX6_plan_140 : decode cX6_plan 140 = .ok (.bipush (-2), 2) := by decide +kernel
theorem dX6_plan_142 : decode cX6_plan 142 = .ok (.ireturn, 1) := by decide +kernel
theorem dX6_plan_143 : decode cX6_plan 143 = .ok (.iinc 7 1, 3) := by decide +kernel
theorem dX6_plan_146 : decode cX6_plan 146 = .ok (.goto (-52), 3) := by decide +kernel
theorem dX6_plan_149 : decode cX6_plan 149 = .ok (.aload_n 0, 1) := by decide +kernel
theorem dX6_plan_150 : decode cX6_plan 150 = .ok (.iload 5, 2) := by decide +kernel
theorem dX6_plan_152 : decode cX6_plan 152 = .ok (.invokevirtual 163, 3) := by decide +kernel
theorem dX6_plan_155 : decode cX6_plan 155 = .ok (.ireturn, 1) := by decide +kernel
set_option maxRecDepth 20000 in
theorem ggX6_tellPlan_X6_breakYear : GoodIn wsX6_tellPlan wsX6_breakYear := goodIn_r _ [8, 3, 9, 10, 11, 7, 12, 13, 14, 15, 16, 17, 18, 19, 20, 21, 22, 1, 23, 2, 24, 25, 26, 27, 28, 29, 30, 39, 40, 41, 42, 43, 44, 45, 46, 47, 48, 49, 50, 51, 52, 53, 54, 55, 56, 57, 58, 59, 60, 61, 62, 63, 64, 65] (by decide +kernel) (by decide +kernel)
set_option maxRecDepth 20000 in
theorem gX6_tellPlan_X6_breakYear : GoodIn wsX6_tellPlan (wsV RX6 156 RX6 yX6_breakYear wsX6_breakYear) := goodIn_app (goodIn_of _ (by decide +kernel)) ggX6_tellPlan_X6_breakYear
set_option maxRecDepth 20000 in
theorem ggX6_tellPlan_X6_breakCourt : GoodIn wsX6_tellPlan wsX6_breakCourt := goodIn_r _ [34, 13, 4, 5, 6, 7, 8, 3, 9, 10, 11, 12, 14, 15, 16, 17, 18, 19, 20, 21, 22, 1, 23, 2, 24, 25, 26, 27, 28, 29, 30, 39, 40, 41, 42, 43, 44, 45, 46, 47, 48, 49, 50, 51, 52, 53, 54, 55, 56, 57, 58, 59, 60, 61, 62, 63, 64, 65] (by decide +kernel) (by decide +kernel)
set_option maxRecDepth 20000 in
theorem gX6_tellPlan_X6_breakCourt : GoodIn wsX6_tellPlan (wsV RX6 160 RX6 yX6_breakCourt wsX6_breakCourt) := goodIn_app (goodIn_of _ (by decide +kernel)) ggX6_tellPlan_X6_breakCourt
set_option maxRecDepth 20000 in
theorem ggX6_tellPlan_X6_isCourt : GoodIn wsX6_tellPlan wsX6_isCourt := goodIn_r _ [38, 13, 39, 40, 41, 42, 43, 44, 45, 46, 47, 48, 49, 50, 51, 52, 53, 54, 55, 56, 57, 58, 59, 60, 61, 62, 63, 64, 65] (by decide +kernel) (by decide +kernel)
set_option maxRecDepth 20000 in
theorem gX6_tellPlan_X6_isCourt : GoodIn wsX6_tellPlan (wsV RX6 134 RX6 yX6_isCourt wsX6_isCourt) := goodIn_app (goodIn_of _ (by decide +kernel)) ggX6_tellPlan_X6_isCourt
set_option maxRecDepth 20000 in
theorem ggX6_tellPlan_X6_stakesBy : GoodIn wsX6_tellPlan wsX6_stakesBy := goodIn_r _ [22, 1, 23, 2, 24, 25, 26, 7, 27, 28, 29, 30, 39, 40, 41, 42, 43, 44, 45, 46, 47, 48, 49, 50, 51, 52, 53, 54, 55, 56, 57, 58, 59, 60, 61, 62, 63, 64, 65] (by decide +kernel) (by decide +kernel)
set_option maxRecDepth 20000 in
theorem gX6_tellPlan_X6_stakesBy : GoodIn wsX6_tellPlan (wsV RX6 143 RX6 yX6_stakesBy wsX6_stakesBy) := goodIn_app (goodIn_of _ (by decide +kernel)) ggX6_tellPlan_X6_stakesBy
theorem dX6_tellPlan_0 : decode cX6_tellPlan 0 = .ok (.iload_n 1, 1) := by decide +kernel
theorem dX6_tellPlan_1 : decode cX6_tellPlan 1 = .ok (.ifCond .ne 8, 3) := by decide +kernel
theorem dX6_tellPlan_4 : decode cX6_tellPlan 4 = .ok (.aload_n 0, 1) := by decide +kernel
theorem dX6_tellPlan_5 : decode cX6_tellPlan 5 = .ok (.invokevirtual 156, 3) := by decide +kernel
theorem dX6_tellPlan_8 : decode cX6_tellPlan 8 = .ok (.ireturn, 1) := by decide +kernel
theorem dX6_tellPlan_9 : decode cX6_tellPlan 9 = .ok (.iload_n 1, 1) := by decide +kernel
theorem dX6_tellPlan_10 : decode cX6_tellPlan 10 = .ok (.iconst 1, 1) := by decide +kernel
theorem dX6_tellPlan_11 : decode cX6_tellPlan 11 = .ok (.if_icmp .ne 8, 3) := by decide +kernel
theorem dX6_tellPlan_14 : decode cX6_tellPlan 14 = .ok (.aload_n 0, 1) := by decide +kernel
theorem dX6_tellPlan_15 : decode cX6_tellPlan 15 = .ok (.invokevirtual 160, 3) := by decide +kernel
theorem dX6_tellPlan_18 : decode cX6_tellPlan 18 = .ok (.ireturn, 1) := by decide +kernel
theorem dX6_tellPlan_19 : decode cX6_tellPlan 19 = .ok (.iload_n 1, 1) := by decide +kernel
theorem dX6_tellPlan_20 : decode cX6_tellPlan 20 = .ok (.iconst 2, 1) := by decide +kernel
theorem dX6_tellPlan_21 : decode cX6_tellPlan 21 = .ok (.if_icmp .ne 44, 3) := by decide +kernel
theorem dX6_tellPlan_24 : decode cX6_tellPlan 24 = .ok (.iconst 0, 1) := by decide +kernel
theorem dX6_tellPlan_25 : decode cX6_tellPlan 25 = .ok (.istore_n 2, 1) := by decide +kernel
theorem dX6_tellPlan_26 : decode cX6_tellPlan 26 = .ok (.iconst 0, 1) := by decide +kernel
theorem dX6_tellPlan_27 : decode cX6_tellPlan 27 = .ok (.istore_n 3, 1) := by decide +kernel
theorem dX6_tellPlan_28 : decode cX6_tellPlan 28 = .ok (.iload_n 3, 1) := by decide +kernel
theorem dX6_tellPlan_29 : decode cX6_tellPlan 29 = .ok (.aload_n 0, 1) := by decide +kernel
theorem dX6_tellPlan_30 : decode cX6_tellPlan 30 = .ok (.getfield 78, 3) := by decide +kernel
theorem dX6_tellPlan_33 : decode cX6_tellPlan 33 = .ok (.if_icmp .ge 30, 3) := by decide +kernel
theorem dX6_tellPlan_36 : decode cX6_tellPlan 36 = .ok (.iload_n 2, 1) := by decide +kernel
theorem dX6_tellPlan_37 : decode cX6_tellPlan 37 = .ok (.aload_n 0, 1) := by decide +kernel
theorem dX6_tellPlan_38 : decode cX6_tellPlan 38 = .ok (.getfield 46, 3) := by decide +kernel
theorem dX6_tellPlan_41 : decode cX6_tellPlan 41 = .ok (.iload_n 3, 1) := by decide +kernel
theorem dX6_tellPlan_42 : decode cX6_tellPlan 42 = .ok (.iaload, 1) := by decide +kernel
theorem dX6_tellPlan_43 : decode cX6_tellPlan 43 = .ok (.aload_n 0, 1) := by decide +kernel
theorem dX6_tellPlan_44 : decode cX6_tellPlan 44 = .ok (.getfield 75, 3) := by decide +kernel
theorem dX6_tellPlan_47 : decode cX6_tellPlan 47 = .ok (.if_icmp .ge 7, 3) := by decide +kernel
theorem dX6_tellPlan_50 : decode cX6_tellPlan 50 = .ok (.iconst 1, 1) := by decide +kernel
theorem dX6_tellPlan_51 : decode cX6_tellPlan 51 = .ok (.goto 4, 3) := by decide +kernel
theorem dX6_tellPlan_54 : decode cX6_tellPlan 54 = .ok (.iconst 0, 1) := by decide +kernel
theorem dX6_tellPlan_55 : decode cX6_tellPlan 55 = .ok (.iadd, 1) := by decide +kernel
theorem dX6_tellPlan_56 : decode cX6_tellPlan 56 = .ok (.istore_n 2, 1) := by decide +kernel
theorem dX6_tellPlan_57 : decode cX6_tellPlan 57 = .ok (.iinc 3 1, 3) := by decide +kernel
theorem dX6_tellPlan_60 : decode cX6_tellPlan 60 = .ok (.goto (-32), 3) := by decide +kernel
theorem dX6_tellPlan_63 : decode cX6_tellPlan 63 = .ok (.iload_n 2, 1) := by decide +kernel
theorem dX6_tellPlan_64 : decode cX6_tellPlan 64 = .ok (.ireturn, 1) := by decide +kernel
theorem dX6_tellPlan_65 : decode cX6_tellPlan 65 = .ok (.aload_n 0, 1) := by decide +kernel
theorem dX6_tellPlan_66 : decode cX6_tellPlan 66 = .ok (.iload_n 1, 1) := by decide +kernel
theorem dX6_tellPlan_67 : decode cX6_tellPlan 67 = .ok (.bipush 10, 2) := by decide +kernel
theorem dX6_tellPlan_69 : decode cX6_tellPlan 69 = .ok (.isub, 1) := by decide +kernel
theorem dX6_tellPlan_70 : decode cX6_tellPlan 70 = .ok (.invokevirtual 134, 3) := by decide +kernel
theorem dX6_tellPlan_73 : decode cX6_tellPlan 73 = .ok (.ifCond .eq 20, 3) := by decide +kernel
theorem dX6_tellPlan_76 : decode cX6_tellPlan 76 = .ok (.aload_n 0, 1) := by decide +kernel
theorem dX6_tellPlan_77 : decode cX6_tellPlan 77 = .ok (.iload_n 1, 1) := by decide +kernel
theorem dX6_tellPlan_78 : decode cX6_tellPlan 78 = .ok (.bipush 10, 2) := by decide +kernel
theorem dX6_tellPlan_80 : decode cX6_tellPlan 80 = .ok (.isub, 1) := by decide +kernel
theorem dX6_tellPlan_81 : decode cX6_tellPlan 81 = .ok (.aload_n 0, 1) := by decide +kernel
theorem dX6_tellPlan_82 : decode cX6_tellPlan 82 = .ok (.getfield 75, 3) := by decide +kernel
theorem dX6_tellPlan_85 : decode cX6_tellPlan 85 = .ok (.iconst 1, 1) := by decide +kernel
theorem dX6_tellPlan_86 : decode cX6_tellPlan 86 = .ok (.isub, 1) := by decide +kernel
theorem dX6_tellPlan_87 : decode cX6_tellPlan 87 = .ok (.invokevirtual 143, 3) := by decide +kernel
theorem dX6_tellPlan_90 : decode cX6_tellPlan 90 = .ok (.goto 5, 3) := by decide +kernel
theorem dX6_tellPlan_93 : decode cX6_tellPlan 93 = .ok (.bipush (-9), 2) := by decide +kernel
theorem dX6_tellPlan_95 : decode cX6_tellPlan 95 = .ok (.ireturn, 1) := by decide +kernel
theorem dX6_size_0 : decode cX6_size 0 = .ok (.iconst 0, 1) := by decide +kernel
theorem dX6_size_1 : decode cX6_size 1 = .ok (.istore_n 1, 1) := by decide +kernel
theorem dX6_size_2 : decode cX6_size 2 = .ok (.iload_n 0, 1) := by decide +kernel
theorem dX6_size_3 : decode cX6_size 3 = .ok (.istore_n 2, 1) := by decide +kernel
theorem dX6_size_4 : decode cX6_size 4 = .ok (.iload_n 2, 1) := by decide +kernel
theorem dX6_size_5 : decode cX6_size 5 = .ok (.ifCond .le 16, 3) := by decide +kernel
theorem dX6_size_8 : decode cX6_size 8 = .ok (.iload_n 1, 1) := by decide +kernel
theorem dX6_size_9 : decode cX6_size 9 = .ok (.iload_n 2, 1) := by decide +kernel
theorem dX6_size_10 : decode cX6_size 10 = .ok (.iconst 1, 1) := by decide +kernel
theorem dX6_size_11 : decode cX6_size 11 = .ok (.iand, 1) := by decide +kernel
theorem dX6_size_12 : decode cX6_size 12 = .ok (.iadd, 1) := by decide +kernel
theorem dX6_size_13 : decode cX6_size 13 = .ok (.istore_n 1, 1) := by decide +kernel
theorem dX6_size_14 : decode cX6_size 14 = .ok (.iload_n 2, 1) := by decide +kernel
theorem dX6_size_15 : decode cX6_size 15 = .ok (.iconst 1, 1) := by decide +kernel
theorem dX6_size_16 : decode cX6_size 16 = .ok (.ishr, 1) := by decide +kernel
theorem dX6_size_17 : decode cX6_size 17 = .ok (.istore_n 2, 1) := by decide +kernel
theorem dX6_size_18 : decode cX6_size 18 = .ok (.goto (-14), 3) := by decide +kernel
theorem dX6_size_21 : decode cX6_size 21 = .ok (.iload_n 1, 1) := by decide +kernel
theorem dX6_size_22 : decode cX6_size 22 = .ok (.ireturn, 1) := by decide +kernel
theorem dX6_askSet_0 : decode cX6_askSet 0 = .ok (.iconst 0, 1) := by decide +kernel
theorem dX6_askSet_1 : decode cX6_askSet 1 = .ok (.istore_n 2, 1) := by decide +kernel
theorem dX6_askSet_2 : decode cX6_askSet 2 = .ok (.iload_n 2, 1) := by decide +kernel
theorem dX6_askSet_3 : decode cX6_askSet 3 = .ok (.aload_n 0, 1) := by decide +kernel
theorem dX6_askSet_4 : decode cX6_askSet 4 = .ok (.getfield 78, 3) := by decide +kernel
theorem dX6_askSet_7 : decode cX6_askSet 7 = .ok (.if_icmp .ge 32, 3) := by decide +kernel
theorem dX6_askSet_10 : decode cX6_askSet 10 = .ok (.aload_n 0, 1) := by decide +kernel
theorem dX6_askSet_11 : decode cX6_askSet 11 = .ok (.getfield 46, 3) := by decide +kernel
theorem dX6_askSet_14 : decode cX6_askSet 14 = .ok (.iload_n 2, 1) := by decide +kernel
theorem dX6_askSet_15 : decode cX6_askSet 15 = .ok (.iload_n 1, 1) := by decide +kernel
theorem dX6_askSet_16 : decode cX6_askSet 16 = .ok (.iload_n 2, 1) := by decide +kernel
theorem dX6_askSet_17 : decode cX6_askSet 17 = .ok (.ishr, 1) := by decide +kernel
theorem dX6_askSet_18 : decode cX6_askSet 18 = .ok (.iconst 1, 1) := by decide +kernel
theorem dX6_askSet_19 : decode cX6_askSet 19 = .ok (.iand, 1) := by decide +kernel
theorem dX6_askSet_20 : decode cX6_askSet 20 = .ok (.iconst 1, 1) := by decide +kernel
theorem dX6_askSet_21 : decode cX6_askSet 21 = .ok (.if_icmp .ne 7, 3) := by decide +kernel
theorem dX6_askSet_24 : decode cX6_askSet 24 = .ok (.iconst 0, 1) := by decide +kernel
theorem dX6_askSet_25 : decode cX6_askSet 25 = .ok (.goto 7, 3) := by decide +kernel
theorem dX6_askSet_28 : decode cX6_askSet 28 = .ok (.aload_n 0, 1) := by decide +kernel
theorem dX6_askSet_29 : decode cX6_askSet 29 = .ok (.getfield 75, 3) := by decide +kernel
theorem dX6_askSet_32 : decode cX6_askSet 32 = .ok (.iastore, 1) := by decide +kernel
theorem dX6_askSet_33 : decode cX6_askSet 33 = .ok (.iinc 2 1, 3) := by decide +kernel
theorem dX6_askSet_36 : decode cX6_askSet 36 = .ok (.goto (-34), 3) := by decide +kernel
theorem dX6_askSet_39 : decode cX6_askSet 39 = .ok (.return_, 1) := by decide +kernel
set_option maxRecDepth 20000 in
theorem ggX6_least_X6_size : GoodIn wsX6_least wsX6_size := goodIn_r _ [6] (by decide +kernel) (by decide +kernel)
set_option maxRecDepth 20000 in
theorem gX6_least_X6_size : GoodIn wsX6_least (va_wsS RX6 166 yX6_size wsX6_size) := goodIn_app (goodIn_of _ (by decide +kernel)) ggX6_least_X6_size
set_option maxRecDepth 20000 in
theorem ggX6_least_X6_askSet : GoodIn wsX6_least wsX6_askSet := goodIn_r _ [10, 2, 11, 12, 38, 39, 40, 41, 42, 43, 44, 45, 46, 47, 48, 49, 50, 51, 52, 53, 54, 55, 56, 57, 58, 59, 60, 61, 62, 63, 64] (by decide +kernel) (by decide +kernel)
set_option maxRecDepth 20000 in
theorem gX6_least_X6_askSet : GoodIn wsX6_least (wsV RX6 169 RX6 yX6_askSet wsX6_askSet) := goodIn_app (goodIn_of _ (by decide +kernel)) ggX6_least_X6_askSet
set_option maxRecDepth 20000 in
theorem ggX6_least_X6_breakYear : GoodIn wsX6_least wsX6_breakYear := goodIn_r _ [16, 12, 17, 18, 19, 5, 20, 1, 21, 22, 23, 24, 25, 26, 27, 28, 29, 2, 30, 11, 31, 32, 33, 34, 35, 36, 37, 38, 39, 40, 41, 42, 43, 44, 45, 46, 47, 48, 49, 50, 51, 52, 53, 54, 55, 56, 57, 58, 59, 60, 61, 62, 63, 64] (by decide +kernel) (by decide +kernel)
set_option maxRecDepth 20000 in
theorem gX6_least_X6_breakYear : GoodIn wsX6_least (wsV RX6 156 RX6 yX6_breakYear wsX6_breakYear) := goodIn_app (goodIn_of _ (by decide +kernel)) ggX6_least_X6_breakYear
theorem dX6_least_0 : decode cX6_least 0 = .ok (.aload_n 0, 1) := by decide +kernel
theorem dX6_least_1 : decode cX6_least 1 = .ok (.getfield 72, 3) := by decide +kernel
theorem dX6_least_4 : decode cX6_least 4 = .ok (.ifCond .ne 6, 3) := by decide +kernel
theorem dX6_least_7 : decode cX6_least 7 = .ok (.bipush (-3), 2) := by decide +kernel
theorem dX6_least_9 : decode cX6_least 9 = .ok (.ireturn, 1) := by decide +kernel
theorem dX6_least_10 : decode cX6_least 10 = .ok (.bipush (-9), 2) := by decide +kernel
theorem dX6_least_12 : decode cX6_least 12 = .ok (.istore_n 1, 1) := by decide +kernel
theorem dX6_least_13 : decode cX6_least 13 = .ok (.iconst 0, 1) := by decide +kernel
theorem dX6_least_14 : decode cX6_least 14 = .ok (.istore_n 2, 1) := by decide +kernel
theorem dX6_least_15 : decode cX6_least 15 = .ok (.iload_n 2, 1) := by decide +kernel
theorem dX6_least_16 : decode cX6_least 16 = .ok (.iconst 1, 1) := by decide +kernel
theorem dX6_least_17 : decode cX6_least 17 = .ok (.aload_n 0, 1) := by decide +kernel
theorem dX6_least_18 : decode cX6_least 18 = .ok (.getfield 78, 3) := by decide +kernel
theorem dX6_least_21 : decode cX6_least 21 = .ok (.ishl, 1) := by decide +kernel
theorem dX6_least_22 : decode cX6_least 22 = .ok (.if_icmp .ge 46, 3) := by decide +kernel
theorem dX6_least_25 : decode cX6_least 25 = .ok (.iload_n 1, 1) := by decide +kernel
theorem dX6_least_26 : decode cX6_least 26 = .ok (.bipush (-9), 2) := by decide +kernel
theorem dX6_least_28 : decode cX6_least 28 = .ok (.if_icmp .eq 14, 3) := by decide +kernel
theorem dX6_least_31 : decode cX6_least 31 = .ok (.iload_n 2, 1) := by decide +kernel
theorem dX6_least_32 : decode cX6_least 32 = .ok (.invokestatic 166, 3) := by decide +kernel
theorem dX6_least_35 : decode cX6_least 35 = .ok (.iload_n 1, 1) := by decide +kernel
theorem dX6_least_36 : decode cX6_least 36 = .ok (.invokestatic 166, 3) := by decide +kernel
theorem dX6_least_39 : decode cX6_least 39 = .ok (.if_icmp .ge 23, 3) := by decide +kernel
theorem dX6_least_42 : decode cX6_least 42 = .ok (.aload_n 0, 1) := by decide +kernel
theorem dX6_least_43 : decode cX6_least 43 = .ok (.iload_n 2, 1) := by decide +kernel
theorem dX6_least_44 : decode cX6_least 44 = .ok (.invokevirtual 169, 3) := by decide +kernel
theorem dX6_least_47 : decode cX6_least 47 = .ok (.aload_n 0, 1) := by decide +kernel
theorem dX6_least_48 : decode cX6_least 48 = .ok (.invokevirtual 156, 3) := by decide +kernel
theorem dX6_least_51 : decode cX6_least 51 = .ok (.bipush (-9), 2) := by decide +kernel
theorem dX6_least_53 : decode cX6_least 53 = .ok (.if_icmp .ne 7, 3) := by decide +kernel
theorem dX6_least_56 : decode cX6_least 56 = .ok (.iload_n 2, 1) := by decide +kernel
theorem dX6_least_57 : decode cX6_least 57 = .ok (.goto 4, 3) := by decide +kernel
theorem dX6_least_60 : decode cX6_least 60 = .ok (.iload_n 1, 1) := by decide +kernel
theorem dX6_least_61 : decode cX6_least 61 = .ok (.istore_n 1, 1) := by decide +kernel
theorem dX6_least_62 : decode cX6_least 62 = .ok (.iinc 2 1, 3) := by decide +kernel
theorem dX6_least_65 : decode cX6_least 65 = .ok (.goto (-50), 3) := by decide +kernel
theorem dX6_least_68 : decode cX6_least 68 = .ok (.iload_n 1, 1) := by decide +kernel
theorem dX6_least_69 : decode cX6_least 69 = .ok (.ireturn, 1) := by decide +kernel
set_option maxRecDepth 20000 in
theorem ggX6_holeOf_X6_isTempted : GoodIn wsX6_holeOf wsX6_isTempted := goodIn_r _ [6, 7, 8, 9, 10, 5, 11, 12, 13, 14, 15, 16, 17, 18, 19, 20, 21, 22, 23, 24, 25, 26, 27, 28, 29, 30, 31, 32, 33, 34, 35, 36, 37, 38, 39, 40, 41, 42, 43, 44, 45, 46, 47, 48] (by decide +kernel) (by decide +kernel)
set_option maxRecDepth 20000 in
theorem gX6_holeOf_X6_isTempted : GoodIn wsX6_holeOf (wsV RX6 150 RX6 yX6_isTempted wsX6_isTempted) := goodIn_app (goodIn_of _ (by decide +kernel)) ggX6_holeOf_X6_isTempted
theorem dX6_holeOf_0 : decode cX6_holeOf 0 = .ok (.iconst 0, 1) := by decide +kernel
theorem dX6_holeOf_1 : decode cX6_holeOf 1 = .ok (.istore_n 2, 1) := by decide +kernel
theorem dX6_holeOf_2 : decode cX6_holeOf 2 = .ok (.iload_n 2, 1) := by decide +kernel
theorem dX6_holeOf_3 : decode cX6_holeOf 3 = .ok (.aload_n 0, 1) := by decide +kernel
theorem dX6_holeOf_4 : decode cX6_holeOf 4 = .ok (.getfield 75, 3) := by decide +kernel
theorem dX6_holeOf_7 : decode cX6_holeOf 7 = .ok (.if_icmp .ge 20, 3) := by decide +kernel
theorem dX6_holeOf_10 : decode cX6_holeOf 10 = .ok (.aload_n 0, 1) := by decide +kernel
theorem dX6_holeOf_11 : decode cX6_holeOf 11 = .ok (.iload_n 1, 1) := by decide +kernel
theorem dX6_holeOf_12 : decode cX6_holeOf 12 = .ok (.iload_n 2, 1) := by decide +kernel
theorem dX6_holeOf_13 : decode cX6_holeOf 13 = .ok (.invokevirtual 150, 3) := by decide +kernel
theorem dX6_holeOf_16 : decode cX6_holeOf 16 = .ok (.ifCond .eq 5, 3) := by decide +kernel
theorem dX6_holeOf_19 : decode cX6_holeOf 19 = .ok (.iload_n 2, 1) := by decide +kernel
theorem dX6_holeOf_20 : decode cX6_holeOf 20 = .ok (.ireturn, 1) := by decide +kernel
theorem dX6_holeOf_21 : decode cX6_holeOf 21 = .ok (.iinc 2 1, 3) := by decide +kernel
theorem dX6_holeOf_24 : decode cX6_holeOf 24 = .ok (.goto (-22), 3) := by decide +kernel
theorem dX6_holeOf_27 : decode cX6_holeOf 27 = .ok (.bipush (-9), 2) := by decide +kernel
theorem dX6_holeOf_29 : decode cX6_holeOf 29 = .ok (.ireturn, 1) := by decide +kernel
set_option maxRecDepth 20000 in
theorem ggX6_hole_X6_isCourt : GoodIn wsX6_hole wsX6_isCourt := goodIn_r _ [6, 7, 35, 36, 37, 38, 39, 40, 41, 42, 43, 44, 45, 46, 47, 48, 49, 50, 51, 52, 53, 54, 55, 56, 57, 58, 59, 60, 61] (by decide +kernel) (by decide +kernel)
set_option maxRecDepth 20000 in
theorem gX6_hole_X6_isCourt : GoodIn wsX6_hole (wsV RX6 134 RX6 yX6_isCourt wsX6_isCourt) := goodIn_app (goodIn_of _ (by decide +kernel)) ggX6_hole_X6_isCourt
set_option maxRecDepth 20000 in
theorem ggX6_hole_X6_askSet : GoodIn wsX6_hole wsX6_askSet := goodIn_r _ [11, 1, 12, 13, 35, 36, 37, 38, 39, 40, 41, 42, 43, 44, 45, 46, 47, 48, 49, 50, 51, 52, 53, 54, 55, 56, 57, 58, 59, 60, 61] (by decide +kernel) (by decide +kernel)
set_option maxRecDepth 20000 in
theorem gX6_hole_X6_askSet : GoodIn wsX6_hole (wsV RX6 169 RX6 yX6_askSet wsX6_askSet) := goodIn_app (goodIn_of _ (by decide +kernel)) ggX6_hole_X6_askSet
set_option maxRecDepth 20000 in
theorem ggX6_hole_X6_holeOf : GoodIn wsX6_hole wsX6_holeOf := goodIn_r _ [17, 13, 18, 19, 20, 5, 21, 22, 23, 24, 25, 26, 1, 27, 12, 28, 29, 30, 31, 32, 33, 34, 35, 36, 37, 38, 39, 40, 41, 42, 43, 44, 45, 46, 47, 48, 49, 50, 51, 52, 53, 54, 55, 56, 57, 58, 59, 60, 61] (by decide +kernel) (by decide +kernel)
set_option maxRecDepth 20000 in
theorem gX6_hole_X6_holeOf : GoodIn wsX6_hole (wsV RX6 173 RX6 yX6_holeOf wsX6_holeOf) := goodIn_app (goodIn_of _ (by decide +kernel)) ggX6_hole_X6_holeOf
theorem dX6_hole_0 : decode cX6_hole 0 = .ok (.aload_n 0, 1) := by decide +kernel
theorem dX6_hole_1 : decode cX6_hole 1 = .ok (.iload_n 1, 1) := by decide +kernel
theorem dX6_hole_2 : decode cX6_hole 2 = .ok (.invokevirtual 134, 3) := by decide +kernel
theorem dX6_hole_5 : decode cX6_hole 5 = .ok (.ifCond .ne 5, 3) := by decide +kernel
theorem dX6_hole_8 : decode cX6_hole 8 = .ok (.iconst (-1), 1) := by decide +kernel
theorem dX6_hole_9 : decode cX6_hole 9 = .ok (.ireturn, 1) := by decide +kernel
theorem dX6_hole_10 : decode cX6_hole 10 = .ok (.aload_n 0, 1) := by decide +kernel
theorem dX6_hole_11 : decode cX6_hole 11 = .ok (.iconst 1, 1) := by decide +kernel
theorem dX6_hole_12 : decode cX6_hole 12 = .ok (.aload_n 0, 1) := by decide +kernel
theorem dX6_hole_13 : decode cX6_hole 13 = .ok (.getfield 78, 3) := by decide +kernel
theorem dX6_hole_16 : decode cX6_hole 16 = .ok (.ishl, 1) := by decide +kernel
theorem dX6_hole_17 : decode cX6_hole 17 = .ok (.iconst 1, 1) := by decide +kernel
theorem dX6_hole_18 : decode cX6_hole 18 = .ok (.isub, 1) := by decide +kernel
theorem dX6_hole_19 : decode cX6_hole 19 = .ok (.invokevirtual 169, 3) := by decide +kernel
theorem dX6_hole_22 : decode cX6_hole 22 = .ok (.aload_n 0, 1) := by decide +kernel
theorem dX6_hole_23 : decode cX6_hole 23 = .ok (.iload_n 1, 1) := by decide +kernel
theorem dX6_hole_24 : decode cX6_hole 24 = .ok (.invokevirtual 173, 3) := by decide +kernel
theorem dX6_hole_27 : decode cX6_hole 27 = .ok (.ireturn, 1) := by decide +kernel
set_option maxRecDepth 20000 in
theorem ggX6_when_X6_isSon : GoodIn wsX6_when wsX6_isSon := goodIn_r _ [9, 1, 34, 35, 36, 37, 38, 39, 40, 41, 42, 43, 44, 45, 46, 47, 48, 49, 50, 51, 52, 53, 54, 55, 56, 57, 58, 59, 60] (by decide +kernel) (by decide +kernel)
set_option maxRecDepth 20000 in
theorem gX6_when_X6_isSon : GoodIn wsX6_when (wsV RX6 131 RX6 yX6_isSon wsX6_isSon) := goodIn_app (goodIn_of _ (by decide +kernel)) ggX6_when_X6_isSon
set_option maxRecDepth 20000 in
theorem ggX6_when_X6_askSet : GoodIn wsX6_when wsX6_askSet := goodIn_r _ [13, 1, 3, 2, 34, 35, 36, 37, 38, 39, 40, 41, 42, 43, 44, 45, 46, 47, 48, 49, 50, 51, 52, 53, 54, 55, 56, 57, 58, 59, 60] (by decide +kernel) (by decide +kernel)
set_option maxRecDepth 20000 in
theorem gX6_when_X6_askSet : GoodIn wsX6_when (wsV RX6 169 RX6 yX6_askSet wsX6_askSet) := goodIn_app (goodIn_of _ (by decide +kernel)) ggX6_when_X6_askSet
set_option maxRecDepth 20000 in
theorem ggX6_when_X6_holeOf : GoodIn wsX6_when wsX6_holeOf := goodIn_r _ [17, 2, 18, 19, 20, 8, 21, 22, 23, 24, 25, 26, 1, 4, 3, 27, 28, 29, 30, 31, 32, 33, 34, 35, 36, 37, 38, 39, 40, 41, 42, 43, 44, 45, 46, 47, 48, 49, 50, 51, 52, 53, 54, 55, 56, 57, 58, 59, 60] (by decide +kernel) (by decide +kernel)
set_option maxRecDepth 20000 in
theorem gX6_when_X6_holeOf : GoodIn wsX6_when (wsV RX6 173 RX6 yX6_holeOf wsX6_holeOf) := goodIn_app (goodIn_of _ (by decide +kernel)) ggX6_when_X6_holeOf
theorem dX6_when_0 : decode cX6_when 0 = .ok (.aload_n 0, 1) := by decide +kernel
theorem dX6_when_1 : decode cX6_when 1 = .ok (.iload_n 1, 1) := by decide +kernel
theorem dX6_when_2 : decode cX6_when 2 = .ok (.invokevirtual 131, 3) := by decide +kernel
theorem dX6_when_5 : decode cX6_when 5 = .ok (.ifCond .ne 5, 3) := by decide +kernel
theorem dX6_when_8 : decode cX6_when 8 = .ok (.iconst (-1), 1) := by decide +kernel
theorem dX6_when_9 : decode cX6_when 9 = .ok (.ireturn, 1) := by decide +kernel
theorem dX6_when_10 : decode cX6_when 10 = .ok (.aload_n 0, 1) := by decide +kernel
theorem dX6_when_11 : decode cX6_when 11 = .ok (.iconst 1, 1) := by decide +kernel
theorem dX6_when_12 : decode cX6_when 12 = .ok (.aload_n 0, 1) := by decide +kernel
theorem dX6_when_13 : decode cX6_when 13 = .ok (.getfield 78, 3) := by decide +kernel
theorem dX6_when_16 : decode cX6_when 16 = .ok (.ishl, 1) := by decide +kernel
theorem dX6_when_17 : decode cX6_when 17 = .ok (.iconst 1, 1) := by decide +kernel
theorem dX6_when_18 : decode cX6_when 18 = .ok (.isub, 1) := by decide +kernel
theorem dX6_when_19 : decode cX6_when 19 = .ok (.invokevirtual 169, 3) := by decide +kernel
theorem dX6_when_22 : decode cX6_when 22 = .ok (.aload_n 0, 1) := by decide +kernel
theorem dX6_when_23 : decode cX6_when 23 = .ok (.getfield 75, 3) := by decide +kernel
theorem dX6_when_26 : decode cX6_when 26 = .ok (.istore_n 2, 1) := by decide +kernel
theorem dX6_when_27 : decode cX6_when 27 = .ok (.iload_n 2, 1) := by decide +kernel
theorem dX6_when_28 : decode cX6_when 28 = .ok (.ifCond .lt 33, 3) := by decide +kernel
theorem dX6_when_31 : decode cX6_when 31 = .ok (.aload_n 0, 1) := by decide +kernel
theorem dX6_when_32 : decode cX6_when 32 = .ok (.getfield 46, 3) := by decide +kernel
theorem dX6_when_35 : decode cX6_when 35 = .ok (.iload_n 1, 1) := by decide +kernel
theorem dX6_when_36 : decode cX6_when 36 = .ok (.iload_n 2, 1) := by decide +kernel
theorem dX6_when_37 : decode cX6_when 37 = .ok (.iastore, 1) := by decide +kernel
theorem dX6_when_38 : decode cX6_when 38 = .ok (.aload_n 0, 1) := by decide +kernel
theorem dX6_when_39 : decode cX6_when 39 = .ok (.aload_n 0, 1) := by decide +kernel
theorem dX6_when_40 : decode cX6_when 40 = .ok (.getfield 25, 3) := by decide +kernel
theorem dX6_when_43 : decode cX6_when 43 = .ok (.iload_n 1, 1) := by decide +kernel
theorem dX6_when_44 : decode cX6_when 44 = .ok (.iaload, 1) := by decide +kernel
theorem dX6_when_45 : decode cX6_when 45 = .ok (.invokevirtual 173, 3) := by decide +kernel
theorem dX6_when_48 : decode cX6_when 48 = .ok (.bipush (-9), 2) := by decide +kernel
theorem dX6_when_50 : decode cX6_when 50 = .ok (.if_icmp .ne 5, 3) := by decide +kernel
theorem dX6_when_53 : decode cX6_when 53 = .ok (.iload_n 2, 1) := by decide +kernel
theorem dX6_when_54 : decode cX6_when 54 = .ok (.ireturn, 1) := by decide +kernel
theorem dX6_when_55 : decode cX6_when 55 = .ok (.iinc 2 (-1), 3) := by decide +kernel
theorem dX6_when_58 : decode cX6_when 58 = .ok (.goto (-31), 3) := by decide +kernel
theorem dX6_when_61 : decode cX6_when 61 = .ok (.bipush (-9), 2) := by decide +kernel
theorem dX6_when_63 : decode cX6_when 63 = .ok (.ireturn, 1) := by decide +kernel
set_option maxRecDepth 20000 in
theorem ggX6_reading_X6_isCourt : GoodIn wsX6_reading wsX6_isCourt := goodIn_r _ [9, 10, 16, 17, 18, 19, 20, 21, 22, 23, 24, 25, 26, 27, 28, 29, 30, 31, 32, 33, 34, 35, 36, 37, 38, 39, 40, 41, 42] (by decide +kernel) (by decide +kernel)
set_option maxRecDepth 20000 in
theorem gX6_reading_X6_isCourt : GoodIn wsX6_reading (wsV RX6 134 RX6 yX6_isCourt wsX6_isCourt) := goodIn_app (goodIn_of _ (by decide +kernel)) ggX6_reading_X6_isCourt
set_option maxRecDepth 20000 in
theorem ggX6_reading_X6_isYear : GoodIn wsX6_reading wsX6_isYear := goodIn_r _ [14, 15, 16, 17, 18, 19, 20, 21, 22, 23, 24, 25, 26, 27, 28, 29, 30, 31, 32, 33, 34, 35, 36, 37, 38, 39, 40, 41, 42] (by decide +kernel) (by decide +kernel)
set_option maxRecDepth 20000 in
theorem gX6_reading_X6_isYear : GoodIn wsX6_reading (wsV RX6 137 RX6 yX6_isYear wsX6_isYear) := goodIn_app (goodIn_of _ (by decide +kernel)) ggX6_reading_X6_isYear
theorem dX6_reading_0 : decode cX6_reading 0 = .ok (.aload_n 0, 1) := by decide +kernel
theorem dX6_reading_1 : decode cX6_reading 1 = .ok (.iload_n 1, 1) := by decide +kernel
theorem dX6_reading_2 : decode cX6_reading 2 = .ok (.invokevirtual 134, 3) := by decide +kernel
theorem dX6_reading_5 : decode cX6_reading 5 = .ok (.ifCond .ne 5, 3) := by decide +kernel
theorem dX6_reading_8 : decode cX6_reading 8 = .ok (.iconst (-1), 1) := by decide +kernel
theorem dX6_reading_9 : decode cX6_reading 9 = .ok (.ireturn, 1) := by decide +kernel
theorem dX6_reading_10 : decode cX6_reading 10 = .ok (.aload_n 0, 1) := by decide +kernel
theorem dX6_reading_11 : decode cX6_reading 11 = .ok (.iload_n 2, 1) := by decide +kernel
theorem dX6_reading_12 : decode cX6_reading 12 = .ok (.invokevirtual 137, 3) := by decide +kernel
theorem dX6_reading_15 : decode cX6_reading 15 = .ok (.ifCond .ne 6, 3) := by decide +kernel
theorem dX6_reading_18 : decode cX6_reading 18 = .ok (.bipush (-2), 2) := by decide +kernel
theorem dX6_reading_20 : decode cX6_reading 20 = .ok (.ireturn, 1) := by decide +kernel
theorem dX6_reading_21 : decode cX6_reading 21 = .ok (.aload_n 0, 1) := by decide +kernel
theorem dX6_reading_22 : decode cX6_reading 22 = .ok (.getfield 114, 3) := by decide +kernel
theorem dX6_reading_25 : decode cX6_reading 25 = .ok (.bipush 8, 2) := by decide +kernel
theorem dX6_reading_27 : decode cX6_reading 27 = .ok (.if_icmp .ne 6, 3) := by decide +kernel
theorem dX6_reading_30 : decode cX6_reading 30 = .ok (.bipush (-4), 2) := by decide +kernel
theorem dX6_reading_32 : decode cX6_reading 32 = .ok (.ireturn, 1) := by decide +kernel
theorem dX6_reading_33 : decode cX6_reading 33 = .ok (.aload_n 0, 1) := by decide +kernel
theorem dX6_reading_34 : decode cX6_reading 34 = .ok (.getfield 49, 3) := by decide +kernel
theorem dX6_reading_37 : decode cX6_reading 37 = .ok (.aload_n 0, 1) := by decide +kernel
theorem dX6_reading_38 : decode cX6_reading 38 = .ok (.getfield 114, 3) := by decide +kernel
theorem dX6_reading_41 : decode cX6_reading 41 = .ok (.iload_n 1, 1) := by decide +kernel
theorem dX6_reading_42 : decode cX6_reading 42 = .ok (.iastore, 1) := by decide +kernel
theorem dX6_reading_43 : decode cX6_reading 43 = .ok (.aload_n 0, 1) := by decide +kernel
theorem dX6_reading_44 : decode cX6_reading 44 = .ok (.getfield 52, 3) := by decide +kernel
theorem dX6_reading_47 : decode cX6_reading 47 = .ok (.aload_n 0, 1) := by decide +kernel
theorem dX6_reading_48 : decode cX6_reading 48 = .ok (.getfield 114, 3) := by decide +kernel
theorem dX6_reading_51 : decode cX6_reading 51 = .ok (.iload_n 2, 1) := by decide +kernel
theorem dX6_reading_52 : decode cX6_reading 52 = .ok (.iastore, 1) := by decide +kernel
theorem dX6_reading_53 : decode cX6_reading 53 = .ok (.aload_n 0, 1) := by decide +kernel
theorem dX6_reading_54 : decode cX6_reading 54 = .ok (.getfield 55, 3) := by decide +kernel
theorem dX6_reading_57 : decode cX6_reading 57 = .ok (.aload_n 0, 1) := by decide +kernel
theorem dX6_reading_58 : decode cX6_reading 58 = .ok (.getfield 114, 3) := by decide +kernel
theorem dX6_reading_61 : decode cX6_reading 61 = .ok (.iload_n 3, 1) := by decide +kernel
theorem dX6_reading_62 : decode cX6_reading 62 = .ok (.bastore, 1) := by decide +kernel
theorem dX6_reading_63 : decode cX6_reading 63 = .ok (.aload_n 0, 1) := by decide +kernel
theorem dX6_reading_64 : decode cX6_reading 64 = .ok (.dup, 1) := by decide +kernel
theorem dX6_reading_65 : decode cX6_reading 65 = .ok (.getfield 114, 3) := by decide +kernel
theorem dX6_reading_68 : decode cX6_reading 68 = .ok (.iconst 1, 1) := by decide +kernel
theorem dX6_reading_69 : decode cX6_reading 69 = .ok (.iadd, 1) := by decide +kernel
theorem dX6_reading_70 : decode cX6_reading 70 = .ok (.putfield 114, 3) := by decide +kernel
theorem dX6_reading_73 : decode cX6_reading 73 = .ok (.aload_n 0, 1) := by decide +kernel
theorem dX6_reading_74 : decode cX6_reading 74 = .ok (.getfield 114, 3) := by decide +kernel
theorem dX6_reading_77 : decode cX6_reading 77 = .ok (.iconst 1, 1) := by decide +kernel
theorem dX6_reading_78 : decode cX6_reading 78 = .ok (.isub, 1) := by decide +kernel
theorem dX6_reading_79 : decode cX6_reading 79 = .ok (.ireturn, 1) := by decide +kernel
set_option maxRecDepth 20000 in
theorem ggX6_back_X6_within : GoodIn wsX6_back wsX6_within := goodIn_r _ [5] (by decide +kernel) (by decide +kernel)
set_option maxRecDepth 20000 in
theorem gX6_back_X6_within : GoodIn wsX6_back (va_wsS RX6 68 yX6_within wsX6_within) := goodIn_app (goodIn_of _ (by decide +kernel)) ggX6_back_X6_within
theorem dX6_back_0 : decode cX6_back 0 = .ok (.iload_n 1, 1) := by decide +kernel
theorem dX6_back_1 : decode cX6_back 1 = .ok (.iconst 0, 1) := by decide +kernel
theorem dX6_back_2 : decode cX6_back 2 = .ok (.aload_n 0, 1) := by decide +kernel
theorem dX6_back_3 : decode cX6_back 3 = .ok (.getfield 114, 3) := by decide +kernel
theorem dX6_back_6 : decode cX6_back 6 = .ok (.invokestatic 68, 3) := by decide +kernel
theorem dX6_back_9 : decode cX6_back 9 = .ok (.ifCond .ne 6, 3) := by decide +kernel
theorem dX6_back_12 : decode cX6_back 12 = .ok (.bipush (-2), 2) := by decide +kernel
theorem dX6_back_14 : decode cX6_back 14 = .ok (.ireturn, 1) := by decide +kernel
theorem dX6_back_15 : decode cX6_back 15 = .ok (.aload_n 0, 1) := by decide +kernel
theorem dX6_back_16 : decode cX6_back 16 = .ok (.dup, 1) := by decide +kernel
theorem dX6_back_17 : decode cX6_back 17 = .ok (.getfield 114, 3) := by decide +kernel
theorem dX6_back_20 : decode cX6_back 20 = .ok (.iload_n 1, 1) := by decide +kernel
theorem dX6_back_21 : decode cX6_back 21 = .ok (.isub, 1) := by decide +kernel
theorem dX6_back_22 : decode cX6_back 22 = .ok (.putfield 114, 3) := by decide +kernel
theorem dX6_back_25 : decode cX6_back 25 = .ok (.aload_n 0, 1) := by decide +kernel
theorem dX6_back_26 : decode cX6_back 26 = .ok (.getfield 114, 3) := by decide +kernel
theorem dX6_back_29 : decode cX6_back 29 = .ok (.ireturn, 1) := by decide +kernel
set_option maxRecDepth 20000 in
theorem ggX6_areSo_X6_askNow : GoodIn wsX6_areSo wsX6_askNow := goodIn_r _ [9, 10, 11, 12, 13, 31, 32, 33, 34, 35, 36, 37, 38, 39, 40, 41, 42, 43, 44, 45, 46, 47, 48, 49, 50, 51, 52, 53, 54, 55, 56, 57] (by decide +kernel) (by decide +kernel)
set_option maxRecDepth 20000 in
theorem gX6_areSo_X6_askNow : GoodIn wsX6_areSo (wsV RX6 147 RX6 yX6_askNow wsX6_askNow) := goodIn_app (goodIn_of _ (by decide +kernel)) ggX6_areSo_X6_askNow
set_option maxRecDepth 20000 in
theorem ggX6_areSo_X6_isTempted : GoodIn wsX6_areSo wsX6_isTempted := goodIn_r _ [17, 18, 19, 20, 21, 8, 22, 10, 23, 11, 24, 25, 26, 27, 28, 29, 30, 31, 32, 33, 34, 35, 36, 37, 38, 39, 40, 41, 42, 43, 44, 45, 46, 47, 48, 49, 50, 51, 52, 53, 54, 55, 56, 57] (by decide +kernel) (by decide +kernel)
set_option maxRecDepth 20000 in
theorem gX6_areSo_X6_isTempted : GoodIn wsX6_areSo (wsV RX6 150 RX6 yX6_isTempted wsX6_isTempted) := goodIn_app (goodIn_of _ (by decide +kernel)) ggX6_areSo_X6_isTempted
theorem dX6_areSo_0 : decode cX6_areSo 0 = .ok (.aload_n 0, 1) := by decide +kernel
theorem dX6_areSo_1 : decode cX6_areSo 1 = .ok (.invokevirtual 147, 3) := by decide +kernel
theorem dX6_areSo_4 : decode cX6_areSo 4 = .ok (.iconst 0, 1) := by decide +kernel
theorem dX6_areSo_5 : decode cX6_areSo 5 = .ok (.istore_n 1, 1) := by decide +kernel
theorem dX6_areSo_6 : decode cX6_areSo 6 = .ok (.iload_n 1, 1) := by decide +kernel
theorem dX6_areSo_7 : decode cX6_areSo 7 = .ok (.aload_n 0, 1) := by decide +kernel
theorem dX6_areSo_8 : decode cX6_areSo 8 = .ok (.getfield 114, 3) := by decide +kernel
theorem dX6_areSo_11 : decode cX6_areSo 11 = .ok (.if_icmp .ge 36, 3) := by decide +kernel
theorem dX6_areSo_14 : decode cX6_areSo 14 = .ok (.aload_n 0, 1) := by decide +kernel
theorem dX6_areSo_15 : decode cX6_areSo 15 = .ok (.aload_n 0, 1) := by decide +kernel
theorem dX6_areSo_16 : decode cX6_areSo 16 = .ok (.getfield 49, 3) := by decide +kernel
theorem dX6_areSo_19 : decode cX6_areSo 19 = .ok (.iload_n 1, 1) := by decide +kernel
theorem dX6_areSo_20 : decode cX6_areSo 20 = .ok (.iaload, 1) := by decide +kernel
theorem dX6_areSo_21 : decode cX6_areSo 21 = .ok (.aload_n 0, 1) := by decide +kernel
theorem dX6_areSo_22 : decode cX6_areSo 22 = .ok (.getfield 52, 3) := by decide +kernel
theorem dX6_areSo_25 : decode cX6_areSo 25 = .ok (.iload_n 1, 1) := by decide +kernel
theorem dX6_areSo_26 : decode cX6_areSo 26 = .ok (.iaload, 1) := by decide +kernel
theorem dX6_areSo_27 : decode cX6_areSo 27 = .ok (.invokevirtual 150, 3) := by decide +kernel
theorem dX6_areSo_30 : decode cX6_areSo 30 = .ok (.aload_n 0, 1) := by decide +kernel
theorem dX6_areSo_31 : decode cX6_areSo 31 = .ok (.getfield 55, 3) := by decide +kernel
theorem dX6_areSo_34 : decode cX6_areSo 34 = .ok (.iload_n 1, 1) := by decide +kernel
theorem dX6_areSo_35 : decode cX6_areSo 35 = .ok (.baload, 1) := by decide +kernel
theorem dX6_areSo_36 : decode cX6_areSo 36 = .ok (.if_icmp .eq 5, 3) := by decide +kernel
theorem dX6_areSo_39 : decode cX6_areSo 39 = .ok (.iconst 0, 1) := by decide +kernel
theorem dX6_areSo_40 : decode cX6_areSo 40 = .ok (.ireturn, 1) := by decide +kernel
theorem dX6_areSo_41 : decode cX6_areSo 41 = .ok (.iinc 1 1, 3) := by decide +kernel
theorem dX6_areSo_44 : decode cX6_areSo 44 = .ok (.goto (-38), 3) := by decide +kernel
theorem dX6_areSo_47 : decode cX6_areSo 47 = .ok (.iconst 1, 1) := by decide +kernel
theorem dX6_areSo_48 : decode cX6_areSo 48 = .ok (.ireturn, 1) := by decide +kernel
set_option maxRecDepth 20000 in
theorem ggX6_worths_X6_isSon : GoodIn wsX6_worths wsX6_isSon := goodIn_r _ [6, 7, 39, 40, 41, 42, 43, 44, 45, 46, 47, 48, 49, 50, 51, 52, 53, 54, 55, 56, 57, 58, 59, 60, 61, 62, 63, 64, 65] (by decide +kernel) (by decide +kernel)
set_option maxRecDepth 20000 in
theorem gX6_worths_X6_isSon : GoodIn wsX6_worths (wsV RX6 131 RX6 yX6_isSon wsX6_isSon) := goodIn_app (goodIn_of _ (by decide +kernel)) ggX6_worths_X6_isSon
set_option maxRecDepth 20000 in
theorem ggX6_worths_X6_areSo : GoodIn wsX6_worths wsX6_areSo := goodIn_r _ [11, 12, 13, 14, 15, 16, 17, 18, 5, 19, 7, 20, 21, 22, 23, 24, 25, 26, 27, 28, 29, 30, 31, 32, 33, 34, 35, 36, 1, 37, 38, 39, 40, 41, 42, 43, 44, 45, 46, 47, 48, 49, 50, 51, 52, 53, 54, 55, 56, 57, 58, 59, 60, 61, 62, 63, 64, 65] (by decide +kernel) (by decide +kernel)
set_option maxRecDepth 20000 in
theorem gX6_worths_X6_areSo : GoodIn wsX6_worths (wsV RX6 176 RX6 yX6_areSo wsX6_areSo) := goodIn_app (goodIn_of _ (by decide +kernel)) ggX6_worths_X6_areSo
theorem dX6_worths_0 : decode cX6_worths 0 = .ok (.aload_n 0, 1) := by decide +kernel
theorem dX6_worths_1 : decode cX6_worths 1 = .ok (.iload_n 1, 1) := by decide +kernel
theorem dX6_worths_2 : decode cX6_worths 2 = .ok (.invokevirtual 131, 3) := by decide +kernel
theorem dX6_worths_5 : decode cX6_worths 5 = .ok (.ifCond .ne 5, 3) := by decide +kernel
theorem dX6_worths_8 : decode cX6_worths 8 = .ok (.iconst (-1), 1) := by decide +kernel
theorem dX6_worths_9 : decode cX6_worths 9 = .ok (.ireturn, 1) := by decide +kernel
theorem dX6_worths_10 : decode cX6_worths 10 = .ok (.aload_n 0, 1) := by decide +kernel
theorem dX6_worths_11 : decode cX6_worths 11 = .ok (.getfield 28, 3) := by decide +kernel
theorem dX6_worths_14 : decode cX6_worths 14 = .ok (.iload_n 1, 1) := by decide +kernel
theorem dX6_worths_15 : decode cX6_worths 15 = .ok (.iaload, 1) := by decide +kernel
theorem dX6_worths_16 : decode cX6_worths 16 = .ok (.istore_n 2, 1) := by decide +kernel
theorem dX6_worths_17 : decode cX6_worths 17 = .ok (.iconst 0, 1) := by decide +kernel
theorem dX6_worths_18 : decode cX6_worths 18 = .ok (.istore_n 3, 1) := by decide +kernel
theorem dX6_worths_19 : decode cX6_worths 19 = .ok (.iconst 0, 1) := by decide +kernel
theorem dX6_worths_20 : decode cX6_worths 20 = .ok (.istore 4, 2) := by decide +kernel
theorem dX6_worths_22 : decode cX6_worths 22 = .ok (.iload 4, 2) := by decide +kernel
theorem dX6_worths_24 : decode cX6_worths 24 = .ok (.bipush 9, 2) := by decide +kernel
theorem dX6_worths_26 : decode cX6_worths 26 = .ok (.if_icmp .gt 35, 3) := by decide +kernel
theorem dX6_worths_29 : decode cX6_worths 29 = .ok (.aload_n 0, 1) := by decide +kernel
theorem dX6_worths_30 : decode cX6_worths 30 = .ok (.getfield 28, 3) := by decide +kernel
theorem dX6_worths_33 : decode cX6_worths 33 = .ok (.iload_n 1, 1) := by decide +kernel
theorem dX6_worths_34 : decode cX6_worths 34 = .ok (.iload 4, 2) := by decide +kernel
theorem dX6_worths_36 : decode cX6_worths 36 = .ok (.iastore, 1) := by decide +kernel
theorem dX6_worths_37 : decode cX6_worths 37 = .ok (.iload_n 3, 1) := by decide +kernel
theorem dX6_worths_38 : decode cX6_worths 38 = .ok (.aload_n 0, 1) := by decide +kernel
theorem dX6_worths_39 : decode cX6_worths 39 = .ok (.invokevirtual 176, 3) := by decide +kernel
theorem dX6_worths_42 : decode cX6_worths 42 = .ok (.ifCond .eq 10, 3) := by decide +kernel
theorem dX6_worths_45 : decode cX6_worths 45 = .ok (.iconst 1, 1) := by decide +kernel
theorem dX6_worths_46 : decode cX6_worths 46 = .ok (.iload 4, 2) := by decide +kernel
theorem dX6_worths_48 : decode cX6_worths 48 = .ok (.ishl, 1) := by decide +kernel
theorem dX6_worths_49 : decode cX6_worths 49 = .ok (.goto 4, 3) := by decide +kernel
theorem dX6_worths_52 : decode cX6_worths 52 = .ok (.iconst 0, 1) := by decide +kernel
theorem dX6_worths_53 : decode cX6_worths 53 = .ok (.ior, 1) := by decide +kernel
theorem dX6_worths_54 : decode cX6_worths 54 = .ok (.istore_n 3, 1) := by decide +kernel
theorem dX6_worths_55 : decode cX6_worths 55 = .ok (.iinc 4 1, 3) := by decide +kernel
theorem dX6_worths_58 : decode cX6_worths 58 = .ok (.goto (-36), 3) := by decide +kernel
theorem dX6_worths_61 : decode cX6_worths 61 = .ok (.aload_n 0, 1) := by decide +kernel
theorem dX6_worths_62 : decode cX6_worths 62 = .ok (.getfield 28, 3) := by decide +kernel
theorem dX6_worths_65 : decode cX6_worths 65 = .ok (.iload_n 1, 1) := by decide +kernel
theorem dX6_worths_66 : decode cX6_worths 66 = .ok (.iload_n 2, 1) := by decide +kernel
theorem dX6_worths_67 : decode cX6_worths 67 = .ok (.iastore, 1) := by decide +kernel
theorem dX6_worths_68 : decode cX6_worths 68 = .ok (.iload_n 3, 1) := by decide +kernel
theorem dX6_worths_69 : decode cX6_worths 69 = .ok (.ireturn, 1) := by decide +kernel
set_option maxRecDepth 20000 in
theorem ggX6_kinds_X6_isSon : GoodIn wsX6_kinds wsX6_isSon := goodIn_r _ [6, 7, 39, 40, 41, 42, 43, 44, 45, 46, 47, 48, 49, 50, 51, 52, 53, 54, 55, 56, 57, 58, 59, 60, 61, 62, 63, 64, 65] (by decide +kernel) (by decide +kernel)
set_option maxRecDepth 20000 in
theorem gX6_kinds_X6_isSon : GoodIn wsX6_kinds (wsV RX6 131 RX6 yX6_isSon wsX6_isSon) := goodIn_app (goodIn_of _ (by decide +kernel)) ggX6_kinds_X6_isSon
set_option maxRecDepth 20000 in
theorem ggX6_kinds_X6_areSo : GoodIn wsX6_kinds wsX6_areSo := goodIn_r _ [11, 12, 13, 14, 15, 16, 17, 18, 5, 19, 7, 20, 21, 22, 23, 24, 25, 26, 27, 28, 29, 30, 31, 32, 33, 34, 35, 36, 37, 38, 1, 39, 40, 41, 42, 43, 44, 45, 46, 47, 48, 49, 50, 51, 52, 53, 54, 55, 56, 57, 58, 59, 60, 61, 62, 63, 64, 65] (by decide +kernel) (by decide +kernel)
set_option maxRecDepth 20000 in
theorem gX6_kinds_X6_areSo : GoodIn wsX6_kinds (wsV RX6 176 RX6 yX6_areSo wsX6_areSo) := goodIn_app (goodIn_of _ (by decide +kernel)) ggX6_kinds_X6_areSo
theorem dX6_kinds_0 : decode cX6_kinds 0 = .ok (.aload_n 0, 1) := by decide +kernel
theorem dX6_kinds_1 : decode cX6_kinds 1 = .ok (.iload_n 1, 1) := by decide +kernel
theorem dX6_kinds_2 : decode cX6_kinds 2 = .ok (.invokevirtual 131, 3) := by decide +kernel
theorem dX6_kinds_5 : decode cX6_kinds 5 = .ok (.ifCond .ne 5, 3) := by decide +kernel
theorem dX6_kinds_8 : decode cX6_kinds 8 = .ok (.iconst (-1), 1) := by decide +kernel
theorem dX6_kinds_9 : decode cX6_kinds 9 = .ok (.ireturn, 1) := by decide +kernel
theorem dX6_kinds_10 : decode cX6_kinds 10 = .ok (.aload_n 0, 1) := by decide +kernel
theorem dX6_kinds_11 : decode cX6_kinds 11 = .ok (.getfield 22, 3) := by decide +kernel
theorem dX6_kinds_14 : decode cX6_kinds 14 = .ok (.iload_n 1, 1) := by decide +kernel
theorem dX6_kinds_15 : decode cX6_kinds 15 = .ok (.iaload, 1) := by decide +kernel
theorem dX6_kinds_16 : decode cX6_kinds 16 = .ok (.istore_n 2, 1) := by decide +kernel
theorem dX6_kinds_17 : decode cX6_kinds 17 = .ok (.iconst 0, 1) := by decide +kernel
theorem dX6_kinds_18 : decode cX6_kinds 18 = .ok (.istore_n 3, 1) := by decide +kernel
theorem dX6_kinds_19 : decode cX6_kinds 19 = .ok (.iconst 0, 1) := by decide +kernel
theorem dX6_kinds_20 : decode cX6_kinds 20 = .ok (.istore 4, 2) := by decide +kernel
theorem dX6_kinds_22 : decode cX6_kinds 22 = .ok (.iload 4, 2) := by decide +kernel
theorem dX6_kinds_24 : decode cX6_kinds 24 = .ok (.iconst 3, 1) := by decide +kernel
theorem dX6_kinds_25 : decode cX6_kinds 25 = .ok (.if_icmp .ge 35, 3) := by decide +kernel
theorem dX6_kinds_28 : decode cX6_kinds 28 = .ok (.aload_n 0, 1) := by decide +kernel
theorem dX6_kinds_29 : decode cX6_kinds 29 = .ok (.getfield 22, 3) := by decide +kernel
theorem dX6_kinds_32 : decode cX6_kinds 32 = .ok (.iload_n 1, 1) := by decide +kernel
theorem dX6_kinds_33 : decode cX6_kinds 33 = .ok (.iload 4, 2) := by decide +kernel
theorem dX6_kinds_35 : decode cX6_kinds 35 = .ok (.iastore, 1) := by decide +kernel
theorem dX6_kinds_36 : decode cX6_kinds 36 = .ok (.iload_n 3, 1) := by decide +kernel
theorem dX6_kinds_37 : decode cX6_kinds 37 = .ok (.aload_n 0, 1) := by decide +kernel
theorem dX6_kinds_38 : decode cX6_kinds 38 = .ok (.invokevirtual 176, 3) := by decide +kernel
theorem dX6_kinds_41 : decode cX6_kinds 41 = .ok (.ifCond .eq 10, 3) := by decide +kernel
theorem dX6_kinds_44 : decode cX6_kinds 44 = .ok (.iconst 1, 1) := by decide +kernel
theorem dX6_kinds_45 : decode cX6_kinds 45 = .ok (.iload 4, 2) := by decide +kernel
theorem dX6_kinds_47 : decode cX6_kinds 47 = .ok (.ishl, 1) := by decide +kernel
theorem dX6_kinds_48 : decode cX6_kinds 48 = .ok (.goto 4, 3) := by decide +kernel
theorem dX6_kinds_51 : decode cX6_kinds 51 = .ok (.iconst 0, 1) := by decide +kernel
theorem dX6_kinds_52 : decode cX6_kinds 52 = .ok (.ior, 1) := by decide +kernel
theorem dX6_kinds_53 : decode cX6_kinds 53 = .ok (.istore_n 3, 1) := by decide +kernel
theorem dX6_kinds_54 : decode cX6_kinds 54 = .ok (.iinc 4 1, 3) := by decide +kernel
theorem dX6_kinds_57 : decode cX6_kinds 57 = .ok (.goto (-35), 3) := by decide +kernel
theorem dX6_kinds_60 : decode cX6_kinds 60 = .ok (.aload_n 0, 1) := by decide +kernel
theorem dX6_kinds_61 : decode cX6_kinds 61 = .ok (.getfield 22, 3) := by decide +kernel
theorem dX6_kinds_64 : decode cX6_kinds 64 = .ok (.iload_n 1, 1) := by decide +kernel
theorem dX6_kinds_65 : decode cX6_kinds 65 = .ok (.iload_n 2, 1) := by decide +kernel
theorem dX6_kinds_66 : decode cX6_kinds 66 = .ok (.iastore, 1) := by decide +kernel
theorem dX6_kinds_67 : decode cX6_kinds 67 = .ok (.iload_n 3, 1) := by decide +kernel
theorem dX6_kinds_68 : decode cX6_kinds 68 = .ok (.ireturn, 1) := by decide +kernel
set_option maxRecDepth 20000 in
theorem ggX6_fondness_X6_isSon : GoodIn wsX6_fondness wsX6_isSon := goodIn_r _ [6, 7, 39, 40, 41, 42, 43, 44, 45, 46, 47, 48, 49, 50, 51, 52, 53, 54, 55, 56, 57, 58, 59, 60, 61, 62, 63, 64, 65] (by decide +kernel) (by decide +kernel)
set_option maxRecDepth 20000 in
theorem gX6_fondness_X6_isSon : GoodIn wsX6_fondness (wsV RX6 131 RX6 yX6_isSon wsX6_isSon) := goodIn_app (goodIn_of _ (by decide +kernel)) ggX6_fondness_X6_isSon
set_option maxRecDepth 20000 in
theorem ggX6_fondness_X6_areSo : GoodIn wsX6_fondness wsX6_areSo := goodIn_r _ [11, 12, 13, 14, 15, 16, 17, 18, 5, 19, 7, 20, 21, 22, 23, 24, 25, 26, 27, 28, 29, 30, 31, 32, 33, 34, 35, 36, 37, 1, 38, 39, 40, 41, 42, 43, 44, 45, 46, 47, 48, 49, 50, 51, 52, 53, 54, 55, 56, 57, 58, 59, 60, 61, 62, 63, 64, 65] (by decide +kernel) (by decide +kernel)
set_option maxRecDepth 20000 in
theorem gX6_fondness_X6_areSo : GoodIn wsX6_fondness (wsV RX6 176 RX6 yX6_areSo wsX6_areSo) := goodIn_app (goodIn_of _ (by decide +kernel)) ggX6_fondness_X6_areSo
theorem dX6_fondness_0 : decode cX6_fondness 0 = .ok (.aload_n 0, 1) := by decide +kernel
theorem dX6_fondness_1 : decode cX6_fondness 1 = .ok (.iload_n 1, 1) := by decide +kernel
theorem dX6_fondness_2 : decode cX6_fondness 2 = .ok (.invokevirtual 131, 3) := by decide +kernel
theorem dX6_fondness_5 : decode cX6_fondness 5 = .ok (.ifCond .ne 5, 3) := by decide +kernel
theorem dX6_fondness_8 : decode cX6_fondness 8 = .ok (.iconst (-1), 1) := by decide +kernel
theorem dX6_fondness_9 : decode cX6_fondness 9 = .ok (.ireturn, 1) := by decide +kernel
theorem dX6_fondness_10 : decode cX6_fondness 10 = .ok (.aload_n 0, 1) := by decide +kernel
theorem dX6_fondness_11 : decode cX6_fondness 11 = .ok (.getfield 31, 3) := by decide +kernel
theorem dX6_fondness_14 : decode cX6_fondness 14 = .ok (.iload_n 1, 1) := by decide +kernel
theorem dX6_fondness_15 : decode cX6_fondness 15 = .ok (.iaload, 1) := by decide +kernel
theorem dX6_fondness_16 : decode cX6_fondness 16 = .ok (.istore_n 2, 1) := by decide +kernel
theorem dX6_fondness_17 : decode cX6_fondness 17 = .ok (.iconst 0, 1) := by decide +kernel
theorem dX6_fondness_18 : decode cX6_fondness 18 = .ok (.istore_n 3, 1) := by decide +kernel
theorem dX6_fondness_19 : decode cX6_fondness 19 = .ok (.iconst 0, 1) := by decide +kernel
theorem dX6_fondness_20 : decode cX6_fondness 20 = .ok (.istore 4, 2) := by decide +kernel
theorem dX6_fondness_22 : decode cX6_fondness 22 = .ok (.iload 4, 2) := by decide +kernel
theorem dX6_fondness_24 : decode cX6_fondness 24 = .ok (.iconst 3, 1) := by decide +kernel
theorem dX6_fondness_25 : decode cX6_fondness 25 = .ok (.if_icmp .gt 35, 3) := by decide +kernel
theorem dX6_fondness_28 : decode cX6_fondness 28 = .ok (.aload_n 0, 1) := by decide +kernel
theorem dX6_fondness_29 : decode cX6_fondness 29 = .ok (.getfield 31, 3) := by decide +kernel
theorem dX6_fondness_32 : decode cX6_fondness 32 = .ok (.iload_n 1, 1) := by decide +kernel
theorem dX6_fondness_33 : decode cX6_fondness 33 = .ok (.iload 4, 2) := by decide +kernel
theorem dX6_fondness_35 : decode cX6_fondness 35 = .ok (.iastore, 1) := by decide +kernel
theorem dX6_fondness_36 : decode cX6_fondness 36 = .ok (.iload_n 3, 1) := by decide +kernel
theorem dX6_fondness_37 : decode cX6_fondness 37 = .ok (.aload_n 0, 1) := by decide +kernel
theorem dX6_fondness_38 : decode cX6_fondness 38 = .ok (.invokevirtual 176, 3) := by decide +kernel
theorem dX6_fondness_41 : decode cX6_fondness 41 = .ok (.ifCond .eq 10, 3) := by decide +kernel
theorem dX6_fondness_44 : decode cX6_fondness 44 = .ok (.iconst 1, 1) := by decide +kernel
theorem dX6_fondness_45 : decode cX6_fondness 45 = .ok (.iload 4, 2) := by decide +kernel
theorem dX6_fondness_47 : decode cX6_fondness 47 = .ok (.ishl, 1) := by decide +kernel
theorem dX6_fondness_48 : decode cX6_fondness 48 = .ok (.goto 4, 3) := by decide +kernel
theorem dX6_fondness_51 : decode cX6_fondness 51 = .ok (.iconst 0, 1) := by decide +kernel
theorem dX6_fondness_52 : decode cX6_fondness 52 = .ok (.ior, 1) := by decide +kernel
theorem dX6_fondness_53 : decode cX6_fondness 53 = .ok (.istore_n 3, 1) := by decide +kernel
theorem dX6_fondness_54 : decode cX6_fondness 54 = .ok (.iinc 4 1, 3) := by decide +kernel
theorem dX6_fondness_57 : decode cX6_fondness 57 = .ok (.goto (-35), 3) := by decide +kernel
theorem dX6_fondness_60 : decode cX6_fondness 60 = .ok (.aload_n 0, 1) := by decide +kernel
theorem dX6_fondness_61 : decode cX6_fondness 61 = .ok (.getfield 31, 3) := by decide +kernel
theorem dX6_fondness_64 : decode cX6_fondness 64 = .ok (.iload_n 1, 1) := by decide +kernel
theorem dX6_fondness_65 : decode cX6_fondness 65 = .ok (.iload_n 2, 1) := by decide +kernel
theorem dX6_fondness_66 : decode cX6_fondness 66 = .ok (.iastore, 1) := by decide +kernel
theorem dX6_fondness_67 : decode cX6_fondness 67 = .ok (.iload_n 3, 1) := by decide +kernel
theorem dX6_fondness_68 : decode cX6_fondness 68 = .ok (.ireturn, 1) := by decide +kernel
theorem dX6_inLeastTerms_0 : decode cX6_inLeastTerms 0 = .ok (.lload_n 0, 1) := by decide +kernel
theorem dX6_inLeastTerms_1 : decode cX6_inLeastTerms 1 = .ok (.lstore 5, 2) := by decide +kernel
theorem dX6_inLeastTerms_3 : decode cX6_inLeastTerms 3 = .ok (.lload_n 2, 1) := by decide +kernel
theorem dX6_inLeastTerms_4 : decode cX6_inLeastTerms 4 = .ok (.lstore 7, 2) := by decide +kernel
theorem dX6_inLeastTerms_6 : decode cX6_inLeastTerms 6 = .ok (.lload 7, 2) := by decide +kernel
theorem dX6_inLeastTerms_8 : decode cX6_inLeastTerms 8 = .ok (.lconst 0, 1) := by decide +kernel
theorem dX6_inLeastTerms_9 : decode cX6_inLeastTerms 9 = .ok (.lcmp, 1) := by decide +kernel
theorem dX6_inLeastTerms_10 : decode cX6_inLeastTerms 10 = .ok (.ifCond .eq 21, 3) := by decide +kernel
theorem dX6_inLeastTerms_13 : decode cX6_inLeastTerms 13 = .ok (.lload 5, 2) := by decide +kernel
theorem dX6_inLeastTerms_15 : decode cX6_inLeastTerms 15 = .ok (.lload 7, 2) := by decide +kernel
theorem dX6_inLeastTerms_17 : decode cX6_inLeastTerms 17 = .ok (.lrem, 1) := by decide +kernel
theorem dX6_inLeastTerms_18 : decode cX6_inLeastTerms 18 = .ok (.lstore 9, 2) := by decide +kernel
theorem dX6_inLeastTerms_20 : decode cX6_inLeastTerms 20 = .ok (.lload 7, 2) := by decide +kernel
theorem dX6_inLeastTerms_22 : decode cX6_inLeastTerms 22 = .ok (.lstore 5, 2) := by decide +kernel
theorem dX6_inLeastTerms_24 : decode cX6_inLeastTerms 24 = .ok (.lload 9, 2) := by decide +kernel
theorem dX6_inLeastTerms_26 : decode cX6_inLeastTerms 26 = .ok (.lstore 7, 2) := by decide +kernel
theorem dX6_inLeastTerms_28 : decode cX6_inLeastTerms 28 = .ok (.goto (-22), 3) := by decide +kernel
theorem dX6_inLeastTerms_31 : decode cX6_inLeastTerms 31 = .ok (.iload 4, 2) := by decide +kernel
theorem dX6_inLeastTerms_33 : decode cX6_inLeastTerms 33 = .ok (.ifCond .ne 10, 3) := by decide +kernel
theorem dX6_inLeastTerms_36 : decode cX6_inLeastTerms 36 = .ok (.lload_n 0, 1) := by decide +kernel
theorem dX6_inLeastTerms_37 : decode cX6_inLeastTerms 37 = .ok (.lload 5, 2) := by decide +kernel
theorem dX6_inLeastTerms_39 : decode cX6_inLeastTerms 39 = .ok (.ldiv, 1) := by decide +kernel
theorem dX6_inLeastTerms_40 : decode cX6_inLeastTerms 40 = .ok (.goto 7, 3) := by decide +kernel
theorem dX6_inLeastTerms_43 : decode cX6_inLeastTerms 43 = .ok (.lload_n 2, 1) := by decide +kernel
theorem dX6_inLeastTerms_44 : decode cX6_inLeastTerms 44 = .ok (.lload 5, 2) := by decide +kernel
theorem dX6_inLeastTerms_46 : decode cX6_inLeastTerms 46 = .ok (.ldiv, 1) := by decide +kernel
theorem dX6_inLeastTerms_47 : decode cX6_inLeastTerms 47 = .ok (.lreturn, 1) := by decide +kernel
theorem dX6_sentSet_0 : decode cX6_sentSet 0 = .ok (.iconst 0, 1) := by decide +kernel
theorem dX6_sentSet_1 : decode cX6_sentSet 1 = .ok (.istore_n 1, 1) := by decide +kernel
theorem dX6_sentSet_2 : decode cX6_sentSet 2 = .ok (.iconst 0, 1) := by decide +kernel
theorem dX6_sentSet_3 : decode cX6_sentSet 3 = .ok (.istore_n 2, 1) := by decide +kernel
theorem dX6_sentSet_4 : decode cX6_sentSet 4 = .ok (.iload_n 2, 1) := by decide +kernel
theorem dX6_sentSet_5 : decode cX6_sentSet 5 = .ok (.aload_n 0, 1) := by decide +kernel
theorem dX6_sentSet_6 : decode cX6_sentSet 6 = .ok (.getfield 78, 3) := by decide +kernel
theorem dX6_sentSet_9 : decode cX6_sentSet 9 = .ok (.if_icmp .ge 30, 3) := by decide +kernel
theorem dX6_sentSet_12 : decode cX6_sentSet 12 = .ok (.iload_n 1, 1) := by decide +kernel
theorem dX6_sentSet_13 : decode cX6_sentSet 13 = .ok (.aload_n 0, 1) := by decide +kernel
theorem dX6_sentSet_14 : decode cX6_sentSet 14 = .ok (.getfield 34, 3) := by decide +kernel
theorem dX6_sentSet_17 : decode cX6_sentSet 17 = .ok (.iload_n 2, 1) := by decide +kernel
theorem dX6_sentSet_18 : decode cX6_sentSet 18 = .ok (.iaload, 1) := by decide +kernel
theorem dX6_sentSet_19 : decode cX6_sentSet 19 = .ok (.bipush (-9), 2) := by decide +kernel
theorem dX6_sentSet_21 : decode cX6_sentSet 21 = .ok (.if_icmp .ne 7, 3) := by decide +kernel
theorem dX6_sentSet_24 : decode cX6_sentSet 24 = .ok (.iconst 0, 1) := by decide +kernel
theorem dX6_sentSet_25 : decode cX6_sentSet 25 = .ok (.goto 6, 3) := by decide +kernel
theorem dX6_sentSet_28 : decode cX6_sentSet 28 = .ok (.iconst 1, 1) := by decide +kernel
theorem dX6_sentSet_29 : decode cX6_sentSet 29 = .ok (.iload_n 2, 1) := by decide +kernel
theorem dX6_sentSet_30 : decode cX6_sentSet 30 = .ok (.ishl, 1) := by decide +kernel
theorem dX6_sentSet_31 : decode cX6_sentSet 31 = .ok (.ior, 1) := by decide +kernel
theorem dX6_sentSet_32 : decode cX6_sentSet 32 = .ok (.istore_n 1, 1) := by decide +kernel
theorem dX6_sentSet_33 : decode cX6_sentSet 33 = .ok (.iinc 2 1, 3) := by decide +kernel
theorem dX6_sentSet_36 : decode cX6_sentSet 36 = .ok (.goto (-32), 3) := by decide +kernel
theorem dX6_sentSet_39 : decode cX6_sentSet 39 = .ok (.iload_n 1, 1) := by decide +kernel
theorem dX6_sentSet_40 : decode cX6_sentSet 40 = .ok (.ireturn, 1) := by decide +kernel
set_option maxRecDepth 20000 in
theorem ggX6_odds_X6_isYear : GoodIn wsX6_odds wsX6_isYear := goodIn_r _ [10, 11, 56, 57, 58, 59, 60, 61, 62, 63, 64, 65, 66, 67, 68, 69, 70, 71, 72, 73, 74, 75, 76, 77, 78, 79, 80, 81, 82] (by decide +kernel) (by decide +kernel)
set_option maxRecDepth 20000 in
theorem gX6_odds_X6_isYear : GoodIn wsX6_odds (wsV RX6 137 RX6 yX6_isYear wsX6_isYear) := goodIn_app (goodIn_of _ (by decide +kernel)) ggX6_odds_X6_isYear
set_option maxRecDepth 20000 in
theorem ggX6_odds_X6_within : GoodIn wsX6_odds wsX6_within := goodIn_r _ [14] (by decide +kernel) (by decide +kernel)
set_option maxRecDepth 20000 in
theorem gX6_odds_X6_within : GoodIn wsX6_odds (va_wsS RX6 68 yX6_within wsX6_within) := goodIn_app (goodIn_of _ (by decide +kernel)) ggX6_odds_X6_within
set_option maxRecDepth 20000 in
theorem ggX6_odds_X6_askNow : GoodIn wsX6_odds wsX6_askNow := goodIn_r _ [18, 3, 19, 20, 11, 56, 57, 58, 59, 60, 61, 62, 63, 64, 65, 66, 67, 68, 69, 70, 71, 72, 73, 74, 75, 76, 77, 78, 79, 80, 81, 82] (by decide +kernel) (by decide +kernel)
set_option maxRecDepth 20000 in
theorem gX6_odds_X6_askNow : GoodIn wsX6_odds (wsV RX6 147 RX6 yX6_askNow wsX6_askNow) := goodIn_app (goodIn_of _ (by decide +kernel)) ggX6_odds_X6_askNow
set_option maxRecDepth 20000 in
theorem ggX6_odds_X6_sentSet : GoodIn wsX6_odds wsX6_sentSet := goodIn_r _ [24, 3, 25, 56, 57, 58, 59, 60, 61, 62, 63, 64, 65, 66, 67, 68, 69, 70, 71, 72, 73, 74, 75, 76, 77, 78, 79, 80, 81, 82] (by decide +kernel) (by decide +kernel)
set_option maxRecDepth 20000 in
theorem gX6_odds_X6_sentSet : GoodIn wsX6_odds (wsV RX6 180 RX6 yX6_sentSet wsX6_sentSet) := goodIn_app (goodIn_of _ (by decide +kernel)) ggX6_odds_X6_sentSet
set_option maxRecDepth 20000 in
theorem ggX6_odds_X6_breakYear : GoodIn wsX6_odds wsX6_breakYear := goodIn_r _ [29, 11, 30, 31, 32, 9, 33, 1, 34, 35, 36, 37, 38, 39, 40, 41, 42, 3, 43, 19, 44, 45, 46, 47, 48, 49, 5, 56, 57, 58, 59, 60, 61, 62, 63, 64, 65, 66, 67, 68, 69, 70, 71, 72, 73, 74, 75, 76, 77, 78, 79, 80, 81, 82] (by decide +kernel) (by decide +kernel)
set_option maxRecDepth 20000 in
theorem gX6_odds_X6_breakYear : GoodIn wsX6_odds (wsV RX6 156 RX6 yX6_breakYear wsX6_breakYear) := goodIn_app (goodIn_of _ (by decide +kernel)) ggX6_odds_X6_breakYear
set_option maxRecDepth 20000 in
theorem ggX6_odds_X6_size : GoodIn wsX6_odds wsX6_size := goodIn_r _ [52] (by decide +kernel) (by decide +kernel)
set_option maxRecDepth 20000 in
theorem gX6_odds_X6_size : GoodIn wsX6_odds (va_wsS RX6 166 yX6_size wsX6_size) := goodIn_app (goodIn_of _ (by decide +kernel)) ggX6_odds_X6_size
set_option maxRecDepth 20000 in
theorem ggX6_odds_X6_inLeastTerms : GoodIn wsX6_odds wsX6_inLeastTerms := goodIn_r _ [55] (by decide +kernel) (by decide +kernel)
set_option maxRecDepth 20000 in
theorem gX6_odds_X6_inLeastTerms : GoodIn wsX6_odds (va_wsS RX6 183 yX6_inLeastTerms wsX6_inLeastTerms) := goodIn_app (goodIn_of _ (by decide +kernel)) ggX6_odds_X6_inLeastTerms
theorem dX6_odds_0 : decode cX6_odds 0 = .ok (.aload_n 0, 1) := by decide +kernel
theorem dX6_odds_1 : decode cX6_odds 1 = .ok (.getfield 72, 3) := by decide +kernel
theorem dX6_odds_4 : decode cX6_odds 4 = .ok (.ifCond .eq 20, 3) := by decide +kernel
theorem dX6_odds_7 : decode cX6_odds 7 = .ok (.aload_n 0, 1) := by decide +kernel
theorem dX6_odds_8 : decode cX6_odds 8 = .ok (.iload_n 1, 1) := by decide +kernel
theorem dX6_odds_9 : decode cX6_odds 9 = .ok (.invokevirtual 137, 3) := by decide +kernel
theorem dX6_odds_12 : decode cX6_odds 12 = .ok (.ifCond .eq 12, 3) := by decide +kernel
theorem dX6_odds_15 : decode cX6_odds 15 = .ok (.iload_n 2, 1) := by decide +kernel
theorem dX6_odds_16 : decode cX6_odds 16 = .ok (.iconst 0, 1) := by decide +kernel
theorem dX6_odds_17 : decode cX6_odds 17 = .ok (.iconst 1, 1) := by decide +kernel
theorem dX6_odds_18 : decode cX6_odds 18 = .ok (.invokestatic 68, 3) := by decide +kernel
theorem dX6_odds_21 : decode cX6_odds 21 = .ok (.ifCond .ne 7, 3) := by decide +kernel
theorem dX6_odds_24 : decode cX6_odds 24 = .ok (.ldc2_w 66, 3) := by decide +kernel
theorem dX6_odds_27 : decode cX6_odds 27 = .ok (.lreturn, 1) := by decide +kernel
theorem dX6_odds_28 : decode cX6_odds 28 = .ok (.aload_n 0, 1) := by decide +kernel
theorem dX6_odds_29 : decode cX6_odds 29 = .ok (.invokevirtual 147, 3) := by decide +kernel
theorem dX6_odds_32 : decode cX6_odds 32 = .ok (.iconst 0, 1) := by decide +kernel
theorem dX6_odds_33 : decode cX6_odds 33 = .ok (.istore_n 3, 1) := by decide +kernel
theorem dX6_odds_34 : decode cX6_odds 34 = .ok (.iload_n 3, 1) := by decide +kernel
theorem dX6_odds_35 : decode cX6_odds 35 = .ok (.aload_n 0, 1) := by decide +kernel
theorem dX6_odds_36 : decode cX6_odds 36 = .ok (.getfield 78, 3) := by decide +kernel
theorem dX6_odds_39 : decode cX6_odds 39 = .ok (.if_icmp .ge 21, 3) := by decide +kernel
theorem dX6_odds_42 : decode cX6_odds 42 = .ok (.aload_n 0, 1) := by decide +kernel
theorem dX6_odds_43 : decode cX6_odds 43 = .ok (.getfield 59, 3) := by decide +kernel
theorem dX6_odds_46 : decode cX6_odds 46 = .ok (.iload_n 3, 1) := by decide +kernel
theorem dX6_odds_47 : decode cX6_odds 47 = .ok (.aload_n 0, 1) := by decide +kernel
theorem dX6_odds_48 : decode cX6_odds 48 = .ok (.getfield 22, 3) := by decide +kernel
theorem dX6_odds_51 : decode cX6_odds 51 = .ok (.iload_n 3, 1) := by decide +kernel
theorem dX6_odds_52 : decode cX6_odds 52 = .ok (.iaload, 1) := by decide +kernel
theorem dX6_odds_53 : decode cX6_odds 53 = .ok (.iastore, 1) := by decide +kernel
theorem dX6_odds_54 : decode cX6_odds 54 = .ok (.iinc 3 1, 3) := by decide +kernel
theorem dX6_odds_57 : decode cX6_odds 57 = .ok (.goto (-23), 3) := by decide +kernel
theorem dX6_odds_60 : decode cX6_odds 60 = .ok (.aload_n 0, 1) := by decide +kernel
theorem dX6_odds_61 : decode cX6_odds 61 = .ok (.invokevirtual 180, 3) := by decide +kernel
theorem dX6_odds_64 : decode cX6_odds 64 = .ok (.istore_n 3, 1) := by decide +kernel
theorem dX6_odds_65 : decode cX6_odds 65 = .ok (.iconst 0, 1) := by decide +kernel
theorem dX6_odds_66 : decode cX6_odds 66 = .ok (.istore 4, 2) := by decide +kernel
theorem dX6_odds_68 : decode cX6_odds 68 = .ok (.iconst 0, 1) := by decide +kernel
theorem dX6_odds_69 : decode cX6_odds 69 = .ok (.istore 5, 2) := by decide +kernel
theorem dX6_odds_71 : decode cX6_odds 71 = .ok (.iload 5, 2) := by decide +kernel
theorem dX6_odds_73 : decode cX6_odds 73 = .ok (.iconst 1, 1) := by decide +kernel
theorem dX6_odds_74 : decode cX6_odds 74 = .ok (.aload_n 0, 1) := by decide +kernel
theorem dX6_odds_75 : decode cX6_odds 75 = .ok (.getfield 78, 3) := by decide +kernel
theorem dX6_odds_78 : decode cX6_odds 78 = .ok (.ishl, 1) := by decide +kernel
theorem dX6_odds_79 : decode cX6_odds 79 = .ok (.if_icmp .ge 94, 3) := by decide +kernel
theorem dX6_odds_82 : decode cX6_odds 82 = .ok (.iload 5, 2) := by decide +kernel
theorem dX6_odds_84 : decode cX6_odds 84 = .ok (.iload_n 3, 1) := by decide +kernel
theorem dX6_odds_85 : decode cX6_odds 85 = .ok (.iconst (-1), 1) := by decide +kernel
theorem dX6_odds_86 : decode cX6_odds 86 = .ok (.ixor, 1) := by decide +kernel
theorem dX6_odds_87 : decode cX6_odds 87 = .ok (.iand, 1) := by decide +kernel
theorem dX6_odds_88 : decode cX6_odds 88 = .ok (.ifCond .ne 79, 3) := by decide +kernel
theorem dX6_odds_91 : decode cX6_odds 91 = .ok (.iconst 0, 1) := by decide +kernel
theorem dX6_odds_92 : decode cX6_odds 92 = .ok (.istore 6, 2) := by decide +kernel
theorem dX6_odds_94 : decode cX6_odds 94 = .ok (.iload 6, 2) := by decide +kernel
theorem dX6_odds_96 : decode cX6_odds 96 = .ok (.aload_n 0, 1) := by decide +kernel
theorem dX6_odds_97 : decode cX6_odds 97 = .ok (.getfield 78, 3) := by decide +kernel
theorem dX6_odds_100 : decode cX6_odds 100 = .ok (.if_icmp .ge 38, 3) := by decide +kernel
theorem dX6_odds_103 : decode cX6_odds 103 = .ok (.aload_n 0, 1) := by decide +kernel
theorem dX6_odds_104 : decode cX6_odds 104 = .ok (.getfield 22, 3) := by decide +kernel
theorem dX6_odds_107 : decode cX6_odds 107 = .ok (.iload 6, 2) := by decide +kernel
theorem dX6_odds_109 : decode cX6_odds 109 = .ok (.iload 5, 2) := by decide +kernel
theorem dX6_odds_111 : decode cX6_odds 111 = .ok (.iload 6, 2) := by decide +kernel
theorem dX6_odds_113 : decode cX6_odds 113 = .ok (.ishr, 1) := by decide +kernel
theorem dX6_odds_114 : decode cX6_odds 114 = .ok (.iconst 1, 1) := by decide +kernel
theorem dX6_odds_115 : decode cX6_odds 115 = .ok (.iand, 1) := by decide +kernel
theorem dX6_odds_116 : decode cX6_odds 116 = .ok (.iconst 1, 1) := by decide +kernel
theorem dX6_odds_117 : decode cX6_odds 117 = .ok (.if_icmp .ne 7, 3) := by decide +kernel
theorem dX6_odds_120 : decode cX6_odds 120 = .ok (.iconst 2, 1) := by decide +kernel
theorem dX6_odds_121 : decode cX6_odds 121 = .ok (.goto 10, 3) := by decide +kernel
theorem dX6_odds_124 : decode cX6_odds 124 = .ok (.aload_n 0, 1) := by decide +kernel
theorem dX6_odds_125 : decode cX6_odds 125 = .ok (.getfield 59, 3) := by decide +kernel
theorem dX6_odds_128 : decode cX6_odds 128 = .ok (.iload 6, 2) := by decide +kernel
theorem dX6_odds_130 : decode cX6_odds 130 = .ok (.iaload, 1) := by decide +kernel
theorem dX6_odds_131 : decode cX6_odds 131 = .ok (.iastore, 1) := by decide +kernel
theorem dX6_odds_132 : decode cX6_odds 132 = .ok (.iinc 6 1, 3) := by decide +kernel
theorem dX6_odds_135 : decode cX6_odds 135 = .ok (.goto (-41), 3) := by decide +kernel
theorem dX6_odds_138 : decode cX6_odds 138 = .ok (.aload_n 0, 1) := by decide +kernel
theorem dX6_odds_139 : decode cX6_odds 139 = .ok (.invokevirtual 156, 3) := by decide +kernel
theorem dX6_odds_142 : decode cX6_odds 142 = .ok (.istore 6, 2) := by decide +kernel
theorem dX6_odds_144 : decode cX6_odds 144 = .ok (.iload 4, 2) := by decide +kernel
theorem dX6_odds_146 : decode cX6_odds 146 = .ok (.iload 6, 2) := by decide +kernel
theorem dX6_odds_148 : decode cX6_odds 148 = .ok (.bipush (-9), 2) := by decide +kernel
theorem dX6_odds_150 : decode cX6_odds 150 = .ok (.if_icmp .eq 13, 3) := by decide +kernel
theorem dX6_odds_153 : decode cX6_odds 153 = .ok (.iload 6, 2) := by decide +kernel
theorem dX6_odds_155 : decode cX6_odds 155 = .ok (.iload_n 1, 1) := by decide +kernel
theorem dX6_odds_156 : decode cX6_odds 156 = .ok (.if_icmp .gt 7, 3) := by decide +kernel
theorem dX6_odds_159 : decode cX6_odds 159 = .ok (.iconst 1, 1) := by decide +kernel
theorem dX6_odds_160 : decode cX6_odds 160 = .ok (.goto 4, 3) := by decide +kernel
theorem dX6_odds_163 : decode cX6_odds 163 = .ok (.iconst 0, 1) := by decide +kernel
theorem dX6_odds_164 : decode cX6_odds 164 = .ok (.iadd, 1) := by decide +kernel
theorem dX6_odds_165 : decode cX6_odds 165 = .ok (.istore 4, 2) := by decide +kernel
theorem dX6_odds_167 : decode cX6_odds 167 = .ok (.iinc 5 1, 3) := by decide +kernel
theorem dX6_odds_170 : decode cX6_odds 170 = .ok (.goto (-99), 3) := by decide +kernel
theorem dX6_odds_173 : decode cX6_odds 173 = .ok (.iconst 0, 1) := by decide +kernel
theorem dX6_odds_174 : decode cX6_odds 174 = .ok (.istore 5, 2) := by decide +kernel
theorem dX6_odds_176 : decode cX6_odds 176 = .ok (.iload 5, 2) := by decide +kernel
theorem dX6_odds_178 : decode cX6_odds 178 = .ok (.aload_n 0, 1) := by decide +kernel
theorem dX6_odds_179 : decode cX6_odds 179 = .ok (.getfield 78, 3) := by decide +kernel
theorem dX6_odds_182 : decode cX6_odds 182 = .ok (.if_icmp .ge 23, 3) := by decide +kernel
theorem dX6_odds_185 : decode cX6_odds 185 = .ok (.aload_n 0, 1) := by decide +kernel
theorem dX6_odds_186 : decode cX6_odds 186 = .ok (.getfield 22, 3) := by decide +kernel
theorem dX6_odds_189 : decode cX6_odds 189 = .ok (.iload 5, 2) := by decide +kernel
theorem dX6_odds_191 : decode cX6_odds 191 = .ok (.aload_n 0, 1) := by decide +kernel
theorem dX6_odds_192 : decode cX6_odds 192 = .ok (.getfield 59, 3) := by decide +kernel
theorem dX6_odds_195 : decode cX6_odds 195 = .ok (.iload 5, 2) := by decide +kernel
theorem dX6_odds_197 : decode cX6_odds 197 = .ok (.iaload, 1) := by decide +kernel
theorem dX6_odds_198 : decode cX6_odds 198 = .ok (.iastore, 1) := by decide +kernel
theorem dX6_odds_199 : decode cX6_odds 199 = .ok (.iinc 5 1, 3) := by decide +kernel
theorem dX6_odds_202 : decode cX6_odds 202 = .ok (.goto (-26), 3) := by decide +kernel
theorem dX6_odds_205 : decode cX6_odds 205 = .ok (.iload 4, 2) := by decide +kernel
theorem dX6_odds_207 : decode cX6_odds 207 = .ok (.i2l, 1) := by decide +kernel
theorem dX6_odds_208 : decode cX6_odds 208 = .ok (.lconst 1, 1) := by decide +kernel
theorem dX6_odds_209 : decode cX6_odds 209 = .ok (.iload_n 3, 1) := by decide +kernel
theorem dX6_odds_210 : decode cX6_odds 210 = .ok (.invokestatic 166, 3) := by decide +kernel
theorem dX6_odds_213 : decode cX6_odds 213 = .ok (.lshl, 1) := by decide +kernel
theorem dX6_odds_214 : decode cX6_odds 214 = .ok (.iload_n 2, 1) := by decide +kernel
theorem dX6_odds_215 : decode cX6_odds 215 = .ok (.invokestatic 183, 3) := by decide +kernel
theorem dX6_odds_218 : decode cX6_odds 218 = .ok (.lreturn, 1) := by decide +kernel
set_option maxRecDepth 20000 in
theorem ggX6_sheet_X6_isSheet : GoodIn wsX6_sheet wsX6_isSheet := goodIn_r _ [8, 9, 10, 7, 11] (by decide +kernel) (by decide +kernel)
set_option maxRecDepth 20000 in
theorem gX6_sheet_X6_isSheet : GoodIn wsX6_sheet (va_wsS RX6 84 yX6_isSheet wsX6_isSheet) := goodIn_app (goodIn_of _ (by decide +kernel)) ggX6_sheet_X6_isSheet
set_option maxRecDepth 20000 in
theorem ggX6_sheet_X6_isSort : GoodIn wsX6_sheet wsX6_isSort := goodIn_r _ [14, 9, 10, 7, 11] (by decide +kernel) (by decide +kernel)
set_option maxRecDepth 20000 in
theorem gX6_sheet_X6_isSort : GoodIn wsX6_sheet (va_wsS RX6 88 yX6_isSort wsX6_isSort) := goodIn_app (goodIn_of _ (by decide +kernel)) ggX6_sheet_X6_isSort
set_option maxRecDepth 20000 in
theorem ggX6_sheet_X6_fails : GoodIn wsX6_sheet wsX6_fails := goodIn_r _ [18, 1, 19, 20, 21, 22, 23, 24, 25, 26, 27, 28, 29, 30, 31, 32, 33, 34, 35, 36, 37, 38, 39, 40, 41, 42, 43, 44, 45] (by decide +kernel) (by decide +kernel)
set_option maxRecDepth 20000 in
theorem gX6_sheet_X6_fails : GoodIn wsX6_sheet (wsV RX6 95 RX6 yX6_fails wsX6_fails) := goodIn_app (goodIn_of _ (by decide +kernel)) ggX6_sheet_X6_fails
theorem dX6_sheet_0 : decode cX6_sheet 0 = .ok (.aload_n 0, 1) := by decide +kernel
theorem dX6_sheet_1 : decode cX6_sheet 1 = .ok (.iconst 0, 1) := by decide +kernel
theorem dX6_sheet_2 : decode cX6_sheet 2 = .ok (.putfield 62, 3) := by decide +kernel
theorem dX6_sheet_5 : decode cX6_sheet 5 = .ok (.iload_n 1, 1) := by decide +kernel
theorem dX6_sheet_6 : decode cX6_sheet 6 = .ok (.invokestatic 84, 3) := by decide +kernel
theorem dX6_sheet_9 : decode cX6_sheet 9 = .ok (.ifCond .ne 5, 3) := by decide +kernel
theorem dX6_sheet_12 : decode cX6_sheet 12 = .ok (.iconst (-1), 1) := by decide +kernel
theorem dX6_sheet_13 : decode cX6_sheet 13 = .ok (.ireturn, 1) := by decide +kernel
theorem dX6_sheet_14 : decode cX6_sheet 14 = .ok (.iload_n 2, 1) := by decide +kernel
theorem dX6_sheet_15 : decode cX6_sheet 15 = .ok (.invokestatic 88, 3) := by decide +kernel
theorem dX6_sheet_18 : decode cX6_sheet 18 = .ok (.ifCond .eq 9, 3) := by decide +kernel
theorem dX6_sheet_21 : decode cX6_sheet 21 = .ok (.iload_n 3, 1) := by decide +kernel
theorem dX6_sheet_22 : decode cX6_sheet 22 = .ok (.bipush 60, 2) := by decide +kernel
theorem dX6_sheet_24 : decode cX6_sheet 24 = .ok (.if_icmp .le 6, 3) := by decide +kernel
theorem dX6_sheet_27 : decode cX6_sheet 27 = .ok (.bipush (-2), 2) := by decide +kernel
theorem dX6_sheet_29 : decode cX6_sheet 29 = .ok (.ireturn, 1) := by decide +kernel
theorem dX6_sheet_30 : decode cX6_sheet 30 = .ok (.iload_n 3, 1) := by decide +kernel
theorem dX6_sheet_31 : decode cX6_sheet 31 = .ok (.ifCond .ge 9, 3) := by decide +kernel
theorem dX6_sheet_34 : decode cX6_sheet 34 = .ok (.aload_n 0, 1) := by decide +kernel
theorem dX6_sheet_35 : decode cX6_sheet 35 = .ok (.iconst 4, 1) := by decide +kernel
theorem dX6_sheet_36 : decode cX6_sheet 36 = .ok (.invokevirtual 95, 3) := by decide +kernel
theorem dX6_sheet_39 : decode cX6_sheet 39 = .ok (.ireturn, 1) := by decide +kernel
theorem dX6_sheet_40 : decode cX6_sheet 40 = .ok (.aload_n 0, 1) := by decide +kernel
theorem dX6_sheet_41 : decode cX6_sheet 41 = .ok (.getfield 9, 3) := by decide +kernel
theorem dX6_sheet_44 : decode cX6_sheet 44 = .ok (.iload_n 1, 1) := by decide +kernel
theorem dX6_sheet_45 : decode cX6_sheet 45 = .ok (.iload_n 2, 1) := by decide +kernel
theorem dX6_sheet_46 : decode cX6_sheet 46 = .ok (.iastore, 1) := by decide +kernel
theorem dX6_sheet_47 : decode cX6_sheet 47 = .ok (.aload_n 0, 1) := by decide +kernel
theorem dX6_sheet_48 : decode cX6_sheet 48 = .ok (.getfield 13, 3) := by decide +kernel
theorem dX6_sheet_51 : decode cX6_sheet 51 = .ok (.iload_n 1, 1) := by decide +kernel
theorem dX6_sheet_52 : decode cX6_sheet 52 = .ok (.iload_n 3, 1) := by decide +kernel
theorem dX6_sheet_53 : decode cX6_sheet 53 = .ok (.iastore, 1) := by decide +kernel
theorem dX6_sheet_54 : decode cX6_sheet 54 = .ok (.iconst 0, 1) := by decide +kernel
theorem dX6_sheet_55 : decode cX6_sheet 55 = .ok (.istore 4, 2) := by decide +kernel
theorem dX6_sheet_57 : decode cX6_sheet 57 = .ok (.iload 4, 2) := by decide +kernel
theorem dX6_sheet_59 : decode cX6_sheet 59 = .ok (.bipush 60, 2) := by decide +kernel
theorem dX6_sheet_61 : decode cX6_sheet 61 = .ok (.if_icmp .ge 22, 3) := by decide +kernel
theorem dX6_sheet_64 : decode cX6_sheet 64 = .ok (.aload_n 0, 1) := by decide +kernel
theorem dX6_sheet_65 : decode cX6_sheet 65 = .ok (.getfield 16, 3) := by decide +kernel
theorem dX6_sheet_68 : decode cX6_sheet 68 = .ok (.bipush 60, 2) := by decide +kernel
theorem dX6_sheet_70 : decode cX6_sheet 70 = .ok (.iload_n 1, 1) := by decide +kernel
theorem dX6_sheet_71 : decode cX6_sheet 71 = .ok (.imul, 1) := by decide +kernel
theorem dX6_sheet_72 : decode cX6_sheet 72 = .ok (.iload 4, 2) := by decide +kernel
theorem dX6_sheet_74 : decode cX6_sheet 74 = .ok (.iadd, 1) := by decide +kernel
theorem dX6_sheet_75 : decode cX6_sheet 75 = .ok (.iconst 0, 1) := by decide +kernel
