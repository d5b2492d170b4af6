theorem dX0_init_0 : decode cX0_init 0 = .ok (.aload_n 0, 1) := by decide +kernel
theorem dX0_init_1 : decode cX0_init 1 = .ok (.invokespecial 3, 3) := by decide +kernel
theorem dX0_init_4 : decode cX0_init 4 = .ok (.aload_n 0, 1) := by decide +kernel
theorem dX0_init_5 : decode cX0_init 5 = .ok (.bipush 8, 2) := by decide +kernel
theorem dX0_init_7 : decode cX0_init 7 = .ok (.newarray .int, 2) := by decide +kernel
theorem dX0_init_9 : decode cX0_init 9 = .ok (.putfield 9, 3) := by decide +kernel
theorem dX0_init_12 : decode cX0_init 12 = .ok (.aload_n 0, 1) := by decide +kernel
theorem dX0_init_13 : decode cX0_init 13 = .ok (.bipush 8, 2) := by decide +kernel
theorem dX0_init_15 : decode cX0_init 15 = .ok (.newarray .int, 2) := by decide +kernel
theorem dX0_init_17 : decode cX0_init 17 = .ok (.putfield 15, 3) := by decide +kernel
theorem dX0_init_20 : decode cX0_init 20 = .ok (.aload_n 0, 1) := by decide +kernel
theorem dX0_init_21 : decode cX0_init 21 = .ok (.bipush 8, 2) := by decide +kernel
theorem dX0_init_23 : decode cX0_init 23 = .ok (.newarray .boolean, 2) := by decide +kernel
theorem dX0_init_25 : decode cX0_init 25 = .ok (.putfield 18, 3) := by decide +kernel
theorem dX0_init_28 : decode cX0_init 28 = .ok (.aload_n 0, 1) := by decide +kernel
theorem dX0_init_29 : decode cX0_init 29 = .ok (.iconst 0, 1) := by decide +kernel
theorem dX0_init_30 : decode cX0_init 30 = .ok (.putfield 22, 3) := by decide +kernel
theorem dX0_init_33 : decode cX0_init 33 = .ok (.return_, 1) := by decide +kernel
theorem dX0_note_0 : decode cX0_note 0 = .ok (.aload_n 0, 1) := by decide +kernel
theorem dX0_note_1 : decode cX0_note 1 = .ok (.getfield 22, 3) := by decide +kernel
theorem dX0_note_4 : decode cX0_note 4 = .ok (.bipush 8, 2) := by decide +kernel
theorem dX0_note_6 : decode cX0_note 6 = .ok (.if_icmp .lt 6, 3) := by decide +kernel
theorem dX0_note_9 : decode cX0_note 9 = .ok (.bipush (-4), 2) := by decide +kernel
theorem dX0_note_11 : decode cX0_note 11 = .ok (.ireturn, 1) := by decide +kernel
theorem dX0_note_12 : decode cX0_note 12 = .ok (.aload_n 0, 1) := by decide +kernel
theorem dX0_note_13 : decode cX0_note 13 = .ok (.getfield 22, 3) := by decide +kernel
theorem dX0_note_16 : decode cX0_note 16 = .ok (.istore 4, 2) := by decide +kernel
theorem dX0_note_18 : decode cX0_note 18 = .ok (.aload_n 0, 1) := by decide +kernel
theorem dX0_note_19 : decode cX0_note 19 = .ok (.getfield 9, 3) := by decide +kernel
theorem dX0_note_22 : decode cX0_note 22 = .ok (.iload 4, 2) := by decide +kernel
theorem dX0_note_24 : decode cX0_note 24 = .ok (.iload_n 1, 1) := by decide +kernel
theorem dX0_note_25 : decode cX0_note 25 = .ok (.iastore, 1) := by decide +kernel
theorem dX0_note_26 : decode cX0_note 26 = .ok (.aload_n 0, 1) := by decide +kernel
theorem dX0_note_27 : decode cX0_note 27 = .ok (.getfield 15, 3) := by decide +kernel
theorem dX0_note_30 : decode cX0_note 30 = .ok (.iload 4, 2) := by decide +kernel
theorem dX0_note_32 : decode cX0_note 32 = .ok (.iload_n 2, 1) := by decide +kernel
theorem dX0_note_33 : decode cX0_note 33 = .ok (.iastore, 1) := by decide +kernel
theorem dX0_note_34 : decode cX0_note 34 = .ok (.aload_n 0, 1) := by decide +kernel
theorem dX0_note_35 : decode cX0_note 35 = .ok (.getfield 18, 3) := by decide +kernel
theorem dX0_note_38 : decode cX0_note 38 = .ok (.iload 4, 2) := by decide +kernel
theorem dX0_note_40 : decode cX0_note 40 = .ok (.iload_n 3, 1) := by decide +kernel
theorem dX0_note_41 : decode cX0_note 41 = .ok (.bastore, 1) := by decide +kernel
theorem dX0_note_42 : decode cX0_note 42 = .ok (.aload_n 0, 1) := by decide +kernel
theorem dX0_note_43 : decode cX0_note 43 = .ok (.dup, 1) := by decide +kernel
theorem dX0_note_44 : decode cX0_note 44 = .ok (.getfield 22, 3) := by decide +kernel
theorem dX0_note_47 : decode cX0_note 47 = .ok (.iconst 1, 1) := by decide +kernel
theorem dX0_note_48 : decode cX0_note 48 = .ok (.iadd, 1) := by decide +kernel
theorem dX0_note_49 : decode cX0_note 49 = .ok (.putfield 22, 3) := by decide +kernel
theorem dX0_note_52 : decode cX0_note 52 = .ok (.iload 4, 2) := by decide +kernel
theorem dX0_note_54 : decode cX0_note 54 = .ok (.ireturn, 1) := by decide +kernel
set_option maxRecDepth 20000 in
theorem ggX0_allSo_X4_wouldBreak : GoodIn wsX0_allSo wsX4_wouldBreak := goodIn_r _ [9, 10, 11, 12, 13, 8, 14, 15, 16, 17, 18, 19, 20, 21, 22, 23, 24, 25, 26, 27, 28, 29, 30, 35, 36, 37, 38, 39, 40, 41, 42, 43, 44] (by decide +kernel) (by decide +kernel)
set_option maxRecDepth 20000 in
theorem gX0_allSo_X4_wouldBreak : GoodIn wsX0_allSo (wsV RX0 26 RX4 yX4_wouldBreak wsX4_wouldBreak) := goodIn_app (goodIn_of _ (by decide +kernel)) ggX0_allSo_X4_wouldBreak
theorem dX0_allSo_0 : decode cX0_allSo 0 = .ok (.iconst 0, 1) := by decide +kernel
theorem dX0_allSo_1 : decode cX0_allSo 1 = .ok (.istore_n 3, 1) := by decide +kernel
theorem dX0_allSo_2 : decode cX0_allSo 2 = .ok (.iload_n 3, 1) := by decide +kernel
theorem dX0_allSo_3 : decode cX0_allSo 3 = .ok (.aload_n 0, 1) := by decide +kernel
theorem dX0_allSo_4 : decode cX0_allSo 4 = .ok (.getfield 22, 3) := by decide +kernel
theorem dX0_allSo_7 : decode cX0_allSo 7 = .ok (.if_icmp .ge 38, 3) := by decide +kernel
theorem dX0_allSo_10 : decode cX0_allSo 10 = .ok (.aload_n 1, 1) := by decide +kernel
theorem dX0_allSo_11 : decode cX0_allSo 11 = .ok (.aload_n 0, 1) := by decide +kernel
theorem dX0_allSo_12 : decode cX0_allSo 12 = .ok (.getfield 9, 3) := by decide +kernel
theorem dX0_allSo_15 : decode cX0_allSo 15 = .ok (.iload_n 3, 1) := by decide +kernel
theorem dX0_allSo_16 : decode cX0_allSo 16 = .ok (.iaload, 1) := by decide +kernel
theorem dX0_allSo_17 : decode cX0_allSo 17 = .ok (.aload_n 0, 1) := by decide +kernel
theorem dX0_allSo_18 : decode cX0_allSo 18 = .ok (.getfield 15, 3) := by decide +kernel
theorem dX0_allSo_21 : decode cX0_allSo 21 = .ok (.iload_n 3, 1) := by decide +kernel
theorem dX0_allSo_22 : decode cX0_allSo 22 = .ok (.iaload, 1) := by decide +kernel
theorem dX0_allSo_23 : decode cX0_allSo 23 = .ok (.aload_n 2, 1) := by decide +kernel
theorem dX0_allSo_24 : decode cX0_allSo 24 = .ok (.iconst 0, 1) := by decide +kernel
theorem dX0_allSo_25 : decode cX0_allSo 25 = .ok (.invokevirtual 26, 3) := by decide +kernel
theorem dX0_allSo_28 : decode cX0_allSo 28 = .ok (.aload_n 0, 1) := by decide +kernel
theorem dX0_allSo_29 : decode cX0_allSo 29 = .ok (.getfield 18, 3) := by decide +kernel
theorem dX0_allSo_32 : decode cX0_allSo 32 = .ok (.iload_n 3, 1) := by decide +kernel
theorem dX0_allSo_33 : decode cX0_allSo 33 = .ok (.baload, 1) := by decide +kernel
theorem dX0_allSo_34 : decode cX0_allSo 34 = .ok (.if_icmp .eq 5, 3) := by decide +kernel
theorem dX0_allSo_37 : decode cX0_allSo 37 = .ok (.iconst 0, 1) := by decide +kernel
theorem dX0_allSo_38 : decode cX0_allSo 38 = .ok (.ireturn, 1) := by decide +kernel
theorem dX0_allSo_39 : decode cX0_allSo 39 = .ok (.iinc 3 1, 3) := by decide +kernel
theorem dX0_allSo_42 : decode cX0_allSo 42 = .ok (.goto (-40), 3) := by decide +kernel
theorem dX0_allSo_45 : decode cX0_allSo 45 = .ok (.iconst 1, 1) := by decide +kernel
theorem dX0_allSo_46 : decode cX0_allSo 46 = .ok (.ireturn, 1) := by decide +kernel
set_option maxRecDepth 20000 in
theorem ggX1_init_X1_fromTheStart : GoodIn wsX1_init wsX1_fromTheStart := goodIn_r _ [11, 6, 12, 13] (by decide +kernel) (by decide +kernel)
set_option maxRecDepth 20000 in
theorem gX1_init_X1_fromTheStart : GoodIn wsX1_init (wsV RX1 18 RX1 yX1_fromTheStart wsX1_fromTheStart) := goodIn_app (goodIn_of _ (by decide +kernel)) ggX1_init_X1_fromTheStart
theorem dX1_init_0 : decode cX1_init 0 = .ok (.aload_n 0, 1) := by decide +kernel
theorem dX1_init_1 : decode cX1_init 1 = .ok (.invokespecial 3, 3) := by decide +kernel
theorem dX1_init_4 : decode cX1_init 4 = .ok (.aload_n 0, 1) := by decide +kernel
theorem dX1_init_5 : decode cX1_init 5 = .ok (.iconst 5, 1) := by decide +kernel
theorem dX1_init_6 : decode cX1_init 6 = .ok (.newarray .int, 2) := by decide +kernel
theorem dX1_init_8 : decode cX1_init 8 = .ok (.putfield 9, 3) := by decide +kernel
theorem dX1_init_11 : decode cX1_init 11 = .ok (.aload_n 0, 1) := by decide +kernel
theorem dX1_init_12 : decode cX1_init 12 = .ok (.iconst 5, 1) := by decide +kernel
theorem dX1_init_13 : decode cX1_init 13 = .ok (.newarray .int, 2) := by decide +kernel
theorem dX1_init_15 : decode cX1_init 15 = .ok (.putfield 15, 3) := by decide +kernel
theorem dX1_init_18 : decode cX1_init 18 = .ok (.aload_n 0, 1) := by decide +kernel
theorem dX1_init_19 : decode cX1_init 19 = .ok (.iconst 0, 1) := by decide +kernel
theorem dX1_init_20 : decode cX1_init 20 = .ok (.invokevirtual 18, 3) := by decide +kernel
theorem dX1_init_23 : decode cX1_init 23 = .ok (.return_, 1) := by decide +kernel
set_option maxRecDepth 20000 in
theorem ggX1_nobody_X1_fromTheStart : GoodIn wsX1_nobody wsX1_fromTheStart := goodIn_r _ [5, 6, 7, 8] (by decide +kernel) (by decide +kernel)
set_option maxRecDepth 20000 in
theorem gX1_nobody_X1_fromTheStart : GoodIn wsX1_nobody (wsV RX1 18 RX1 yX1_fromTheStart wsX1_fromTheStart) := goodIn_app (goodIn_of _ (by decide +kernel)) ggX1_nobody_X1_fromTheStart
theorem dX1_nobody_0 : decode cX1_nobody 0 = .ok (.aload_n 0, 1) := by decide +kernel
theorem dX1_nobody_1 : decode cX1_nobody 1 = .ok (.iconst 0, 1) := by decide +kernel
theorem dX1_nobody_2 : decode cX1_nobody 2 = .ok (.invokevirtual 18, 3) := by decide +kernel
theorem dX1_nobody_5 : decode cX1_nobody 5 = .ok (.return_, 1) := by decide +kernel
theorem dX1_fromTheStart_0 : decode cX1_fromTheStart 0 = .ok (.iconst 0, 1) := by decide +kernel
theorem dX1_fromTheStart_1 : decode cX1_fromTheStart 1 = .ok (.istore_n 2, 1) := by decide +kernel
theorem dX1_fromTheStart_2 : decode cX1_fromTheStart 2 = .ok (.iload_n 2, 1) := by decide +kernel
theorem dX1_fromTheStart_3 : decode cX1_fromTheStart 3 = .ok (.iconst 5, 1) := by decide +kernel
theorem dX1_fromTheStart_4 : decode cX1_fromTheStart 4 = .ok (.if_icmp .ge 30, 3) := by decide +kernel
theorem dX1_fromTheStart_7 : decode cX1_fromTheStart 7 = .ok (.aload_n 0, 1) := by decide +kernel
theorem dX1_fromTheStart_8 : decode cX1_fromTheStart 8 = .ok (.getfield 15, 3) := by decide +kernel
theorem dX1_fromTheStart_11 : decode cX1_fromTheStart 11 = .ok (.iload_n 2, 1) := by decide +kernel
theorem dX1_fromTheStart_12 : decode cX1_fromTheStart 12 = .ok (.iload_n 1, 1) := by decide +kernel
theorem dX1_fromTheStart_13 : decode cX1_fromTheStart 13 = .ok (.iload_n 2, 1) := by decide +kernel
theorem dX1_fromTheStart_14 : decode cX1_fromTheStart 14 = .ok (.ishr, 1) := by decide +kernel
theorem dX1_fromTheStart_15 : decode cX1_fromTheStart 15 = .ok (.iconst 1, 1) := by decide +kernel
theorem dX1_fromTheStart_16 : decode cX1_fromTheStart 16 = .ok (.iand, 1) := by decide +kernel
theorem dX1_fromTheStart_17 : decode cX1_fromTheStart 17 = .ok (.iconst 1, 1) := by decide +kernel
theorem dX1_fromTheStart_18 : decode cX1_fromTheStart 18 = .ok (.if_icmp .ne 7, 3) := by decide +kernel
theorem dX1_fromTheStart_21 : decode cX1_fromTheStart 21 = .ok (.iconst 0, 1) := by decide +kernel
theorem dX1_fromTheStart_22 : decode cX1_fromTheStart 22 = .ok (.goto 5, 3) := by decide +kernel
theorem dX1_fromTheStart_25 : decode cX1_fromTheStart 25 = .ok (.bipush 6, 2) := by decide +kernel
theorem dX1_fromTheStart_27 : decode cX1_fromTheStart 27 = .ok (.iastore, 1) := by decide +kernel
theorem dX1_fromTheStart_28 : decode cX1_fromTheStart 28 = .ok (.iinc 2 1, 3) := by decide +kernel
theorem dX1_fromTheStart_31 : decode cX1_fromTheStart 31 = .ok (.goto (-29), 3) := by decide +kernel
theorem dX1_fromTheStart_34 : decode cX1_fromTheStart 34 = .ok (.return_, 1) := by decide +kernel
theorem dX1_ever_0 : decode cX1_ever 0 = .ok (.aload_n 0, 1) := by decide +kernel
theorem dX1_ever_1 : decode cX1_ever 1 = .ok (.getfield 15, 3) := by decide +kernel
theorem dX1_ever_4 : decode cX1_ever 4 = .ok (.iload_n 1, 1) := by decide +kernel
theorem dX1_ever_5 : decode cX1_ever 5 = .ok (.iaload, 1) := by decide +kernel
theorem dX1_ever_6 : decode cX1_ever 6 = .ok (.bipush 6, 2) := by decide +kernel
theorem dX1_ever_8 : decode cX1_ever 8 = .ok (.if_icmp .ge 7, 3) := by decide +kernel
theorem dX1_ever_11 : decode cX1_ever 11 = .ok (.iconst 1, 1) := by decide +kernel
theorem dX1_ever_12 : decode cX1_ever 12 = .ok (.goto 4, 3) := by decide +kernel
theorem dX1_ever_15 : decode cX1_ever 15 = .ok (.iconst 0, 1) := by decide +kernel
theorem dX1_ever_16 : decode cX1_ever 16 = .ok (.ireturn, 1) := by decide +kernel
theorem dX1_isAway_0 : decode cX1_isAway 0 = .ok (.aload_n 0, 1) := by decide +kernel
theorem dX1_isAway_1 : decode cX1_isAway 1 = .ok (.getfield 15, 3) := by decide +kernel
theorem dX1_isAway_4 : decode cX1_isAway 4 = .ok (.iload_n 1, 1) := by decide +kernel
theorem dX1_isAway_5 : decode cX1_isAway 5 = .ok (.iaload, 1) := by decide +kernel
theorem dX1_isAway_6 : decode cX1_isAway 6 = .ok (.iload_n 2, 1) := by decide +kernel
theorem dX1_isAway_7 : decode cX1_isAway 7 = .ok (.if_icmp .gt 7, 3) := by decide +kernel
theorem dX1_isAway_10 : decode cX1_isAway 10 = .ok (.iconst 1, 1) := by decide +kernel
theorem dX1_isAway_11 : decode cX1_isAway 11 = .ok (.goto 4, 3) := by decide +kernel
theorem dX1_isAway_14 : decode cX1_isAway 14 = .ok (.iconst 0, 1) := by decide +kernel
theorem dX1_isAway_15 : decode cX1_isAway 15 = .ok (.ireturn, 1) := by decide +kernel
set_option maxRecDepth 20000 in
theorem ggX1_howManyBy_X1_isAway : GoodIn wsX1_howManyBy wsX1_isAway := goodIn_r _ [5, 6, 7, 8] (by decide +kernel) (by decide +kernel)
set_option maxRecDepth 20000 in
theorem gX1_howManyBy_X1_isAway : GoodIn wsX1_howManyBy (wsV RX1 22 RX1 yX1_isAway wsX1_isAway) := goodIn_app (goodIn_of _ (by decide +kernel)) ggX1_howManyBy_X1_isAway
theorem dX1_howManyBy_0 : decode cX1_howManyBy 0 = .ok (.iconst 0, 1) := by decide +kernel
theorem dX1_howManyBy_1 : decode cX1_howManyBy 1 = .ok (.istore_n 2, 1) := by decide +kernel
theorem dX1_howManyBy_2 : decode cX1_howManyBy 2 = .ok (.iconst 0, 1) := by decide +kernel
theorem dX1_howManyBy_3 : decode cX1_howManyBy 3 = .ok (.istore_n 3, 1) := by decide +kernel
theorem dX1_howManyBy_4 : decode cX1_howManyBy 4 = .ok (.iload_n 3, 1) := by decide +kernel
theorem dX1_howManyBy_5 : decode cX1_howManyBy 5 = .ok (.iconst 5, 1) := by decide +kernel
theorem dX1_howManyBy_6 : decode cX1_howManyBy 6 = .ok (.if_icmp .ge 26, 3) := by decide +kernel
theorem dX1_howManyBy_9 : decode cX1_howManyBy 9 = .ok (.iload_n 2, 1) := by decide +kernel
theorem dX1_howManyBy_10 : decode cX1_howManyBy 10 = .ok (.aload_n 0, 1) := by decide +kernel
theorem dX1_howManyBy_11 : decode cX1_howManyBy 11 = .ok (.iload_n 3, 1) := by decide +kernel
theorem dX1_howManyBy_12 : decode cX1_howManyBy 12 = .ok (.iload_n 1, 1) := by decide +kernel
theorem dX1_howManyBy_13 : decode cX1_howManyBy 13 = .ok (.invokevirtual 22, 3) := by decide +kernel
theorem dX1_howManyBy_16 : decode cX1_howManyBy 16 = .ok (.ifCond .eq 7, 3) := by decide +kernel
theorem dX1_howManyBy_19 : decode cX1_howManyBy 19 = .ok (.iconst 1, 1) := by decide +kernel
theorem dX1_howManyBy_20 : decode cX1_howManyBy 20 = .ok (.goto 4, 3) := by decide +kernel
theorem dX1_howManyBy_23 : decode cX1_howManyBy 23 = .ok (.iconst 0, 1) := by decide +kernel
theorem dX1_howManyBy_24 : decode cX1_howManyBy 24 = .ok (.iadd, 1) := by decide +kernel
theorem dX1_howManyBy_25 : decode cX1_howManyBy 25 = .ok (.istore_n 2, 1) := by decide +kernel
theorem dX1_howManyBy_26 : decode cX1_howManyBy 26 = .ok (.iinc 3 1, 3) := by decide +kernel
theorem dX1_howManyBy_29 : decode cX1_howManyBy 29 = .ok (.goto (-25), 3) := by decide +kernel
theorem dX1_howManyBy_32 : decode cX1_howManyBy 32 = .ok (.iload_n 2, 1) := by decide +kernel
theorem dX1_howManyBy_33 : decode cX1_howManyBy 33 = .ok (.ireturn, 1) := by decide +kernel
set_option maxRecDepth 20000 in
theorem ggX1_setOf_X1_ever : GoodIn wsX1_setOf wsX1_ever := goodIn_r _ [5, 6, 7, 8] (by decide +kernel) (by decide +kernel)
set_option maxRecDepth 20000 in
theorem gX1_setOf_X1_ever : GoodIn wsX1_setOf (wsV RX1 26 RX1 yX1_ever wsX1_ever) := goodIn_app (goodIn_of _ (by decide +kernel)) ggX1_setOf_X1_ever
theorem dX1_setOf_0 : decode cX1_setOf 0 = .ok (.iconst 0, 1) := by decide +kernel
theorem dX1_setOf_1 : decode cX1_setOf 1 = .ok (.istore_n 1, 1) := by decide +kernel
theorem dX1_setOf_2 : decode cX1_setOf 2 = .ok (.iconst 0, 1) := by decide +kernel
theorem dX1_setOf_3 : decode cX1_setOf 3 = .ok (.istore_n 2, 1) := by decide +kernel
theorem dX1_setOf_4 : decode cX1_setOf 4 = .ok (.iload_n 2, 1) := by decide +kernel
theorem dX1_setOf_5 : decode cX1_setOf 5 = .ok (.iconst 5, 1) := by decide +kernel
theorem dX1_setOf_6 : decode cX1_setOf 6 = .ok (.if_icmp .ge 27, 3) := by decide +kernel
theorem dX1_setOf_9 : decode cX1_setOf 9 = .ok (.iload_n 1, 1) := by decide +kernel
theorem dX1_setOf_10 : decode cX1_setOf 10 = .ok (.aload_n 0, 1) := by decide +kernel
theorem dX1_setOf_11 : decode cX1_setOf 11 = .ok (.iload_n 2, 1) := by decide +kernel
theorem dX1_setOf_12 : decode cX1_setOf 12 = .ok (.invokevirtual 26, 3) := by decide +kernel
theorem dX1_setOf_15 : decode cX1_setOf 15 = .ok (.ifCond .eq 9, 3) := by decide +kernel
theorem dX1_setOf_18 : decode cX1_setOf 18 = .ok (.iconst 1, 1) := by decide +kernel
theorem dX1_setOf_19 : decode cX1_setOf 19 = .ok (.iload_n 2, 1) := by decide +kernel
theorem dX1_setOf_20 : decode cX1_setOf 20 = .ok (.ishl, 1) := by decide +kernel
theorem dX1_setOf_21 : decode cX1_setOf 21 = .ok (.goto 4, 3) := by decide +kernel
theorem dX1_setOf_24 : decode cX1_setOf 24 = .ok (.iconst 0, 1) := by decide +kernel
theorem dX1_setOf_25 : decode cX1_setOf 25 = .ok (.ior, 1) := by decide +kernel
theorem dX1_setOf_26 : decode cX1_setOf 26 = .ok (.istore_n 1, 1) := by decide +kernel
theorem dX1_setOf_27 : decode cX1_setOf 27 = .ok (.iinc 2 1, 3) := by decide +kernel
theorem dX1_setOf_30 : decode cX1_setOf 30 = .ok (.goto (-26), 3) := by decide +kernel
theorem dX1_setOf_33 : decode cX1_setOf 33 = .ok (.iload_n 1, 1) := by decide +kernel
theorem dX1_setOf_34 : decode cX1_setOf 34 = .ok (.ireturn, 1) := by decide +kernel
theorem dX2_init_0 : decode cX2_init 0 = .ok (.aload_n 0, 1) := by decide +kernel
theorem dX2_init_1 : decode cX2_init 1 = .ok (.invokespecial 3, 3) := by decide +kernel
theorem dX2_init_4 : decode cX2_init 4 = .ok (.aload_n 0, 1) := by decide +kernel
theorem dX2_init_5 : decode cX2_init 5 = .ok (.bipush 60, 2) := by decide +kernel
theorem dX2_init_7 : decode cX2_init 7 = .ok (.newarray .int, 2) := by decide +kernel
theorem dX2_init_9 : decode cX2_init 9 = .ok (.putfield 9, 3) := by decide +kernel
theorem dX2_init_12 : decode cX2_init 12 = .ok (.aload_n 0, 1) := by decide +kernel
theorem dX2_init_13 : decode cX2_init 13 = .ok (.iconst 0, 1) := by decide +kernel
theorem dX2_init_14 : decode cX2_init 14 = .ok (.putfield 15, 3) := by decide +kernel
theorem dX2_init_17 : decode cX2_init 17 = .ok (.aload_n 0, 1) := by decide +kernel
theorem dX2_init_18 : decode cX2_init 18 = .ok (.iconst 0, 1) := by decide +kernel
theorem dX2_init_19 : decode cX2_init 19 = .ok (.putfield 19, 3) := by decide +kernel
theorem dX2_init_22 : decode cX2_init 22 = .ok (.aload_n 0, 1) := by decide +kernel
theorem dX2_init_23 : decode cX2_init 23 = .ok (.iconst 0, 1) := by decide +kernel
theorem dX2_init_24 : decode cX2_init 24 = .ok (.putfield 23, 3) := by decide +kernel
theorem dX2_init_27 : decode cX2_init 27 = .ok (.return_, 1) := by decide +kernel
theorem dX2_begin_0 : decode cX2_begin 0 = .ok (.aload_n 0, 1) := by decide +kernel
theorem dX2_begin_1 : decode cX2_begin 1 = .ok (.iconst 1, 1) := by decide +kernel
theorem dX2_begin_2 : decode cX2_begin 2 = .ok (.putfield 15, 3) := by decide +kernel
theorem dX2_begin_5 : decode cX2_begin 5 = .ok (.aload_n 0, 1) := by decide +kernel
theorem dX2_begin_6 : decode cX2_begin 6 = .ok (.iload_n 1, 1) := by decide +kernel
theorem dX2_begin_7 : decode cX2_begin 7 = .ok (.putfield 19, 3) := by decide +kernel
theorem dX2_begin_10 : decode cX2_begin 10 = .ok (.aload_n 0, 1) := by decide +kernel
theorem dX2_begin_11 : decode cX2_begin 11 = .ok (.iconst 0, 1) := by decide +kernel
theorem dX2_begin_12 : decode cX2_begin 12 = .ok (.iload_n 2, 1) := by decide +kernel
theorem dX2_begin_13 : decode cX2_begin 13 = .ok (.bipush 60, 2) := by decide +kernel
theorem dX2_begin_15 : decode cX2_begin 15 = .ok (.invokestatic 26, 3) := by decide +kernel
theorem dX2_begin_18 : decode cX2_begin 18 = .ok (.invokestatic 32, 3) := by decide +kernel
theorem dX2_begin_21 : decode cX2_begin 21 = .ok (.putfield 23, 3) := by decide +kernel
theorem dX2_begin_24 : decode cX2_begin 24 = .ok (.iconst 0, 1) := by decide +kernel
theorem dX2_begin_25 : decode cX2_begin 25 = .ok (.istore_n 3, 1) := by decide +kernel
theorem dX2_begin_26 : decode cX2_begin 26 = .ok (.iload_n 3, 1) := by decide +kernel
theorem dX2_begin_27 : decode cX2_begin 27 = .ok (.bipush 60, 2) := by decide +kernel
theorem dX2_begin_29 : decode cX2_begin 29 = .ok (.if_icmp .ge 16, 3) := by decide +kernel
theorem dX2_begin_32 : decode cX2_begin 32 = .ok (.aload_n 0, 1) := by decide +kernel
theorem dX2_begin_33 : decode cX2_begin 33 = .ok (.getfield 9, 3) := by decide +kernel
theorem dX2_begin_36 : decode cX2_begin 36 = .ok (.iload_n 3, 1) := by decide +kernel
theorem dX2_begin_37 : decode cX2_begin 37 = .ok (.iconst 0, 1) := by decide +kernel
theorem dX2_begin_38 : decode cX2_begin 38 = .ok (.iastore, 1) := by decide +kernel
theorem dX2_begin_39 : decode cX2_begin 39 = .ok (.iinc 3 1, 3) := by decide +kernel
theorem dX2_begin_42 : decode cX2_begin 42 = .ok (.goto (-16), 3) := by decide +kernel
theorem dX2_begin_45 : decode cX2_begin 45 = .ok (.return_, 1) := by decide +kernel
theorem dX2_hasCell_0 : decode cX2_hasCell 0 = .ok (.iload_n 1, 1) := by decide +kernel
theorem dX2_hasCell_1 : decode cX2_hasCell 1 = .ok (.ifCond .lt 15, 3) := by decide +kernel
theorem dX2_hasCell_4 : decode cX2_hasCell 4 = .ok (.iload_n 1, 1) := by decide +kernel
theorem dX2_hasCell_5 : decode cX2_hasCell 5 = .ok (.aload_n 0, 1) := by decide +kernel
theorem dX2_hasCell_6 : decode cX2_hasCell 6 = .ok (.getfield 23, 3) := by decide +kernel
theorem dX2_hasCell_9 : decode cX2_hasCell 9 = .ok (.if_icmp .ge 7, 3) := by decide +kernel
theorem dX2_hasCell_12 : decode cX2_hasCell 12 = .ok (.iconst 1, 1) := by decide +kernel
theorem dX2_hasCell_13 : decode cX2_hasCell 13 = .ok (.goto 4, 3) := by decide +kernel
theorem dX2_hasCell_16 : decode cX2_hasCell 16 = .ok (.iconst 0, 1) := by decide +kernel
theorem dX2_hasCell_17 : decode cX2_hasCell 17 = .ok (.ireturn, 1) := by decide +kernel
theorem dX2_hasCells_0 : decode cX2_hasCells 0 = .ok (.iload_n 1, 1) := by decide +kernel
theorem dX2_hasCells_1 : decode cX2_hasCells 1 = .ok (.ifCond .lt 29, 3) := by decide +kernel
theorem dX2_hasCells_4 : decode cX2_hasCells 4 = .ok (.iload_n 1, 1) := by decide +kernel
theorem dX2_hasCells_5 : decode cX2_hasCells 5 = .ok (.aload_n 0, 1) := by decide +kernel
theorem dX2_hasCells_6 : decode cX2_hasCells 6 = .ok (.getfield 23, 3) := by decide +kernel
theorem dX2_hasCells_9 : decode cX2_hasCells 9 = .ok (.if_icmp .gt 21, 3) := by decide +kernel
theorem dX2_hasCells_12 : decode cX2_hasCells 12 = .ok (.iload_n 2, 1) := by decide +kernel
theorem dX2_hasCells_13 : decode cX2_hasCells 13 = .ok (.ifCond .lt 17, 3) := by decide +kernel
theorem dX2_hasCells_16 : decode cX2_hasCells 16 = .ok (.iload_n 2, 1) := by decide +kernel
theorem dX2_hasCells_17 : decode cX2_hasCells 17 = .ok (.aload_n 0, 1) := by decide +kernel
theorem dX2_hasCells_18 : decode cX2_hasCells 18 = .ok (.getfield 23, 3) := by decide +kernel
theorem dX2_hasCells_21 : decode cX2_hasCells 21 = .ok (.iload_n 1, 1) := by decide +kernel
theorem dX2_hasCells_22 : decode cX2_hasCells 22 = .ok (.isub, 1) := by decide +kernel
theorem dX2_hasCells_23 : decode cX2_hasCells 23 = .ok (.if_icmp .gt 7, 3) := by decide +kernel
theorem dX2_hasCells_26 : decode cX2_hasCells 26 = .ok (.iconst 1, 1) := by decide +kernel
theorem dX2_hasCells_27 : decode cX2_hasCells 27 = .ok (.goto 4, 3) := by decide +kernel
theorem dX2_hasCells_30 : decode cX2_hasCells 30 = .ok (.iconst 0, 1) := by decide +kernel
theorem dX2_hasCells_31 : decode cX2_hasCells 31 = .ok (.ireturn, 1) := by decide +kernel
set_option maxRecDepth 20000 in
theorem ggX2_at_X2_hasCell : GoodIn wsX2_at wsX2_hasCell := goodIn_r _ [6, 7, 8, 9, 10, 11] (by decide +kernel) (by decide +kernel)
set_option maxRecDepth 20000 in
theorem gX2_at_X2_hasCell : GoodIn wsX2_at (wsV RX2 35 RX2 yX2_hasCell wsX2_hasCell) := goodIn_app (goodIn_of _ (by decide +kernel)) ggX2_at_X2_hasCell
theorem dX2_at_0 : decode cX2_at 0 = .ok (.aload_n 0, 1) := by decide +kernel
theorem dX2_at_1 : decode cX2_at 1 = .ok (.iload_n 1, 1) := by decide +kernel
theorem dX2_at_2 : decode cX2_at 2 = .ok (.invokevirtual 35, 3) := by decide +kernel
theorem dX2_at_5 : decode cX2_at 5 = .ok (.ifCond .eq 12, 3) := by decide +kernel
theorem dX2_at_8 : decode cX2_at 8 = .ok (.aload_n 0, 1) := by decide +kernel
theorem dX2_at_9 : decode cX2_at 9 = .ok (.getfield 9, 3) := by decide +kernel
theorem dX2_at_12 : decode cX2_at 12 = .ok (.iload_n 1, 1) := by decide +kernel
theorem dX2_at_13 : decode cX2_at 13 = .ok (.iaload, 1) := by decide +kernel
theorem dX2_at_14 : decode cX2_at 14 = .ok (.goto 4, 3) := by decide +kernel
theorem dX2_at_17 : decode cX2_at 17 = .ok (.iconst 0, 1) := by decide +kernel
theorem dX2_at_18 : decode cX2_at 18 = .ok (.ireturn, 1) := by decide +kernel
set_option maxRecDepth 20000 in
theorem ggX2_write_X2_hasCell : GoodIn wsX2_write wsX2_hasCell := goodIn_r _ [6, 7, 13, 14, 15, 16] (by decide +kernel) (by decide +kernel)
set_option maxRecDepth 20000 in
theorem gX2_write_X2_hasCell : GoodIn wsX2_write (wsV RX2 35 RX2 yX2_hasCell wsX2_hasCell) := goodIn_app (goodIn_of _ (by decide +kernel)) ggX2_write_X2_hasCell
set_option maxRecDepth 20000 in
theorem ggX2_write_X2_cut : GoodIn wsX2_write wsX2_cut := goodIn_r _ [11, 12, 13, 14, 15, 16] (by decide +kernel) (by decide +kernel)
set_option maxRecDepth 20000 in
theorem gX2_write_X2_cut : GoodIn wsX2_write (wsV RX2 39 RX2 yX2_cut wsX2_cut) := goodIn_app (goodIn_of _ (by decide +kernel)) ggX2_write_X2_cut
theorem dX2_write_0 : decode cX2_write 0 = .ok (.aload_n 0, 1) := by decide +kernel
theorem dX2_write_1 : decode cX2_write 1 = .ok (.iload_n 1, 1) := by decide +kernel
theorem dX2_write_2 : decode cX2_write 2 = .ok (.invokevirtual 35, 3) := by decide +kernel
theorem dX2_write_5 : decode cX2_write 5 = .ok (.ifCond .eq 14, 3) := by decide +kernel
theorem dX2_write_8 : decode cX2_write 8 = .ok (.aload_n 0, 1) := by decide +kernel
theorem dX2_write_9 : decode cX2_write 9 = .ok (.getfield 9, 3) := by decide +kernel
theorem dX2_write_12 : decode cX2_write 12 = .ok (.iload_n 1, 1) := by decide +kernel
theorem dX2_write_13 : decode cX2_write 13 = .ok (.aload_n 0, 1) := by decide +kernel
theorem dX2_write_14 : decode cX2_write 14 = .ok (.iload_n 2, 1) := by decide +kernel
theorem dX2_write_15 : decode cX2_write 15 = .ok (.invokevirtual 39, 3) := by decide +kernel
theorem dX2_write_18 : decode cX2_write 18 = .ok (.iastore, 1) := by decide +kernel
theorem dX2_write_19 : decode cX2_write 19 = .ok (.return_, 1) := by decide +kernel
theorem dX2_cut_0 : decode cX2_cut 0 = .ok (.aload_n 0, 1) := by decide +kernel
theorem dX2_cut_1 : decode cX2_cut 1 = .ok (.getfield 19, 3) := by decide +kernel
theorem dX2_cut_4 : decode cX2_cut 4 = .ok (.lookupswitch 34 #[(0, 28), (1, 31)], 28) := by decide +kernel
theorem dX2_cut_32 : decode cX2_cut 32 = .ok (.iload_n 1, 1) := by decide +kernel
theorem dX2_cut_33 : decode cX2_cut 33 = .ok (.i2b, 1) := by decide +kernel
theorem dX2_cut_34 : decode cX2_cut 34 = .ok (.ireturn, 1) := by decide +kernel
theorem dX2_cut_35 : decode cX2_cut 35 = .ok (.iload_n 1, 1) := by decide +kernel
theorem dX2_cut_36 : decode cX2_cut 36 = .ok (.i2s, 1) := by decide +kernel
theorem dX2_cut_37 : decode cX2_cut 37 = .ok (.ireturn, 1) := by decide +kernel
theorem dX2_cut_38 : decode cX2_cut 38 = .ok (.iload_n 1, 1) := by decide +kernel
theorem dX2_cut_39 : decode cX2_cut 39 = .ok (.ireturn, 1) := by decide +kernel
theorem dX3_init_0 : decode cX3_init 0 = .ok (.aload_n 0, 1) := by decide +kernel
theorem dX3_init_1 : decode cX3_init 1 = .ok (.invokespecial 3, 3) := by decide +kernel
theorem dX3_init_4 : decode cX3_init 4 = .ok (.aload_n 0, 1) := by decide +kernel
theorem dX3_init_5 : decode cX3_init 5 = .ok (.bipush 60, 2) := by decide +kernel
theorem dX3_init_7 : decode cX3_init 7 = .ok (.newarray .int, 2) := by decide +kernel
theorem dX3_init_9 : decode cX3_init 9 = .ok (.putfield 9, 3) := by decide +kernel
theorem dX3_init_12 : decode cX3_init 12 = .ok (.aload_n 0, 1) := by decide +kernel
theorem dX3_init_13 : decode cX3_init 13 = .ok (.iconst 0, 1) := by decide +kernel
theorem dX3_init_14 : decode cX3_init 14 = .ok (.putfield 15, 3) := by decide +kernel
theorem dX3_init_17 : decode cX3_init 17 = .ok (.aload_n 0, 1) := by decide +kernel
theorem dX3_init_18 : decode cX3_init 18 = .ok (.iconst 0, 1) := by decide +kernel
theorem dX3_init_19 : decode cX3_init 19 = .ok (.putfield 19, 3) := by decide +kernel
theorem dX3_init_22 : decode cX3_init 22 = .ok (.return_, 1) := by decide +kernel
set_option maxRecDepth 20000 in
theorem ggX3_open_X2_at : GoodIn wsX3_open wsX2_at := goodIn_r _ [15, 16, 17, 18, 19, 14, 20, 21, 25, 26, 27, 28] (by decide +kernel) (by decide +kernel)
set_option maxRecDepth 20000 in
theorem gX3_open_X2_at : GoodIn wsX3_open (wsV RX3 31 RX2 yX2_at wsX2_at) := goodIn_app (goodIn_of _ (by decide +kernel)) ggX3_open_X2_at
theorem dX3_open_0 : decode cX3_open 0 = .ok (.aload_n 0, 1) := by decide +kernel
theorem dX3_open_1 : decode cX3_open 1 = .ok (.iconst 0, 1) := by decide +kernel
theorem dX3_open_2 : decode cX3_open 2 = .ok (.iload_n 3, 1) := by decide +kernel
theorem dX3_open_3 : decode cX3_open 3 = .ok (.bipush 60, 2) := by decide +kernel
theorem dX3_open_5 : decode cX3_open 5 = .ok (.invokestatic 22, 3) := by decide +kernel
theorem dX3_open_8 : decode cX3_open 8 = .ok (.invokestatic 28, 3) := by decide +kernel
theorem dX3_open_11 : decode cX3_open 11 = .ok (.putfield 15, 3) := by decide +kernel
theorem dX3_open_14 : decode cX3_open 14 = .ok (.aload_n 0, 1) := by decide +kernel
theorem dX3_open_15 : decode cX3_open 15 = .ok (.iconst 0, 1) := by decide +kernel
theorem dX3_open_16 : decode cX3_open 16 = .ok (.putfield 19, 3) := by decide +kernel
theorem dX3_open_19 : decode cX3_open 19 = .ok (.iconst 0, 1) := by decide +kernel
theorem dX3_open_20 : decode cX3_open 20 = .ok (.istore 4, 2) := by decide +kernel
theorem dX3_open_22 : decode cX3_open 22 = .ok (.iload 4, 2) := by decide +kernel
theorem dX3_open_24 : decode cX3_open 24 = .ok (.aload_n 0, 1) := by decide +kernel
theorem dX3_open_25 : decode cX3_open 25 = .ok (.getfield 15, 3) := by decide +kernel
theorem dX3_open_28 : decode cX3_open 28 = .ok (.if_icmp .ge 24, 3) := by decide +kernel
theorem dX3_open_31 : decode cX3_open 31 = .ok (.aload_n 0, 1) := by decide +kernel
theorem dX3_open_32 : decode cX3_open 32 = .ok (.getfield 9, 3) := by decide +kernel
theorem dX3_open_35 : decode cX3_open 35 = .ok (.iload 4, 2) := by decide +kernel
theorem dX3_open_37 : decode cX3_open 37 = .ok (.aload_n 1, 1) := by decide +kernel
theorem dX3_open_38 : decode cX3_open 38 = .ok (.iload_n 2, 1) := by decide +kernel
theorem dX3_open_39 : decode cX3_open 39 = .ok (.iload 4, 2) := by decide +kernel
theorem dX3_open_41 : decode cX3_open 41 = .ok (.iadd, 1) := by decide +kernel
theorem dX3_open_42 : decode cX3_open 42 = .ok (.invokevirtual 31, 3) := by decide +kernel
theorem dX3_open_45 : decode cX3_open 45 = .ok (.iastore, 1) := by decide +kernel
theorem dX3_open_46 : decode cX3_open 46 = .ok (.iinc 4 1, 3) := by decide +kernel
theorem dX3_open_49 : decode cX3_open 49 = .ok (.goto (-27), 3) := by decide +kernel
theorem dX3_open_52 : decode cX3_open 52 = .ok (.return_, 1) := by decide +kernel
theorem dX3_isAtEnd_0 : decode cX3_isAtEnd 0 = .ok (.aload_n 0, 1) := by decide +kernel
theorem dX3_isAtEnd_1 : decode cX3_isAtEnd 1 = .ok (.getfield 19, 3) := by decide +kernel
theorem dX3_isAtEnd_4 : decode cX3_isAtEnd 4 = .ok (.aload_n 0, 1) := by decide +kernel
theorem dX3_isAtEnd_5 : decode cX3_isAtEnd 5 = .ok (.getfield 15, 3) := by decide +kernel
theorem dX3_isAtEnd_8 : decode cX3_isAtEnd 8 = .ok (.if_icmp .lt 7, 3) := by decide +kernel
theorem dX3_isAtEnd_11 : decode cX3_isAtEnd 11 = .ok (.iconst 1, 1) := by decide +kernel
theorem dX3_isAtEnd_12 : decode cX3_isAtEnd 12 = .ok (.goto 4, 3) := by decide +kernel
theorem dX3_isAtEnd_15 : decode cX3_isAtEnd 15 = .ok (.iconst 0, 1) := by decide +kernel
theorem dX3_isAtEnd_16 : decode cX3_isAtEnd 16 = .ok (.ireturn, 1) := by decide +kernel
set_option maxRecDepth 20000 in
theorem ggX3_takes_X3_takesDigit : GoodIn wsX3_takes wsX3_takesDigit := goodIn_r _ [5, 6, 7, 8, 9, 10, 11] (by decide +kernel) (by decide +kernel)
set_option maxRecDepth 20000 in
theorem gX3_takes_X3_takesDigit : GoodIn wsX3_takes (wsV RX3 37 RX3 yX3_takesDigit wsX3_takesDigit) := goodIn_app (goodIn_of _ (by decide +kernel)) ggX3_takes_X3_takesDigit
theorem dX3_takes_0 : decode cX3_takes 0 = .ok (.aload_n 0, 1) := by decide +kernel
theorem dX3_takes_1 : decode cX3_takes 1 = .ok (.iload_n 1, 1) := by decide +kernel
theorem dX3_takes_2 : decode cX3_takes 2 = .ok (.iload_n 1, 1) := by decide +kernel
theorem dX3_takes_3 : decode cX3_takes 3 = .ok (.invokevirtual 37, 3) := by decide +kernel
theorem dX3_takes_6 : decode cX3_takes 6 = .ok (.bipush (-9), 2) := by decide +kernel
theorem dX3_takes_8 : decode cX3_takes 8 = .ok (.if_icmp .eq 7, 3) := by decide +kernel
theorem dX3_takes_11 : decode cX3_takes 11 = .ok (.iconst 1, 1) := by decide +kernel
theorem dX3_takes_12 : decode cX3_takes 12 = .ok (.goto 4, 3) := by decide +kernel
theorem dX3_takes_15 : decode cX3_takes 15 = .ok (.iconst 0, 1) := by decide +kernel
theorem dX3_takes_16 : decode cX3_takes 16 = .ok (.ireturn, 1) := by decide +kernel
theorem dX3_takesDigit_0 : decode cX3_takesDigit 0 = .ok (.aload_n 0, 1) := by decide +kernel
theorem dX3_takesDigit_1 : decode cX3_takesDigit 1 = .ok (.getfield 19, 3) := by decide +kernel
theorem dX3_takesDigit_4 : decode cX3_takesDigit 4 = .ok (.aload_n 0, 1) := by decide +kernel
theorem dX3_takesDigit_5 : decode cX3_takesDigit 5 = .ok (.getfield 15, 3) := by decide +kernel
theorem dX3_takesDigit_8 : decode cX3_takesDigit 8 = .ok (.if_icmp .ge 29, 3) := by decide +kernel
theorem dX3_takesDigit_11 : decode cX3_takesDigit 11 = .ok (.aload_n 0, 1) := by decide +kernel
theorem dX3_takesDigit_12 : decode cX3_takesDigit 12 = .ok (.getfield 9, 3) := by decide +kernel
theorem dX3_takesDigit_15 : decode cX3_takesDigit 15 = .ok (.aload_n 0, 1) := by decide +kernel
theorem dX3_takesDigit_16 : decode cX3_takesDigit 16 = .ok (.getfield 19, 3) := by decide +kernel
theorem dX3_takesDigit_19 : decode cX3_takesDigit 19 = .ok (.iaload, 1) := by decide +kernel
theorem dX3_takesDigit_20 : decode cX3_takesDigit 20 = .ok (.iload_n 1, 1) := by decide +kernel
theorem dX3_takesDigit_21 : decode cX3_takesDigit 21 = .ok (.if_icmp .lt 16, 3) := by decide +kernel
theorem dX3_takesDigit_24 : decode cX3_takesDigit 24 = .ok (.aload_n 0, 1) := by decide +kernel
theorem dX3_takesDigit_25 : decode cX3_takesDigit 25 = .ok (.getfield 9, 3) := by decide +kernel
theorem dX3_takesDigit_28 : decode cX3_takesDigit 28 = .ok (.aload_n 0, 1) := by decide +kernel
theorem dX3_takesDigit_29 : decode cX3_takesDigit 29 = .ok (.getfield 19, 3) := by decide +kernel
theorem dX3_takesDigit_32 : decode cX3_takesDigit 32 = .ok (.iaload, 1) := by decide +kernel
theorem dX3_takesDigit_33 : decode cX3_takesDigit 33 = .ok (.iload_n 2, 1) := by decide +kernel
theorem dX3_takesDigit_34 : decode cX3_takesDigit 34 = .ok (.if_icmp .le 6, 3) := by decide +kernel
theorem dX3_takesDigit_37 : decode cX3_takesDigit 37 = .ok (.bipush (-9), 2) := by decide +kernel
theorem dX3_takesDigit_39 : decode cX3_takesDigit 39 = .ok (.ireturn, 1) := by decide +kernel
theorem dX3_takesDigit_40 : decode cX3_takesDigit 40 = .ok (.aload_n 0, 1) := by decide +kernel
theorem dX3_takesDigit_41 : decode cX3_takesDigit 41 = .ok (.getfield 9, 3) := by decide +kernel
theorem dX3_takesDigit_44 : decode cX3_takesDigit 44 = .ok (.aload_n 0, 1) := by decide +kernel
theorem dX3_takesDigit_45 : decode cX3_takesDigit 45 = .ok (.getfield 19, 3) := by decide +kernel
theorem dX3_takesDigit_48 : decode cX3_takesDigit 48 = .ok (.iaload, 1) := by decide +kernel
theorem dX3_takesDigit_49 : decode cX3_takesDigit 49 = .ok (.iload_n 1, 1) := by decide +kernel
theorem dX3_takesDigit_50 : decode cX3_takesDigit 50 = .ok (.isub, 1) := by decide +kernel
theorem dX3_takesDigit_51 : decode cX3_takesDigit 51 = .ok (.istore_n 3, 1) := by decide +kernel
theorem dX3_takesDigit_52 : decode cX3_takesDigit 52 = .ok (.aload_n 0, 1) := by decide +kernel
theorem dX3_takesDigit_53 : decode cX3_takesDigit 53 = .ok (.dup, 1) := by decide +kernel
theorem dX3_takesDigit_54 : decode cX3_takesDigit 54 = .ok (.getfield 19, 3) := by decide +kernel
theorem dX3_takesDigit_57 : decode cX3_takesDigit 57 = .ok (.iconst 1, 1) := by decide +kernel
theorem dX3_takesDigit_58 : decode cX3_takesDigit 58 = .ok (.iadd, 1) := by decide +kernel
theorem dX3_takesDigit_59 : decode cX3_takesDigit 59 = .ok (.putfield 19, 3) := by decide +kernel
theorem dX3_takesDigit_62 : decode cX3_takesDigit 62 = .ok (.iload_n 3, 1) := by decide +kernel
theorem dX3_takesDigit_63 : decode cX3_takesDigit 63 = .ok (.ireturn, 1) := by decide +kernel
set_option maxRecDepth 20000 in
theorem ggX3_takesKind_X3_takes : GoodIn wsX3_takesKind wsX3_takes := goodIn_r _ [5, 6, 7, 8, 4, 9, 10, 11, 12, 13, 14, 15] (by decide +kernel) (by decide +kernel)
set_option maxRecDepth 20000 in
theorem gX3_takesKind_X3_takes : GoodIn wsX3_takesKind (wsV RX3 40 RX3 yX3_takes wsX3_takes) := goodIn_app (goodIn_of _ (by decide +kernel)) ggX3_takesKind_X3_takes
theorem dX3_takesKind_0 : decode cX3_takesKind 0 = .ok (.aload_n 0, 1) := by decide +kernel
theorem dX3_takesKind_1 : decode cX3_takesKind 1 = .ok (.bipush 115, 2) := by decide +kernel
theorem dX3_takesKind_3 : decode cX3_takesKind 3 = .ok (.invokevirtual 40, 3) := by decide +kernel
theorem dX3_takesKind_6 : decode cX3_takesKind 6 = .ok (.ifCond .eq 5, 3) := by decide +kernel
theorem dX3_takesKind_9 : decode cX3_takesKind 9 = .ok (.iconst 0, 1) := by decide +kernel
theorem dX3_takesKind_10 : decode cX3_takesKind 10 = .ok (.ireturn, 1) := by decide +kernel
theorem dX3_takesKind_11 : decode cX3_takesKind 11 = .ok (.aload_n 0, 1) := by decide +kernel
theorem dX3_takesKind_12 : decode cX3_takesKind 12 = .ok (.bipush 104, 2) := by decide +kernel
theorem dX3_takesKind_14 : decode cX3_takesKind 14 = .ok (.invokevirtual 40, 3) := by decide +kernel
theorem dX3_takesKind_17 : decode cX3_takesKind 17 = .ok (.ifCond .eq 5, 3) := by decide +kernel
theorem dX3_takesKind_20 : decode cX3_takesKind 20 = .ok (.iconst 1, 1) := by decide +kernel
theorem dX3_takesKind_21 : decode cX3_takesKind 21 = .ok (.ireturn, 1) := by decide +kernel
theorem dX3_takesKind_22 : decode cX3_takesKind 22 = .ok (.aload_n 0, 1) := by decide +kernel
theorem dX3_takesKind_23 : decode cX3_takesKind 23 = .ok (.bipush 112, 2) := by decide +kernel
theorem dX3_takesKind_25 : decode cX3_takesKind 25 = .ok (.invokevirtual 40, 3) := by decide +kernel
theorem dX3_takesKind_28 : decode cX3_takesKind 28 = .ok (.ifCond .eq 7, 3) := by decide +kernel
theorem dX3_takesKind_31 : decode cX3_takesKind 31 = .ok (.iconst 2, 1) := by decide +kernel
theorem dX3_takesKind_32 : decode cX3_takesKind 32 = .ok (.goto 5, 3) := by decide +kernel
theorem dX3_takesKind_35 : decode cX3_takesKind 35 = .ok (.bipush (-9), 2) := by decide +kernel
theorem dX3_takesKind_37 : decode cX3_takesKind 37 = .ok (.ireturn, 1) := by decide +kernel
theorem dX4_init_0 : decode cX4_init 0 = .ok (.aload_n 0, 1) := by decide +kernel
theorem dX4_init_1 : decode cX4_init 1 = .ok (.invokespecial 3, 3) := by decide +kernel
theorem dX4_init_4 : decode cX4_init 4 = .ok (.aload_n 0, 1) := by decide +kernel
theorem dX4_init_5 : decode cX4_init 5 = .ok (.iconst 0, 1) := by decide +kernel
theorem dX4_init_6 : decode cX4_init 6 = .ok (.putfield 9, 3) := by decide +kernel
theorem dX4_init_9 : decode cX4_init 9 = .ok (.aload_n 0, 1) := by decide +kernel
theorem dX4_init_10 : decode cX4_init 10 = .ok (.iconst 0, 1) := by decide +kernel
theorem dX4_init_11 : decode cX4_init 11 = .ok (.putfield 15, 3) := by decide +kernel
theorem dX4_init_14 : decode cX4_init 14 = .ok (.aload_n 0, 1) := by decide +kernel
theorem dX4_init_15 : decode cX4_init 15 = .ok (.iconst 0, 1) := by decide +kernel
theorem dX4_init_16 : decode cX4_init 16 = .ok (.putfield 18, 3) := by decide +kernel
theorem dX4_init_19 : decode cX4_init 19 = .ok (.aload_n 0, 1) := by decide +kernel
theorem dX4_init_20 : decode cX4_init 20 = .ok (.iconst 4, 1) := by decide +kernel
theorem dX4_init_21 : decode cX4_init 21 = .ok (.bipush 6, 2) := by decide +kernel
theorem dX4_init_23 : decode cX4_init 23 = .ok (.multianewarray 21 2, 4) := by decide +kernel
theorem dX4_init_27 : decode cX4_init 27 = .ok (.putfield 23, 3) := by decide +kernel
theorem dX4_init_30 : decode cX4_init 30 = .ok (.aload_n 0, 1) := by decide +kernel
theorem dX4_init_31 : decode cX4_init 31 = .ok (.iconst 5, 1) := by decide +kernel
theorem dX4_init_32 : decode cX4_init 32 = .ok (.newarray .int, 2) := by decide +kernel
theorem dX4_init_34 : decode cX4_init 34 = .ok (.putfield 26, 3) := by decide +kernel
theorem dX4_init_37 : decode cX4_init 37 = .ok (.aload_n 0, 1) := by decide +kernel
theorem dX4_init_38 : decode cX4_init 38 = .ok (.iconst 5, 1) := by decide +kernel
theorem dX4_init_39 : decode cX4_init 39 = .ok (.newarray .int, 2) := by decide +kernel
theorem dX4_init_41 : decode cX4_init 41 = .ok (.putfield 30, 3) := by decide +kernel
theorem dX4_init_44 : decode cX4_init 44 = .ok (.aload_n 0, 1) := by decide +kernel
theorem dX4_init_45 : decode cX4_init 45 = .ok (.iconst 5, 1) := by decide +kernel
theorem dX4_init_46 : decode cX4_init 46 = .ok (.newarray .int, 2) := by decide +kernel
theorem dX4_init_48 : decode cX4_init 48 = .ok (.putfield 33, 3) := by decide +kernel
theorem dX4_init_51 : decode cX4_init 51 = .ok (.aload_n 0, 1) := by decide +kernel
theorem dX4_init_52 : decode cX4_init 52 = .ok (.iconst 5, 1) := by decide +kernel
theorem dX4_init_53 : decode cX4_init 53 = .ok (.newarray .int, 2) := by decide +kernel
theorem dX4_init_55 : decode cX4_init 55 = .ok (.putfield 36, 3) := by decide +kernel
theorem dX4_init_58 : decode cX4_init 58 = .ok (.return_, 1) := by decide +kernel
set_option maxRecDepth 20000 in
theorem ggX4_readsAll_X4_readsHead : GoodIn wsX4_readsAll wsX4_readsHead := goodIn_r _ [5, 6, 7, 8, 9, 10, 11, 12, 13, 14, 15, 16, 17, 18, 19, 20, 48, 49, 50, 51, 52, 53, 54, 55, 56, 57, 58] (by decide +kernel) (by decide +kernel)
set_option maxRecDepth 20000 in
theorem gX4_readsAll_X4_readsHead : GoodIn wsX4_readsAll (wsV RX4 39 RX4 yX4_readsHead wsX4_readsHead) := goodIn_app (goodIn_of _ (by decide +kernel)) ggX4_readsAll_X4_readsHead
set_option maxRecDepth 20000 in
theorem ggX4_readsAll_X4_readsGains : GoodIn wsX4_readsAll wsX4_readsGains := goodIn_r _ [24, 6, 7, 25, 8, 9, 10, 11, 12, 13, 14, 15, 16, 17, 18, 19, 20, 48, 49, 50, 51, 52, 53, 54, 55, 56, 57, 58] (by decide +kernel) (by decide +kernel)
set_option maxRecDepth 20000 in
theorem gX4_readsAll_X4_readsGains : GoodIn wsX4_readsAll (wsV RX4 43 RX4 yX4_readsGains wsX4_readsGains) := goodIn_app (goodIn_of _ (by decide +kernel)) ggX4_readsAll_X4_readsGains
set_option maxRecDepth 20000 in
theorem ggX4_readsAll_X4_readsSons : GoodIn wsX4_readsAll wsX4_readsSons := goodIn_r _ [29, 30, 31, 32, 33, 4, 34, 35, 36, 6, 37, 38, 8, 9, 10, 11, 12, 13, 14, 15, 16, 17, 18, 19, 39, 40, 41, 42, 43, 20, 44, 45, 46, 47, 48, 49, 50, 51, 52, 53, 54, 55, 56, 57, 58] (by decide +kernel) (by decide +kernel)
set_option maxRecDepth 20000 in
theorem gX4_readsAll_X4_readsSons : GoodIn wsX4_readsAll (wsV RX4 46 RX4 yX4_readsSons wsX4_readsSons) := goodIn_app (goodIn_of _ (by decide +kernel)) ggX4_readsAll_X4_readsSons
theorem dX4_readsAll_0 : decode cX4_readsAll 0 = .ok (.aload_n 0, 1) := by decide +kernel
theorem dX4_readsAll_1 : decode cX4_readsAll 1 = .ok (.aload_n 1, 1) := by decide +kernel
theorem dX4_readsAll_2 : decode cX4_readsAll 2 = .ok (.invokevirtual 39, 3) := by decide +kernel
theorem dX4_readsAll_5 : decode cX4_readsAll 5 = .ok (.ifCond .eq 23, 3) := by decide +kernel
theorem dX4_readsAll_8 : decode cX4_readsAll 8 = .ok (.aload_n 0, 1) := by decide +kernel
theorem dX4_readsAll_9 : decode cX4_readsAll 9 = .ok (.aload_n 1, 1) := by decide +kernel
theorem dX4_readsAll_10 : decode cX4_readsAll 10 = .ok (.invokevirtual 43, 3) := by decide +kernel
theorem dX4_readsAll_13 : decode cX4_readsAll 13 = .ok (.ifCond .eq 15, 3) := by decide +kernel
theorem dX4_readsAll_16 : decode cX4_readsAll 16 = .ok (.aload_n 0, 1) := by decide +kernel
theorem dX4_readsAll_17 : decode cX4_readsAll 17 = .ok (.aload_n 1, 1) := by decide +kernel
theorem dX4_readsAll_18 : decode cX4_readsAll 18 = .ok (.invokevirtual 46, 3) := by decide +kernel
theorem dX4_readsAll_21 : decode cX4_readsAll 21 = .ok (.ifCond .eq 7, 3) := by decide +kernel
theorem dX4_readsAll_24 : decode cX4_readsAll 24 = .ok (.iconst 1, 1) := by decide +kernel
theorem dX4_readsAll_25 : decode cX4_readsAll 25 = .ok (.goto 4, 3) := by decide +kernel
theorem dX4_readsAll_28 : decode cX4_readsAll 28 = .ok (.iconst 0, 1) := by decide +kernel
theorem dX4_readsAll_29 : decode cX4_readsAll 29 = .ok (.ireturn, 1) := by decide +kernel
set_option maxRecDepth 20000 in
theorem ggX4_readsHead_X3_takes : GoodIn wsX4_readsHead wsX3_takes := goodIn_r _ [7, 8, 9, 10, 6, 11, 12, 13, 14, 24, 25, 26] (by decide +kernel) (by decide +kernel)
set_option maxRecDepth 20000 in
theorem gX4_readsHead_X3_takes : GoodIn wsX4_readsHead (wsV RX4 49 RX3 yX3_takes wsX3_takes) := goodIn_app (goodIn_of _ (by decide +kernel)) ggX4_readsHead_X3_takes
set_option maxRecDepth 20000 in
theorem ggX4_readsHead_X3_takesDigit : GoodIn wsX4_readsHead wsX3_takesDigit := goodIn_r _ [11, 12, 13, 14, 24, 25, 26] (by decide +kernel) (by decide +kernel)
set_option maxRecDepth 20000 in
theorem gX4_readsHead_X3_takesDigit : GoodIn wsX4_readsHead (wsV RX4 55 RX3 yX3_takesDigit wsX3_takesDigit) := goodIn_app (goodIn_of _ (by decide +kernel)) ggX4_readsHead_X3_takesDigit
theorem dX4_readsHead_0 : decode cX4_readsHead 0 = .ok (.aload_n 1, 1) := by decide +kernel
theorem dX4_readsHead_1 : decode cX4_readsHead 1 = .ok (.bipush 120, 2) := by decide +kernel
theorem dX4_readsHead_3 : decode cX4_readsHead 3 = .ok (.invokevirtual 49, 3) := by decide +kernel
theorem dX4_readsHead_6 : decode cX4_readsHead 6 = .ok (.ifCond .ne 5, 3) := by decide +kernel
theorem dX4_readsHead_9 : decode cX4_readsHead 9 = .ok (.iconst 0, 1) := by decide +kernel
theorem dX4_readsHead_10 : decode cX4_readsHead 10 = .ok (.ireturn, 1) := by decide +kernel
theorem dX4_readsHead_11 : decode cX4_readsHead 11 = .ok (.aload_n 1, 1) := by decide +kernel
theorem dX4_readsHead_12 : decode cX4_readsHead 12 = .ok (.bipush 50, 2) := by decide +kernel
theorem dX4_readsHead_14 : decode cX4_readsHead 14 = .ok (.bipush 52, 2) := by decide +kernel
theorem dX4_readsHead_16 : decode cX4_readsHead 16 = .ok (.invokevirtual 55, 3) := by decide +kernel
theorem dX4_readsHead_19 : decode cX4_readsHead 19 = .ok (.istore_n 2, 1) := by decide +kernel
theorem dX4_readsHead_20 : decode cX4_readsHead 20 = .ok (.iload_n 2, 1) := by decide +kernel
theorem dX4_readsHead_21 : decode cX4_readsHead 21 = .ok (.bipush (-9), 2) := by decide +kernel
theorem dX4_readsHead_23 : decode cX4_readsHead 23 = .ok (.if_icmp .ne 5, 3) := by decide +kernel
theorem dX4_readsHead_26 : decode cX4_readsHead 26 = .ok (.iconst 0, 1) := by decide +kernel
theorem dX4_readsHead_27 : decode cX4_readsHead 27 = .ok (.ireturn, 1) := by decide +kernel
theorem dX4_readsHead_28 : decode cX4_readsHead 28 = .ok (.aload_n 1, 1) := by decide +kernel
theorem dX4_readsHead_29 : decode cX4_readsHead 29 = .ok (.bipush 49, 2) := by decide +kernel
theorem dX4_readsHead_31 : decode cX4_readsHead 31 = .ok (.bipush 54, 2) := by decide +kernel
theorem dX4_readsHead_33 : decode cX4_readsHead 33 = .ok (.invokevirtual 55, 3) := by decide +kernel
theorem dX4_readsHead_36 : decode cX4_readsHead 36 = .ok (.istore_n 3, 1) := by decide +kernel
theorem dX4_readsHead_37 : decode cX4_readsHead 37 = .ok (.iload_n 3, 1) := by decide +kernel
theorem dX4_readsHead_38 : decode cX4_readsHead 38 = .ok (.bipush (-9), 2) := by decide +kernel
theorem dX4_readsHead_40 : decode cX4_readsHead 40 = .ok (.if_icmp .ne 5, 3) := by decide +kernel
theorem dX4_readsHead_43 : decode cX4_readsHead 43 = .ok (.iconst 0, 1) := by decide +kernel
theorem dX4_readsHead_44 : decode cX4_readsHead 44 = .ok (.ireturn, 1) := by decide +kernel
theorem dX4_readsHead_45 : decode cX4_readsHead 45 = .ok (.aload_n 0, 1) := by decide +kernel
theorem dX4_readsHead_46 : decode cX4_readsHead 46 = .ok (.iconst 2, 1) := by decide +kernel
theorem dX4_readsHead_47 : decode cX4_readsHead 47 = .ok (.iload_n 2, 1) := by decide +kernel
theorem dX4_readsHead_48 : decode cX4_readsHead 48 = .ok (.iadd, 1) := by decide +kernel
theorem dX4_readsHead_49 : decode cX4_readsHead 49 = .ok (.putfield 9, 3) := by decide +kernel
theorem dX4_readsHead_52 : decode cX4_readsHead 52 = .ok (.aload_n 0, 1) := by decide +kernel
theorem dX4_readsHead_53 : decode cX4_readsHead 53 = .ok (.iconst 1, 1) := by decide +kernel
theorem dX4_readsHead_54 : decode cX4_readsHead 54 = .ok (.iload_n 3, 1) := by decide +kernel
theorem dX4_readsHead_55 : decode cX4_readsHead 55 = .ok (.iadd, 1) := by decide +kernel
theorem dX4_readsHead_56 : decode cX4_readsHead 56 = .ok (.putfield 15, 3) := by decide +kernel
theorem dX4_readsHead_59 : decode cX4_readsHead 59 = .ok (.iconst 1, 1) := by decide +kernel
theorem dX4_readsHead_60 : decode cX4_readsHead 60 = .ok (.ireturn, 1) := by decide +kernel
set_option maxRecDepth 20000 in
theorem ggX4_readsGains_X3_takes : GoodIn wsX4_readsGains wsX3_takes := goodIn_r _ [8, 9, 10, 11, 7, 12, 13, 14, 15, 25, 26, 27] (by decide +kernel) (by decide +kernel)
set_option maxRecDepth 20000 in
theorem gX4_readsGains_X3_takes : GoodIn wsX4_readsGains (wsV RX4 49 RX3 yX3_takes wsX3_takes) := goodIn_app (goodIn_of _ (by decide +kernel)) ggX4_readsGains_X3_takes
set_option maxRecDepth 20000 in
theorem ggX4_readsGains_X3_takesDigit : GoodIn wsX4_readsGains wsX3_takesDigit := goodIn_r _ [12, 13, 14, 15, 25, 26, 27] (by decide +kernel) (by decide +kernel)
set_option maxRecDepth 20000 in
theorem gX4_readsGains_X3_takesDigit : GoodIn wsX4_readsGains (wsV RX4 55 RX3 yX3_takesDigit wsX3_takesDigit) := goodIn_app (goodIn_of _ (by decide +kernel)) ggX4_readsGains_X3_takesDigit
theorem dX4_readsGains_0 : decode cX4_readsGains 0 = .ok (.iconst 0, 1) := by decide +kernel
theorem dX4_readsGains_1 : decode cX4_readsGains 1 = .ok (.istore_n 2, 1) := by decide +kernel
theorem dX4_readsGains_2 : decode cX4_readsGains 2 = .ok (.iload_n 2, 1) := by decide +kernel
theorem dX4_readsGains_3 : decode cX4_readsGains 3 = .ok (.aload_n 0, 1) := by decide +kernel
theorem dX4_readsGains_4 : decode cX4_readsGains 4 = .ok (.getfield 9, 3) := by decide +kernel
theorem dX4_readsGains_7 : decode cX4_readsGains 7 = .ok (.if_icmp .ge 67, 3) := by decide +kernel
theorem dX4_readsGains_10 : decode cX4_readsGains 10 = .ok (.aload_n 1, 1) := by decide +kernel
theorem dX4_readsGains_11 : decode cX4_readsGains 11 = .ok (.bipush 47, 2) := by decide +kernel
theorem dX4_readsGains_13 : decode cX4_readsGains 13 = .ok (.invokevirtual 49, 3) := by decide +kernel
theorem dX4_readsGains_16 : decode cX4_readsGains 16 = .ok (.ifCond .ne 5, 3) := by decide +kernel
theorem dX4_readsGains_19 : decode cX4_readsGains 19 = .ok (.iconst 0, 1) := by decide +kernel
theorem dX4_readsGains_20 : decode cX4_readsGains 20 = .ok (.ireturn, 1) := by decide +kernel
theorem dX4_readsGains_21 : decode cX4_readsGains 21 = .ok (.iconst 0, 1) := by decide +kernel
theorem dX4_readsGains_22 : decode cX4_readsGains 22 = .ok (.istore_n 3, 1) := by decide +kernel
theorem dX4_readsGains_23 : decode cX4_readsGains 23 = .ok (.iload_n 3, 1) := by decide +kernel
theorem dX4_readsGains_24 : decode cX4_readsGains 24 = .ok (.aload_n 0, 1) := by decide +kernel
theorem dX4_readsGains_25 : decode cX4_readsGains 25 = .ok (.getfield 15, 3) := by decide +kernel
theorem dX4_readsGains_28 : decode cX4_readsGains 28 = .ok (.if_icmp .ge 40, 3) := by decide +kernel
theorem dX4_readsGains_31 : decode cX4_readsGains 31 = .ok (.aload_n 0, 1) := by decide +kernel
theorem dX4_readsGains_32 : decode cX4_readsGains 32 = .ok (.getfield 23, 3) := by decide +kernel
theorem dX4_readsGains_35 : decode cX4_readsGains 35 = .ok (.iload_n 2, 1) := by decide +kernel
theorem dX4_readsGains_36 : decode cX4_readsGains 36 = .ok (.aaload, 1) := by decide +kernel
theorem dX4_readsGains_37 : decode cX4_readsGains 37 = .ok (.iload_n 3, 1) := by decide +kernel
theorem dX4_readsGains_38 : decode cX4_readsGains 38 = .ok (.aload_n 1, 1) := by decide +kernel
theorem dX4_readsGains_39 : decode cX4_readsGains 39 = .ok (.bipush 48, 2) := by decide +kernel
theorem dX4_readsGains_41 : decode cX4_readsGains 41 = .ok (.bipush 57, 2) := by decide +kernel
theorem dX4_readsGains_43 : decode cX4_readsGains 43 = .ok (.invokevirtual 55, 3) := by decide +kernel
theorem dX4_readsGains_46 : decode cX4_readsGains 46 = .ok (.iastore, 1) := by decide +kernel
theorem dX4_readsGains_47 : decode cX4_readsGains 47 = .ok (.aload_n 0, 1) := by decide +kernel
theorem dX4_readsGains_48 : decode cX4_readsGains 48 = .ok (.getfield 23, 3) := by decide +kernel
theorem dX4_readsGains_51 : decode cX4_readsGains 51 = .ok (.iload_n 2, 1) := by decide +kernel
theorem dX4_readsGains_52 : decode cX4_readsGains 52 = .ok (.aaload, 1) := by decide +kernel
theorem dX4_readsGains_53 : decode cX4_readsGains 53 = .ok (.iload_n 3, 1) := by decide +kernel
theorem dX4_readsGains_54 : decode cX4_readsGains 54 = .ok (.iaload, 1) := by decide +kernel
theorem dX4_readsGains_55 : decode cX4_readsGains 55 = .ok (.bipush (-9), 2) := by decide +kernel
theorem dX4_readsGains_57 : decode cX4_readsGains 57 = .ok (.if_icmp .ne 5, 3) := by decide +kernel
theorem dX4_readsGains_60 : decode cX4_readsGains 60 = .ok (.iconst 0, 1) := by decide +kernel
theorem dX4_readsGains_61 : decode cX4_readsGains 61 = .ok (.ireturn, 1) := by decide +kernel
theorem dX4_readsGains_62 : decode cX4_readsGains 62 = .ok (.iinc 3 1, 3) := by decide +kernel
theorem dX4_readsGains_65 : decode cX4_readsGains 65 = .ok (.goto (-42), 3) := by decide +kernel
theorem dX4_readsGains_68 : decode cX4_readsGains 68 = .ok (.iinc 2 1, 3) := by decide +kernel
theorem dX4_readsGains_71 : decode cX4_readsGains 71 = .ok (.goto (-69), 3) := by decide +kernel
theorem dX4_readsGains_74 : decode cX4_readsGains 74 = .ok (.iconst 1, 1) := by decide +kernel
theorem dX4_readsGains_75 : decode cX4_readsGains 75 = .ok (.ireturn, 1) := by decide +kernel
set_option maxRecDepth 20000 in
theorem ggX4_readsSons_X4_readsSon : GoodIn wsX4_readsSons wsX4_readsSon := goodIn_r _ [6, 7, 8, 9, 10, 11, 12, 13, 14, 15, 16, 17, 18, 19, 20, 21, 22, 23, 24, 25, 26, 27, 28, 29, 34, 35, 36, 37, 38, 39, 40, 41, 42, 43, 44] (by decide +kernel) (by decide +kernel)
set_option maxRecDepth 20000 in
theorem gX4_readsSons_X4_readsSon : GoodIn wsX4_readsSons (wsV RX4 59 RX4 yX4_readsSon wsX4_readsSon) := goodIn_app (goodIn_of _ (by decide +kernel)) ggX4_readsSons_X4_readsSon
set_option maxRecDepth 20000 in
theorem ggX4_readsSons_X3_isAtEnd : GoodIn wsX4_readsSons wsX3_isAtEnd := goodIn_r _ [33, 21, 22, 42, 43, 44] (by decide +kernel) (by decide +kernel)
set_option maxRecDepth 20000 in
theorem gX4_readsSons_X3_isAtEnd : GoodIn wsX4_readsSons (wsV RX4 63 RX3 yX3_isAtEnd wsX3_isAtEnd) := goodIn_app (goodIn_of _ (by decide +kernel)) ggX4_readsSons_X3_isAtEnd
theorem dX4_readsSons_0 : decode cX4_readsSons 0 = .ok (.iconst 0, 1) := by decide +kernel
theorem dX4_readsSons_1 : decode cX4_readsSons 1 = .ok (.istore_n 2, 1) := by decide +kernel
theorem dX4_readsSons_2 : decode cX4_readsSons 2 = .ok (.iload_n 2, 1) := by decide +kernel
theorem dX4_readsSons_3 : decode cX4_readsSons 3 = .ok (.iconst 5, 1) := by decide +kernel
theorem dX4_readsSons_4 : decode cX4_readsSons 4 = .ok (.if_icmp .ge 36, 3) := by decide +kernel
theorem dX4_readsSons_7 : decode cX4_readsSons 7 = .ok (.aload_n 0, 1) := by decide +kernel
theorem dX4_readsSons_8 : decode cX4_readsSons 8 = .ok (.aload_n 1, 1) := by decide +kernel
theorem dX4_readsSons_9 : decode cX4_readsSons 9 = .ok (.iload_n 2, 1) := by decide +kernel
theorem dX4_readsSons_10 : decode cX4_readsSons 10 = .ok (.invokevirtual 59, 3) := by decide +kernel
theorem dX4_readsSons_13 : decode cX4_readsSons 13 = .ok (.ifCond .ne 5, 3) := by decide +kernel
theorem dX4_readsSons_16 : decode cX4_readsSons 16 = .ok (.iconst 0, 1) := by decide +kernel
theorem dX4_readsSons_17 : decode cX4_readsSons 17 = .ok (.ireturn, 1) := by decide +kernel
theorem dX4_readsSons_18 : decode cX4_readsSons 18 = .ok (.aload_n 0, 1) := by decide +kernel
theorem dX4_readsSons_19 : decode cX4_readsSons 19 = .ok (.iload_n 2, 1) := by decide +kernel
theorem dX4_readsSons_20 : decode cX4_readsSons 20 = .ok (.iconst 1, 1) := by decide +kernel
theorem dX4_readsSons_21 : decode cX4_readsSons 21 = .ok (.iadd, 1) := by decide +kernel
theorem dX4_readsSons_22 : decode cX4_readsSons 22 = .ok (.putfield 18, 3) := by decide +kernel
theorem dX4_readsSons_25 : decode cX4_readsSons 25 = .ok (.aload_n 1, 1) := by decide +kernel
theorem dX4_readsSons_26 : decode cX4_readsSons 26 = .ok (.invokevirtual 63, 3) := by decide +kernel
theorem dX4_readsSons_29 : decode cX4_readsSons 29 = .ok (.ifCond .eq 5, 3) := by decide +kernel
theorem dX4_readsSons_32 : decode cX4_readsSons 32 = .ok (.iconst 1, 1) := by decide +kernel
theorem dX4_readsSons_33 : decode cX4_readsSons 33 = .ok (.ireturn, 1) := by decide +kernel
theorem dX4_readsSons_34 : decode cX4_readsSons 34 = .ok (.iinc 2 1, 3) := by decide +kernel
theorem dX4_readsSons_37 : decode cX4_readsSons 37 = .ok (.goto (-35), 3) := by decide +kernel
theorem dX4_readsSons_40 : decode cX4_readsSons 40 = .ok (.iconst 0, 1) := by decide +kernel
theorem dX4_readsSons_41 : decode cX4_readsSons 41 = .ok (.ireturn, 1) := by decide +kernel
set_option maxRecDepth 20000 in
theorem ggX4_readsSon_X3_takes : GoodIn wsX4_readsSon wsX3_takes := goodIn_r _ [10, 11, 12, 13, 9, 14, 15, 16, 17, 32, 33, 34] (by decide +kernel) (by decide +kernel)
set_option maxRecDepth 20000 in
theorem gX4_readsSon_X3_takes : GoodIn wsX4_readsSon (wsV RX4 49 RX3 yX3_takes wsX3_takes) := goodIn_app (goodIn_of _ (by decide +kernel)) ggX4_readsSon_X3_takes
set_option maxRecDepth 20000 in
theorem ggX4_readsSon_X3_takesKind : GoodIn wsX4_readsSon wsX3_takesKind := goodIn_r _ [21, 22, 7, 8, 9, 10, 11, 12, 13, 14, 15, 16, 17, 32, 33, 34] (by decide +kernel) (by decide +kernel)
set_option maxRecDepth 20000 in
theorem gX4_readsSon_X3_takesKind : GoodIn wsX4_readsSon (wsV RX4 67 RX3 yX3_takesKind wsX3_takesKind) := goodIn_app (goodIn_of _ (by decide +kernel)) ggX4_readsSon_X3_takesKind
set_option maxRecDepth 20000 in
theorem ggX4_readsSon_X3_takesDigit : GoodIn wsX4_readsSon wsX3_takesDigit := goodIn_r _ [14, 15, 16, 17, 32, 33, 34] (by decide +kernel) (by decide +kernel)
set_option maxRecDepth 20000 in
theorem gX4_readsSon_X3_takesDigit : GoodIn wsX4_readsSon (wsV RX4 55 RX3 yX3_takesDigit wsX3_takesDigit) := goodIn_app (goodIn_of _ (by decide +kernel)) ggX4_readsSon_X3_takesDigit
theorem dX4_readsSon_0 : decode cX4_readsSon 0 = .ok (.aload_n 1, 1) := by decide +kernel
theorem dX4_readsSon_1 : decode cX4_readsSon 1 = .ok (.bipush 44, 2) := by decide +kernel
theorem dX4_readsSon_3 : decode cX4_readsSon 3 = .ok (.invokevirtual 49, 3) := by decide +kernel
theorem dX4_readsSon_6 : decode cX4_readsSon 6 = .ok (.ifCond .ne 5, 3) := by decide +kernel
theorem dX4_readsSon_9 : decode cX4_readsSon 9 = .ok (.iconst 0, 1) := by decide +kernel
theorem dX4_readsSon_10 : decode cX4_readsSon 10 = .ok (.ireturn, 1) := by decide +kernel
theorem dX4_readsSon_11 : decode cX4_readsSon 11 = .ok (.aload_n 0, 1) := by decide +kernel
theorem dX4_readsSon_12 : decode cX4_readsSon 12 = .ok (.getfield 26, 3) := by decide +kernel
theorem dX4_readsSon_15 : decode cX4_readsSon 15 = .ok (.iload_n 2, 1) := by decide +kernel
theorem dX4_readsSon_16 : decode cX4_readsSon 16 = .ok (.aload_n 1, 1) := by decide +kernel
theorem dX4_readsSon_17 : decode cX4_readsSon 17 = .ok (.invokevirtual 67, 3) := by decide +kernel
theorem dX4_readsSon_20 : decode cX4_readsSon 20 = .ok (.iastore, 1) := by decide +kernel
theorem dX4_readsSon_21 : decode cX4_readsSon 21 = .ok (.aload_n 0, 1) := by decide +kernel
theorem dX4_readsSon_22 : decode cX4_readsSon 22 = .ok (.getfield 26, 3) := by decide +kernel
theorem dX4_readsSon_25 : decode cX4_readsSon 25 = .ok (.iload_n 2, 1) := by decide +kernel
theorem dX4_readsSon_26 : decode cX4_readsSon 26 = .ok (.iaload, 1) := by decide +kernel
theorem dX4_readsSon_27 : decode cX4_readsSon 27 = .ok (.bipush (-9), 2) := by decide +kernel
theorem dX4_readsSon_29 : decode cX4_readsSon 29 = .ok (.if_icmp .ne 5, 3) := by decide +kernel
theorem dX4_readsSon_32 : decode cX4_readsSon 32 = .ok (.iconst 0, 1) := by decide +kernel
theorem dX4_readsSon_33 : decode cX4_readsSon 33 = .ok (.ireturn, 1) := by decide +kernel
theorem dX4_readsSon_34 : decode cX4_readsSon 34 = .ok (.aload_n 0, 1) := by decide +kernel
theorem dX4_readsSon_35 : decode cX4_readsSon 35 = .ok (.getfield 30, 3) := by decide +kernel
theorem dX4_readsSon_38 : decode cX4_readsSon 38 = .ok (.iload_n 2, 1) := by decide +kernel
theorem dX4_readsSon_39 : decode cX4_readsSon 39 = .ok (.aload_n 1, 1) := by decide +kernel
theorem dX4_readsSon_40 : decode cX4_readsSon 40 = .ok (.bipush 48, 2) := by decide +kernel
theorem dX4_readsSon_42 : decode cX4_readsSon 42 = .ok (.bipush 48, 2) := by decide +kernel
theorem dX4_readsSon_44 : decode cX4_readsSon 44 = .ok (.aload_n 0, 1) := by decide +kernel
theorem dX4_readsSon_45 : decode cX4_readsSon 45 = .ok (.getfield 9, 3) := by decide +kernel
theorem dX4_readsSon_48 : decode cX4_readsSon 48 = .ok (.iadd, 1) := by decide +kernel
theorem dX4_readsSon_49 : decode cX4_readsSon 49 = .ok (.iconst 1, 1) := by decide +kernel
theorem dX4_readsSon_50 : decode cX4_readsSon 50 = .ok (.isub, 1) := by decide +kernel
theorem dX4_readsSon_51 : decode cX4_readsSon 51 = .ok (.invokevirtual 55, 3) := by decide +kernel
theorem dX4_readsSon_54 : decode cX4_readsSon 54 = .ok (.iastore, 1) := by decide +kernel
theorem dX4_readsSon_55 : decode cX4_readsSon 55 = .ok (.aload_n 0, 1) := by decide +kernel
theorem dX4_readsSon_56 : decode cX4_readsSon 56 = .ok (.getfield 30, 3) := by decide +kernel
theorem dX4_readsSon_59 : decode cX4_readsSon 59 = .ok (.iload_n 2, 1) := by decide +kernel
theorem dX4_readsSon_60 : decode cX4_readsSon 60 = .ok (.iaload, 1) := by decide +kernel
theorem dX4_readsSon_61 : decode cX4_readsSon 61 = .ok (.bipush (-9), 2) := by decide +kernel
theorem dX4_readsSon_63 : decode cX4_readsSon 63 = .ok (.if_icmp .ne 5, 3) := by decide +kernel
theorem dX4_readsSon_66 : decode cX4_readsSon 66 = .ok (.iconst 0, 1) := by decide +kernel
theorem dX4_readsSon_67 : decode cX4_readsSon 67 = .ok (.ireturn, 1) := by decide +kernel
theorem dX4_readsSon_68 : decode cX4_readsSon 68 = .ok (.aload_n 0, 1) := by decide +kernel
theorem dX4_readsSon_69 : decode cX4_readsSon 69 = .ok (.getfield 33, 3) := by decide +kernel
theorem dX4_readsSon_72 : decode cX4_readsSon 72 = .ok (.iload_n 2, 1) := by decide +kernel
theorem dX4_readsSon_73 : decode cX4_readsSon 73 = .ok (.aload_n 1, 1) := by decide +kernel
theorem dX4_readsSon_74 : decode cX4_readsSon 74 = .ok (.bipush 48, 2) := by decide +kernel
theorem dX4_readsSon_76 : decode cX4_readsSon 76 = .ok (.bipush 57, 2) := by decide +kernel
theorem dX4_readsSon_78 : decode cX4_readsSon 78 = .ok (.invokevirtual 55, 3) := by decide +kernel
theorem dX4_readsSon_81 : decode cX4_readsSon 81 = .ok (.iastore, 1) := by decide +kernel
theorem dX4_readsSon_82 : decode cX4_readsSon 82 = .ok (.aload_n 0, 1) := by decide +kernel
theorem dX4_readsSon_83 : decode cX4_readsSon 83 = .ok (.getfield 33, 3) := by decide +kernel
theorem dX4_readsSon_86 : decode cX4_readsSon 86 = .ok (.iload_n 2, 1) := by decide +kernel
theorem dX4_readsSon_87 : decode cX4_readsSon 87 = .ok (.iaload, 1) := by decide +kernel
theorem dX4_readsSon_88 : decode cX4_readsSon 88 = .ok (.bipush (-9), 2) := by decide +kernel
theorem dX4_readsSon_90 : decode cX4_readsSon 90 = .ok (.if_icmp .ne 5, 3) := by decide +kernel
theorem dX4_readsSon_93 : decode cX4_readsSon 93 = .ok (.iconst 0, 1) := by decide +kernel
theorem dX4_readsSon_94 : decode cX4_readsSon 94 = .ok (.ireturn, 1) := by decide +kernel
theorem dX4_readsSon_95 : decode cX4_readsSon 95 = .ok (.aload_n 0, 1) := by decide +kernel
theorem dX4_readsSon_96 : decode cX4_readsSon 96 = .ok (.getfield 36, 3) := by decide +kernel
theorem dX4_readsSon_99 : decode cX4_readsSon 99 = .ok (.iload_n 2, 1) := by decide +kernel
theorem dX4_readsSon_100 : decode cX4_readsSon 100 = .ok (.aload_n 1, 1) := by decide +kernel
theorem dX4_readsSon_101 : decode cX4_readsSon 101 = .ok (.bipush 48, 2) := by decide +kernel
theorem dX4_readsSon_103 : decode cX4_readsSon 103 = .ok (.bipush 51, 2) := by decide +kernel
theorem dX4_readsSon_105 : decode cX4_readsSon 105 = .ok (.invokevirtual 55, 3) := by decide +kernel
theorem dX4_readsSon_108 : decode cX4_readsSon 108 = .ok (.iastore, 1) := by decide +kernel
theorem dX4_readsSon_109 : decode cX4_readsSon 109 = .ok (.aload_n 0, 1) := by decide +kernel
theorem dX4_readsSon_110 : decode cX4_readsSon 110 = .ok (.getfield 36, 3) := by decide +kernel
theorem dX4_readsSon_113 : decode cX4_readsSon 113 = .ok (.iload_n 2, 1) := by decide +kernel
theorem dX4_readsSon_114 : decode cX4_readsSon 114 = .ok (.iaload, 1) := by decide +kernel
theorem dX4_readsSon_115 : decode cX4_readsSon 115 = .ok (.bipush (-9), 2) := by decide +kernel
theorem dX4_readsSon_117 : decode cX4_readsSon 117 = .ok (.if_icmp .eq 7, 3) := by decide +kernel
theorem dX4_readsSon_120 : decode cX4_readsSon 120 = .ok (.iconst 1, 1) := by decide +kernel
theorem dX4_readsSon_121 : decode cX4_readsSon 121 = .ok (.goto 4, 3) := by decide +kernel
theorem dX4_readsSon_124 : decode cX4_readsSon 124 = .ok (.iconst 0, 1) := by decide +kernel
theorem dX4_readsSon_125 : decode cX4_readsSon 125 = .ok (.ireturn, 1) := by decide +kernel
theorem dX4_costOf_0 : decode cX4_costOf 0 = .ok (.aload_n 0, 1) := by decide +kernel
theorem dX4_costOf_1 : decode cX4_costOf 1 = .ok (.getfield 33, 3) := by decide +kernel
theorem dX4_costOf_4 : decode cX4_costOf 4 = .ok (.iload_n 1, 1) := by decide +kernel
theorem dX4_costOf_5 : decode cX4_costOf 5 = .ok (.iaload, 1) := by decide +kernel
theorem dX4_costOf_6 : decode cX4_costOf 6 = .ok (.aload_n 0, 1) := by decide +kernel
theorem dX4_costOf_7 : decode cX4_costOf 7 = .ok (.getfield 36, 3) := by decide +kernel
theorem dX4_costOf_10 : decode cX4_costOf 10 = .ok (.iload_n 1, 1) := by decide +kernel
theorem dX4_costOf_11 : decode cX4_costOf 11 = .ok (.iaload, 1) := by decide +kernel
theorem dX4_costOf_12 : decode cX4_costOf 12 = .ok (.iload_n 3, 1) := by decide +kernel
theorem dX4_costOf_13 : decode cX4_costOf 13 = .ok (.imul, 1) := by decide +kernel
theorem dX4_costOf_14 : decode cX4_costOf 14 = .ok (.isub, 1) := by decide +kernel
theorem dX4_costOf_15 : decode cX4_costOf 15 = .ok (.istore 4, 2) := by decide +kernel
theorem dX4_costOf_17 : decode cX4_costOf 17 = .ok (.iload 4, 2) := by decide +kernel
theorem dX4_costOf_19 : decode cX4_costOf 19 = .ok (.ifCond .ge 7, 3) := by decide +kernel
theorem dX4_costOf_22 : decode cX4_costOf 22 = .ok (.iconst 0, 1) := by decide +kernel
theorem dX4_costOf_23 : decode cX4_costOf 23 = .ok (.goto 5, 3) := by decide +kernel
theorem dX4_costOf_26 : decode cX4_costOf 26 = .ok (.iload 4, 2) := by decide +kernel
theorem dX4_costOf_28 : decode cX4_costOf 28 = .ok (.istore 5, 2) := by decide +kernel
theorem dX4_costOf_30 : decode cX4_costOf 30 = .ok (.iload_n 2, 1) := by decide +kernel
theorem dX4_costOf_31 : decode cX4_costOf 31 = .ok (.lookupswitch 35 #[(1, 30), (2, 25)], 25) := by decide +kernel
theorem dX4_costOf_56 : decode cX4_costOf 56 = .ok (.iload 5, 2) := by decide +kernel
theorem dX4_costOf_58 : decode cX4_costOf 58 = .ok (.iconst 2, 1) := by decide +kernel
theorem dX4_costOf_59 : decode cX4_costOf 59 = .ok (.idiv, 1) := by decide +kernel
theorem dX4_costOf_60 : decode cX4_costOf 60 = .ok (.ireturn, 1) := by decide +kernel
theorem dX4_costOf_61 : decode cX4_costOf 61 = .ok (.iload 5, 2) := by decide +kernel
theorem dX4_costOf_63 : decode cX4_costOf 63 = .ok (.iconst 2, 1) := by decide +kernel
theorem dX4_costOf_64 : decode cX4_costOf 64 = .ok (.iadd, 1) := by decide +kernel
theorem dX4_costOf_65 : decode cX4_costOf 65 = .ok (.ireturn, 1) := by decide +kernel
theorem dX4_costOf_66 : decode cX4_costOf 66 = .ok (.iload 5, 2) := by decide +kernel
theorem dX4_costOf_68 : decode cX4_costOf 68 = .ok (.ireturn, 1) := by decide +kernel
set_option maxRecDepth 20000 in
theorem ggX4_costsOf_X1_isAway : GoodIn wsX4_costsOf wsX1_isAway := goodIn_r _ [9, 10, 26, 27] (by decide +kernel) (by decide +kernel)
set_option maxRecDepth 20000 in
theorem gX4_costsOf_X1_isAway : GoodIn wsX4_costsOf (wsV RX4 71 RX1 yX1_isAway wsX1_isAway) := goodIn_app (goodIn_of _ (by decide +kernel)) ggX4_costsOf_X1_isAway
set_option maxRecDepth 20000 in
theorem ggX4_costsOf_X4_costOf : GoodIn wsX4_costsOf wsX4_costOf := goodIn_r _ [15, 16, 17, 18, 19, 20, 21, 22, 23, 24, 25] (by decide +kernel) (by decide +kernel)
set_option maxRecDepth 20000 in
theorem gX4_costsOf_X4_costOf : GoodIn wsX4_costsOf (wsV RX4 80 RX4 yX4_costOf wsX4_costOf) := goodIn_app (goodIn_of _ (by decide +kernel)) ggX4_costsOf_X4_costOf
theorem dX4_costsOf_0 : decode cX4_costsOf 0 = .ok (.iconst 0, 1) := by decide +kernel
theorem dX4_costsOf_1 : decode cX4_costsOf 1 = .ok (.istore 5, 2) := by decide +kernel
theorem dX4_costsOf_3 : decode cX4_costsOf 3 = .ok (.iconst 0, 1) := by decide +kernel
theorem dX4_costsOf_4 : decode cX4_costsOf 4 = .ok (.istore 6, 2) := by decide +kernel
theorem dX4_costsOf_6 : decode cX4_costsOf 6 = .ok (.iload 6, 2) := by decide +kernel
theorem dX4_costsOf_8 : decode cX4_costsOf 8 = .ok (.aload_n 0, 1) := by decide +kernel
theorem dX4_costsOf_9 : decode cX4_costsOf 9 = .ok (.getfield 18, 3) := by decide +kernel
theorem dX4_costsOf_12 : decode cX4_costsOf 12 = .ok (.if_icmp .ge 76, 3) := by decide +kernel
theorem dX4_costsOf_15 : decode cX4_costsOf 15 = .ok (.aload_n 0, 1) := by decide +kernel
theorem dX4_costsOf_16 : decode cX4_costsOf 16 = .ok (.getfield 30, 3) := by decide +kernel
theorem dX4_costsOf_19 : decode cX4_costsOf 19 = .ok (.iload 6, 2) := by decide +kernel
theorem dX4_costsOf_21 : decode cX4_costsOf 21 = .ok (.iaload, 1) := by decide +kernel
theorem dX4_costsOf_22 : decode cX4_costsOf 22 = .ok (.iload_n 1, 1) := by decide +kernel
theorem dX4_costsOf_23 : decode cX4_costsOf 23 = .ok (.if_icmp .ne 59, 3) := by decide +kernel
theorem dX4_costsOf_26 : decode cX4_costsOf 26 = .ok (.aload_n 3, 1) := by decide +kernel
theorem dX4_costsOf_27 : decode cX4_costsOf 27 = .ok (.iload 6, 2) := by decide +kernel
theorem dX4_costsOf_29 : decode cX4_costsOf 29 = .ok (.iload_n 2, 1) := by decide +kernel
theorem dX4_costsOf_30 : decode cX4_costsOf 30 = .ok (.invokevirtual 71, 3) := by decide +kernel
theorem dX4_costsOf_33 : decode cX4_costsOf 33 = .ok (.ifCond .eq 49, 3) := by decide +kernel
theorem dX4_costsOf_36 : decode cX4_costsOf 36 = .ok (.iload 4, 2) := by decide +kernel
theorem dX4_costsOf_38 : decode cX4_costsOf 38 = .ok (.iload 6, 2) := by decide +kernel
theorem dX4_costsOf_40 : decode cX4_costsOf 40 = .ok (.ishr, 1) := by decide +kernel
theorem dX4_costsOf_41 : decode cX4_costsOf 41 = .ok (.iconst 1, 1) := by decide +kernel
theorem dX4_costsOf_42 : decode cX4_costsOf 42 = .ok (.iand, 1) := by decide +kernel
theorem dX4_costsOf_43 : decode cX4_costsOf 43 = .ok (.iconst 1, 1) := by decide +kernel
theorem dX4_costsOf_44 : decode cX4_costsOf 44 = .ok (.if_icmp .ne 7, 3) := by decide +kernel
theorem dX4_costsOf_47 : decode cX4_costsOf 47 = .ok (.iconst 2, 1) := by decide +kernel
theorem dX4_costsOf_48 : decode cX4_costsOf 48 = .ok (.goto 10, 3) := by decide +kernel
theorem dX4_costsOf_51 : decode cX4_costsOf 51 = .ok (.aload_n 0, 1) := by decide +kernel
theorem dX4_costsOf_52 : decode cX4_costsOf 52 = .ok (.getfield 26, 3) := by decide +kernel
theorem dX4_costsOf_55 : decode cX4_costsOf 55 = .ok (.iload 6, 2) := by decide +kernel
theorem dX4_costsOf_57 : decode cX4_costsOf 57 = .ok (.iaload, 1) := by decide +kernel
theorem dX4_costsOf_58 : decode cX4_costsOf 58 = .ok (.istore 7, 2) := by decide +kernel
theorem dX4_costsOf_60 : decode cX4_costsOf 60 = .ok (.iload 5, 2) := by decide +kernel
theorem dX4_costsOf_62 : decode cX4_costsOf 62 = .ok (.aload_n 0, 1) := by decide +kernel
theorem dX4_costsOf_63 : decode cX4_costsOf 63 = .ok (.iload 6, 2) := by decide +kernel
theorem dX4_costsOf_65 : decode cX4_costsOf 65 = .ok (.iload 7, 2) := by decide +kernel
theorem dX4_costsOf_67 : decode cX4_costsOf 67 = .ok (.iload_n 2, 1) := by decide +kernel
theorem dX4_costsOf_68 : decode cX4_costsOf 68 = .ok (.aload_n 3, 1) := by decide +kernel
theorem dX4_costsOf_69 : decode cX4_costsOf 69 = .ok (.getfield 77, 3) := by decide +kernel
theorem dX4_costsOf_72 : decode cX4_costsOf 72 = .ok (.iload 6, 2) := by decide +kernel
theorem dX4_costsOf_74 : decode cX4_costsOf 74 = .ok (.iaload, 1) := by decide +kernel
theorem dX4_costsOf_75 : decode cX4_costsOf 75 = .ok (.isub, 1) := by decide +kernel
theorem dX4_costsOf_76 : decode cX4_costsOf 76 = .ok (.invokevirtual 80, 3) := by decide +kernel
theorem dX4_costsOf_79 : decode cX4_costsOf 79 = .ok (.iadd, 1) := by decide +kernel
theorem dX4_costsOf_80 : decode cX4_costsOf 80 = .ok (.istore 5, 2) := by decide +kernel
theorem dX4_costsOf_82 : decode cX4_costsOf 82 = .ok (.iinc 6 1, 3) := by decide +kernel
theorem dX4_costsOf_85 : decode cX4_costsOf 85 = .ok (.goto (-79), 3) := by decide +kernel
theorem dX4_costsOf_88 : decode cX4_costsOf 88 = .ok (.iload 5, 2) := by decide +kernel
theorem dX4_costsOf_90 : decode cX4_costsOf 90 = .ok (.ireturn, 1) := by decide +kernel
set_option maxRecDepth 20000 in
theorem ggX4_wouldBreak_X4_costsOf : GoodIn wsX4_wouldBreak wsX4_costsOf := goodIn_r _ [6, 7, 8, 9, 10, 11, 12, 13, 14, 15, 16, 17, 18, 19, 5, 20, 21, 22, 23, 24, 25, 26, 27, 28, 29, 30, 31, 32] (by decide +kernel) (by decide +kernel)
set_option maxRecDepth 20000 in
theorem gX4_wouldBreak_X4_costsOf : GoodIn wsX4_wouldBreak (wsV RX4 84 RX4 yX4_costsOf wsX4_costsOf) := goodIn_app (goodIn_of _ (by decide +kernel)) ggX4_wouldBreak_X4_costsOf
theorem dX4_wouldBreak_0 : decode cX4_wouldBreak 0 = .ok (.aload_n 0, 1) := by decide +kernel
theorem dX4_wouldBreak_1 : decode cX4_wouldBreak 1 = .ok (.getfield 23, 3) := by decide +kernel
theorem dX4_wouldBreak_4 : decode cX4_wouldBreak 4 = .ok (.iload_n 1, 1) := by decide +kernel
theorem dX4_wouldBreak_5 : decode cX4_wouldBreak 5 = .ok (.aaload, 1) := by decide +kernel
theorem dX4_wouldBreak_6 : decode cX4_wouldBreak 6 = .ok (.iload_n 2, 1) := by decide +kernel
theorem dX4_wouldBreak_7 : decode cX4_wouldBreak 7 = .ok (.iaload, 1) := by decide +kernel
theorem dX4_wouldBreak_8 : decode cX4_wouldBreak 8 = .ok (.aload_n 0, 1) := by decide +kernel
theorem dX4_wouldBreak_9 : decode cX4_wouldBreak 9 = .ok (.iload_n 1, 1) := by decide +kernel
theorem dX4_wouldBreak_10 : decode cX4_wouldBreak 10 = .ok (.iload_n 2, 1) := by decide +kernel
theorem dX4_wouldBreak_11 : decode cX4_wouldBreak 11 = .ok (.aload_n 3, 1) := by decide +kernel
theorem dX4_wouldBreak_12 : decode cX4_wouldBreak 12 = .ok (.iload 4, 2) := by decide +kernel
theorem dX4_wouldBreak_14 : decode cX4_wouldBreak 14 = .ok (.invokevirtual 84, 3) := by decide +kernel
theorem dX4_wouldBreak_17 : decode cX4_wouldBreak 17 = .ok (.if_icmp .le 7, 3) := by decide +kernel
theorem dX4_wouldBreak_20 : decode cX4_wouldBreak 20 = .ok (.iconst 1, 1) := by decide +kernel
theorem dX4_wouldBreak_21 : decode cX4_wouldBreak 21 = .ok (.goto 4, 3) := by decide +kernel
theorem dX4_wouldBreak_24 : decode cX4_wouldBreak 24 = .ok (.iconst 0, 1) := by decide +kernel
theorem dX4_wouldBreak_25 : decode cX4_wouldBreak 25 = .ok (.ireturn, 1) := by decide +kernel
set_option maxRecDepth 20000 in
theorem ggX4_firstToBreak_X4_wouldBreak : GoodIn wsX4_firstToBreak wsX4_wouldBreak := goodIn_r _ [6, 7, 8, 9, 10, 5, 11, 12, 13, 14, 15, 16, 17, 18, 19, 20, 21, 22, 23, 24, 25, 26, 27, 28, 29, 30, 31, 32, 33, 34, 35, 36, 37] (by decide +kernel) (by decide +kernel)
set_option maxRecDepth 20000 in
theorem gX4_firstToBreak_X4_wouldBreak : GoodIn wsX4_firstToBreak (wsV RX4 88 RX4 yX4_wouldBreak wsX4_wouldBreak) := goodIn_app (goodIn_of _ (by decide +kernel)) ggX4_firstToBreak_X4_wouldBreak
theorem dX4_firstToBreak_0 : decode cX4_firstToBreak 0 = .ok (.iconst 0, 1) := by decide +kernel
theorem dX4_firstToBreak_1 : decode cX4_firstToBreak 1 = .ok (.istore 4, 2) := by decide +kernel
theorem dX4_firstToBreak_3 : decode cX4_firstToBreak 3 = .ok (.iload 4, 2) := by decide +kernel
theorem dX4_firstToBreak_5 : decode cX4_firstToBreak 5 = .ok (.aload_n 0, 1) := by decide +kernel
theorem dX4_firstToBreak_6 : decode cX4_firstToBreak 6 = .ok (.getfield 9, 3) := by decide +kernel
theorem dX4_firstToBreak_9 : decode cX4_firstToBreak 9 = .ok (.if_icmp .ge 24, 3) := by decide +kernel
theorem dX4_firstToBreak_12 : decode cX4_firstToBreak 12 = .ok (.aload_n 0, 1) := by decide +kernel
theorem dX4_firstToBreak_13 : decode cX4_firstToBreak 13 = .ok (.iload 4, 2) := by decide +kernel
theorem dX4_firstToBreak_15 : decode cX4_firstToBreak 15 = .ok (.iload_n 1, 1) := by decide +kernel
theorem dX4_firstToBreak_16 : decode cX4_firstToBreak 16 = .ok (.aload_n 2, 1) := by decide +kernel
theorem dX4_firstToBreak_17 : decode cX4_firstToBreak 17 = .ok (.iload_n 3, 1) := by decide +kernel
theorem dX4_firstToBreak_18 : decode cX4_firstToBreak 18 = .ok (.invokevirtual 88, 3) := by decide +kernel
theorem dX4_firstToBreak_21 : decode cX4_firstToBreak 21 = .ok (.ifCond .eq 6, 3) := by decide +kernel
theorem dX4_firstToBreak_24 : decode cX4_firstToBreak 24 = .ok (.iload 4, 2) := by decide +kernel
theorem dX4_firstToBreak_26 : decode cX4_firstToBreak 26 = .ok (.ireturn, 1) := by decide +kernel
theorem dX4_firstToBreak_27 : decode cX4_firstToBreak 27 = .ok (.iinc 4 1, 3) := by decide +kernel
theorem dX4_firstToBreak_30 : decode cX4_firstToBreak 30 = .ok (.goto (-27), 3) := by decide +kernel
theorem dX4_firstToBreak_33 : decode cX4_firstToBreak 33 = .ok (.bipush (-9), 2) := by decide +kernel
theorem dX4_firstToBreak_35 : decode cX4_firstToBreak 35 = .ok (.ireturn, 1) := by decide +kernel
set_option maxRecDepth 20000 in
theorem ggX4_breakYear_X4_firstToBreak : GoodIn wsX4_breakYear wsX4_firstToBreak := goodIn_r _ [6, 7, 8, 9, 10, 5, 11, 12, 13, 14, 15, 16, 17, 18, 19, 20, 21, 22, 23, 24, 25, 26, 27, 28, 29, 30, 31, 32, 33, 34, 35, 36, 37, 38, 39, 40, 41, 42] (by decide +kernel) (by decide +kernel)
set_option maxRecDepth 20000 in
theorem gX4_breakYear_X4_firstToBreak : GoodIn wsX4_breakYear (wsV RX4 92 RX4 yX4_firstToBreak wsX4_firstToBreak) := goodIn_app (goodIn_of _ (by decide +kernel)) ggX4_breakYear_X4_firstToBreak
theorem dX4_breakYear_0 : decode cX4_breakYear 0 = .ok (.iconst 0, 1) := by decide +kernel
theorem dX4_breakYear_1 : decode cX4_breakYear 1 = .ok (.istore_n 3, 1) := by decide +kernel
theorem dX4_breakYear_2 : decode cX4_breakYear 2 = .ok (.iload_n 3, 1) := by decide +kernel
theorem dX4_breakYear_3 : decode cX4_breakYear 3 = .ok (.aload_n 0, 1) := by decide +kernel
theorem dX4_breakYear_4 : decode cX4_breakYear 4 = .ok (.getfield 15, 3) := by decide +kernel
theorem dX4_breakYear_7 : decode cX4_breakYear 7 = .ok (.if_icmp .ge 23, 3) := by decide +kernel
theorem dX4_breakYear_10 : decode cX4_breakYear 10 = .ok (.aload_n 0, 1) := by decide +kernel
theorem dX4_breakYear_11 : decode cX4_breakYear 11 = .ok (.iload_n 3, 1) := by decide +kernel
theorem dX4_breakYear_12 : decode cX4_breakYear 12 = .ok (.aload_n 1, 1) := by decide +kernel
theorem dX4_breakYear_13 : decode cX4_breakYear 13 = .ok (.iload_n 2, 1) := by decide +kernel
theorem dX4_breakYear_14 : decode cX4_breakYear 14 = .ok (.invokevirtual 92, 3) := by decide +kernel
theorem dX4_breakYear_17 : decode cX4_breakYear 17 = .ok (.bipush (-9), 2) := by decide +kernel
theorem dX4_breakYear_19 : decode cX4_breakYear 19 = .ok (.if_icmp .eq 5, 3) := by decide +kernel
theorem dX4_breakYear_22 : decode cX4_breakYear 22 = .ok (.iload_n 3, 1) := by decide +kernel
theorem dX4_breakYear_23 : decode cX4_breakYear 23 = .ok (.ireturn, 1) := by decide +kernel
theorem dX4_breakYear_24 : decode cX4_breakYear 24 = .ok (.iinc 3 1, 3) := by decide +kernel
theorem dX4_breakYear_27 : decode cX4_breakYear 27 = .ok (.goto (-25), 3) := by decide +kernel
theorem dX4_breakYear_30 : decode cX4_breakYear 30 = .ok (.bipush (-9), 2) := by decide +kernel
theorem dX4_breakYear_32 : decode cX4_breakYear 32 = .ok (.ireturn, 1) := by decide +kernel
set_option maxRecDepth 20000 in
theorem ggX4_breakYearOf_X4_wouldBreak : GoodIn wsX4_breakYearOf wsX4_wouldBreak := goodIn_r _ [6, 7, 8, 9, 10, 5, 11, 12, 13, 14, 15, 16, 17, 18, 19, 20, 21, 22, 23, 24, 25, 26, 27, 28, 29, 30, 31, 32, 33, 34, 35, 36, 37] (by decide +kernel) (by decide +kernel)
set_option maxRecDepth 20000 in
theorem gX4_breakYearOf_X4_wouldBreak : GoodIn wsX4_breakYearOf (wsV RX4 88 RX4 yX4_wouldBreak wsX4_wouldBreak) := goodIn_app (goodIn_of _ (by decide +kernel)) ggX4_breakYearOf_X4_wouldBreak
theorem dX4_breakYearOf_0 : decode cX4_breakYearOf 0 = .ok (.iconst 0, 1) := by decide +kernel
theorem dX4_breakYearOf_1 : decode cX4_breakYearOf 1 = .ok (.istore_n 3, 1) := by decide +kernel
theorem dX4_breakYearOf_2 : decode cX4_breakYearOf 2 = .ok (.iload_n 3, 1) := by decide +kernel
theorem dX4_breakYearOf_3 : decode cX4_breakYearOf 3 = .ok (.aload_n 0, 1) := by decide +kernel
theorem dX4_breakYearOf_4 : decode cX4_breakYearOf 4 = .ok (.getfield 15, 3) := by decide +kernel
theorem dX4_breakYearOf_7 : decode cX4_breakYearOf 7 = .ok (.if_icmp .ge 22, 3) := by decide +kernel
theorem dX4_breakYearOf_10 : decode cX4_breakYearOf 10 = .ok (.aload_n 0, 1) := by decide +kernel
theorem dX4_breakYearOf_11 : decode cX4_breakYearOf 11 = .ok (.iload_n 1, 1) := by decide +kernel
theorem dX4_breakYearOf_12 : decode cX4_breakYearOf 12 = .ok (.iload_n 3, 1) := by decide +kernel
theorem dX4_breakYearOf_13 : decode cX4_breakYearOf 13 = .ok (.aload_n 2, 1) := by decide +kernel
theorem dX4_breakYearOf_14 : decode cX4_breakYearOf 14 = .ok (.iconst 0, 1) := by decide +kernel
theorem dX4_breakYearOf_15 : decode cX4_breakYearOf 15 = .ok (.invokevirtual 88, 3) := by decide +kernel
theorem dX4_breakYearOf_18 : decode cX4_breakYearOf 18 = .ok (.ifCond .eq 5, 3) := by decide +kernel
theorem dX4_breakYearOf_21 : decode cX4_breakYearOf 21 = .ok (.iload_n 3, 1) := by decide +kernel
theorem dX4_breakYearOf_22 : decode cX4_breakYearOf 22 = .ok (.ireturn, 1) := by decide +kernel
theorem dX4_breakYearOf_23 : decode cX4_breakYearOf 23 = .ok (.iinc 3 1, 3) := by decide +kernel
theorem dX4_breakYearOf_26 : decode cX4_breakYearOf 26 = .ok (.goto (-24), 3) := by decide +kernel
theorem dX4_breakYearOf_29 : decode cX4_breakYearOf 29 = .ok (.bipush (-9), 2) := by decide +kernel
theorem dX4_breakYearOf_31 : decode cX4_breakYearOf 31 = .ok (.ireturn, 1) := by decide +kernel
set_option maxRecDepth 20000 in
theorem ggX5_init_X3_init : GoodIn wsX5_init wsX3_init := goodIn_r _ [29, 30, 2, 3, 31, 32, 33, 34, 81, 82, 83] (by decide +kernel) (by decide +kernel)
set_option maxRecDepth 20000 in
theorem gX5_init_X3_init_n19 : GoodIn wsX5_init (wsX3_init) := ggX5_init_X3_init
set_option maxRecDepth 20000 in
theorem ggX5_init_X4_init : GoodIn wsX5_init wsX4_init := goodIn_r _ [36, 37, 2, 3, 38, 39, 40, 41, 31, 42, 43, 44, 45, 46, 84, 85, 86, 87, 88, 89, 90, 91] (by decide +kernel) (by decide +kernel)
set_option maxRecDepth 20000 in
theorem gX5_init_X4_init_n26 : GoodIn wsX5_init (wsX4_init) := ggX5_init_X4_init
set_option maxRecDepth 20000 in
theorem ggX5_init_X1_init : GoodIn wsX5_init wsX1_init := goodIn_r _ [49, 50, 2, 3, 31, 51, 52, 53, 54, 55, 17, 56, 92, 93] (by decide +kernel) (by decide +kernel)
set_option maxRecDepth 20000 in
theorem gX5_init_X1_init : GoodIn wsX5_init (wsX1_init) := ggX5_init_X1_init
set_option maxRecDepth 20000 in
theorem ggX5_init_X0_init : GoodIn wsX5_init wsX0_init := goodIn_r _ [58, 59, 2, 3, 31, 60, 61, 62, 63, 64, 94, 95, 96, 97] (by decide +kernel) (by decide +kernel)
set_option maxRecDepth 20000 in
theorem gX5_init_X0_init_n46 : GoodIn wsX5_init (wsX0_init) := ggX5_init_X0_init
set_option maxRecDepth 20000 in
theorem ggX5_init_X2_init : GoodIn wsX5_init wsX2_init := goodIn_r _ [66, 67, 2, 3, 31, 68, 69, 70, 71, 98, 99, 100, 101] (by decide +kernel) (by decide +kernel)
set_option maxRecDepth 20000 in
theorem gX5_init_X2_init_n58 : GoodIn wsX5_init (wsX2_init) := ggX5_init_X2_init
theorem dX5_init_0 : decode cX5_init 0 = .ok (.aload_n 0, 1) := by decide +kernel
theorem dX5_init_1 : decode cX5_init 1 = .ok (.invokespecial 3, 3) := by decide +kernel
theorem dX5_init_4 : decode cX5_init 4 = .ok (.aload_n 0, 1) := by decide +kernel
theorem dX5_init_5 : decode cX5_init 5 = .ok (.iconst 4, 1) := by decide +kernel
theorem dX5_init_6 : decode cX5_init 6 = .ok (.anewarray 11, 3) := by decide +kernel
theorem dX5_init_9 : decode cX5_init 9 = .ok (.putfield 13, 3) := by decide +kernel
theorem dX5_init_12 : decode cX5_init 12 = .ok (.aload_n 0, 1) := by decide +kernel
theorem dX5_init_13 : decode cX5_init 13 = .ok (.new 17, 3) := by decide +kernel
theorem dX5_init_16 : decode cX5_init 16 = .ok (.dup, 1) := by decide +kernel
theorem dX5_init_17 : decode cX5_init 17 = .ok (.invokespecial 19, 3) := by decide +kernel
theorem dX5_init_20 : decode cX5_init 20 = .ok (.putfield 20, 3) := by decide +kernel
theorem dX5_init_23 : decode cX5_init 23 = .ok (.aload_n 0, 1) := by decide +kernel
theorem dX5_init_24 : decode cX5_init 24 = .ok (.new 24, 3) := by decide +kernel
theorem dX5_init_27 : decode cX5_init 27 = .ok (.dup, 1) := by decide +kernel
theorem dX5_init_28 : decode cX5_init 28 = .ok (.invokespecial 26, 3) := by decide +kernel
theorem dX5_init_31 : decode cX5_init 31 = .ok (.putfield 27, 3) := by decide +kernel
theorem dX5_init_34 : decode cX5_init 34 = .ok (.aload_n 0, 1) := by decide +kernel
theorem dX5_init_35 : decode cX5_init 35 = .ok (.new 24, 3) := by decide +kernel
theorem dX5_init_38 : decode cX5_init 38 = .ok (.dup, 1) := by decide +kernel
theorem dX5_init_39 : decode cX5_init 39 = .ok (.invokespecial 26, 3) := by decide +kernel
theorem dX5_init_42 : decode cX5_init 42 = .ok (.putfield 31, 3) := by decide +kernel
theorem dX5_init_45 : decode cX5_init 45 = .ok (.aload_n 0, 1) := by decide +kernel
theorem dX5_init_46 : decode cX5_init 46 = .ok (.new 34, 3) := by decide +kernel
theorem dX5_init_49 : decode cX5_init 49 = .ok (.dup, 1) := by decide +kernel
theorem dX5_init_50 : decode cX5_init 50 = .ok (.invokespecial 36, 3) := by decide +kernel
theorem dX5_init_53 : decode cX5_init 53 = .ok (.putfield 37, 3) := by decide +kernel
theorem dX5_init_56 : decode cX5_init 56 = .ok (.aload_n 0, 1) := by decide +kernel
theorem dX5_init_57 : decode cX5_init 57 = .ok (.new 34, 3) := by decide +kernel
theorem dX5_init_60 : decode cX5_init 60 = .ok (.dup, 1) := by decide +kernel
theorem dX5_init_61 : decode cX5_init 61 = .ok (.invokespecial 36, 3) := by decide +kernel
theorem dX5_init_64 : decode cX5_init 64 = .ok (.putfield 41, 3) := by decide +kernel
theorem dX5_init_67 : decode cX5_init 67 = .ok (.aload_n 0, 1) := by decide +kernel
theorem dX5_init_68 : decode cX5_init 68 = .ok (.new 44, 3) := by decide +kernel
theorem dX5_init_71 : decode cX5_init 71 = .ok (.dup, 1) := by decide +kernel
theorem dX5_init_72 : decode cX5_init 72 = .ok (.invokespecial 46, 3) := by decide +kernel
theorem dX5_init_75 : decode cX5_init 75 = .ok (.putfield 47, 3) := by decide +kernel
theorem dX5_init_78 : decode cX5_init 78 = .ok (.aload_n 0, 1) := by decide +kernel
theorem dX5_init_79 : decode cX5_init 79 = .ok (.iconst 0, 1) := by decide +kernel
theorem dX5_init_80 : decode cX5_init 80 = .ok (.putfield 51, 3) := by decide +kernel
theorem dX5_init_83 : decode cX5_init 83 = .ok (.aload_n 0, 1) := by decide +kernel
theorem dX5_init_84 : decode cX5_init 84 = .ok (.iconst 0, 1) := by decide +kernel
theorem dX5_init_85 : decode cX5_init 85 = .ok (.putfield 55, 3) := by decide +kernel
theorem dX5_init_88 : decode cX5_init 88 = .ok (.iconst 0, 1) := by decide +kernel
theorem dX5_init_89 : decode cX5_init 89 = .ok (.istore_n 1, 1) := by decide +kernel
theorem dX5_init_90 : decode cX5_init 90 = .ok (.iload_n 1, 1) := by decide +kernel
theorem dX5_init_91 : decode cX5_init 91 = .ok (.iconst 4, 1) := by decide +kernel
theorem dX5_init_92 : decode cX5_init 92 = .ok (.if_icmp .ge 22, 3) := by decide +kernel
theorem dX5_init_95 : decode cX5_init 95 = .ok (.aload_n 0, 1) := by decide +kernel
theorem dX5_init_96 : decode cX5_init 96 = .ok (.getfield 13, 3) := by decide +kernel
theorem dX5_init_99 : decode cX5_init 99 = .ok (.iload_n 1, 1) := by decide +kernel
theorem dX5_init_100 : decode cX5_init 100 = .ok (.new 11, 3) := by decide +kernel
theorem dX5_init_103 : decode cX5_init 103 = .ok (.dup, 1) := by decide +kernel
theorem dX5_init_104 : decode cX5_init 104 = .ok (.invokespecial 58, 3) := by decide +kernel
theorem dX5_init_107 : decode cX5_init 107 = .ok (.aastore, 1) := by decide +kernel
theorem dX5_init_108 : decode cX5_init 108 = .ok (.iinc 1 1, 3) := by decide +kernel
theorem dX5_init_111 : decode cX5_init 111 = .ok (.goto (-21), 3) := by decide +kernel
theorem dX5_init_114 : decode cX5_init 114 = .ok (.return_, 1) := by decide +kernel
set_option maxRecDepth 20000 in
theorem ggX5_treaty_X5_isSheet : GoodIn wsX5_treaty wsX5_isSheet := goodIn_r _ [11] (by decide +kernel) (by decide +kernel)
set_option maxRecDepth 20000 in
theorem gX5_treaty_X5_isSheet : GoodIn wsX5_treaty (va_wsS RX5 59 yX5_isSheet wsX5_isSheet) := goodIn_app (goodIn_of _ (by decide +kernel)) ggX5_treaty_X5_isSheet
set_option maxRecDepth 20000 in
theorem ggX5_treaty_X5_isLane : GoodIn wsX5_treaty wsX5_isLane := goodIn_r _ [14] (by decide +kernel) (by decide +kernel)
set_option maxRecDepth 20000 in
theorem gX5_treaty_X5_isLane : GoodIn wsX5_treaty (va_wsS RX5 63 yX5_isLane wsX5_isLane) := goodIn_app (goodIn_of _ (by decide +kernel)) ggX5_treaty_X5_isLane
set_option maxRecDepth 20000 in
theorem ggX5_treaty_X5_rowFault : GoodIn wsX5_treaty wsX5_rowFault := goodIn_r _ [17, 18, 19, 10, 20, 21, 22, 23, 24, 25, 26, 27, 28, 141, 142, 143, 144] (by decide +kernel) (by decide +kernel)
set_option maxRecDepth 20000 in
theorem gX5_treaty_X5_rowFault : GoodIn wsX5_treaty (va_wsS RX5 66 yX5_rowFault wsX5_rowFault) := goodIn_app (goodIn_of _ (by decide +kernel)) ggX5_treaty_X5_rowFault
set_option maxRecDepth 20000 in
theorem ggX5_treaty_X5_faulted : GoodIn wsX5_treaty wsX5_faulted := goodIn_r _ [32, 1, 121, 122, 123, 124, 125, 126, 127, 128, 129] (by decide +kernel) (by decide +kernel)
set_option maxRecDepth 20000 in
theorem gX5_treaty_X5_faulted : GoodIn wsX5_treaty (wsV RX5 70 RX5 yX5_faulted wsX5_faulted) := goodIn_app (goodIn_of _ (by decide +kernel)) ggX5_treaty_X5_faulted
set_option maxRecDepth 20000 in
theorem ggX5_treaty_X3_open : GoodIn wsX5_treaty wsX3_open := goodIn_r _ [37, 38, 39, 40, 41, 42, 43, 44, 45, 46, 47, 48, 49, 50, 26, 51, 52, 53, 54, 55, 56, 28, 130, 131, 132, 141, 142, 143, 144] (by decide +kernel) (by decide +kernel)
set_option maxRecDepth 20000 in
theorem gX5_treaty_X3_open : GoodIn wsX5_treaty (wsV RX5 74 RX3 yX3_open wsX3_open) := goodIn_app (goodIn_of _ (by decide +kernel)) ggX5_treaty_X3_open
set_option maxRecDepth 20000 in
theorem ggX5_treaty_X4_readsAll : GoodIn wsX5_treaty wsX4_readsAll := goodIn_r _ [61, 62, 63, 64, 60, 65, 66, 67, 68, 69, 70, 36, 71, 72, 73, 74, 75, 46, 45, 47, 76, 77, 78, 79, 80, 81, 82, 83, 84, 85, 86, 87, 88, 89, 90, 91, 92, 93, 94, 95, 96, 97, 98, 99, 100, 101, 102, 103, 133, 134, 135, 136, 137, 138, 139, 140, 130, 131, 132] (by decide +kernel) (by decide +kernel)
set_option maxRecDepth 20000 in
theorem gX5_treaty_X4_readsAll : GoodIn wsX5_treaty (wsV RX5 78 RX4 yX4_readsAll wsX4_readsAll) := goodIn_app (goodIn_of _ (by decide +kernel)) ggX5_treaty_X4_readsAll
set_option maxRecDepth 20000 in
theorem ggX5_treaty_X5_beginAnew : GoodIn wsX5_treaty wsX5_beginAnew := goodIn_r _ [107, 6, 4, 108, 109, 110, 111, 112, 113, 114, 115, 116, 117, 118, 119, 120, 121, 122, 123, 124, 125, 126, 127, 128, 129, 145, 146, 147, 148, 149, 150] (by decide +kernel) (by decide +kernel)
set_option maxRecDepth 20000 in
theorem gX5_treaty_X5_beginAnew : GoodIn wsX5_treaty (wsV RX5 85 RX5 yX5_beginAnew wsX5_beginAnew) := goodIn_app (goodIn_of _ (by decide +kernel)) ggX5_treaty_X5_beginAnew
theorem dX5_treaty_0 : decode cX5_treaty 0 = .ok (.aload_n 0, 1) := by decide +kernel
theorem dX5_treaty_1 : decode cX5_treaty 1 = .ok (.iconst 0, 1) := by decide +kernel
theorem dX5_treaty_2 : decode cX5_treaty 2 = .ok (.putfield 55, 3) := by decide +kernel
theorem dX5_treaty_5 : decode cX5_treaty 5 = .ok (.iload_n 1, 1) := by decide +kernel
theorem dX5_treaty_6 : decode cX5_treaty 6 = .ok (.invokestatic 59, 3) := by decide +kernel
theorem dX5_treaty_9 : decode cX5_treaty 9 = .ok (.ifCond .ne 5, 3) := by decide +kernel
theorem dX5_treaty_12 : decode cX5_treaty 12 = .ok (.iconst (-1), 1) := by decide +kernel
