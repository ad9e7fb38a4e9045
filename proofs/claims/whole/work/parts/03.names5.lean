set_option maxRecDepth 20000 in
theorem gX4_blowsOf_X4_at : GoodIn wsX4_blowsOf (va_wsS RX4 22 yX4_at wsX4_at) := goodIn_app (goodIn_of _ (by decide +kernel)) ggX4_blowsOf_X4_at
theorem dX4_blowsOf_0 : decode cX4_blowsOf 0 = .ok (.aload_n 0, 1) := by decide +kernel
theorem dX4_blowsOf_1 : decode cX4_blowsOf 1 = .ok (.getfield 7, 3) := by decide +kernel
theorem dX4_blowsOf_4 : decode cX4_blowsOf 4 = .ok (.iload_n 1, 1) := by decide +kernel
theorem dX4_blowsOf_5 : decode cX4_blowsOf 5 = .ok (.iconst 0, 1) := by decide +kernel
theorem dX4_blowsOf_6 : decode cX4_blowsOf 6 = .ok (.invokestatic 22, 3) := by decide +kernel
theorem dX4_blowsOf_9 : decode cX4_blowsOf 9 = .ok (.iaload, 1) := by decide +kernel
theorem dX4_blowsOf_10 : decode cX4_blowsOf 10 = .ok (.istore_n 3, 1) := by decide +kernel
theorem dX4_blowsOf_11 : decode cX4_blowsOf 11 = .ok (.iload_n 3, 1) := by decide +kernel
theorem dX4_blowsOf_12 : decode cX4_blowsOf 12 = .ok (.ifCond .ne 7, 3) := by decide +kernel
theorem dX4_blowsOf_15 : decode cX4_blowsOf 15 = .ok (.iconst 0, 1) := by decide +kernel
theorem dX4_blowsOf_16 : decode cX4_blowsOf 16 = .ok (.goto 22, 3) := by decide +kernel
theorem dX4_blowsOf_19 : decode cX4_blowsOf 19 = .ok (.iload_n 3, 1) := by decide +kernel
theorem dX4_blowsOf_20 : decode cX4_blowsOf 20 = .ok (.iconst 1, 1) := by decide +kernel
theorem dX4_blowsOf_21 : decode cX4_blowsOf 21 = .ok (.if_icmp .ne 16, 3) := by decide +kernel
theorem dX4_blowsOf_24 : decode cX4_blowsOf 24 = .ok (.aload_n 0, 1) := by decide +kernel
theorem dX4_blowsOf_25 : decode cX4_blowsOf 25 = .ok (.getfield 7, 3) := by decide +kernel
theorem dX4_blowsOf_28 : decode cX4_blowsOf 28 = .ok (.iload_n 1, 1) := by decide +kernel
theorem dX4_blowsOf_29 : decode cX4_blowsOf 29 = .ok (.iconst 1, 1) := by decide +kernel
theorem dX4_blowsOf_30 : decode cX4_blowsOf 30 = .ok (.invokestatic 22, 3) := by decide +kernel
theorem dX4_blowsOf_33 : decode cX4_blowsOf 33 = .ok (.iaload, 1) := by decide +kernel
theorem dX4_blowsOf_34 : decode cX4_blowsOf 34 = .ok (.goto 4, 3) := by decide +kernel
theorem dX4_blowsOf_37 : decode cX4_blowsOf 37 = .ok (.iload_n 2, 1) := by decide +kernel
theorem dX4_blowsOf_38 : decode cX4_blowsOf 38 = .ok (.ireturn, 1) := by decide +kernel
set_option maxRecDepth 20000 in
theorem ggX4_strike_X4_at : GoodIn wsX4_strike wsX4_at := goodIn_r _ [5] (by decide +kernel) (by decide +kernel)
set_option maxRecDepth 20000 in
theorem gX4_strike_X4_at : GoodIn wsX4_strike (va_wsS RX4 22 yX4_at wsX4_at) := goodIn_app (goodIn_of _ (by decide +kernel)) ggX4_strike_X4_at
set_option maxRecDepth 20000 in
theorem ggX4_strike_X4_positions : GoodIn wsX4_strike wsX4_positions := goodIn_r _ [8] (by decide +kernel) (by decide +kernel)
set_option maxRecDepth 20000 in
theorem gX4_strike_X4_positions : GoodIn wsX4_strike (va_wsS RX4 49 yX4_positions wsX4_positions) := goodIn_app (goodIn_of _ (by decide +kernel)) ggX4_strike_X4_positions
set_option maxRecDepth 20000 in
theorem ggX4_strike_X4_record : GoodIn wsX4_strike wsX4_record := goodIn_r _ [12, 1, 13, 14, 15, 16, 17, 18] (by decide +kernel) (by decide +kernel)
set_option maxRecDepth 20000 in
theorem gX4_strike_X4_record : GoodIn wsX4_strike (wsV RX4 52 RX4 yX4_record wsX4_record) := goodIn_app (goodIn_of _ (by decide +kernel)) ggX4_strike_X4_record
theorem dX4_strike_0 : decode cX4_strike 0 = .ok (.aload_n 0, 1) := by decide +kernel
theorem dX4_strike_1 : decode cX4_strike 1 = .ok (.getfield 7, 3) := by decide +kernel
theorem dX4_strike_4 : decode cX4_strike 4 = .ok (.iload_n 1, 1) := by decide +kernel
theorem dX4_strike_5 : decode cX4_strike 5 = .ok (.iconst 2, 1) := by decide +kernel
theorem dX4_strike_6 : decode cX4_strike 6 = .ok (.invokestatic 22, 3) := by decide +kernel
theorem dX4_strike_9 : decode cX4_strike 9 = .ok (.dup2, 1) := by decide +kernel
theorem dX4_strike_10 : decode cX4_strike 10 = .ok (.iaload, 1) := by decide +kernel
theorem dX4_strike_11 : decode cX4_strike 11 = .ok (.iload_n 2, 1) := by decide +kernel
theorem dX4_strike_12 : decode cX4_strike 12 = .ok (.isub, 1) := by decide +kernel
theorem dX4_strike_13 : decode cX4_strike 13 = .ok (.iastore, 1) := by decide +kernel
theorem dX4_strike_14 : decode cX4_strike 14 = .ok (.aload_n 0, 1) := by decide +kernel
theorem dX4_strike_15 : decode cX4_strike 15 = .ok (.getfield 7, 3) := by decide +kernel
theorem dX4_strike_18 : decode cX4_strike 18 = .ok (.iload_n 1, 1) := by decide +kernel
theorem dX4_strike_19 : decode cX4_strike 19 = .ok (.iconst 0, 1) := by decide +kernel
theorem dX4_strike_20 : decode cX4_strike 20 = .ok (.invokestatic 22, 3) := by decide +kernel
theorem dX4_strike_23 : decode cX4_strike 23 = .ok (.iaload, 1) := by decide +kernel
theorem dX4_strike_24 : decode cX4_strike 24 = .ok (.iconst 1, 1) := by decide +kernel
theorem dX4_strike_25 : decode cX4_strike 25 = .ok (.if_icmp .ne 30, 3) := by decide +kernel
theorem dX4_strike_28 : decode cX4_strike 28 = .ok (.aload_n 0, 1) := by decide +kernel
theorem dX4_strike_29 : decode cX4_strike 29 = .ok (.getfield 7, 3) := by decide +kernel
theorem dX4_strike_32 : decode cX4_strike 32 = .ok (.iload_n 1, 1) := by decide +kernel
theorem dX4_strike_33 : decode cX4_strike 33 = .ok (.iconst 1, 1) := by decide +kernel
theorem dX4_strike_34 : decode cX4_strike 34 = .ok (.invokestatic 22, 3) := by decide +kernel
theorem dX4_strike_37 : decode cX4_strike 37 = .ok (.aload_n 0, 1) := by decide +kernel
theorem dX4_strike_38 : decode cX4_strike 38 = .ok (.getfield 7, 3) := by decide +kernel
theorem dX4_strike_41 : decode cX4_strike 41 = .ok (.iload_n 1, 1) := by decide +kernel
theorem dX4_strike_42 : decode cX4_strike 42 = .ok (.iconst 1, 1) := by decide +kernel
theorem dX4_strike_43 : decode cX4_strike 43 = .ok (.invokestatic 22, 3) := by decide +kernel
theorem dX4_strike_46 : decode cX4_strike 46 = .ok (.iaload, 1) := by decide +kernel
theorem dX4_strike_47 : decode cX4_strike 47 = .ok (.iload_n 1, 1) := by decide +kernel
theorem dX4_strike_48 : decode cX4_strike 48 = .ok (.invokestatic 49, 3) := by decide +kernel
theorem dX4_strike_51 : decode cX4_strike 51 = .ok (.irem, 1) := by decide +kernel
theorem dX4_strike_52 : decode cX4_strike 52 = .ok (.iconst 1, 1) := by decide +kernel
theorem dX4_strike_53 : decode cX4_strike 53 = .ok (.iadd, 1) := by decide +kernel
theorem dX4_strike_54 : decode cX4_strike 54 = .ok (.iastore, 1) := by decide +kernel
theorem dX4_strike_55 : decode cX4_strike 55 = .ok (.aload_n 0, 1) := by decide +kernel
theorem dX4_strike_56 : decode cX4_strike 56 = .ok (.iload_n 1, 1) := by decide +kernel
theorem dX4_strike_57 : decode cX4_strike 57 = .ok (.iload_n 3, 1) := by decide +kernel
theorem dX4_strike_58 : decode cX4_strike 58 = .ok (.ifCond .eq 8, 3) := by decide +kernel
theorem dX4_strike_61 : decode cX4_strike 61 = .ok (.iload_n 2, 1) := by decide +kernel
theorem dX4_strike_62 : decode cX4_strike 62 = .ok (.ineg, 1) := by decide +kernel
theorem dX4_strike_63 : decode cX4_strike 63 = .ok (.goto 4, 3) := by decide +kernel
theorem dX4_strike_66 : decode cX4_strike 66 = .ok (.iload_n 2, 1) := by decide +kernel
theorem dX4_strike_67 : decode cX4_strike 67 = .ok (.invokevirtual 52, 3) := by decide +kernel
theorem dX4_strike_70 : decode cX4_strike 70 = .ok (.aload_n 0, 1) := by decide +kernel
theorem dX4_strike_71 : decode cX4_strike 71 = .ok (.getfield 7, 3) := by decide +kernel
theorem dX4_strike_74 : decode cX4_strike 74 = .ok (.iload_n 1, 1) := by decide +kernel
theorem dX4_strike_75 : decode cX4_strike 75 = .ok (.iconst 3, 1) := by decide +kernel
theorem dX4_strike_76 : decode cX4_strike 76 = .ok (.invokestatic 22, 3) := by decide +kernel
theorem dX4_strike_79 : decode cX4_strike 79 = .ok (.dup2, 1) := by decide +kernel
theorem dX4_strike_80 : decode cX4_strike 80 = .ok (.iaload, 1) := by decide +kernel
theorem dX4_strike_81 : decode cX4_strike 81 = .ok (.iload_n 3, 1) := by decide +kernel
theorem dX4_strike_82 : decode cX4_strike 82 = .ok (.ifCond .eq 7, 3) := by decide +kernel
theorem dX4_strike_85 : decode cX4_strike 85 = .ok (.iconst 0, 1) := by decide +kernel
theorem dX4_strike_86 : decode cX4_strike 86 = .ok (.goto 4, 3) := by decide +kernel
theorem dX4_strike_89 : decode cX4_strike 89 = .ok (.iload_n 2, 1) := by decide +kernel
theorem dX4_strike_90 : decode cX4_strike 90 = .ok (.iadd, 1) := by decide +kernel
theorem dX4_strike_91 : decode cX4_strike 91 = .ok (.iastore, 1) := by decide +kernel
theorem dX4_strike_92 : decode cX4_strike 92 = .ok (.iload_n 3, 1) := by decide +kernel
theorem dX4_strike_93 : decode cX4_strike 93 = .ok (.ifCond .eq 7, 3) := by decide +kernel
theorem dX4_strike_96 : decode cX4_strike 96 = .ok (.iconst 0, 1) := by decide +kernel
theorem dX4_strike_97 : decode cX4_strike 97 = .ok (.goto 4, 3) := by decide +kernel
theorem dX4_strike_100 : decode cX4_strike 100 = .ok (.iload_n 2, 1) := by decide +kernel
theorem dX4_strike_101 : decode cX4_strike 101 = .ok (.ireturn, 1) := by decide +kernel
set_option maxRecDepth 20000 in
theorem ggX4_release_X4_blowsOf : GoodIn wsX4_release wsX4_blowsOf := goodIn_r _ [6, 1, 7, 8, 5, 9, 21, 22, 23, 24, 25, 26] (by decide +kernel) (by decide +kernel)
set_option maxRecDepth 20000 in
theorem gX4_release_X4_blowsOf : GoodIn wsX4_release (wsV RX4 56 RX4 yX4_blowsOf wsX4_blowsOf) := goodIn_app (goodIn_of _ (by decide +kernel)) ggX4_release_X4_blowsOf
set_option maxRecDepth 20000 in
theorem ggX4_release_X4_at : GoodIn wsX4_release wsX4_at := goodIn_r _ [9] (by decide +kernel) (by decide +kernel)
set_option maxRecDepth 20000 in
theorem gX4_release_X4_at : GoodIn wsX4_release (va_wsS RX4 22 yX4_at wsX4_at) := goodIn_app (goodIn_of _ (by decide +kernel)) ggX4_release_X4_at
set_option maxRecDepth 20000 in
theorem ggX4_release_X4_strike : GoodIn wsX4_release wsX4_strike := goodIn_r _ [13, 1, 7, 8, 5, 9, 14, 15, 16, 17, 18, 19, 20, 21, 22, 23, 24, 25, 26] (by decide +kernel) (by decide +kernel)
set_option maxRecDepth 20000 in
theorem gX4_release_X4_strike : GoodIn wsX4_release (wsV RX4 59 RX4 yX4_strike wsX4_strike) := goodIn_app (goodIn_of _ (by decide +kernel)) ggX4_release_X4_strike
theorem dX4_release_0 : decode cX4_release 0 = .ok (.aload_n 0, 1) := by decide +kernel
theorem dX4_release_1 : decode cX4_release 1 = .ok (.iload_n 1, 1) := by decide +kernel
theorem dX4_release_2 : decode cX4_release 2 = .ok (.iload_n 2, 1) := by decide +kernel
theorem dX4_release_3 : decode cX4_release 3 = .ok (.invokevirtual 56, 3) := by decide +kernel
theorem dX4_release_6 : decode cX4_release 6 = .ok (.istore 4, 2) := by decide +kernel
theorem dX4_release_8 : decode cX4_release 8 = .ok (.aload_n 0, 1) := by decide +kernel
theorem dX4_release_9 : decode cX4_release 9 = .ok (.getfield 7, 3) := by decide +kernel
theorem dX4_release_12 : decode cX4_release 12 = .ok (.iload_n 1, 1) := by decide +kernel
theorem dX4_release_13 : decode cX4_release 13 = .ok (.iconst 2, 1) := by decide +kernel
theorem dX4_release_14 : decode cX4_release 14 = .ok (.invokestatic 22, 3) := by decide +kernel
theorem dX4_release_17 : decode cX4_release 17 = .ok (.iaload, 1) := by decide +kernel
theorem dX4_release_18 : decode cX4_release 18 = .ok (.iload 4, 2) := by decide +kernel
theorem dX4_release_20 : decode cX4_release 20 = .ok (.if_icmp .ge 19, 3) := by decide +kernel
theorem dX4_release_23 : decode cX4_release 23 = .ok (.aload_n 0, 1) := by decide +kernel
theorem dX4_release_24 : decode cX4_release 24 = .ok (.getfield 7, 3) := by decide +kernel
theorem dX4_release_27 : decode cX4_release 27 = .ok (.iload_n 1, 1) := by decide +kernel
theorem dX4_release_28 : decode cX4_release 28 = .ok (.iconst 4, 1) := by decide +kernel
theorem dX4_release_29 : decode cX4_release 29 = .ok (.invokestatic 22, 3) := by decide +kernel
theorem dX4_release_32 : decode cX4_release 32 = .ok (.dup2, 1) := by decide +kernel
theorem dX4_release_33 : decode cX4_release 33 = .ok (.iaload, 1) := by decide +kernel
theorem dX4_release_34 : decode cX4_release 34 = .ok (.iconst 1, 1) := by decide +kernel
theorem dX4_release_35 : decode cX4_release 35 = .ok (.iadd, 1) := by decide +kernel
theorem dX4_release_36 : decode cX4_release 36 = .ok (.iastore, 1) := by decide +kernel
theorem dX4_release_37 : decode cX4_release 37 = .ok (.iconst 0, 1) := by decide +kernel
theorem dX4_release_38 : decode cX4_release 38 = .ok (.ireturn, 1) := by decide +kernel
theorem dX4_release_39 : decode cX4_release 39 = .ok (.iload 4, 2) := by decide +kernel
theorem dX4_release_41 : decode cX4_release 41 = .ok (.ifCond .ne 7, 3) := by decide +kernel
theorem dX4_release_44 : decode cX4_release 44 = .ok (.iconst 0, 1) := by decide +kernel
theorem dX4_release_45 : decode cX4_release 45 = .ok (.goto 11, 3) := by decide +kernel
theorem dX4_release_48 : decode cX4_release 48 = .ok (.aload_n 0, 1) := by decide +kernel
theorem dX4_release_49 : decode cX4_release 49 = .ok (.iload_n 1, 1) := by decide +kernel
theorem dX4_release_50 : decode cX4_release 50 = .ok (.iload 4, 2) := by decide +kernel
theorem dX4_release_52 : decode cX4_release 52 = .ok (.iload_n 3, 1) := by decide +kernel
theorem dX4_release_53 : decode cX4_release 53 = .ok (.invokevirtual 59, 3) := by decide +kernel
theorem dX4_release_56 : decode cX4_release 56 = .ok (.ireturn, 1) := by decide +kernel
set_option maxRecDepth 20000 in
theorem ggX4_tick_X4_silentAt : GoodIn wsX4_tick wsX4_silentAt := goodIn_r _ [6, 1, 32, 33, 34, 35, 36, 37] (by decide +kernel) (by decide +kernel)
set_option maxRecDepth 20000 in
theorem gX4_tick_X4_silentAt : GoodIn wsX4_tick (wsV RX4 63 RX4 yX4_silentAt wsX4_silentAt) := goodIn_app (goodIn_of _ (by decide +kernel)) ggX4_tick_X4_silentAt
set_option maxRecDepth 20000 in
theorem ggX4_tick_X4_dueAfter : GoodIn wsX4_tick wsX4_dueAfter := goodIn_r _ [9, 10, 11, 5, 12] (by decide +kernel) (by decide +kernel)
set_option maxRecDepth 20000 in
theorem gX4_tick_X4_dueAfter : GoodIn wsX4_tick (va_wsS RX4 66 yX4_dueAfter wsX4_dueAfter) := goodIn_app (goodIn_of _ (by decide +kernel)) ggX4_tick_X4_dueAfter
set_option maxRecDepth 20000 in
theorem ggX4_tick_X4_release : GoodIn wsX4_tick wsX4_release := goodIn_r _ [16, 1, 17, 18, 19, 5, 20, 21, 22, 23, 24, 25, 26, 27, 10, 11, 12, 28, 29, 30, 31, 32, 33, 34, 35, 36, 37] (by decide +kernel) (by decide +kernel)
set_option maxRecDepth 20000 in
theorem gX4_tick_X4_release : GoodIn wsX4_tick (wsV RX4 69 RX4 yX4_release wsX4_release) := goodIn_app (goodIn_of _ (by decide +kernel)) ggX4_tick_X4_release
theorem dX4_tick_0 : decode cX4_tick 0 = .ok (.aload_n 0, 1) := by decide +kernel
theorem dX4_tick_1 : decode cX4_tick 1 = .ok (.getfield 7, 3) := by decide +kernel
theorem dX4_tick_4 : decode cX4_tick 4 = .ok (.iconst 0, 1) := by decide +kernel
theorem dX4_tick_5 : decode cX4_tick 5 = .ok (.iaload, 1) := by decide +kernel
theorem dX4_tick_6 : decode cX4_tick 6 = .ok (.istore_n 1, 1) := by decide +kernel
theorem dX4_tick_7 : decode cX4_tick 7 = .ok (.aload_n 0, 1) := by decide +kernel
theorem dX4_tick_8 : decode cX4_tick 8 = .ok (.getfield 7, 3) := by decide +kernel
theorem dX4_tick_11 : decode cX4_tick 11 = .ok (.iconst 0, 1) := by decide +kernel
theorem dX4_tick_12 : decode cX4_tick 12 = .ok (.iload_n 1, 1) := by decide +kernel
theorem dX4_tick_13 : decode cX4_tick 13 = .ok (.iconst 1, 1) := by decide +kernel
theorem dX4_tick_14 : decode cX4_tick 14 = .ok (.iadd, 1) := by decide +kernel
theorem dX4_tick_15 : decode cX4_tick 15 = .ok (.sipush 1440, 3) := by decide +kernel
theorem dX4_tick_18 : decode cX4_tick 18 = .ok (.irem, 1) := by decide +kernel
theorem dX4_tick_19 : decode cX4_tick 19 = .ok (.iastore, 1) := by decide +kernel
theorem dX4_tick_20 : decode cX4_tick 20 = .ok (.aload_n 0, 1) := by decide +kernel
theorem dX4_tick_21 : decode cX4_tick 21 = .ok (.getfield 7, 3) := by decide +kernel
theorem dX4_tick_24 : decode cX4_tick 24 = .ok (.iconst 0, 1) := by decide +kernel
theorem dX4_tick_25 : decode cX4_tick 25 = .ok (.iaload, 1) := by decide +kernel
theorem dX4_tick_26 : decode cX4_tick 26 = .ok (.istore_n 2, 1) := by decide +kernel
theorem dX4_tick_27 : decode cX4_tick 27 = .ok (.aload_n 0, 1) := by decide +kernel
theorem dX4_tick_28 : decode cX4_tick 28 = .ok (.iload_n 2, 1) := by decide +kernel
theorem dX4_tick_29 : decode cX4_tick 29 = .ok (.invokevirtual 63, 3) := by decide +kernel
theorem dX4_tick_32 : decode cX4_tick 32 = .ok (.istore_n 3, 1) := by decide +kernel
theorem dX4_tick_33 : decode cX4_tick 33 = .ok (.iload_n 2, 1) := by decide +kernel
theorem dX4_tick_34 : decode cX4_tick 34 = .ok (.bipush 15, 2) := by decide +kernel
theorem dX4_tick_36 : decode cX4_tick 36 = .ok (.irem, 1) := by decide +kernel
theorem dX4_tick_37 : decode cX4_tick 37 = .ok (.ifCond .ne 17, 3) := by decide +kernel
theorem dX4_tick_40 : decode cX4_tick 40 = .ok (.iload_n 3, 1) := by decide +kernel
theorem dX4_tick_41 : decode cX4_tick 41 = .ok (.ifCond .eq 15, 3) := by decide +kernel
theorem dX4_tick_44 : decode cX4_tick 44 = .ok (.aload_n 0, 1) := by decide +kernel
theorem dX4_tick_45 : decode cX4_tick 45 = .ok (.getfield 7, 3) := by decide +kernel
theorem dX4_tick_48 : decode cX4_tick 48 = .ok (.iconst 1, 1) := by decide +kernel
theorem dX4_tick_49 : decode cX4_tick 49 = .ok (.iaload, 1) := by decide +kernel
theorem dX4_tick_50 : decode cX4_tick 50 = .ok (.iconst 1, 1) := by decide +kernel
theorem dX4_tick_51 : decode cX4_tick 51 = .ok (.if_icmp .ne 5, 3) := by decide +kernel
theorem dX4_tick_54 : decode cX4_tick 54 = .ok (.iconst 0, 1) := by decide +kernel
theorem dX4_tick_55 : decode cX4_tick 55 = .ok (.ireturn, 1) := by decide +kernel
theorem dX4_tick_56 : decode cX4_tick 56 = .ok (.aload_n 0, 1) := by decide +kernel
theorem dX4_tick_57 : decode cX4_tick 57 = .ok (.iconst 1, 1) := by decide +kernel
theorem dX4_tick_58 : decode cX4_tick 58 = .ok (.iconst 1, 1) := by decide +kernel
theorem dX4_tick_59 : decode cX4_tick 59 = .ok (.iload_n 1, 1) := by decide +kernel
theorem dX4_tick_60 : decode cX4_tick 60 = .ok (.invokestatic 66, 3) := by decide +kernel
theorem dX4_tick_63 : decode cX4_tick 63 = .ok (.iload_n 3, 1) := by decide +kernel
theorem dX4_tick_64 : decode cX4_tick 64 = .ok (.invokevirtual 69, 3) := by decide +kernel
theorem dX4_tick_67 : decode cX4_tick 67 = .ok (.istore 4, 2) := by decide +kernel
theorem dX4_tick_69 : decode cX4_tick 69 = .ok (.iload_n 2, 1) := by decide +kernel
theorem dX4_tick_70 : decode cX4_tick 70 = .ok (.bipush 60, 2) := by decide +kernel
theorem dX4_tick_72 : decode cX4_tick 72 = .ok (.irem, 1) := by decide +kernel
theorem dX4_tick_73 : decode cX4_tick 73 = .ok (.ifCond .ne 20, 3) := by decide +kernel
theorem dX4_tick_76 : decode cX4_tick 76 = .ok (.iload 4, 2) := by decide +kernel
theorem dX4_tick_78 : decode cX4_tick 78 = .ok (.aload_n 0, 1) := by decide +kernel
theorem dX4_tick_79 : decode cX4_tick 79 = .ok (.iconst 0, 1) := by decide +kernel
theorem dX4_tick_80 : decode cX4_tick 80 = .ok (.iconst 0, 1) := by decide +kernel
theorem dX4_tick_81 : decode cX4_tick 81 = .ok (.iload_n 1, 1) := by decide +kernel
theorem dX4_tick_82 : decode cX4_tick 82 = .ok (.invokestatic 66, 3) := by decide +kernel
theorem dX4_tick_85 : decode cX4_tick 85 = .ok (.iload_n 3, 1) := by decide +kernel
theorem dX4_tick_86 : decode cX4_tick 86 = .ok (.invokevirtual 69, 3) := by decide +kernel
theorem dX4_tick_89 : decode cX4_tick 89 = .ok (.iadd, 1) := by decide +kernel
theorem dX4_tick_90 : decode cX4_tick 90 = .ok (.goto 5, 3) := by decide +kernel
theorem dX4_tick_93 : decode cX4_tick 93 = .ok (.iload 4, 2) := by decide +kernel
theorem dX4_tick_95 : decode cX4_tick 95 = .ok (.ireturn, 1) := by decide +kernel
set_option maxRecDepth 20000 in
theorem ggX4_run_X4_in : GoodIn wsX4_run wsX4_in := goodIn_r _ [4] (by decide +kernel) (by decide +kernel)
set_option maxRecDepth 20000 in
theorem gX4_run_X4_in : GoodIn wsX4_run (va_wsS RX4 34 yX4_in wsX4_in) := goodIn_app (goodIn_of _ (by decide +kernel)) ggX4_run_X4_in
set_option maxRecDepth 20000 in
theorem ggX4_run_X4_error : GoodIn wsX4_run wsX4_error := goodIn_r _ [8, 9, 53, 54, 55, 56, 57, 58] (by decide +kernel) (by decide +kernel)
set_option maxRecDepth 20000 in
theorem gX4_run_X4_error : GoodIn wsX4_run (wsV RX4 42 RX4 yX4_error wsX4_error) := goodIn_app (goodIn_of _ (by decide +kernel)) ggX4_run_X4_error
set_option maxRecDepth 20000 in
theorem ggX4_run_X4_save : GoodIn wsX4_run wsX4_save := goodIn_r _ [13, 14, 15, 16, 17, 18, 3, 19, 53, 54, 55, 56, 57, 58] (by decide +kernel) (by decide +kernel)
set_option maxRecDepth 20000 in
theorem gX4_run_X4_save : GoodIn wsX4_run (wsV RX4 46 RX4 yX4_save wsX4_save) := goodIn_app (goodIn_of _ (by decide +kernel)) ggX4_run_X4_save
set_option maxRecDepth 20000 in
theorem ggX4_run_X4_tick : GoodIn wsX4_run wsX4_tick := goodIn_r _ [23, 16, 24, 25, 26, 3, 27, 28, 29, 30, 31, 32, 33, 34, 35, 36, 37, 38, 39, 40, 41, 42, 43, 44, 45, 46, 47, 48, 49, 50, 51, 52, 53, 54, 55, 56, 57, 58] (by decide +kernel) (by decide +kernel)
set_option maxRecDepth 20000 in
theorem gX4_run_X4_tick : GoodIn wsX4_run (wsV RX4 72 RX4 yX4_tick wsX4_tick) := goodIn_app (goodIn_of _ (by decide +kernel)) ggX4_run_X4_tick
theorem dX4_run_0 : decode cX4_run 0 = .ok (.iload_n 1, 1) := by decide +kernel
theorem dX4_run_1 : decode cX4_run 1 = .ok (.iconst 0, 1) := by decide +kernel
theorem dX4_run_2 : decode cX4_run 2 = .ok (.sipush 1440, 3) := by decide +kernel
theorem dX4_run_5 : decode cX4_run 5 = .ok (.invokestatic 34, 3) := by decide +kernel
theorem dX4_run_8 : decode cX4_run 8 = .ok (.ifCond .ne 10, 3) := by decide +kernel
theorem dX4_run_11 : decode cX4_run 11 = .ok (.aload_n 0, 1) := by decide +kernel
theorem dX4_run_12 : decode cX4_run 12 = .ok (.bipush (-2), 2) := by decide +kernel
theorem dX4_run_14 : decode cX4_run 14 = .ok (.invokevirtual 42, 3) := by decide +kernel
theorem dX4_run_17 : decode cX4_run 17 = .ok (.ireturn, 1) := by decide +kernel
theorem dX4_run_18 : decode cX4_run 18 = .ok (.aload_n 0, 1) := by decide +kernel
theorem dX4_run_19 : decode cX4_run 19 = .ok (.invokevirtual 46, 3) := by decide +kernel
theorem dX4_run_22 : decode cX4_run 22 = .ok (.iconst 0, 1) := by decide +kernel
theorem dX4_run_23 : decode cX4_run 23 = .ok (.istore_n 2, 1) := by decide +kernel
theorem dX4_run_24 : decode cX4_run 24 = .ok (.iconst 0, 1) := by decide +kernel
theorem dX4_run_25 : decode cX4_run 25 = .ok (.istore_n 3, 1) := by decide +kernel
theorem dX4_run_26 : decode cX4_run 26 = .ok (.iload_n 3, 1) := by decide +kernel
theorem dX4_run_27 : decode cX4_run 27 = .ok (.iload_n 1, 1) := by decide +kernel
theorem dX4_run_28 : decode cX4_run 28 = .ok (.if_icmp .ge 16, 3) := by decide +kernel
theorem dX4_run_31 : decode cX4_run 31 = .ok (.iload_n 2, 1) := by decide +kernel
theorem dX4_run_32 : decode cX4_run 32 = .ok (.aload_n 0, 1) := by decide +kernel
theorem dX4_run_33 : decode cX4_run 33 = .ok (.invokevirtual 72, 3) := by decide +kernel
theorem dX4_run_36 : decode cX4_run 36 = .ok (.iadd, 1) := by decide +kernel
theorem dX4_run_37 : decode cX4_run 37 = .ok (.istore_n 2, 1) := by decide +kernel
theorem dX4_run_38 : decode cX4_run 38 = .ok (.iinc 3 1, 3) := by decide +kernel
theorem dX4_run_41 : decode cX4_run 41 = .ok (.goto (-15), 3) := by decide +kernel
theorem dX4_run_44 : decode cX4_run 44 = .ok (.iload_n 2, 1) := by decide +kernel
theorem dX4_run_45 : decode cX4_run 45 = .ok (.ireturn, 1) := by decide +kernel
set_option maxRecDepth 20000 in
theorem ggX4_setHands_X4_in : GoodIn wsX4_setHands wsX4_in := goodIn_r _ [5] (by decide +kernel) (by decide +kernel)
set_option maxRecDepth 20000 in
theorem gX4_setHands_X4_in : GoodIn wsX4_setHands (va_wsS RX4 34 yX4_in wsX4_in) := goodIn_app (goodIn_of _ (by decide +kernel)) ggX4_setHands_X4_in
set_option maxRecDepth 20000 in
theorem ggX4_setHands_X4_error : GoodIn wsX4_setHands wsX4_error := goodIn_r _ [9, 10, 20, 21, 22, 23, 24, 25] (by decide +kernel) (by decide +kernel)
set_option maxRecDepth 20000 in
theorem gX4_setHands_X4_error : GoodIn wsX4_setHands (wsV RX4 42 RX4 yX4_error wsX4_error) := goodIn_app (goodIn_of _ (by decide +kernel)) ggX4_setHands_X4_error
set_option maxRecDepth 20000 in
theorem ggX4_setHands_X4_save : GoodIn wsX4_setHands wsX4_save := goodIn_r _ [14, 15, 16, 1, 17, 18, 4, 19, 20, 21, 22, 23, 24, 25] (by decide +kernel) (by decide +kernel)
set_option maxRecDepth 20000 in
theorem gX4_setHands_X4_save : GoodIn wsX4_setHands (wsV RX4 46 RX4 yX4_save wsX4_save) := goodIn_app (goodIn_of _ (by decide +kernel)) ggX4_setHands_X4_save
theorem dX4_setHands_0 : decode cX4_setHands 0 = .ok (.iload_n 1, 1) := by decide +kernel
theorem dX4_setHands_1 : decode cX4_setHands 1 = .ok (.iconst 0, 1) := by decide +kernel
theorem dX4_setHands_2 : decode cX4_setHands 2 = .ok (.sipush 1439, 3) := by decide +kernel
theorem dX4_setHands_5 : decode cX4_setHands 5 = .ok (.invokestatic 34, 3) := by decide +kernel
theorem dX4_setHands_8 : decode cX4_setHands 8 = .ok (.ifCond .ne 10, 3) := by decide +kernel
theorem dX4_setHands_11 : decode cX4_setHands 11 = .ok (.aload_n 0, 1) := by decide +kernel
theorem dX4_setHands_12 : decode cX4_setHands 12 = .ok (.bipush (-2), 2) := by decide +kernel
theorem dX4_setHands_14 : decode cX4_setHands 14 = .ok (.invokevirtual 42, 3) := by decide +kernel
theorem dX4_setHands_17 : decode cX4_setHands 17 = .ok (.ireturn, 1) := by decide +kernel
theorem dX4_setHands_18 : decode cX4_setHands 18 = .ok (.aload_n 0, 1) := by decide +kernel
theorem dX4_setHands_19 : decode cX4_setHands 19 = .ok (.invokevirtual 46, 3) := by decide +kernel
theorem dX4_setHands_22 : decode cX4_setHands 22 = .ok (.aload_n 0, 1) := by decide +kernel
theorem dX4_setHands_23 : decode cX4_setHands 23 = .ok (.getfield 7, 3) := by decide +kernel
theorem dX4_setHands_26 : decode cX4_setHands 26 = .ok (.iconst 0, 1) := by decide +kernel
theorem dX4_setHands_27 : decode cX4_setHands 27 = .ok (.iaload, 1) := by decide +kernel
theorem dX4_setHands_28 : decode cX4_setHands 28 = .ok (.istore_n 2, 1) := by decide +kernel
theorem dX4_setHands_29 : decode cX4_setHands 29 = .ok (.aload_n 0, 1) := by decide +kernel
theorem dX4_setHands_30 : decode cX4_setHands 30 = .ok (.getfield 7, 3) := by decide +kernel
theorem dX4_setHands_33 : decode cX4_setHands 33 = .ok (.iconst 0, 1) := by decide +kernel
theorem dX4_setHands_34 : decode cX4_setHands 34 = .ok (.iload_n 1, 1) := by decide +kernel
theorem dX4_setHands_35 : decode cX4_setHands 35 = .ok (.iastore, 1) := by decide +kernel
theorem dX4_setHands_36 : decode cX4_setHands 36 = .ok (.iload_n 2, 1) := by decide +kernel
theorem dX4_setHands_37 : decode cX4_setHands 37 = .ok (.ireturn, 1) := by decide +kernel
set_option maxRecDepth 20000 in
theorem ggX4_trip_X4_isTrain : GoodIn wsX4_trip wsX4_isTrain := goodIn_r _ [5, 6, 7, 4, 8] (by decide +kernel) (by decide +kernel)
set_option maxRecDepth 20000 in
theorem gX4_trip_X4_isTrain : GoodIn wsX4_trip (va_wsS RX4 38 yX4_isTrain wsX4_isTrain) := goodIn_app (goodIn_of _ (by decide +kernel)) ggX4_trip_X4_isTrain
set_option maxRecDepth 20000 in
theorem ggX4_trip_X4_error : GoodIn wsX4_trip wsX4_error := goodIn_r _ [12, 13, 44, 45, 46, 47, 48, 49] (by decide +kernel) (by decide +kernel)
set_option maxRecDepth 20000 in
theorem gX4_trip_X4_error : GoodIn wsX4_trip (wsV RX4 42 RX4 yX4_error wsX4_error) := goodIn_app (goodIn_of _ (by decide +kernel)) ggX4_trip_X4_error
set_option maxRecDepth 20000 in
theorem ggX4_trip_X4_dueAfter : GoodIn wsX4_trip wsX4_dueAfter := goodIn_r _ [16, 17, 18, 4, 19] (by decide +kernel) (by decide +kernel)
set_option maxRecDepth 20000 in
theorem gX4_trip_X4_dueAfter : GoodIn wsX4_trip (va_wsS RX4 66 yX4_dueAfter wsX4_dueAfter) := goodIn_app (goodIn_of _ (by decide +kernel)) ggX4_trip_X4_dueAfter
set_option maxRecDepth 20000 in
theorem ggX4_trip_X4_blowsOf : GoodIn wsX4_trip wsX4_blowsOf := goodIn_r _ [23, 1, 24, 25, 4, 26, 44, 45, 46, 47, 48, 49] (by decide +kernel) (by decide +kernel)
set_option maxRecDepth 20000 in
theorem gX4_trip_X4_blowsOf : GoodIn wsX4_trip (wsV RX4 56 RX4 yX4_blowsOf wsX4_blowsOf) := goodIn_app (goodIn_of _ (by decide +kernel)) ggX4_trip_X4_blowsOf
set_option maxRecDepth 20000 in
theorem ggX4_trip_X4_at : GoodIn wsX4_trip wsX4_at := goodIn_r _ [26] (by decide +kernel) (by decide +kernel)
set_option maxRecDepth 20000 in
theorem gX4_trip_X4_at : GoodIn wsX4_trip (va_wsS RX4 22 yX4_at wsX4_at) := goodIn_app (goodIn_of _ (by decide +kernel)) ggX4_trip_X4_at
set_option maxRecDepth 20000 in
theorem ggX4_trip_X4_save : GoodIn wsX4_trip wsX4_save := goodIn_r _ [30, 31, 32, 1, 33, 34, 4, 35, 44, 45, 46, 47, 48, 49] (by decide +kernel) (by decide +kernel)
set_option maxRecDepth 20000 in
theorem gX4_trip_X4_save : GoodIn wsX4_trip (wsV RX4 46 RX4 yX4_save wsX4_save) := goodIn_app (goodIn_of _ (by decide +kernel)) ggX4_trip_X4_save
set_option maxRecDepth 20000 in
theorem ggX4_trip_X4_strike : GoodIn wsX4_trip wsX4_strike := goodIn_r _ [39, 1, 24, 25, 4, 26, 17, 18, 19, 40, 41, 42, 43, 44, 45, 46, 47, 48, 49] (by decide +kernel) (by decide +kernel)
set_option maxRecDepth 20000 in
theorem gX4_trip_X4_strike : GoodIn wsX4_trip (wsV RX4 59 RX4 yX4_strike wsX4_strike) := goodIn_app (goodIn_of _ (by decide +kernel)) ggX4_trip_X4_strike
theorem dX4_trip_0 : decode cX4_trip 0 = .ok (.iload_n 1, 1) := by decide +kernel
theorem dX4_trip_1 : decode cX4_trip 1 = .ok (.invokestatic 38, 3) := by decide +kernel
theorem dX4_trip_4 : decode cX4_trip 4 = .ok (.ifCond .ne 10, 3) := by decide +kernel
theorem dX4_trip_7 : decode cX4_trip 7 = .ok (.aload_n 0, 1) := by decide +kernel
theorem dX4_trip_8 : decode cX4_trip 8 = .ok (.bipush (-2), 2) := by decide +kernel
theorem dX4_trip_10 : decode cX4_trip 10 = .ok (.invokevirtual 42, 3) := by decide +kernel
theorem dX4_trip_13 : decode cX4_trip 13 = .ok (.ireturn, 1) := by decide +kernel
theorem dX4_trip_14 : decode cX4_trip 14 = .ok (.aload_n 0, 1) := by decide +kernel
theorem dX4_trip_15 : decode cX4_trip 15 = .ok (.iload_n 1, 1) := by decide +kernel
theorem dX4_trip_16 : decode cX4_trip 16 = .ok (.iload_n 1, 1) := by decide +kernel
theorem dX4_trip_17 : decode cX4_trip 17 = .ok (.aload_n 0, 1) := by decide +kernel
theorem dX4_trip_18 : decode cX4_trip 18 = .ok (.getfield 7, 3) := by decide +kernel
theorem dX4_trip_21 : decode cX4_trip 21 = .ok (.iconst 0, 1) := by decide +kernel
theorem dX4_trip_22 : decode cX4_trip 22 = .ok (.iaload, 1) := by decide +kernel
theorem dX4_trip_23 : decode cX4_trip 23 = .ok (.invokestatic 66, 3) := by decide +kernel
theorem dX4_trip_26 : decode cX4_trip 26 = .ok (.invokevirtual 56, 3) := by decide +kernel
theorem dX4_trip_29 : decode cX4_trip 29 = .ok (.istore_n 2, 1) := by decide +kernel
theorem dX4_trip_30 : decode cX4_trip 30 = .ok (.iload_n 2, 1) := by decide +kernel
theorem dX4_trip_31 : decode cX4_trip 31 = .ok (.ifCond .eq 17, 3) := by decide +kernel
theorem dX4_trip_34 : decode cX4_trip 34 = .ok (.aload_n 0, 1) := by decide +kernel
theorem dX4_trip_35 : decode cX4_trip 35 = .ok (.getfield 7, 3) := by decide +kernel
theorem dX4_trip_38 : decode cX4_trip 38 = .ok (.iload_n 1, 1) := by decide +kernel
theorem dX4_trip_39 : decode cX4_trip 39 = .ok (.iconst 2, 1) := by decide +kernel
theorem dX4_trip_40 : decode cX4_trip 40 = .ok (.invokestatic 22, 3) := by decide +kernel
theorem dX4_trip_43 : decode cX4_trip 43 = .ok (.iaload, 1) := by decide +kernel
theorem dX4_trip_44 : decode cX4_trip 44 = .ok (.iload_n 2, 1) := by decide +kernel
theorem dX4_trip_45 : decode cX4_trip 45 = .ok (.if_icmp .ge 10, 3) := by decide +kernel
theorem dX4_trip_48 : decode cX4_trip 48 = .ok (.aload_n 0, 1) := by decide +kernel
theorem dX4_trip_49 : decode cX4_trip 49 = .ok (.bipush (-3), 2) := by decide +kernel
theorem dX4_trip_51 : decode cX4_trip 51 = .ok (.invokevirtual 42, 3) := by decide +kernel
theorem dX4_trip_54 : decode cX4_trip 54 = .ok (.ireturn, 1) := by decide +kernel
theorem dX4_trip_55 : decode cX4_trip 55 = .ok (.aload_n 0, 1) := by decide +kernel
theorem dX4_trip_56 : decode cX4_trip 56 = .ok (.invokevirtual 46, 3) := by decide +kernel
theorem dX4_trip_59 : decode cX4_trip 59 = .ok (.aload_n 0, 1) := by decide +kernel
theorem dX4_trip_60 : decode cX4_trip 60 = .ok (.iload_n 1, 1) := by decide +kernel
theorem dX4_trip_61 : decode cX4_trip 61 = .ok (.iload_n 2, 1) := by decide +kernel
theorem dX4_trip_62 : decode cX4_trip 62 = .ok (.iconst 0, 1) := by decide +kernel
theorem dX4_trip_63 : decode cX4_trip 63 = .ok (.invokevirtual 59, 3) := by decide +kernel
theorem dX4_trip_66 : decode cX4_trip 66 = .ok (.ireturn, 1) := by decide +kernel
set_option maxRecDepth 20000 in
theorem ggX4_lagAt_X4_at : GoodIn wsX4_lagAt wsX4_at := goodIn_r _ [5] (by decide +kernel) (by decide +kernel)
set_option maxRecDepth 20000 in
theorem gX4_lagAt_X4_at : GoodIn wsX4_lagAt (va_wsS RX4 22 yX4_at wsX4_at) := goodIn_app (goodIn_of _ (by decide +kernel)) ggX4_lagAt_X4_at
set_option maxRecDepth 20000 in
theorem ggX4_lagAt_X4_positions : GoodIn wsX4_lagAt wsX4_positions := goodIn_r _ [8] (by decide +kernel) (by decide +kernel)
set_option maxRecDepth 20000 in
theorem gX4_lagAt_X4_positions : GoodIn wsX4_lagAt (va_wsS RX4 49 yX4_positions wsX4_positions) := goodIn_app (goodIn_of _ (by decide +kernel)) ggX4_lagAt_X4_positions
set_option maxRecDepth 20000 in
theorem ggX4_lagAt_X4_dueAfter : GoodIn wsX4_lagAt wsX4_dueAfter := goodIn_r _ [11, 6, 7, 4, 8] (by decide +kernel) (by decide +kernel)
set_option maxRecDepth 20000 in
theorem gX4_lagAt_X4_dueAfter : GoodIn wsX4_lagAt (va_wsS RX4 66 yX4_dueAfter wsX4_dueAfter) := goodIn_app (goodIn_of _ (by decide +kernel)) ggX4_lagAt_X4_dueAfter
theorem dX4_lagAt_0 : decode cX4_lagAt 0 = .ok (.aload_n 0, 1) := by decide +kernel
theorem dX4_lagAt_1 : decode cX4_lagAt 1 = .ok (.getfield 7, 3) := by decide +kernel
theorem dX4_lagAt_4 : decode cX4_lagAt 4 = .ok (.iload_n 1, 1) := by decide +kernel
theorem dX4_lagAt_5 : decode cX4_lagAt 5 = .ok (.iconst 0, 1) := by decide +kernel
theorem dX4_lagAt_6 : decode cX4_lagAt 6 = .ok (.invokestatic 22, 3) := by decide +kernel
theorem dX4_lagAt_9 : decode cX4_lagAt 9 = .ok (.iaload, 1) := by decide +kernel
theorem dX4_lagAt_10 : decode cX4_lagAt 10 = .ok (.iconst 1, 1) := by decide +kernel
theorem dX4_lagAt_11 : decode cX4_lagAt 11 = .ok (.if_icmp .eq 5, 3) := by decide +kernel
theorem dX4_lagAt_14 : decode cX4_lagAt 14 = .ok (.iconst 0, 1) := by decide +kernel
theorem dX4_lagAt_15 : decode cX4_lagAt 15 = .ok (.ireturn, 1) := by decide +kernel
theorem dX4_lagAt_16 : decode cX4_lagAt 16 = .ok (.iload_n 1, 1) := by decide +kernel
theorem dX4_lagAt_17 : decode cX4_lagAt 17 = .ok (.invokestatic 49, 3) := by decide +kernel
theorem dX4_lagAt_20 : decode cX4_lagAt 20 = .ok (.istore_n 3, 1) := by decide +kernel
theorem dX4_lagAt_21 : decode cX4_lagAt 21 = .ok (.iload_n 1, 1) := by decide +kernel
theorem dX4_lagAt_22 : decode cX4_lagAt 22 = .ok (.iload_n 2, 1) := by decide +kernel
theorem dX4_lagAt_23 : decode cX4_lagAt 23 = .ok (.invokestatic 66, 3) := by decide +kernel
theorem dX4_lagAt_26 : decode cX4_lagAt 26 = .ok (.aload_n 0, 1) := by decide +kernel
theorem dX4_lagAt_27 : decode cX4_lagAt 27 = .ok (.getfield 7, 3) := by decide +kernel
theorem dX4_lagAt_30 : decode cX4_lagAt 30 = .ok (.iload_n 1, 1) := by decide +kernel
theorem dX4_lagAt_31 : decode cX4_lagAt 31 = .ok (.iconst 1, 1) := by decide +kernel
theorem dX4_lagAt_32 : decode cX4_lagAt 32 = .ok (.invokestatic 22, 3) := by decide +kernel
theorem dX4_lagAt_35 : decode cX4_lagAt 35 = .ok (.iaload, 1) := by decide +kernel
theorem dX4_lagAt_36 : decode cX4_lagAt 36 = .ok (.isub, 1) := by decide +kernel
theorem dX4_lagAt_37 : decode cX4_lagAt 37 = .ok (.iload_n 3, 1) := by decide +kernel
theorem dX4_lagAt_38 : decode cX4_lagAt 38 = .ok (.iadd, 1) := by decide +kernel
theorem dX4_lagAt_39 : decode cX4_lagAt 39 = .ok (.iload_n 3, 1) := by decide +kernel
theorem dX4_lagAt_40 : decode cX4_lagAt 40 = .ok (.irem, 1) := by decide +kernel
theorem dX4_lagAt_41 : decode cX4_lagAt 41 = .ok (.ireturn, 1) := by decide +kernel
set_option maxRecDepth 20000 in
theorem ggX4_nextDue_X4_isTrain : GoodIn wsX4_nextDue wsX4_isTrain := goodIn_r _ [5, 6, 7, 4, 8] (by decide +kernel) (by decide +kernel)
set_option maxRecDepth 20000 in
theorem gX4_nextDue_X4_isTrain : GoodIn wsX4_nextDue (va_wsS RX4 38 yX4_isTrain wsX4_isTrain) := goodIn_app (goodIn_of _ (by decide +kernel)) ggX4_nextDue_X4_isTrain
set_option maxRecDepth 20000 in
theorem ggX4_nextDue_X4_dueAfter : GoodIn wsX4_nextDue wsX4_dueAfter := goodIn_r _ [11, 12, 13, 4, 14] (by decide +kernel) (by decide +kernel)
set_option maxRecDepth 20000 in
theorem gX4_nextDue_X4_dueAfter : GoodIn wsX4_nextDue (va_wsS RX4 66 yX4_dueAfter wsX4_dueAfter) := goodIn_app (goodIn_of _ (by decide +kernel)) ggX4_nextDue_X4_dueAfter
set_option maxRecDepth 20000 in
theorem ggX4_nextDue_X4_error : GoodIn wsX4_nextDue wsX4_error := goodIn_r _ [18, 19, 20, 21, 22, 23, 24, 25] (by decide +kernel) (by decide +kernel)
set_option maxRecDepth 20000 in
theorem gX4_nextDue_X4_error : GoodIn wsX4_nextDue (wsV RX4 42 RX4 yX4_error wsX4_error) := goodIn_app (goodIn_of _ (by decide +kernel)) ggX4_nextDue_X4_error
theorem dX4_nextDue_0 : decode cX4_nextDue 0 = .ok (.iload_n 1, 1) := by decide +kernel
theorem dX4_nextDue_1 : decode cX4_nextDue 1 = .ok (.invokestatic 38, 3) := by decide +kernel
theorem dX4_nextDue_4 : decode cX4_nextDue 4 = .ok (.ifCond .eq 16, 3) := by decide +kernel
theorem dX4_nextDue_7 : decode cX4_nextDue 7 = .ok (.iload_n 1, 1) := by decide +kernel
theorem dX4_nextDue_8 : decode cX4_nextDue 8 = .ok (.aload_n 0, 1) := by decide +kernel
theorem dX4_nextDue_9 : decode cX4_nextDue 9 = .ok (.getfield 7, 3) := by decide +kernel
theorem dX4_nextDue_12 : decode cX4_nextDue 12 = .ok (.iconst 0, 1) := by decide +kernel
theorem dX4_nextDue_13 : decode cX4_nextDue 13 = .ok (.iaload, 1) := by decide +kernel
theorem dX4_nextDue_14 : decode cX4_nextDue 14 = .ok (.invokestatic 66, 3) := by decide +kernel
theorem dX4_nextDue_17 : decode cX4_nextDue 17 = .ok (.goto 9, 3) := by decide +kernel
theorem dX4_nextDue_20 : decode cX4_nextDue 20 = .ok (.aload_n 0, 1) := by decide +kernel
theorem dX4_nextDue_21 : decode cX4_nextDue 21 = .ok (.bipush (-2), 2) := by decide +kernel
theorem dX4_nextDue_23 : decode cX4_nextDue 23 = .ok (.invokevirtual 42, 3) := by decide +kernel
theorem dX4_nextDue_26 : decode cX4_nextDue 26 = .ok (.ireturn, 1) := by decide +kernel
set_option maxRecDepth 20000 in
theorem ggX4_lag_X4_isTrain : GoodIn wsX4_lag wsX4_isTrain := goodIn_r _ [5, 6, 7, 4, 8] (by decide +kernel) (by decide +kernel)
set_option maxRecDepth 20000 in
theorem gX4_lag_X4_isTrain : GoodIn wsX4_lag (va_wsS RX4 38 yX4_isTrain wsX4_isTrain) := goodIn_app (goodIn_of _ (by decide +kernel)) ggX4_lag_X4_isTrain
set_option maxRecDepth 20000 in
theorem ggX4_lag_X4_lagAt : GoodIn wsX4_lag wsX4_lagAt := goodIn_r _ [12, 1, 13, 14, 4, 15, 16, 17, 18, 19, 20, 21, 27, 28, 29, 30, 31, 32] (by decide +kernel) (by decide +kernel)
set_option maxRecDepth 20000 in
theorem gX4_lag_X4_lagAt : GoodIn wsX4_lag (wsV RX4 76 RX4 yX4_lagAt wsX4_lagAt) := goodIn_app (goodIn_of _ (by decide +kernel)) ggX4_lag_X4_lagAt
set_option maxRecDepth 20000 in
theorem ggX4_lag_X4_error : GoodIn wsX4_lag wsX4_error := goodIn_r _ [25, 26, 27, 28, 29, 30, 31, 32] (by decide +kernel) (by decide +kernel)
set_option maxRecDepth 20000 in
theorem gX4_lag_X4_error : GoodIn wsX4_lag (wsV RX4 42 RX4 yX4_error wsX4_error) := goodIn_app (goodIn_of _ (by decide +kernel)) ggX4_lag_X4_error
theorem dX4_lag_0 : decode cX4_lag 0 = .ok (.iload_n 1, 1) := by decide +kernel
theorem dX4_lag_1 : decode cX4_lag 1 = .ok (.invokestatic 38, 3) := by decide +kernel
theorem dX4_lag_4 : decode cX4_lag 4 = .ok (.ifCond .eq 17, 3) := by decide +kernel
theorem dX4_lag_7 : decode cX4_lag 7 = .ok (.aload_n 0, 1) := by decide +kernel
theorem dX4_lag_8 : decode cX4_lag 8 = .ok (.iload_n 1, 1) := by decide +kernel
theorem dX4_lag_9 : decode cX4_lag 9 = .ok (.aload_n 0, 1) := by decide +kernel
theorem dX4_lag_10 : decode cX4_lag 10 = .ok (.getfield 7, 3) := by decide +kernel
theorem dX4_lag_13 : decode cX4_lag 13 = .ok (.iconst 0, 1) := by decide +kernel
theorem dX4_lag_14 : decode cX4_lag 14 = .ok (.iaload, 1) := by decide +kernel
theorem dX4_lag_15 : decode cX4_lag 15 = .ok (.invokevirtual 76, 3) := by decide +kernel
theorem dX4_lag_18 : decode cX4_lag 18 = .ok (.goto 9, 3) := by decide +kernel
theorem dX4_lag_21 : decode cX4_lag 21 = .ok (.aload_n 0, 1) := by decide +kernel
theorem dX4_lag_22 : decode cX4_lag 22 = .ok (.bipush (-2), 2) := by decide +kernel
theorem dX4_lag_24 : decode cX4_lag 24 = .ok (.invokevirtual 42, 3) := by decide +kernel
theorem dX4_lag_27 : decode cX4_lag 27 = .ok (.ireturn, 1) := by decide +kernel
set_option maxRecDepth 20000 in
theorem ggX4_blowsToCorrect_X4_isTrain : GoodIn wsX4_blowsToCorrect wsX4_isTrain := goodIn_r _ [5, 6, 7, 4, 8] (by decide +kernel) (by decide +kernel)
set_option maxRecDepth 20000 in
theorem gX4_blowsToCorrect_X4_isTrain : GoodIn wsX4_blowsToCorrect (va_wsS RX4 38 yX4_isTrain wsX4_isTrain) := goodIn_app (goodIn_of _ (by decide +kernel)) ggX4_blowsToCorrect_X4_isTrain
set_option maxRecDepth 20000 in
theorem ggX4_blowsToCorrect_X4_error : GoodIn wsX4_blowsToCorrect wsX4_error := goodIn_r _ [12, 13, 27, 28, 29, 30, 31, 32] (by decide +kernel) (by decide +kernel)
set_option maxRecDepth 20000 in
theorem gX4_blowsToCorrect_X4_error : GoodIn wsX4_blowsToCorrect (wsV RX4 42 RX4 yX4_error wsX4_error) := goodIn_app (goodIn_of _ (by decide +kernel)) ggX4_blowsToCorrect_X4_error
set_option maxRecDepth 20000 in
theorem ggX4_blowsToCorrect_X4_at : GoodIn wsX4_blowsToCorrect wsX4_at := goodIn_r _ [16] (by decide +kernel) (by decide +kernel)
set_option maxRecDepth 20000 in
theorem gX4_blowsToCorrect_X4_at : GoodIn wsX4_blowsToCorrect (va_wsS RX4 22 yX4_at wsX4_at) := goodIn_app (goodIn_of _ (by decide +kernel)) ggX4_blowsToCorrect_X4_at
set_option maxRecDepth 20000 in
theorem ggX4_blowsToCorrect_X4_lagAt : GoodIn wsX4_blowsToCorrect wsX4_lagAt := goodIn_r _ [20, 1, 14, 15, 4, 16, 21, 22, 23, 24, 25, 26, 27, 28, 29, 30, 31, 32] (by decide +kernel) (by decide +kernel)
set_option maxRecDepth 20000 in
theorem gX4_blowsToCorrect_X4_lagAt : GoodIn wsX4_blowsToCorrect (wsV RX4 76 RX4 yX4_lagAt wsX4_lagAt) := goodIn_app (goodIn_of _ (by decide +kernel)) ggX4_blowsToCorrect_X4_lagAt
set_option maxRecDepth 20000 in
theorem ggX4_blowsToCorrect_X4_positions : GoodIn wsX4_blowsToCorrect wsX4_positions := goodIn_r _ [23] (by decide +kernel) (by decide +kernel)
set_option maxRecDepth 20000 in
theorem gX4_blowsToCorrect_X4_positions : GoodIn wsX4_blowsToCorrect (va_wsS RX4 49 yX4_positions wsX4_positions) := goodIn_app (goodIn_of _ (by decide +kernel)) ggX4_blowsToCorrect_X4_positions
theorem dX4_blowsToCorrect_0 : decode cX4_blowsToCorrect 0 = .ok (.iload_n 1, 1) := by decide +kernel
theorem dX4_blowsToCorrect_1 : decode cX4_blowsToCorrect 1 = .ok (.invokestatic 38, 3) := by decide +kernel
theorem dX4_blowsToCorrect_4 : decode cX4_blowsToCorrect 4 = .ok (.ifCond .ne 10, 3) := by decide +kernel
theorem dX4_blowsToCorrect_7 : decode cX4_blowsToCorrect 7 = .ok (.aload_n 0, 1) := by decide +kernel
theorem dX4_blowsToCorrect_8 : decode cX4_blowsToCorrect 8 = .ok (.bipush (-2), 2) := by decide +kernel
theorem dX4_blowsToCorrect_10 : decode cX4_blowsToCorrect 10 = .ok (.invokevirtual 42, 3) := by decide +kernel
theorem dX4_blowsToCorrect_13 : decode cX4_blowsToCorrect 13 = .ok (.ireturn, 1) := by decide +kernel
theorem dX4_blowsToCorrect_14 : decode cX4_blowsToCorrect 14 = .ok (.aload_n 0, 1) := by decide +kernel
theorem dX4_blowsToCorrect_15 : decode cX4_blowsToCorrect 15 = .ok (.getfield 7, 3) := by decide +kernel
theorem dX4_blowsToCorrect_18 : decode cX4_blowsToCorrect 18 = .ok (.iload_n 1, 1) := by decide +kernel
theorem dX4_blowsToCorrect_19 : decode cX4_blowsToCorrect 19 = .ok (.iconst 1, 1) := by decide +kernel
theorem dX4_blowsToCorrect_20 : decode cX4_blowsToCorrect 20 = .ok (.invokestatic 22, 3) := by decide +kernel
theorem dX4_blowsToCorrect_23 : decode cX4_blowsToCorrect 23 = .ok (.iaload, 1) := by decide +kernel
theorem dX4_blowsToCorrect_24 : decode cX4_blowsToCorrect 24 = .ok (.istore_n 2, 1) := by decide +kernel
theorem dX4_blowsToCorrect_25 : decode cX4_blowsToCorrect 25 = .ok (.iconst 0, 1) := by decide +kernel
theorem dX4_blowsToCorrect_26 : decode cX4_blowsToCorrect 26 = .ok (.istore_n 3, 1) := by decide +kernel
theorem dX4_blowsToCorrect_27 : decode cX4_blowsToCorrect 27 = .ok (.aload_n 0, 1) := by decide +kernel
theorem dX4_blowsToCorrect_28 : decode cX4_blowsToCorrect 28 = .ok (.iload_n 1, 1) := by decide +kernel
theorem dX4_blowsToCorrect_29 : decode cX4_blowsToCorrect 29 = .ok (.aload_n 0, 1) := by decide +kernel
theorem dX4_blowsToCorrect_30 : decode cX4_blowsToCorrect 30 = .ok (.getfield 7, 3) := by decide +kernel
theorem dX4_blowsToCorrect_33 : decode cX4_blowsToCorrect 33 = .ok (.iconst 0, 1) := by decide +kernel
theorem dX4_blowsToCorrect_34 : decode cX4_blowsToCorrect 34 = .ok (.iaload, 1) := by decide +kernel
theorem dX4_blowsToCorrect_35 : decode cX4_blowsToCorrect 35 = .ok (.invokevirtual 76, 3) := by decide +kernel
theorem dX4_blowsToCorrect_38 : decode cX4_blowsToCorrect 38 = .ok (.istore 4, 2) := by decide +kernel
theorem dX4_blowsToCorrect_40 : decode cX4_blowsToCorrect 40 = .ok (.iload 4, 2) := by decide +kernel
theorem dX4_blowsToCorrect_42 : decode cX4_blowsToCorrect 42 = .ok (.ifCond .le 22, 3) := by decide +kernel
theorem dX4_blowsToCorrect_45 : decode cX4_blowsToCorrect 45 = .ok (.iload_n 3, 1) := by decide +kernel
theorem dX4_blowsToCorrect_46 : decode cX4_blowsToCorrect 46 = .ok (.iload_n 2, 1) := by decide +kernel
theorem dX4_blowsToCorrect_47 : decode cX4_blowsToCorrect 47 = .ok (.iadd, 1) := by decide +kernel
theorem dX4_blowsToCorrect_48 : decode cX4_blowsToCorrect 48 = .ok (.istore_n 3, 1) := by decide +kernel
theorem dX4_blowsToCorrect_49 : decode cX4_blowsToCorrect 49 = .ok (.iload_n 2, 1) := by decide +kernel
theorem dX4_blowsToCorrect_50 : decode cX4_blowsToCorrect 50 = .ok (.iload_n 1, 1) := by decide +kernel
theorem dX4_blowsToCorrect_51 : decode cX4_blowsToCorrect 51 = .ok (.invokestatic 49, 3) := by decide +kernel
theorem dX4_blowsToCorrect_54 : decode cX4_blowsToCorrect 54 = .ok (.irem, 1) := by decide +kernel
theorem dX4_blowsToCorrect_55 : decode cX4_blowsToCorrect 55 = .ok (.iconst 1, 1) := by decide +kernel
theorem dX4_blowsToCorrect_56 : decode cX4_blowsToCorrect 56 = .ok (.iadd, 1) := by decide +kernel
theorem dX4_blowsToCorrect_57 : decode cX4_blowsToCorrect 57 = .ok (.istore_n 2, 1) := by decide +kernel
theorem dX4_blowsToCorrect_58 : decode cX4_blowsToCorrect 58 = .ok (.iinc 4 (-1), 3) := by decide +kernel
theorem dX4_blowsToCorrect_61 : decode cX4_blowsToCorrect 61 = .ok (.goto (-21), 3) := by decide +kernel
theorem dX4_blowsToCorrect_64 : decode cX4_blowsToCorrect 64 = .ok (.iload_n 3, 1) := by decide +kernel
theorem dX4_blowsToCorrect_65 : decode cX4_blowsToCorrect 65 = .ok (.ireturn, 1) := by decide +kernel
set_option maxRecDepth 20000 in
theorem ggX4_handsToCorrect_X4_isTrain : GoodIn wsX4_handsToCorrect wsX4_isTrain := goodIn_r _ [5, 6, 7, 4, 8] (by decide +kernel) (by decide +kernel)
set_option maxRecDepth 20000 in
theorem gX4_handsToCorrect_X4_isTrain : GoodIn wsX4_handsToCorrect (va_wsS RX4 38 yX4_isTrain wsX4_isTrain) := goodIn_app (goodIn_of _ (by decide +kernel)) ggX4_handsToCorrect_X4_isTrain
set_option maxRecDepth 20000 in
theorem ggX4_handsToCorrect_X4_error : GoodIn wsX4_handsToCorrect wsX4_error := goodIn_r _ [12, 13, 27, 28, 29, 30, 31, 32] (by decide +kernel) (by decide +kernel)
set_option maxRecDepth 20000 in
theorem gX4_handsToCorrect_X4_error : GoodIn wsX4_handsToCorrect (wsV RX4 42 RX4 yX4_error wsX4_error) := goodIn_app (goodIn_of _ (by decide +kernel)) ggX4_handsToCorrect_X4_error
set_option maxRecDepth 20000 in
theorem ggX4_handsToCorrect_X4_lagAt : GoodIn wsX4_handsToCorrect wsX4_lagAt := goodIn_r _ [17, 1, 18, 19, 4, 20, 21, 22, 23, 24, 25, 26, 27, 28, 29, 30, 31, 32] (by decide +kernel) (by decide +kernel)
set_option maxRecDepth 20000 in
theorem gX4_handsToCorrect_X4_lagAt : GoodIn wsX4_handsToCorrect (wsV RX4 76 RX4 yX4_lagAt wsX4_lagAt) := goodIn_app (goodIn_of _ (by decide +kernel)) ggX4_handsToCorrect_X4_lagAt
theorem dX4_handsToCorrect_0 : decode cX4_handsToCorrect 0 = .ok (.iload_n 1, 1) := by decide +kernel
theorem dX4_handsToCorrect_1 : decode cX4_handsToCorrect 1 = .ok (.invokestatic 38, 3) := by decide +kernel
theorem dX4_handsToCorrect_4 : decode cX4_handsToCorrect 4 = .ok (.ifCond .ne 10, 3) := by decide +kernel
theorem dX4_handsToCorrect_7 : decode cX4_handsToCorrect 7 = .ok (.aload_n 0, 1) := by decide +kernel
theorem dX4_handsToCorrect_8 : decode cX4_handsToCorrect 8 = .ok (.bipush (-2), 2) := by decide +kernel
theorem dX4_handsToCorrect_10 : decode cX4_handsToCorrect 10 = .ok (.invokevirtual 42, 3) := by decide +kernel
theorem dX4_handsToCorrect_13 : decode cX4_handsToCorrect 13 = .ok (.ireturn, 1) := by decide +kernel
theorem dX4_handsToCorrect_14 : decode cX4_handsToCorrect 14 = .ok (.aload_n 0, 1) := by decide +kernel
theorem dX4_handsToCorrect_15 : decode cX4_handsToCorrect 15 = .ok (.getfield 7, 3) := by decide +kernel
theorem dX4_handsToCorrect_18 : decode cX4_handsToCorrect 18 = .ok (.iconst 0, 1) := by decide +kernel
theorem dX4_handsToCorrect_19 : decode cX4_handsToCorrect 19 = .ok (.iaload, 1) := by decide +kernel
theorem dX4_handsToCorrect_20 : decode cX4_handsToCorrect 20 = .ok (.istore_n 2, 1) := by decide +kernel
theorem dX4_handsToCorrect_21 : decode cX4_handsToCorrect 21 = .ok (.aload_n 0, 1) := by decide +kernel
theorem dX4_handsToCorrect_22 : decode cX4_handsToCorrect 22 = .ok (.iload_n 1, 1) := by decide +kernel
theorem dX4_handsToCorrect_23 : decode cX4_handsToCorrect 23 = .ok (.iload_n 2, 1) := by decide +kernel
theorem dX4_handsToCorrect_24 : decode cX4_handsToCorrect 24 = .ok (.invokevirtual 76, 3) := by decide +kernel
theorem dX4_handsToCorrect_27 : decode cX4_handsToCorrect 27 = .ok (.ifCond .eq 14, 3) := by decide +kernel
theorem dX4_handsToCorrect_30 : decode cX4_handsToCorrect 30 = .ok (.iload_n 2, 1) := by decide +kernel
theorem dX4_handsToCorrect_31 : decode cX4_handsToCorrect 31 = .ok (.iconst 1, 1) := by decide +kernel
theorem dX4_handsToCorrect_32 : decode cX4_handsToCorrect 32 = .ok (.iadd, 1) := by decide +kernel
theorem dX4_handsToCorrect_33 : decode cX4_handsToCorrect 33 = .ok (.sipush 1440, 3) := by decide +kernel
theorem dX4_handsToCorrect_36 : decode cX4_handsToCorrect 36 = .ok (.irem, 1) := by decide +kernel
theorem dX4_handsToCorrect_37 : decode cX4_handsToCorrect 37 = .ok (.istore_n 2, 1) := by decide +kernel
theorem dX4_handsToCorrect_38 : decode cX4_handsToCorrect 38 = .ok (.goto (-17), 3) := by decide +kernel
theorem dX4_handsToCorrect_41 : decode cX4_handsToCorrect 41 = .ok (.iload_n 2, 1) := by decide +kernel
theorem dX4_handsToCorrect_42 : decode cX4_handsToCorrect 42 = .ok (.ireturn, 1) := by decide +kernel
set_option maxRecDepth 20000 in
theorem ggX4_minutesToMiss_X4_isTrain : GoodIn wsX4_minutesToMiss wsX4_isTrain := goodIn_r _ [6, 7, 8, 5, 9] (by decide +kernel) (by decide +kernel)
set_option maxRecDepth 20000 in
theorem gX4_minutesToMiss_X4_isTrain : GoodIn wsX4_minutesToMiss (va_wsS RX4 38 yX4_isTrain wsX4_isTrain) := goodIn_app (goodIn_of _ (by decide +kernel)) ggX4_minutesToMiss_X4_isTrain
set_option maxRecDepth 20000 in
theorem ggX4_minutesToMiss_X4_error : GoodIn wsX4_minutesToMiss wsX4_error := goodIn_r _ [13, 14, 51, 52, 53, 54, 55, 56] (by decide +kernel) (by decide +kernel)
set_option maxRecDepth 20000 in
theorem gX4_minutesToMiss_X4_error : GoodIn wsX4_minutesToMiss (wsV RX4 42 RX4 yX4_error wsX4_error) := goodIn_app (goodIn_of _ (by decide +kernel)) ggX4_minutesToMiss_X4_error
set_option maxRecDepth 20000 in
theorem ggX4_minutesToMiss_X4_copy : GoodIn wsX4_minutesToMiss wsX4_copy := goodIn_r _ [17] (by decide +kernel) (by decide +kernel)
set_option maxRecDepth 20000 in
theorem gX4_minutesToMiss_X4_copy : GoodIn wsX4_minutesToMiss (va_wsS RX4 30 yX4_copy wsX4_copy) := goodIn_app (goodIn_of _ (by decide +kernel)) ggX4_minutesToMiss_X4_copy
set_option maxRecDepth 20000 in
theorem ggX4_minutesToMiss_X4_at : GoodIn wsX4_minutesToMiss wsX4_at := goodIn_r _ [20] (by decide +kernel) (by decide +kernel)
set_option maxRecDepth 20000 in
theorem gX4_minutesToMiss_X4_at : GoodIn wsX4_minutesToMiss (va_wsS RX4 22 yX4_at wsX4_at) := goodIn_app (goodIn_of _ (by decide +kernel)) ggX4_minutesToMiss_X4_at
set_option maxRecDepth 20000 in
theorem ggX4_minutesToMiss_X4_tick : GoodIn wsX4_minutesToMiss wsX4_tick := goodIn_r _ [24, 1, 25, 26, 27, 5, 28, 29, 30, 31, 32, 33, 34, 35, 36, 37, 38, 39, 40, 41, 42, 18, 19, 20, 43, 44, 45, 46, 47, 48, 49, 50, 51, 52, 53, 54, 55, 56] (by decide +kernel) (by decide +kernel)
set_option maxRecDepth 20000 in
theorem gX4_minutesToMiss_X4_tick : GoodIn wsX4_minutesToMiss (wsV RX4 72 RX4 yX4_tick wsX4_tick) := goodIn_app (goodIn_of _ (by decide +kernel)) ggX4_minutesToMiss_X4_tick
theorem dX4_minutesToMiss_0 : decode cX4_minutesToMiss 0 = .ok (.iload_n 1, 1) := by decide +kernel
theorem dX4_minutesToMiss_1 : decode cX4_minutesToMiss 1 = .ok (.invokestatic 38, 3) := by decide +kernel
theorem dX4_minutesToMiss_4 : decode cX4_minutesToMiss 4 = .ok (.ifCond .ne 10, 3) := by decide +kernel
theorem dX4_minutesToMiss_7 : decode cX4_minutesToMiss 7 = .ok (.aload_n 0, 1) := by decide +kernel
theorem dX4_minutesToMiss_8 : decode cX4_minutesToMiss 8 = .ok (.bipush (-2), 2) := by decide +kernel
theorem dX4_minutesToMiss_10 : decode cX4_minutesToMiss 10 = .ok (.invokevirtual 42, 3) := by decide +kernel
theorem dX4_minutesToMiss_13 : decode cX4_minutesToMiss 13 = .ok (.ireturn, 1) := by decide +kernel
theorem dX4_minutesToMiss_14 : decode cX4_minutesToMiss 14 = .ok (.aload_n 0, 1) := by decide +kernel
theorem dX4_minutesToMiss_15 : decode cX4_minutesToMiss 15 = .ok (.getfield 7, 3) := by decide +kernel
theorem dX4_minutesToMiss_18 : decode cX4_minutesToMiss 18 = .ok (.iconst 0, 1) := by decide +kernel
theorem dX4_minutesToMiss_19 : decode cX4_minutesToMiss 19 = .ok (.aload_n 0, 1) := by decide +kernel
theorem dX4_minutesToMiss_20 : decode cX4_minutesToMiss 20 = .ok (.getfield 13, 3) := by decide +kernel
theorem dX4_minutesToMiss_23 : decode cX4_minutesToMiss 23 = .ok (.iconst 0, 1) := by decide +kernel
theorem dX4_minutesToMiss_24 : decode cX4_minutesToMiss 24 = .ok (.invokestatic 30, 3) := by decide +kernel
theorem dX4_minutesToMiss_27 : decode cX4_minutesToMiss 27 = .ok (.iload_n 1, 1) := by decide +kernel
theorem dX4_minutesToMiss_28 : decode cX4_minutesToMiss 28 = .ok (.iconst 4, 1) := by decide +kernel
theorem dX4_minutesToMiss_29 : decode cX4_minutesToMiss 29 = .ok (.invokestatic 22, 3) := by decide +kernel
theorem dX4_minutesToMiss_32 : decode cX4_minutesToMiss 32 = .ok (.istore_n 2, 1) := by decide +kernel
theorem dX4_minutesToMiss_33 : decode cX4_minutesToMiss 33 = .ok (.iconst (-1), 1) := by decide +kernel
theorem dX4_minutesToMiss_34 : decode cX4_minutesToMiss 34 = .ok (.istore_n 3, 1) := by decide +kernel
theorem dX4_minutesToMiss_35 : decode cX4_minutesToMiss 35 = .ok (.iconst 1, 1) := by decide +kernel
theorem dX4_minutesToMiss_36 : decode cX4_minutesToMiss 36 = .ok (.istore 4, 2) := by decide +kernel
theorem dX4_minutesToMiss_38 : decode cX4_minutesToMiss 38 = .ok (.iload 4, 2) := by decide +kernel
theorem dX4_minutesToMiss_40 : decode cX4_minutesToMiss 40 = .ok (.sipush 20000, 3) := by decide +kernel
theorem dX4_minutesToMiss_43 : decode cX4_minutesToMiss 43 = .ok (.if_icmp .gt 42, 3) := by decide +kernel
theorem dX4_minutesToMiss_46 : decode cX4_minutesToMiss 46 = .ok (.iload_n 3, 1) := by decide +kernel
theorem dX4_minutesToMiss_47 : decode cX4_minutesToMiss 47 = .ok (.iconst (-1), 1) := by decide +kernel
theorem dX4_minutesToMiss_48 : decode cX4_minutesToMiss 48 = .ok (.if_icmp .ne 37, 3) := by decide +kernel
theorem dX4_minutesToMiss_51 : decode cX4_minutesToMiss 51 = .ok (.aload_n 0, 1) := by decide +kernel
theorem dX4_minutesToMiss_52 : decode cX4_minutesToMiss 52 = .ok (.invokevirtual 72, 3) := by decide +kernel
theorem dX4_minutesToMiss_55 : decode cX4_minutesToMiss 55 = .ok (.istore 5, 2) := by decide +kernel
theorem dX4_minutesToMiss_57 : decode cX4_minutesToMiss 57 = .ok (.aload_n 0, 1) := by decide +kernel
theorem dX4_minutesToMiss_58 : decode cX4_minutesToMiss 58 = .ok (.getfield 7, 3) := by decide +kernel
theorem dX4_minutesToMiss_61 : decode cX4_minutesToMiss 61 = .ok (.iload_n 2, 1) := by decide +kernel
theorem dX4_minutesToMiss_62 : decode cX4_minutesToMiss 62 = .ok (.iaload, 1) := by decide +kernel
theorem dX4_minutesToMiss_63 : decode cX4_minutesToMiss 63 = .ok (.aload_n 0, 1) := by decide +kernel
theorem dX4_minutesToMiss_64 : decode cX4_minutesToMiss 64 = .ok (.getfield 13, 3) := by decide +kernel
theorem dX4_minutesToMiss_67 : decode cX4_minutesToMiss 67 = .ok (.iload_n 2, 1) := by decide +kernel
theorem dX4_minutesToMiss_68 : decode cX4_minutesToMiss 68 = .ok (.iaload, 1) := by decide +kernel
theorem dX4_minutesToMiss_69 : decode cX4_minutesToMiss 69 = .ok (.if_icmp .le 8, 3) := by decide +kernel
theorem dX4_minutesToMiss_72 : decode cX4_minutesToMiss 72 = .ok (.iload 4, 2) := by decide +kernel
theorem dX4_minutesToMiss_74 : decode cX4_minutesToMiss 74 = .ok (.goto 4, 3) := by decide +kernel
theorem dX4_minutesToMiss_77 : decode cX4_minutesToMiss 77 = .ok (.iconst (-1), 1) := by decide +kernel
theorem dX4_minutesToMiss_78 : decode cX4_minutesToMiss 78 = .ok (.istore_n 3, 1) := by decide +kernel
theorem dX4_minutesToMiss_79 : decode cX4_minutesToMiss 79 = .ok (.iinc 4 1, 3) := by decide +kernel
theorem dX4_minutesToMiss_82 : decode cX4_minutesToMiss 82 = .ok (.goto (-44), 3) := by decide +kernel
theorem dX4_minutesToMiss_85 : decode cX4_minutesToMiss 85 = .ok (.aload_n 0, 1) := by decide +kernel
theorem dX4_minutesToMiss_86 : decode cX4_minutesToMiss 86 = .ok (.getfield 13, 3) := by decide +kernel
theorem dX4_minutesToMiss_89 : decode cX4_minutesToMiss 89 = .ok (.iconst 0, 1) := by decide +kernel
theorem dX4_minutesToMiss_90 : decode cX4_minutesToMiss 90 = .ok (.aload_n 0, 1) := by decide +kernel
theorem dX4_minutesToMiss_91 : decode cX4_minutesToMiss 91 = .ok (.getfield 7, 3) := by decide +kernel
theorem dX4_minutesToMiss_94 : decode cX4_minutesToMiss 94 = .ok (.iconst 0, 1) := by decide +kernel
theorem dX4_minutesToMiss_95 : decode cX4_minutesToMiss 95 = .ok (.invokestatic 30, 3) := by decide +kernel
theorem dX4_minutesToMiss_98 : decode cX4_minutesToMiss 98 = .ok (.iload_n 3, 1) := by decide +kernel
theorem dX4_minutesToMiss_99 : decode cX4_minutesToMiss 99 = .ok (.ireturn, 1) := by decide +kernel
theorem dX4_minute_0 : decode cX4_minute 0 = .ok (.aload_n 0, 1) := by decide +kernel
theorem dX4_minute_1 : decode cX4_minute 1 = .ok (.getfield 7, 3) := by decide +kernel
theorem dX4_minute_4 : decode cX4_minute 4 = .ok (.iconst 0, 1) := by decide +kernel
theorem dX4_minute_5 : decode cX4_minute 5 = .ok (.iaload, 1) := by decide +kernel
theorem dX4_minute_6 : decode cX4_minute 6 = .ok (.ireturn, 1) := by decide +kernel
set_option maxRecDepth 20000 in
theorem ggX4_valueOf_X4_isTrain : GoodIn wsX4_valueOf wsX4_isTrain := goodIn_r _ [5, 6, 7, 4, 8] (by decide +kernel) (by decide +kernel)
set_option maxRecDepth 20000 in
theorem gX4_valueOf_X4_isTrain : GoodIn wsX4_valueOf (va_wsS RX4 38 yX4_isTrain wsX4_isTrain) := goodIn_app (goodIn_of _ (by decide +kernel)) ggX4_valueOf_X4_isTrain
set_option maxRecDepth 20000 in
theorem ggX4_valueOf_X4_at : GoodIn wsX4_valueOf wsX4_at := goodIn_r _ [11] (by decide +kernel) (by decide +kernel)
set_option maxRecDepth 20000 in
theorem gX4_valueOf_X4_at : GoodIn wsX4_valueOf (va_wsS RX4 22 yX4_at wsX4_at) := goodIn_app (goodIn_of _ (by decide +kernel)) ggX4_valueOf_X4_at
set_option maxRecDepth 20000 in
theorem ggX4_valueOf_X4_error : GoodIn wsX4_valueOf wsX4_error := goodIn_r _ [15, 16, 17, 18, 19, 20, 21, 22] (by decide +kernel) (by decide +kernel)
set_option maxRecDepth 20000 in
theorem gX4_valueOf_X4_error : GoodIn wsX4_valueOf (wsV RX4 42 RX4 yX4_error wsX4_error) := goodIn_app (goodIn_of _ (by decide +kernel)) ggX4_valueOf_X4_error
theorem dX4_valueOf_0 : decode cX4_valueOf 0 = .ok (.iload_n 1, 1) := by decide +kernel
theorem dX4_valueOf_1 : decode cX4_valueOf 1 = .ok (.invokestatic 38, 3) := by decide +kernel
theorem dX4_valueOf_4 : decode cX4_valueOf 4 = .ok (.ifCond .eq 16, 3) := by decide +kernel
theorem dX4_valueOf_7 : decode cX4_valueOf 7 = .ok (.aload_n 0, 1) := by decide +kernel
theorem dX4_valueOf_8 : decode cX4_valueOf 8 = .ok (.getfield 7, 3) := by decide +kernel
theorem dX4_valueOf_11 : decode cX4_valueOf 11 = .ok (.iload_n 1, 1) := by decide +kernel
theorem dX4_valueOf_12 : decode cX4_valueOf 12 = .ok (.iload_n 2, 1) := by decide +kernel
theorem dX4_valueOf_13 : decode cX4_valueOf 13 = .ok (.invokestatic 22, 3) := by decide +kernel
theorem dX4_valueOf_16 : decode cX4_valueOf 16 = .ok (.iaload, 1) := by decide +kernel
theorem dX4_valueOf_17 : decode cX4_valueOf 17 = .ok (.goto 9, 3) := by decide +kernel
theorem dX4_valueOf_20 : decode cX4_valueOf 20 = .ok (.aload_n 0, 1) := by decide +kernel
theorem dX4_valueOf_21 : decode cX4_valueOf 21 = .ok (.bipush (-2), 2) := by decide +kernel
theorem dX4_valueOf_23 : decode cX4_valueOf 23 = .ok (.invokevirtual 42, 3) := by decide +kernel
theorem dX4_valueOf_26 : decode cX4_valueOf 26 = .ok (.ireturn, 1) := by decide +kernel
set_option maxRecDepth 20000 in
theorem ggX4_position_X4_valueOf : GoodIn wsX4_position wsX4_valueOf := goodIn_r _ [5, 6, 7, 8, 4, 9, 10, 11, 12, 13, 14, 15, 16, 17, 18, 19, 20, 21, 22, 23, 24, 25, 26] (by decide +kernel) (by decide +kernel)
set_option maxRecDepth 20000 in
theorem gX4_position_X4_valueOf : GoodIn wsX4_position (wsV RX4 79 RX4 yX4_valueOf wsX4_valueOf) := goodIn_app (goodIn_of _ (by decide +kernel)) ggX4_position_X4_valueOf
theorem dX4_position_0 : decode cX4_position 0 = .ok (.aload_n 0, 1) := by decide +kernel
theorem dX4_position_1 : decode cX4_position 1 = .ok (.iload_n 1, 1) := by decide +kernel
theorem dX4_position_2 : decode cX4_position 2 = .ok (.iconst 1, 1) := by decide +kernel
theorem dX4_position_3 : decode cX4_position 3 = .ok (.invokevirtual 79, 3) := by decide +kernel
theorem dX4_position_6 : decode cX4_position 6 = .ok (.ireturn, 1) := by decide +kernel
set_option maxRecDepth 20000 in
theorem ggX4_weight_X4_valueOf : GoodIn wsX4_weight wsX4_valueOf := goodIn_r _ [5, 6, 7, 8, 4, 9, 10, 11, 12, 13, 14, 15, 16, 17, 18, 19, 20, 21, 22, 23, 24, 25, 26] (by decide +kernel) (by decide +kernel)
set_option maxRecDepth 20000 in
theorem gX4_weight_X4_valueOf : GoodIn wsX4_weight (wsV RX4 79 RX4 yX4_valueOf wsX4_valueOf) := goodIn_app (goodIn_of _ (by decide +kernel)) ggX4_weight_X4_valueOf
theorem dX4_weight_0 : decode cX4_weight 0 = .ok (.aload_n 0, 1) := by decide +kernel
theorem dX4_weight_1 : decode cX4_weight 1 = .ok (.iload_n 1, 1) := by decide +kernel
theorem dX4_weight_2 : decode cX4_weight 2 = .ok (.iconst 2, 1) := by decide +kernel
theorem dX4_weight_3 : decode cX4_weight 3 = .ok (.invokevirtual 79, 3) := by decide +kernel
theorem dX4_weight_6 : decode cX4_weight 6 = .ok (.ireturn, 1) := by decide +kernel
set_option maxRecDepth 20000 in
theorem ggX4_sounded_X4_valueOf : GoodIn wsX4_sounded wsX4_valueOf := goodIn_r _ [5, 6, 7, 8, 4, 9, 10, 11, 12, 13, 14, 15, 16, 17, 18, 19, 20, 21, 22, 23, 24, 25, 26] (by decide +kernel) (by decide +kernel)
set_option maxRecDepth 20000 in
theorem gX4_sounded_X4_valueOf : GoodIn wsX4_sounded (wsV RX4 79 RX4 yX4_valueOf wsX4_valueOf) := goodIn_app (goodIn_of _ (by decide +kernel)) ggX4_sounded_X4_valueOf
theorem dX4_sounded_0 : decode cX4_sounded 0 = .ok (.aload_n 0, 1) := by decide +kernel
theorem dX4_sounded_1 : decode cX4_sounded 1 = .ok (.iload_n 1, 1) := by decide +kernel
theorem dX4_sounded_2 : decode cX4_sounded 2 = .ok (.iconst 3, 1) := by decide +kernel
theorem dX4_sounded_3 : decode cX4_sounded 3 = .ok (.invokevirtual 79, 3) := by decide +kernel
theorem dX4_sounded_6 : decode cX4_sounded 6 = .ok (.ireturn, 1) := by decide +kernel
set_option maxRecDepth 20000 in
theorem ggX4_missed_X4_valueOf : GoodIn wsX4_missed wsX4_valueOf := goodIn_r _ [5, 6, 7, 8, 4, 9, 10, 11, 12, 13, 14, 15, 16, 17, 18, 19, 20, 21, 22, 23, 24, 25, 26] (by decide +kernel) (by decide +kernel)
set_option maxRecDepth 20000 in
theorem gX4_missed_X4_valueOf : GoodIn wsX4_missed (wsV RX4 79 RX4 yX4_valueOf wsX4_valueOf) := goodIn_app (goodIn_of _ (by decide +kernel)) ggX4_missed_X4_valueOf
theorem dX4_missed_0 : decode cX4_missed 0 = .ok (.aload_n 0, 1) := by decide +kernel
theorem dX4_missed_1 : decode cX4_missed 1 = .ok (.iload_n 1, 1) := by decide +kernel
theorem dX4_missed_2 : decode cX4_missed 2 = .ok (.iconst 4, 1) := by decide +kernel
theorem dX4_missed_3 : decode cX4_missed 3 = .ok (.invokevirtual 79, 3) := by decide +kernel
theorem dX4_missed_6 : decode cX4_missed 6 = .ok (.ireturn, 1) := by decide +kernel
set_option maxRecDepth 20000 in
theorem ggX4_isSilent_X4_in : GoodIn wsX4_isSilent wsX4_in := goodIn_r _ [4] (by decide +kernel) (by decide +kernel)
set_option maxRecDepth 20000 in
theorem gX4_isSilent_X4_in : GoodIn wsX4_isSilent (va_wsS RX4 34 yX4_in wsX4_in) := goodIn_app (goodIn_of _ (by decide +kernel)) ggX4_isSilent_X4_in
set_option maxRecDepth 20000 in
theorem ggX4_isSilent_X4_error : GoodIn wsX4_isSilent wsX4_error := goodIn_r _ [8, 9, 15, 16, 17, 18, 19, 20] (by decide +kernel) (by decide +kernel)
set_option maxRecDepth 20000 in
theorem gX4_isSilent_X4_error : GoodIn wsX4_isSilent (wsV RX4 42 RX4 yX4_error wsX4_error) := goodIn_app (goodIn_of _ (by decide +kernel)) ggX4_isSilent_X4_error
set_option maxRecDepth 20000 in
theorem ggX4_isSilent_X4_silentAt : GoodIn wsX4_isSilent wsX4_silentAt := goodIn_r _ [13, 14, 15, 16, 17, 18, 19, 20] (by decide +kernel) (by decide +kernel)
set_option maxRecDepth 20000 in
theorem gX4_isSilent_X4_silentAt : GoodIn wsX4_isSilent (wsV RX4 63 RX4 yX4_silentAt wsX4_silentAt) := goodIn_app (goodIn_of _ (by decide +kernel)) ggX4_isSilent_X4_silentAt
theorem dX4_isSilent_0 : decode cX4_isSilent 0 = .ok (.iload_n 1, 1) := by decide +kernel
theorem dX4_isSilent_1 : decode cX4_isSilent 1 = .ok (.iconst 0, 1) := by decide +kernel
theorem dX4_isSilent_2 : decode cX4_isSilent 2 = .ok (.sipush 1439, 3) := by decide +kernel
theorem dX4_isSilent_5 : decode cX4_isSilent 5 = .ok (.invokestatic 34, 3) := by decide +kernel
theorem dX4_isSilent_8 : decode cX4_isSilent 8 = .ok (.ifCond .ne 12, 3) := by decide +kernel
theorem dX4_isSilent_11 : decode cX4_isSilent 11 = .ok (.aload_n 0, 1) := by decide +kernel
theorem dX4_isSilent_12 : decode cX4_isSilent 12 = .ok (.bipush (-2), 2) := by decide +kernel
theorem dX4_isSilent_14 : decode cX4_isSilent 14 = .ok (.invokevirtual 42, 3) := by decide +kernel
theorem dX4_isSilent_17 : decode cX4_isSilent 17 = .ok (.goto 16, 3) := by decide +kernel
theorem dX4_isSilent_20 : decode cX4_isSilent 20 = .ok (.aload_n 0, 1) := by decide +kernel
theorem dX4_isSilent_21 : decode cX4_isSilent 21 = .ok (.iload_n 1, 1) := by decide +kernel
theorem dX4_isSilent_22 : decode cX4_isSilent 22 = .ok (.invokevirtual 63, 3) := by decide +kernel
theorem dX4_isSilent_25 : decode cX4_isSilent 25 = .ok (.ifCond .eq 7, 3) := by decide +kernel
theorem dX4_isSilent_28 : decode cX4_isSilent 28 = .ok (.iconst 1, 1) := by decide +kernel
theorem dX4_isSilent_29 : decode cX4_isSilent 29 = .ok (.goto 4, 3) := by decide +kernel
theorem dX4_isSilent_32 : decode cX4_isSilent 32 = .ok (.iconst 0, 1) := by decide +kernel
theorem dX4_isSilent_33 : decode cX4_isSilent 33 = .ok (.ireturn, 1) := by decide +kernel
set_option maxRecDepth 20000 in
theorem ggX4_entry_X4_error : GoodIn wsX4_entry wsX4_error := goodIn_r _ [6, 7, 8, 9, 10, 11, 12, 13] (by decide +kernel) (by decide +kernel)
set_option maxRecDepth 20000 in
theorem gX4_entry_X4_error : GoodIn wsX4_entry (wsV RX4 42 RX4 yX4_error wsX4_error) := goodIn_app (goodIn_of _ (by decide +kernel)) ggX4_entry_X4_error
theorem dX4_entry_0 : decode cX4_entry 0 = .ok (.iload_n 1, 1) := by decide +kernel
theorem dX4_entry_1 : decode cX4_entry 1 = .ok (.ifCond .ge 10, 3) := by decide +kernel
theorem dX4_entry_4 : decode cX4_entry 4 = .ok (.aload_n 0, 1) := by decide +kernel
theorem dX4_entry_5 : decode cX4_entry 5 = .ok (.bipush (-2), 2) := by decide +kernel
theorem dX4_entry_7 : decode cX4_entry 7 = .ok (.invokevirtual 42, 3) := by decide +kernel
theorem dX4_entry_10 : decode cX4_entry 10 = .ok (.ireturn, 1) := by decide +kernel
theorem dX4_entry_11 : decode cX4_entry 11 = .ok (.iload_n 1, 1) := by decide +kernel
theorem dX4_entry_12 : decode cX4_entry 12 = .ok (.aload_n 0, 1) := by decide +kernel
theorem dX4_entry_13 : decode cX4_entry 13 = .ok (.getfield 7, 3) := by decide +kernel
theorem dX4_entry_16 : decode cX4_entry 16 = .ok (.bipush 14, 2) := by decide +kernel
theorem dX4_entry_18 : decode cX4_entry 18 = .ok (.iaload, 1) := by decide +kernel
theorem dX4_entry_19 : decode cX4_entry 19 = .ok (.if_icmp .ge 19, 3) := by decide +kernel
theorem dX4_entry_22 : decode cX4_entry 22 = .ok (.aload_n 0, 1) := by decide +kernel
theorem dX4_entry_23 : decode cX4_entry 23 = .ok (.getfield 7, 3) := by decide +kernel
theorem dX4_entry_26 : decode cX4_entry 26 = .ok (.bipush 15, 2) := by decide +kernel
theorem dX4_entry_28 : decode cX4_entry 28 = .ok (.iconst 4, 1) := by decide +kernel
theorem dX4_entry_29 : decode cX4_entry 29 = .ok (.iload_n 1, 1) := by decide +kernel
theorem dX4_entry_30 : decode cX4_entry 30 = .ok (.imul, 1) := by decide +kernel
theorem dX4_entry_31 : decode cX4_entry 31 = .ok (.iadd, 1) := by decide +kernel
theorem dX4_entry_32 : decode cX4_entry 32 = .ok (.iload_n 2, 1) := by decide +kernel
theorem dX4_entry_33 : decode cX4_entry 33 = .ok (.iadd, 1) := by decide +kernel
theorem dX4_entry_34 : decode cX4_entry 34 = .ok (.iaload, 1) := by decide +kernel
theorem dX4_entry_35 : decode cX4_entry 35 = .ok (.goto 4, 3) := by decide +kernel
theorem dX4_entry_38 : decode cX4_entry 38 = .ok (.iload_n 3, 1) := by decide +kernel
theorem dX4_entry_39 : decode cX4_entry 39 = .ok (.ireturn, 1) := by decide +kernel
set_option maxRecDepth 20000 in
theorem ggX4_strikeMinute_X4_entry : GoodIn wsX4_strikeMinute wsX4_entry := goodIn_r _ [5, 6, 7, 8, 9, 4, 10, 11, 12, 13, 14, 15, 16, 17] (by decide +kernel) (by decide +kernel)
set_option maxRecDepth 20000 in
theorem gX4_strikeMinute_X4_entry : GoodIn wsX4_strikeMinute (wsV RX4 82 RX4 yX4_entry wsX4_entry) := goodIn_app (goodIn_of _ (by decide +kernel)) ggX4_strikeMinute_X4_entry
theorem dX4_strikeMinute_0 : decode cX4_strikeMinute 0 = .ok (.aload_n 0, 1) := by decide +kernel
theorem dX4_strikeMinute_1 : decode cX4_strikeMinute 1 = .ok (.iload_n 1, 1) := by decide +kernel
theorem dX4_strikeMinute_2 : decode cX4_strikeMinute 2 = .ok (.iconst 0, 1) := by decide +kernel
theorem dX4_strikeMinute_3 : decode cX4_strikeMinute 3 = .ok (.iconst (-1), 1) := by decide +kernel
theorem dX4_strikeMinute_4 : decode cX4_strikeMinute 4 = .ok (.invokevirtual 82, 3) := by decide +kernel
theorem dX4_strikeMinute_7 : decode cX4_strikeMinute 7 = .ok (.ireturn, 1) := by decide +kernel
set_option maxRecDepth 20000 in
theorem ggX4_strikeTrain_X4_entry : GoodIn wsX4_strikeTrain wsX4_entry := goodIn_r _ [5, 6, 7, 8, 9, 4, 10, 11, 12, 13, 14, 15, 16, 17] (by decide +kernel) (by decide +kernel)
set_option maxRecDepth 20000 in
theorem gX4_strikeTrain_X4_entry : GoodIn wsX4_strikeTrain (wsV RX4 82 RX4 yX4_entry wsX4_entry) := goodIn_app (goodIn_of _ (by decide +kernel)) ggX4_strikeTrain_X4_entry
theorem dX4_strikeTrain_0 : decode cX4_strikeTrain 0 = .ok (.aload_n 0, 1) := by decide +kernel
theorem dX4_strikeTrain_1 : decode cX4_strikeTrain 1 = .ok (.iload_n 1, 1) := by decide +kernel
theorem dX4_strikeTrain_2 : decode cX4_strikeTrain 2 = .ok (.iconst 1, 1) := by decide +kernel
theorem dX4_strikeTrain_3 : decode cX4_strikeTrain 3 = .ok (.iconst (-1), 1) := by decide +kernel
theorem dX4_strikeTrain_4 : decode cX4_strikeTrain 4 = .ok (.invokevirtual 82, 3) := by decide +kernel
theorem dX4_strikeTrain_7 : decode cX4_strikeTrain 7 = .ok (.ireturn, 1) := by decide +kernel
set_option maxRecDepth 20000 in
theorem ggX4_strikeBlows_X4_entry : GoodIn wsX4_strikeBlows wsX4_entry := goodIn_r _ [5, 6, 7, 8, 9, 4, 10, 11, 12, 13, 14, 15, 16, 17] (by decide +kernel) (by decide +kernel)
set_option maxRecDepth 20000 in
theorem gX4_strikeBlows_X4_entry : GoodIn wsX4_strikeBlows (wsV RX4 82 RX4 yX4_entry wsX4_entry) := goodIn_app (goodIn_of _ (by decide +kernel)) ggX4_strikeBlows_X4_entry
theorem dX4_strikeBlows_0 : decode cX4_strikeBlows 0 = .ok (.aload_n 0, 1) := by decide +kernel
theorem dX4_strikeBlows_1 : decode cX4_strikeBlows 1 = .ok (.iload_n 1, 1) := by decide +kernel
theorem dX4_strikeBlows_2 : decode cX4_strikeBlows 2 = .ok (.iconst 2, 1) := by decide +kernel
theorem dX4_strikeBlows_3 : decode cX4_strikeBlows 3 = .ok (.iconst 0, 1) := by decide +kernel
theorem dX4_strikeBlows_4 : decode cX4_strikeBlows 4 = .ok (.invokevirtual 82, 3) := by decide +kernel
theorem dX4_strikeBlows_7 : decode cX4_strikeBlows 7 = .ok (.ireturn, 1) := by decide +kernel
set_option maxRecDepth 20000 in
theorem ggX4_undo_X4_error : GoodIn wsX4_undo wsX4_error := goodIn_r _ [8, 9, 13, 14, 15, 16, 17, 18] (by decide +kernel) (by decide +kernel)
set_option maxRecDepth 20000 in
theorem gX4_undo_X4_error : GoodIn wsX4_undo (wsV RX4 42 RX4 yX4_error wsX4_error) := goodIn_app (goodIn_of _ (by decide +kernel)) ggX4_undo_X4_error
set_option maxRecDepth 20000 in
theorem ggX4_undo_X4_copy : GoodIn wsX4_undo wsX4_copy := goodIn_r _ [12] (by decide +kernel) (by decide +kernel)
set_option maxRecDepth 20000 in
theorem gX4_undo_X4_copy : GoodIn wsX4_undo (va_wsS RX4 30 yX4_copy wsX4_copy) := goodIn_app (goodIn_of _ (by decide +kernel)) ggX4_undo_X4_copy
theorem dX4_undo_0 : decode cX4_undo 0 = .ok (.aload_n 0, 1) := by decide +kernel
theorem dX4_undo_1 : decode cX4_undo 1 = .ok (.getfield 26, 3) := by decide +kernel
theorem dX4_undo_4 : decode cX4_undo 4 = .ok (.ifCond .ne 10, 3) := by decide +kernel
theorem dX4_undo_7 : decode cX4_undo 7 = .ok (.aload_n 0, 1) := by decide +kernel
