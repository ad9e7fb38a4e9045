theorem dX3_setPosition_18 : decode cX3_setPosition 18 = .ok (.invokevirtual 48, 3) := by decide +kernel
theorem dX3_setPosition_21 : decode cX3_setPosition 21 = .ok (.invokevirtual 55, 3) := by decide +kernel
theorem dX3_setPosition_24 : decode cX3_setPosition 24 = .ok (.if_icmp .le 10, 3) := by decide +kernel
theorem dX3_setPosition_27 : decode cX3_setPosition 27 = .ok (.aload_n 0, 1) := by decide +kernel
theorem dX3_setPosition_28 : decode cX3_setPosition 28 = .ok (.bipush (-2), 2) := by decide +kernel
theorem dX3_setPosition_30 : decode cX3_setPosition 30 = .ok (.invokevirtual 41, 3) := by decide +kernel
theorem dX3_setPosition_33 : decode cX3_setPosition 33 = .ok (.ireturn, 1) := by decide +kernel
theorem dX3_setPosition_34 : decode cX3_setPosition 34 = .ok (.aload_n 0, 1) := by decide +kernel
theorem dX3_setPosition_35 : decode cX3_setPosition 35 = .ok (.invokevirtual 45, 3) := by decide +kernel
theorem dX3_setPosition_38 : decode cX3_setPosition 38 = .ok (.aload_n 0, 1) := by decide +kernel
theorem dX3_setPosition_39 : decode cX3_setPosition 39 = .ok (.getfield 10, 3) := by decide +kernel
theorem dX3_setPosition_42 : decode cX3_setPosition 42 = .ok (.iload_n 1, 1) := by decide +kernel
theorem dX3_setPosition_43 : decode cX3_setPosition 43 = .ok (.invokevirtual 48, 3) := by decide +kernel
theorem dX3_setPosition_46 : decode cX3_setPosition 46 = .ok (.astore_n 3, 1) := by decide +kernel
theorem dX3_setPosition_47 : decode cX3_setPosition 47 = .ok (.aload_n 3, 1) := by decide +kernel
theorem dX3_setPosition_48 : decode cX3_setPosition 48 = .ok (.getfield 59, 3) := by decide +kernel
theorem dX3_setPosition_51 : decode cX3_setPosition 51 = .ok (.istore 4, 2) := by decide +kernel
theorem dX3_setPosition_53 : decode cX3_setPosition 53 = .ok (.aload_n 3, 1) := by decide +kernel
theorem dX3_setPosition_54 : decode cX3_setPosition 54 = .ok (.iload_n 2, 1) := by decide +kernel
theorem dX3_setPosition_55 : decode cX3_setPosition 55 = .ok (.putfield 59, 3) := by decide +kernel
theorem dX3_setPosition_58 : decode cX3_setPosition 58 = .ok (.iload 4, 2) := by decide +kernel
theorem dX3_setPosition_60 : decode cX3_setPosition 60 = .ok (.ireturn, 1) := by decide +kernel
set_option maxRecDepth 20000 in
theorem ggX3_setSilence_X3_isMinute : GoodIn wsX3_setSilence wsX3_isMinute := goodIn_r _ [8] (by decide +kernel) (by decide +kernel)
set_option maxRecDepth 20000 in
theorem gX3_setSilence_X3_isMinute : GoodIn wsX3_setSilence (va_wsS RX3 62 yX3_isMinute wsX3_isMinute) := goodIn_app (goodIn_of _ (by decide +kernel)) ggX3_setSilence_X3_isMinute
set_option maxRecDepth 20000 in
theorem ggX3_setSilence_X3_refuse : GoodIn wsX3_setSilence wsX3_refuse := goodIn_r _ [12, 13, 14, 15, 7, 16, 59, 60, 61, 62, 63] (by decide +kernel) (by decide +kernel)
set_option maxRecDepth 20000 in
theorem gX3_setSilence_X3_refuse : GoodIn wsX3_setSilence (wsV RX3 41 RX3 yX3_refuse wsX3_refuse) := goodIn_app (goodIn_of _ (by decide +kernel)) ggX3_setSilence_X3_refuse
set_option maxRecDepth 20000 in
theorem ggX3_setSilence_X3_save : GoodIn wsX3_setSilence wsX3_save := goodIn_r _ [20, 21, 22, 1, 23, 24, 25, 7, 26, 27, 28, 29, 30, 31, 32, 33, 34, 35, 36, 37, 38, 39, 40, 41, 42, 43, 44, 45, 46, 47, 48, 49, 50, 51, 52, 53, 54, 55, 56, 57, 58, 59, 60, 61, 62, 63, 64, 65, 66, 67, 68, 69, 70, 71, 72, 73, 74, 75, 76, 77, 78, 79, 80] (by decide +kernel) (by decide +kernel)
set_option maxRecDepth 20000 in
theorem gX3_setSilence_X3_save : GoodIn wsX3_setSilence (wsV RX3 45 RX3 yX3_save wsX3_save) := goodIn_app (goodIn_of _ (by decide +kernel)) ggX3_setSilence_X3_save
theorem dX3_setSilence_0 : decode cX3_setSilence 0 = .ok (.iload_n 1, 1) := by decide +kernel
theorem dX3_setSilence_1 : decode cX3_setSilence 1 = .ok (.ifCond .lt 12, 3) := by decide +kernel
theorem dX3_setSilence_4 : decode cX3_setSilence 4 = .ok (.iload_n 1, 1) := by decide +kernel
theorem dX3_setSilence_5 : decode cX3_setSilence 5 = .ok (.iconst 2, 1) := by decide +kernel
theorem dX3_setSilence_6 : decode cX3_setSilence 6 = .ok (.if_icmp .gt 7, 3) := by decide +kernel
theorem dX3_setSilence_9 : decode cX3_setSilence 9 = .ok (.iconst 1, 1) := by decide +kernel
theorem dX3_setSilence_10 : decode cX3_setSilence 10 = .ok (.goto 4, 3) := by decide +kernel
theorem dX3_setSilence_13 : decode cX3_setSilence 13 = .ok (.iconst 0, 1) := by decide +kernel
theorem dX3_setSilence_14 : decode cX3_setSilence 14 = .ok (.istore 4, 2) := by decide +kernel
theorem dX3_setSilence_16 : decode cX3_setSilence 16 = .ok (.iload 4, 2) := by decide +kernel
theorem dX3_setSilence_18 : decode cX3_setSilence 18 = .ok (.ifCond .eq 17, 3) := by decide +kernel
theorem dX3_setSilence_21 : decode cX3_setSilence 21 = .ok (.iload_n 2, 1) := by decide +kernel
theorem dX3_setSilence_22 : decode cX3_setSilence 22 = .ok (.invokestatic 62, 3) := by decide +kernel
theorem dX3_setSilence_25 : decode cX3_setSilence 25 = .ok (.ifCond .eq 10, 3) := by decide +kernel
theorem dX3_setSilence_28 : decode cX3_setSilence 28 = .ok (.iload_n 3, 1) := by decide +kernel
theorem dX3_setSilence_29 : decode cX3_setSilence 29 = .ok (.invokestatic 62, 3) := by decide +kernel
theorem dX3_setSilence_32 : decode cX3_setSilence 32 = .ok (.ifCond .ne 10, 3) := by decide +kernel
theorem dX3_setSilence_35 : decode cX3_setSilence 35 = .ok (.aload_n 0, 1) := by decide +kernel
theorem dX3_setSilence_36 : decode cX3_setSilence 36 = .ok (.bipush (-2), 2) := by decide +kernel
theorem dX3_setSilence_38 : decode cX3_setSilence 38 = .ok (.invokevirtual 41, 3) := by decide +kernel
theorem dX3_setSilence_41 : decode cX3_setSilence 41 = .ok (.ireturn, 1) := by decide +kernel
theorem dX3_setSilence_42 : decode cX3_setSilence 42 = .ok (.aload_n 0, 1) := by decide +kernel
theorem dX3_setSilence_43 : decode cX3_setSilence 43 = .ok (.invokevirtual 45, 3) := by decide +kernel
theorem dX3_setSilence_46 : decode cX3_setSilence 46 = .ok (.aload_n 0, 1) := by decide +kernel
theorem dX3_setSilence_47 : decode cX3_setSilence 47 = .ok (.getfield 10, 3) := by decide +kernel
theorem dX3_setSilence_50 : decode cX3_setSilence 50 = .ok (.getfield 65, 3) := by decide +kernel
theorem dX3_setSilence_53 : decode cX3_setSilence 53 = .ok (.istore 5, 2) := by decide +kernel
theorem dX3_setSilence_55 : decode cX3_setSilence 55 = .ok (.aload_n 0, 1) := by decide +kernel
theorem dX3_setSilence_56 : decode cX3_setSilence 56 = .ok (.getfield 10, 3) := by decide +kernel
theorem dX3_setSilence_59 : decode cX3_setSilence 59 = .ok (.iload_n 1, 1) := by decide +kernel
theorem dX3_setSilence_60 : decode cX3_setSilence 60 = .ok (.putfield 65, 3) := by decide +kernel
theorem dX3_setSilence_63 : decode cX3_setSilence 63 = .ok (.aload_n 0, 1) := by decide +kernel
theorem dX3_setSilence_64 : decode cX3_setSilence 64 = .ok (.getfield 10, 3) := by decide +kernel
theorem dX3_setSilence_67 : decode cX3_setSilence 67 = .ok (.iload_n 2, 1) := by decide +kernel
theorem dX3_setSilence_68 : decode cX3_setSilence 68 = .ok (.putfield 68, 3) := by decide +kernel
theorem dX3_setSilence_71 : decode cX3_setSilence 71 = .ok (.aload_n 0, 1) := by decide +kernel
theorem dX3_setSilence_72 : decode cX3_setSilence 72 = .ok (.getfield 10, 3) := by decide +kernel
theorem dX3_setSilence_75 : decode cX3_setSilence 75 = .ok (.iload_n 3, 1) := by decide +kernel
theorem dX3_setSilence_76 : decode cX3_setSilence 76 = .ok (.putfield 71, 3) := by decide +kernel
theorem dX3_setSilence_79 : decode cX3_setSilence 79 = .ok (.iload 5, 2) := by decide +kernel
theorem dX3_setSilence_81 : decode cX3_setSilence 81 = .ok (.ireturn, 1) := by decide +kernel
set_option maxRecDepth 20000 in
theorem ggX3_wind_X3_isTrain : GoodIn wsX3_wind wsX3_isTrain := goodIn_r _ [10] (by decide +kernel) (by decide +kernel)
set_option maxRecDepth 20000 in
theorem gX3_wind_X3_isTrain : GoodIn wsX3_wind (va_wsS RX3 37 yX3_isTrain wsX3_isTrain) := goodIn_app (goodIn_of _ (by decide +kernel)) ggX3_wind_X3_isTrain
set_option maxRecDepth 20000 in
theorem ggX3_wind_X3_refuse : GoodIn wsX3_wind wsX3_refuse := goodIn_r _ [14, 15, 16, 17, 9, 18, 65, 66, 67, 68, 69] (by decide +kernel) (by decide +kernel)
set_option maxRecDepth 20000 in
theorem gX3_wind_X3_refuse : GoodIn wsX3_wind (wsV RX3 41 RX3 yX3_refuse wsX3_refuse) := goodIn_app (goodIn_of _ (by decide +kernel)) ggX3_wind_X3_refuse
set_option maxRecDepth 20000 in
theorem ggX3_wind_X3_save : GoodIn wsX3_wind wsX3_save := goodIn_r _ [22, 23, 24, 1, 25, 26, 27, 9, 28, 29, 30, 31, 32, 33, 34, 35, 36, 37, 38, 39, 40, 41, 42, 43, 44, 45, 46, 47, 48, 49, 50, 51, 52, 53, 54, 55, 56, 57, 58, 59, 60, 65, 66, 67, 68, 69, 76, 77, 78, 79, 80, 81, 82, 70, 71, 72, 73, 74, 75, 83, 84, 85, 86] (by decide +kernel) (by decide +kernel)
set_option maxRecDepth 20000 in
theorem gX3_wind_X3_save : GoodIn wsX3_wind (wsV RX3 45 RX3 yX3_save wsX3_save) := goodIn_app (goodIn_of _ (by decide +kernel)) ggX3_wind_X3_save
set_option maxRecDepth 20000 in
theorem ggX3_wind_X0_trainOf : GoodIn wsX3_wind wsX0_trainOf := goodIn_r _ [64, 34, 35, 76, 77, 78, 79, 80, 81, 82] (by decide +kernel) (by decide +kernel)
set_option maxRecDepth 20000 in
theorem gX3_wind_X0_trainOf : GoodIn wsX3_wind (wsV RX3 48 RX0 yX0_trainOf wsX0_trainOf) := goodIn_app (goodIn_of _ (by decide +kernel)) ggX3_wind_X0_trainOf
theorem dX3_wind_0 : decode cX3_wind 0 = .ok (.iload_n 1, 1) := by decide +kernel
theorem dX3_wind_1 : decode cX3_wind 1 = .ok (.invokestatic 37, 3) := by decide +kernel
theorem dX3_wind_4 : decode cX3_wind 4 = .ok (.ifCond .eq 15, 3) := by decide +kernel
theorem dX3_wind_7 : decode cX3_wind 7 = .ok (.iload_n 2, 1) := by decide +kernel
theorem dX3_wind_8 : decode cX3_wind 8 = .ok (.iconst 1, 1) := by decide +kernel
theorem dX3_wind_9 : decode cX3_wind 9 = .ok (.if_icmp .lt 10, 3) := by decide +kernel
theorem dX3_wind_12 : decode cX3_wind 12 = .ok (.iload_n 2, 1) := by decide +kernel
theorem dX3_wind_13 : decode cX3_wind 13 = .ok (.sipush 2000, 3) := by decide +kernel
theorem dX3_wind_16 : decode cX3_wind 16 = .ok (.if_icmp .le 10, 3) := by decide +kernel
theorem dX3_wind_19 : decode cX3_wind 19 = .ok (.aload_n 0, 1) := by decide +kernel
theorem dX3_wind_20 : decode cX3_wind 20 = .ok (.bipush (-2), 2) := by decide +kernel
theorem dX3_wind_22 : decode cX3_wind 22 = .ok (.invokevirtual 41, 3) := by decide +kernel
theorem dX3_wind_25 : decode cX3_wind 25 = .ok (.ireturn, 1) := by decide +kernel
theorem dX3_wind_26 : decode cX3_wind 26 = .ok (.aload_n 0, 1) := by decide +kernel
theorem dX3_wind_27 : decode cX3_wind 27 = .ok (.invokevirtual 45, 3) := by decide +kernel
theorem dX3_wind_30 : decode cX3_wind 30 = .ok (.aload_n 0, 1) := by decide +kernel
theorem dX3_wind_31 : decode cX3_wind 31 = .ok (.getfield 10, 3) := by decide +kernel
theorem dX3_wind_34 : decode cX3_wind 34 = .ok (.iload_n 1, 1) := by decide +kernel
theorem dX3_wind_35 : decode cX3_wind 35 = .ok (.invokevirtual 48, 3) := by decide +kernel
theorem dX3_wind_38 : decode cX3_wind 38 = .ok (.astore_n 3, 1) := by decide +kernel
theorem dX3_wind_39 : decode cX3_wind 39 = .ok (.iload_n 2, 1) := by decide +kernel
theorem dX3_wind_40 : decode cX3_wind 40 = .ok (.sipush 2000, 3) := by decide +kernel
theorem dX3_wind_43 : decode cX3_wind 43 = .ok (.aload_n 3, 1) := by decide +kernel
theorem dX3_wind_44 : decode cX3_wind 44 = .ok (.getfield 74, 3) := by decide +kernel
theorem dX3_wind_47 : decode cX3_wind 47 = .ok (.isub, 1) := by decide +kernel
theorem dX3_wind_48 : decode cX3_wind 48 = .ok (.invokestatic 77, 3) := by decide +kernel
theorem dX3_wind_51 : decode cX3_wind 51 = .ok (.istore 4, 2) := by decide +kernel
theorem dX3_wind_53 : decode cX3_wind 53 = .ok (.aload_n 3, 1) := by decide +kernel
theorem dX3_wind_54 : decode cX3_wind 54 = .ok (.dup, 1) := by decide +kernel
theorem dX3_wind_55 : decode cX3_wind 55 = .ok (.getfield 74, 3) := by decide +kernel
theorem dX3_wind_58 : decode cX3_wind 58 = .ok (.iload 4, 2) := by decide +kernel
theorem dX3_wind_60 : decode cX3_wind 60 = .ok (.iadd, 1) := by decide +kernel
theorem dX3_wind_61 : decode cX3_wind 61 = .ok (.putfield 74, 3) := by decide +kernel
theorem dX3_wind_64 : decode cX3_wind 64 = .ok (.iload 4, 2) := by decide +kernel
theorem dX3_wind_66 : decode cX3_wind 66 = .ok (.ireturn, 1) := by decide +kernel
set_option maxRecDepth 20000 in
theorem ggX3_run_X3_refuse : GoodIn wsX3_run wsX3_refuse := goodIn_r _ [7, 8, 9, 10, 6, 11, 116, 117, 118, 119, 120] (by decide +kernel) (by decide +kernel)
set_option maxRecDepth 20000 in
theorem gX3_run_X3_refuse : GoodIn wsX3_run (wsV RX3 41 RX3 yX3_refuse wsX3_refuse) := goodIn_app (goodIn_of _ (by decide +kernel)) ggX3_run_X3_refuse
set_option maxRecDepth 20000 in
theorem ggX3_run_X3_save : GoodIn wsX3_run wsX3_save := goodIn_r _ [15, 16, 17, 1, 18, 19, 20, 6, 21, 22, 23, 24, 25, 26, 27, 28, 29, 30, 31, 32, 33, 34, 35, 36, 37, 38, 39, 40, 41, 42, 43, 44, 45, 46, 47, 48, 49, 50, 51, 52, 53, 116, 117, 118, 119, 120, 121, 122, 123, 124, 125, 126, 127, 128, 129, 130, 131, 132, 133, 134, 135, 136, 137] (by decide +kernel) (by decide +kernel)
set_option maxRecDepth 20000 in
theorem gX3_run_X3_save : GoodIn wsX3_run (wsV RX3 45 RX3 yX3_save wsX3_save) := goodIn_app (goodIn_of _ (by decide +kernel)) ggX3_run_X3_save
set_option maxRecDepth 20000 in
theorem ggX3_run_X3_strikeQuarter : GoodIn wsX3_run wsX3_strikeQuarter := goodIn_r _ [57, 1, 2, 58, 59, 60, 61, 62, 25, 63, 31, 64, 65, 66, 67, 32, 33, 68, 69, 70, 71, 37, 72, 39, 73, 74, 75, 76, 77, 78, 79, 6, 80, 81, 82, 83, 84, 85, 86, 87, 40, 44, 42, 41, 88, 89, 90, 91, 92, 93, 94, 95, 96, 97, 98, 99, 100, 101, 102, 48, 103, 50, 51, 52, 53, 104, 105, 106, 107, 108, 109, 110, 111, 112, 113, 114, 115, 116, 117, 118, 119, 120, 121, 122, 123, 124, 125, 126, 127, 128, 129, 130, 131, 132, 133, 134, 135, 136, 137] (by decide +kernel) (by decide +kernel)
set_option maxRecDepth 20000 in
theorem gX3_run_X3_strikeQuarter : GoodIn wsX3_run (wsV RX3 86 RX3 yX3_strikeQuarter wsX3_strikeQuarter) := goodIn_app (goodIn_of _ (by decide +kernel)) ggX3_run_X3_strikeQuarter
theorem dX3_run_0 : decode cX3_run 0 = .ok (.iload_n 1, 1) := by decide +kernel
theorem dX3_run_1 : decode cX3_run 1 = .ok (.ifCond .lt 10, 3) := by decide +kernel
theorem dX3_run_4 : decode cX3_run 4 = .ok (.iload_n 1, 1) := by decide +kernel
theorem dX3_run_5 : decode cX3_run 5 = .ok (.sipush 1440, 3) := by decide +kernel
theorem dX3_run_8 : decode cX3_run 8 = .ok (.if_icmp .le 10, 3) := by decide +kernel
theorem dX3_run_11 : decode cX3_run 11 = .ok (.aload_n 0, 1) := by decide +kernel
theorem dX3_run_12 : decode cX3_run 12 = .ok (.bipush (-2), 2) := by decide +kernel
theorem dX3_run_14 : decode cX3_run 14 = .ok (.invokevirtual 41, 3) := by decide +kernel
theorem dX3_run_17 : decode cX3_run 17 = .ok (.ireturn, 1) := by decide +kernel
theorem dX3_run_18 : decode cX3_run 18 = .ok (.aload_n 0, 1) := by decide +kernel
theorem dX3_run_19 : decode cX3_run 19 = .ok (.invokevirtual 45, 3) := by decide +kernel
theorem dX3_run_22 : decode cX3_run 22 = .ok (.aload_n 0, 1) := by decide +kernel
theorem dX3_run_23 : decode cX3_run 23 = .ok (.getfield 10, 3) := by decide +kernel
theorem dX3_run_26 : decode cX3_run 26 = .ok (.getfield 83, 3) := by decide +kernel
theorem dX3_run_29 : decode cX3_run 29 = .ok (.istore_n 2, 1) := by decide +kernel
theorem dX3_run_30 : decode cX3_run 30 = .ok (.iconst 0, 1) := by decide +kernel
theorem dX3_run_31 : decode cX3_run 31 = .ok (.istore_n 3, 1) := by decide +kernel
theorem dX3_run_32 : decode cX3_run 32 = .ok (.bipush 15, 2) := by decide +kernel
theorem dX3_run_34 : decode cX3_run 34 = .ok (.iload_n 2, 1) := by decide +kernel
theorem dX3_run_35 : decode cX3_run 35 = .ok (.bipush 15, 2) := by decide +kernel
theorem dX3_run_37 : decode cX3_run 37 = .ok (.irem, 1) := by decide +kernel
theorem dX3_run_38 : decode cX3_run 38 = .ok (.isub, 1) := by decide +kernel
theorem dX3_run_39 : decode cX3_run 39 = .ok (.istore 4, 2) := by decide +kernel
theorem dX3_run_41 : decode cX3_run 41 = .ok (.iload 4, 2) := by decide +kernel
theorem dX3_run_43 : decode cX3_run 43 = .ok (.iload_n 1, 1) := by decide +kernel
theorem dX3_run_44 : decode cX3_run 44 = .ok (.if_icmp .gt 31, 3) := by decide +kernel
theorem dX3_run_47 : decode cX3_run 47 = .ok (.aload_n 0, 1) := by decide +kernel
theorem dX3_run_48 : decode cX3_run 48 = .ok (.getfield 10, 3) := by decide +kernel
theorem dX3_run_51 : decode cX3_run 51 = .ok (.iload_n 2, 1) := by decide +kernel
theorem dX3_run_52 : decode cX3_run 52 = .ok (.iload 4, 2) := by decide +kernel
theorem dX3_run_54 : decode cX3_run 54 = .ok (.iadd, 1) := by decide +kernel
theorem dX3_run_55 : decode cX3_run 55 = .ok (.sipush 1440, 3) := by decide +kernel
theorem dX3_run_58 : decode cX3_run 58 = .ok (.irem, 1) := by decide +kernel
theorem dX3_run_59 : decode cX3_run 59 = .ok (.putfield 83, 3) := by decide +kernel
theorem dX3_run_62 : decode cX3_run 62 = .ok (.iload_n 3, 1) := by decide +kernel
theorem dX3_run_63 : decode cX3_run 63 = .ok (.aload_n 0, 1) := by decide +kernel
theorem dX3_run_64 : decode cX3_run 64 = .ok (.invokevirtual 86, 3) := by decide +kernel
theorem dX3_run_67 : decode cX3_run 67 = .ok (.iadd, 1) := by decide +kernel
theorem dX3_run_68 : decode cX3_run 68 = .ok (.istore_n 3, 1) := by decide +kernel
theorem dX3_run_69 : decode cX3_run 69 = .ok (.iinc 4 15, 3) := by decide +kernel
theorem dX3_run_72 : decode cX3_run 72 = .ok (.goto (-31), 3) := by decide +kernel
theorem dX3_run_75 : decode cX3_run 75 = .ok (.aload_n 0, 1) := by decide +kernel
theorem dX3_run_76 : decode cX3_run 76 = .ok (.getfield 10, 3) := by decide +kernel
theorem dX3_run_79 : decode cX3_run 79 = .ok (.iload_n 2, 1) := by decide +kernel
theorem dX3_run_80 : decode cX3_run 80 = .ok (.iload_n 1, 1) := by decide +kernel
theorem dX3_run_81 : decode cX3_run 81 = .ok (.iadd, 1) := by decide +kernel
theorem dX3_run_82 : decode cX3_run 82 = .ok (.sipush 1440, 3) := by decide +kernel
theorem dX3_run_85 : decode cX3_run 85 = .ok (.irem, 1) := by decide +kernel
theorem dX3_run_86 : decode cX3_run 86 = .ok (.putfield 83, 3) := by decide +kernel
theorem dX3_run_89 : decode cX3_run 89 = .ok (.iload_n 3, 1) := by decide +kernel
theorem dX3_run_90 : decode cX3_run 90 = .ok (.ireturn, 1) := by decide +kernel
set_option maxRecDepth 20000 in
theorem ggX3_setHands_X3_isMinute : GoodIn wsX3_setHands wsX3_isMinute := goodIn_r _ [6] (by decide +kernel) (by decide +kernel)
set_option maxRecDepth 20000 in
theorem gX3_setHands_X3_isMinute : GoodIn wsX3_setHands (va_wsS RX3 62 yX3_isMinute wsX3_isMinute) := goodIn_app (goodIn_of _ (by decide +kernel)) ggX3_setHands_X3_isMinute
set_option maxRecDepth 20000 in
theorem ggX3_setHands_X3_refuse : GoodIn wsX3_setHands wsX3_refuse := goodIn_r _ [10, 11, 12, 13, 5, 14, 57, 58, 59, 60, 61] (by decide +kernel) (by decide +kernel)
set_option maxRecDepth 20000 in
theorem gX3_setHands_X3_refuse : GoodIn wsX3_setHands (wsV RX3 41 RX3 yX3_refuse wsX3_refuse) := goodIn_app (goodIn_of _ (by decide +kernel)) ggX3_setHands_X3_refuse
set_option maxRecDepth 20000 in
theorem ggX3_setHands_X3_save : GoodIn wsX3_setHands wsX3_save := goodIn_r _ [18, 19, 20, 1, 21, 22, 23, 5, 24, 25, 26, 27, 28, 29, 30, 31, 32, 33, 34, 35, 36, 37, 38, 39, 40, 41, 42, 43, 44, 45, 46, 47, 48, 49, 50, 51, 52, 53, 54, 55, 56, 57, 58, 59, 60, 61, 62, 63, 64, 65, 66, 67, 68, 69, 70, 71, 72, 73, 74, 75, 76, 77, 78] (by decide +kernel) (by decide +kernel)
set_option maxRecDepth 20000 in
theorem gX3_setHands_X3_save : GoodIn wsX3_setHands (wsV RX3 45 RX3 yX3_save wsX3_save) := goodIn_app (goodIn_of _ (by decide +kernel)) ggX3_setHands_X3_save
theorem dX3_setHands_0 : decode cX3_setHands 0 = .ok (.iload_n 1, 1) := by decide +kernel
theorem dX3_setHands_1 : decode cX3_setHands 1 = .ok (.invokestatic 62, 3) := by decide +kernel
theorem dX3_setHands_4 : decode cX3_setHands 4 = .ok (.ifCond .ne 10, 3) := by decide +kernel
theorem dX3_setHands_7 : decode cX3_setHands 7 = .ok (.aload_n 0, 1) := by decide +kernel
theorem dX3_setHands_8 : decode cX3_setHands 8 = .ok (.bipush (-2), 2) := by decide +kernel
theorem dX3_setHands_10 : decode cX3_setHands 10 = .ok (.invokevirtual 41, 3) := by decide +kernel
theorem dX3_setHands_13 : decode cX3_setHands 13 = .ok (.ireturn, 1) := by decide +kernel
theorem dX3_setHands_14 : decode cX3_setHands 14 = .ok (.aload_n 0, 1) := by decide +kernel
theorem dX3_setHands_15 : decode cX3_setHands 15 = .ok (.invokevirtual 45, 3) := by decide +kernel
theorem dX3_setHands_18 : decode cX3_setHands 18 = .ok (.aload_n 0, 1) := by decide +kernel
theorem dX3_setHands_19 : decode cX3_setHands 19 = .ok (.getfield 10, 3) := by decide +kernel
theorem dX3_setHands_22 : decode cX3_setHands 22 = .ok (.getfield 83, 3) := by decide +kernel
theorem dX3_setHands_25 : decode cX3_setHands 25 = .ok (.istore_n 2, 1) := by decide +kernel
theorem dX3_setHands_26 : decode cX3_setHands 26 = .ok (.aload_n 0, 1) := by decide +kernel
theorem dX3_setHands_27 : decode cX3_setHands 27 = .ok (.getfield 10, 3) := by decide +kernel
theorem dX3_setHands_30 : decode cX3_setHands 30 = .ok (.iload_n 1, 1) := by decide +kernel
theorem dX3_setHands_31 : decode cX3_setHands 31 = .ok (.putfield 83, 3) := by decide +kernel
theorem dX3_setHands_34 : decode cX3_setHands 34 = .ok (.iload_n 2, 1) := by decide +kernel
theorem dX3_setHands_35 : decode cX3_setHands 35 = .ok (.ireturn, 1) := by decide +kernel
set_option maxRecDepth 20000 in
theorem ggX3_trip_X3_isTrain : GoodIn wsX3_trip wsX3_isTrain := goodIn_r _ [6] (by decide +kernel) (by decide +kernel)
set_option maxRecDepth 20000 in
theorem gX3_trip_X3_isTrain : GoodIn wsX3_trip (va_wsS RX3 37 yX3_isTrain wsX3_isTrain) := goodIn_app (goodIn_of _ (by decide +kernel)) ggX3_trip_X3_isTrain
set_option maxRecDepth 20000 in
theorem ggX3_trip_X3_refuse : GoodIn wsX3_trip wsX3_refuse := goodIn_r _ [10, 11, 12, 13, 5, 14, 109, 110, 111, 112, 113] (by decide +kernel) (by decide +kernel)
set_option maxRecDepth 20000 in
theorem gX3_trip_X3_refuse : GoodIn wsX3_trip (wsV RX3 41 RX3 yX3_refuse wsX3_refuse) := goodIn_app (goodIn_of _ (by decide +kernel)) ggX3_trip_X3_refuse
set_option maxRecDepth 20000 in
theorem ggX3_trip_X0_trainOf : GoodIn wsX3_trip wsX0_trainOf := goodIn_r _ [19, 20, 21, 114, 115, 116, 117, 118, 119, 120] (by decide +kernel) (by decide +kernel)
set_option maxRecDepth 20000 in
theorem gX3_trip_X0_trainOf : GoodIn wsX3_trip (wsV RX3 48 RX0 yX0_trainOf wsX0_trainOf) := goodIn_app (goodIn_of _ (by decide +kernel)) ggX3_trip_X0_trainOf
set_option maxRecDepth 20000 in
theorem ggX3_trip_X2_dueAfter : GoodIn wsX3_trip wsX2_dueAfter := goodIn_r _ [26, 27, 28, 29, 25, 30, 31, 32, 33, 34, 35, 36, 37, 38, 39, 121, 122, 123, 124, 125, 126] (by decide +kernel) (by decide +kernel)
set_option maxRecDepth 20000 in
theorem gX3_trip_X2_dueAfter : GoodIn wsX3_trip (wsV RX3 89 RX2 yX2_dueAfter wsX2_dueAfter) := goodIn_app (goodIn_of _ (by decide +kernel)) ggX3_trip_X2_dueAfter
set_option maxRecDepth 20000 in
theorem ggX3_trip_X2_canStrike : GoodIn wsX3_trip wsX2_canStrike := goodIn_r _ [43, 44, 45, 46, 47, 48, 25, 49, 50, 121, 122, 123, 124, 125, 126] (by decide +kernel) (by decide +kernel)
set_option maxRecDepth 20000 in
theorem gX3_trip_X2_canStrike : GoodIn wsX3_trip (wsV RX3 92 RX2 yX2_canStrike wsX2_canStrike) := goodIn_app (goodIn_of _ (by decide +kernel)) ggX3_trip_X2_canStrike
set_option maxRecDepth 20000 in
theorem ggX3_trip_X3_save : GoodIn wsX3_trip wsX3_save := goodIn_r _ [54, 55, 56, 1, 57, 58, 59, 5, 60, 61, 62, 63, 18, 64, 20, 21, 65, 66, 67, 68, 69, 70, 71, 72, 25, 73, 31, 44, 50, 45, 74, 75, 76, 77, 78, 79, 80, 81, 82, 83, 84, 109, 110, 111, 112, 113, 114, 115, 116, 117, 118, 119, 120, 121, 122, 123, 124, 125, 126, 127, 128, 129, 130] (by decide +kernel) (by decide +kernel)
set_option maxRecDepth 20000 in
theorem gX3_trip_X3_save : GoodIn wsX3_trip (wsV RX3 45 RX3 yX3_save wsX3_save) := goodIn_app (goodIn_of _ (by decide +kernel)) ggX3_trip_X3_save
set_option maxRecDepth 20000 in
theorem ggX3_trip_X3_release : GoodIn wsX3_trip wsX3_release := goodIn_r _ [88, 1, 89, 2, 90, 91, 92, 93, 94, 25, 95, 44, 75, 45, 50, 96, 41, 42, 43, 46, 47, 48, 49, 97, 98, 99, 100, 36, 37, 38, 39, 31, 101, 102, 103, 79, 104, 81, 82, 83, 84, 105, 106, 107, 108, 109, 110, 111, 112, 113, 114, 115, 116, 117, 118, 119, 120, 121, 122, 123, 124, 125, 126, 127, 128, 129, 130] (by decide +kernel) (by decide +kernel)
set_option maxRecDepth 20000 in
theorem gX3_trip_X3_release : GoodIn wsX3_trip (wsV RX3 95 RX3 yX3_release wsX3_release) := goodIn_app (goodIn_of _ (by decide +kernel)) ggX3_trip_X3_release
theorem dX3_trip_0 : decode cX3_trip 0 = .ok (.iload_n 1, 1) := by decide +kernel
theorem dX3_trip_1 : decode cX3_trip 1 = .ok (.invokestatic 37, 3) := by decide +kernel
theorem dX3_trip_4 : decode cX3_trip 4 = .ok (.ifCond .ne 10, 3) := by decide +kernel
theorem dX3_trip_7 : decode cX3_trip 7 = .ok (.aload_n 0, 1) := by decide +kernel
theorem dX3_trip_8 : decode cX3_trip 8 = .ok (.bipush (-2), 2) := by decide +kernel
theorem dX3_trip_10 : decode cX3_trip 10 = .ok (.invokevirtual 41, 3) := by decide +kernel
theorem dX3_trip_13 : decode cX3_trip 13 = .ok (.ireturn, 1) := by decide +kernel
theorem dX3_trip_14 : decode cX3_trip 14 = .ok (.aload_n 0, 1) := by decide +kernel
theorem dX3_trip_15 : decode cX3_trip 15 = .ok (.getfield 10, 3) := by decide +kernel
theorem dX3_trip_18 : decode cX3_trip 18 = .ok (.iload_n 1, 1) := by decide +kernel
theorem dX3_trip_19 : decode cX3_trip 19 = .ok (.invokevirtual 48, 3) := by decide +kernel
theorem dX3_trip_22 : decode cX3_trip 22 = .ok (.astore_n 2, 1) := by decide +kernel
theorem dX3_trip_23 : decode cX3_trip 23 = .ok (.aload_n 2, 1) := by decide +kernel
theorem dX3_trip_24 : decode cX3_trip 24 = .ok (.aload_n 0, 1) := by decide +kernel
theorem dX3_trip_25 : decode cX3_trip 25 = .ok (.getfield 10, 3) := by decide +kernel
theorem dX3_trip_28 : decode cX3_trip 28 = .ok (.getfield 83, 3) := by decide +kernel
theorem dX3_trip_31 : decode cX3_trip 31 = .ok (.invokevirtual 89, 3) := by decide +kernel
theorem dX3_trip_34 : decode cX3_trip 34 = .ok (.istore_n 3, 1) := by decide +kernel
theorem dX3_trip_35 : decode cX3_trip 35 = .ok (.aload_n 2, 1) := by decide +kernel
theorem dX3_trip_36 : decode cX3_trip 36 = .ok (.iload_n 3, 1) := by decide +kernel
theorem dX3_trip_37 : decode cX3_trip 37 = .ok (.invokevirtual 92, 3) := by decide +kernel
theorem dX3_trip_40 : decode cX3_trip 40 = .ok (.ifCond .ne 10, 3) := by decide +kernel
theorem dX3_trip_43 : decode cX3_trip 43 = .ok (.aload_n 0, 1) := by decide +kernel
theorem dX3_trip_44 : decode cX3_trip 44 = .ok (.bipush (-3), 2) := by decide +kernel
theorem dX3_trip_46 : decode cX3_trip 46 = .ok (.invokevirtual 41, 3) := by decide +kernel
theorem dX3_trip_49 : decode cX3_trip 49 = .ok (.ireturn, 1) := by decide +kernel
theorem dX3_trip_50 : decode cX3_trip 50 = .ok (.aload_n 0, 1) := by decide +kernel
theorem dX3_trip_51 : decode cX3_trip 51 = .ok (.invokevirtual 45, 3) := by decide +kernel
theorem dX3_trip_54 : decode cX3_trip 54 = .ok (.aload_n 0, 1) := by decide +kernel
theorem dX3_trip_55 : decode cX3_trip 55 = .ok (.aload_n 2, 1) := by decide +kernel
theorem dX3_trip_56 : decode cX3_trip 56 = .ok (.iload_n 3, 1) := by decide +kernel
theorem dX3_trip_57 : decode cX3_trip 57 = .ok (.iconst 0, 1) := by decide +kernel
theorem dX3_trip_58 : decode cX3_trip 58 = .ok (.invokevirtual 95, 3) := by decide +kernel
theorem dX3_trip_61 : decode cX3_trip 61 = .ok (.ireturn, 1) := by decide +kernel
set_option maxRecDepth 20000 in
theorem ggX3_nextDue_X3_isTrain : GoodIn wsX3_nextDue wsX3_isTrain := goodIn_r _ [6] (by decide +kernel) (by decide +kernel)
set_option maxRecDepth 20000 in
theorem gX3_nextDue_X3_isTrain : GoodIn wsX3_nextDue (va_wsS RX3 37 yX3_isTrain wsX3_isTrain) := goodIn_app (goodIn_of _ (by decide +kernel)) ggX3_nextDue_X3_isTrain
set_option maxRecDepth 20000 in
theorem ggX3_nextDue_X0_trainOf : GoodIn wsX3_nextDue wsX0_trainOf := goodIn_r _ [11, 12, 13, 45, 46, 47, 48, 49, 50, 51] (by decide +kernel) (by decide +kernel)
set_option maxRecDepth 20000 in
theorem gX3_nextDue_X0_trainOf : GoodIn wsX3_nextDue (wsV RX3 48 RX0 yX0_trainOf wsX0_trainOf) := goodIn_app (goodIn_of _ (by decide +kernel)) ggX3_nextDue_X0_trainOf
set_option maxRecDepth 20000 in
theorem ggX3_nextDue_X2_dueAfter : GoodIn wsX3_nextDue wsX2_dueAfter := goodIn_r _ [18, 19, 20, 21, 17, 22, 23, 24, 25, 26, 27, 28, 29, 30, 31, 52, 53, 54, 55, 56, 57] (by decide +kernel) (by decide +kernel)
set_option maxRecDepth 20000 in
theorem gX3_nextDue_X2_dueAfter : GoodIn wsX3_nextDue (wsV RX3 89 RX2 yX2_dueAfter wsX2_dueAfter) := goodIn_app (goodIn_of _ (by decide +kernel)) ggX3_nextDue_X2_dueAfter
set_option maxRecDepth 20000 in
theorem ggX3_nextDue_X3_refuse : GoodIn wsX3_nextDue wsX3_refuse := goodIn_r _ [35, 36, 37, 38, 5, 39, 40, 41, 42, 43, 44] (by decide +kernel) (by decide +kernel)
set_option maxRecDepth 20000 in
theorem gX3_nextDue_X3_refuse : GoodIn wsX3_nextDue (wsV RX3 41 RX3 yX3_refuse wsX3_refuse) := goodIn_app (goodIn_of _ (by decide +kernel)) ggX3_nextDue_X3_refuse
theorem dX3_nextDue_0 : decode cX3_nextDue 0 = .ok (.iload_n 1, 1) := by decide +kernel
theorem dX3_nextDue_1 : decode cX3_nextDue 1 = .ok (.invokestatic 37, 3) := by decide +kernel
theorem dX3_nextDue_4 : decode cX3_nextDue 4 = .ok (.ifCond .eq 24, 3) := by decide +kernel
theorem dX3_nextDue_7 : decode cX3_nextDue 7 = .ok (.aload_n 0, 1) := by decide +kernel
theorem dX3_nextDue_8 : decode cX3_nextDue 8 = .ok (.getfield 10, 3) := by decide +kernel
theorem dX3_nextDue_11 : decode cX3_nextDue 11 = .ok (.iload_n 1, 1) := by decide +kernel
theorem dX3_nextDue_12 : decode cX3_nextDue 12 = .ok (.invokevirtual 48, 3) := by decide +kernel
theorem dX3_nextDue_15 : decode cX3_nextDue 15 = .ok (.aload_n 0, 1) := by decide +kernel
theorem dX3_nextDue_16 : decode cX3_nextDue 16 = .ok (.getfield 10, 3) := by decide +kernel
theorem dX3_nextDue_19 : decode cX3_nextDue 19 = .ok (.getfield 83, 3) := by decide +kernel
theorem dX3_nextDue_22 : decode cX3_nextDue 22 = .ok (.invokevirtual 89, 3) := by decide +kernel
theorem dX3_nextDue_25 : decode cX3_nextDue 25 = .ok (.goto 9, 3) := by decide +kernel
theorem dX3_nextDue_28 : decode cX3_nextDue 28 = .ok (.aload_n 0, 1) := by decide +kernel
theorem dX3_nextDue_29 : decode cX3_nextDue 29 = .ok (.bipush (-2), 2) := by decide +kernel
theorem dX3_nextDue_31 : decode cX3_nextDue 31 = .ok (.invokevirtual 41, 3) := by decide +kernel
theorem dX3_nextDue_34 : decode cX3_nextDue 34 = .ok (.ireturn, 1) := by decide +kernel
set_option maxRecDepth 20000 in
theorem ggX3_lag_X3_isTrain : GoodIn wsX3_lag wsX3_isTrain := goodIn_r _ [6] (by decide +kernel) (by decide +kernel)
set_option maxRecDepth 20000 in
theorem gX3_lag_X3_isTrain : GoodIn wsX3_lag (va_wsS RX3 37 yX3_isTrain wsX3_isTrain) := goodIn_app (goodIn_of _ (by decide +kernel)) ggX3_lag_X3_isTrain
set_option maxRecDepth 20000 in
theorem ggX3_lag_X0_trainOf : GoodIn wsX3_lag wsX0_trainOf := goodIn_r _ [11, 12, 13, 51, 52, 53, 54, 55, 56, 57] (by decide +kernel) (by decide +kernel)
set_option maxRecDepth 20000 in
theorem gX3_lag_X0_trainOf : GoodIn wsX3_lag (wsV RX3 48 RX0 yX0_trainOf wsX0_trainOf) := goodIn_app (goodIn_of _ (by decide +kernel)) ggX3_lag_X0_trainOf
set_option maxRecDepth 20000 in
theorem ggX3_lag_X2_lagAt : GoodIn wsX3_lag wsX2_lagAt := goodIn_r _ [18, 19, 20, 21, 22, 23, 17, 24, 25, 26, 27, 28, 29, 30, 31, 32, 33, 34, 35, 36, 37, 58, 59, 60, 61, 62, 63] (by decide +kernel) (by decide +kernel)
set_option maxRecDepth 20000 in
theorem gX3_lag_X2_lagAt : GoodIn wsX3_lag (wsV RX3 99 RX2 yX2_lagAt wsX2_lagAt) := goodIn_app (goodIn_of _ (by decide +kernel)) ggX3_lag_X2_lagAt
set_option maxRecDepth 20000 in
theorem ggX3_lag_X3_refuse : GoodIn wsX3_lag wsX3_refuse := goodIn_r _ [41, 42, 43, 44, 5, 45, 46, 47, 48, 49, 50] (by decide +kernel) (by decide +kernel)
set_option maxRecDepth 20000 in
theorem gX3_lag_X3_refuse : GoodIn wsX3_lag (wsV RX3 41 RX3 yX3_refuse wsX3_refuse) := goodIn_app (goodIn_of _ (by decide +kernel)) ggX3_lag_X3_refuse
theorem dX3_lag_0 : decode cX3_lag 0 = .ok (.iload_n 1, 1) := by decide +kernel
theorem dX3_lag_1 : decode cX3_lag 1 = .ok (.invokestatic 37, 3) := by decide +kernel
theorem dX3_lag_4 : decode cX3_lag 4 = .ok (.ifCond .eq 24, 3) := by decide +kernel
theorem dX3_lag_7 : decode cX3_lag 7 = .ok (.aload_n 0, 1) := by decide +kernel
theorem dX3_lag_8 : decode cX3_lag 8 = .ok (.getfield 10, 3) := by decide +kernel
theorem dX3_lag_11 : decode cX3_lag 11 = .ok (.iload_n 1, 1) := by decide +kernel
theorem dX3_lag_12 : decode cX3_lag 12 = .ok (.invokevirtual 48, 3) := by decide +kernel
theorem dX3_lag_15 : decode cX3_lag 15 = .ok (.aload_n 0, 1) := by decide +kernel
theorem dX3_lag_16 : decode cX3_lag 16 = .ok (.getfield 10, 3) := by decide +kernel
theorem dX3_lag_19 : decode cX3_lag 19 = .ok (.getfield 83, 3) := by decide +kernel
theorem dX3_lag_22 : decode cX3_lag 22 = .ok (.invokevirtual 99, 3) := by decide +kernel
theorem dX3_lag_25 : decode cX3_lag 25 = .ok (.goto 9, 3) := by decide +kernel
theorem dX3_lag_28 : decode cX3_lag 28 = .ok (.aload_n 0, 1) := by decide +kernel
theorem dX3_lag_29 : decode cX3_lag 29 = .ok (.bipush (-2), 2) := by decide +kernel
theorem dX3_lag_31 : decode cX3_lag 31 = .ok (.invokevirtual 41, 3) := by decide +kernel
theorem dX3_lag_34 : decode cX3_lag 34 = .ok (.ireturn, 1) := by decide +kernel
set_option maxRecDepth 20000 in
theorem ggX3_blowsToCorrect_X3_isTrain : GoodIn wsX3_blowsToCorrect wsX3_isTrain := goodIn_r _ [7] (by decide +kernel) (by decide +kernel)
set_option maxRecDepth 20000 in
theorem gX3_blowsToCorrect_X3_isTrain : GoodIn wsX3_blowsToCorrect (va_wsS RX3 37 yX3_isTrain wsX3_isTrain) := goodIn_app (goodIn_of _ (by decide +kernel)) ggX3_blowsToCorrect_X3_isTrain
set_option maxRecDepth 20000 in
theorem ggX3_blowsToCorrect_X3_refuse : GoodIn wsX3_blowsToCorrect wsX3_refuse := goodIn_r _ [11, 12, 13, 14, 6, 15, 51, 52, 53, 54, 55] (by decide +kernel) (by decide +kernel)
set_option maxRecDepth 20000 in
theorem gX3_blowsToCorrect_X3_refuse : GoodIn wsX3_blowsToCorrect (wsV RX3 41 RX3 yX3_refuse wsX3_refuse) := goodIn_app (goodIn_of _ (by decide +kernel)) ggX3_blowsToCorrect_X3_refuse
set_option maxRecDepth 20000 in
theorem ggX3_blowsToCorrect_X0_trainOf : GoodIn wsX3_blowsToCorrect wsX0_trainOf := goodIn_r _ [20, 21, 22, 56, 57, 58, 59, 60, 61, 62] (by decide +kernel) (by decide +kernel)
set_option maxRecDepth 20000 in
theorem gX3_blowsToCorrect_X0_trainOf : GoodIn wsX3_blowsToCorrect (wsV RX3 48 RX0 yX0_trainOf wsX0_trainOf) := goodIn_app (goodIn_of _ (by decide +kernel)) ggX3_blowsToCorrect_X0_trainOf
set_option maxRecDepth 20000 in
theorem ggX3_blowsToCorrect_X2_lagAt : GoodIn wsX3_blowsToCorrect wsX2_lagAt := goodIn_r _ [27, 28, 29, 30, 31, 32, 26, 33, 34, 35, 36, 37, 38, 39, 40, 41, 42, 43, 44, 45, 46, 63, 64, 65, 66, 67, 68] (by decide +kernel) (by decide +kernel)
set_option maxRecDepth 20000 in
theorem gX3_blowsToCorrect_X2_lagAt : GoodIn wsX3_blowsToCorrect (wsV RX3 99 RX2 yX2_lagAt wsX2_lagAt) := goodIn_app (goodIn_of _ (by decide +kernel)) ggX3_blowsToCorrect_X2_lagAt
set_option maxRecDepth 20000 in
theorem ggX3_blowsToCorrect_X2_positionAfter : GoodIn wsX3_blowsToCorrect wsX2_positionAfter := goodIn_r _ [50, 43, 44, 45, 26, 46, 38, 63, 64, 65, 66, 67, 68] (by decide +kernel) (by decide +kernel)
set_option maxRecDepth 20000 in
theorem gX3_blowsToCorrect_X2_positionAfter : GoodIn wsX3_blowsToCorrect (wsV RX3 102 RX2 yX2_positionAfter wsX2_positionAfter) := goodIn_app (goodIn_of _ (by decide +kernel)) ggX3_blowsToCorrect_X2_positionAfter
theorem dX3_blowsToCorrect_0 : decode cX3_blowsToCorrect 0 = .ok (.iload_n 1, 1) := by decide +kernel
theorem dX3_blowsToCorrect_1 : decode cX3_blowsToCorrect 1 = .ok (.invokestatic 37, 3) := by decide +kernel
theorem dX3_blowsToCorrect_4 : decode cX3_blowsToCorrect 4 = .ok (.ifCond .ne 10, 3) := by decide +kernel
theorem dX3_blowsToCorrect_7 : decode cX3_blowsToCorrect 7 = .ok (.aload_n 0, 1) := by decide +kernel
theorem dX3_blowsToCorrect_8 : decode cX3_blowsToCorrect 8 = .ok (.bipush (-2), 2) := by decide +kernel
theorem dX3_blowsToCorrect_10 : decode cX3_blowsToCorrect 10 = .ok (.invokevirtual 41, 3) := by decide +kernel
theorem dX3_blowsToCorrect_13 : decode cX3_blowsToCorrect 13 = .ok (.ireturn, 1) := by decide +kernel
theorem dX3_blowsToCorrect_14 : decode cX3_blowsToCorrect 14 = .ok (.aload_n 0, 1) := by decide +kernel
theorem dX3_blowsToCorrect_15 : decode cX3_blowsToCorrect 15 = .ok (.getfield 10, 3) := by decide +kernel
theorem dX3_blowsToCorrect_18 : decode cX3_blowsToCorrect 18 = .ok (.iload_n 1, 1) := by decide +kernel
theorem dX3_blowsToCorrect_19 : decode cX3_blowsToCorrect 19 = .ok (.invokevirtual 48, 3) := by decide +kernel
theorem dX3_blowsToCorrect_22 : decode cX3_blowsToCorrect 22 = .ok (.astore_n 2, 1) := by decide +kernel
theorem dX3_blowsToCorrect_23 : decode cX3_blowsToCorrect 23 = .ok (.aload_n 2, 1) := by decide +kernel
theorem dX3_blowsToCorrect_24 : decode cX3_blowsToCorrect 24 = .ok (.aload_n 0, 1) := by decide +kernel
theorem dX3_blowsToCorrect_25 : decode cX3_blowsToCorrect 25 = .ok (.getfield 10, 3) := by decide +kernel
theorem dX3_blowsToCorrect_28 : decode cX3_blowsToCorrect 28 = .ok (.getfield 83, 3) := by decide +kernel
theorem dX3_blowsToCorrect_31 : decode cX3_blowsToCorrect 31 = .ok (.invokevirtual 99, 3) := by decide +kernel
theorem dX3_blowsToCorrect_34 : decode cX3_blowsToCorrect 34 = .ok (.istore_n 3, 1) := by decide +kernel
theorem dX3_blowsToCorrect_35 : decode cX3_blowsToCorrect 35 = .ok (.aload_n 2, 1) := by decide +kernel
theorem dX3_blowsToCorrect_36 : decode cX3_blowsToCorrect 36 = .ok (.getfield 59, 3) := by decide +kernel
theorem dX3_blowsToCorrect_39 : decode cX3_blowsToCorrect 39 = .ok (.istore 4, 2) := by decide +kernel
theorem dX3_blowsToCorrect_41 : decode cX3_blowsToCorrect 41 = .ok (.iconst 0, 1) := by decide +kernel
theorem dX3_blowsToCorrect_42 : decode cX3_blowsToCorrect 42 = .ok (.istore 5, 2) := by decide +kernel
theorem dX3_blowsToCorrect_44 : decode cX3_blowsToCorrect 44 = .ok (.iconst 0, 1) := by decide +kernel
theorem dX3_blowsToCorrect_45 : decode cX3_blowsToCorrect 45 = .ok (.istore 6, 2) := by decide +kernel
theorem dX3_blowsToCorrect_47 : decode cX3_blowsToCorrect 47 = .ok (.iload 6, 2) := by decide +kernel
theorem dX3_blowsToCorrect_49 : decode cX3_blowsToCorrect 49 = .ok (.iload_n 3, 1) := by decide +kernel
theorem dX3_blowsToCorrect_50 : decode cX3_blowsToCorrect 50 = .ok (.if_icmp .ge 24, 3) := by decide +kernel
theorem dX3_blowsToCorrect_53 : decode cX3_blowsToCorrect 53 = .ok (.iload 5, 2) := by decide +kernel
theorem dX3_blowsToCorrect_55 : decode cX3_blowsToCorrect 55 = .ok (.iload 4, 2) := by decide +kernel
theorem dX3_blowsToCorrect_57 : decode cX3_blowsToCorrect 57 = .ok (.iadd, 1) := by decide +kernel
theorem dX3_blowsToCorrect_58 : decode cX3_blowsToCorrect 58 = .ok (.istore 5, 2) := by decide +kernel
theorem dX3_blowsToCorrect_60 : decode cX3_blowsToCorrect 60 = .ok (.aload_n 2, 1) := by decide +kernel
theorem dX3_blowsToCorrect_61 : decode cX3_blowsToCorrect 61 = .ok (.iload 4, 2) := by decide +kernel
theorem dX3_blowsToCorrect_63 : decode cX3_blowsToCorrect 63 = .ok (.invokevirtual 102, 3) := by decide +kernel
theorem dX3_blowsToCorrect_66 : decode cX3_blowsToCorrect 66 = .ok (.istore 4, 2) := by decide +kernel
theorem dX3_blowsToCorrect_68 : decode cX3_blowsToCorrect 68 = .ok (.iinc 6 1, 3) := by decide +kernel
theorem dX3_blowsToCorrect_71 : decode cX3_blowsToCorrect 71 = .ok (.goto (-24), 3) := by decide +kernel
theorem dX3_blowsToCorrect_74 : decode cX3_blowsToCorrect 74 = .ok (.iload 5, 2) := by decide +kernel
theorem dX3_blowsToCorrect_76 : decode cX3_blowsToCorrect 76 = .ok (.ireturn, 1) := by decide +kernel
set_option maxRecDepth 20000 in
theorem ggX3_handsToCorrect_X3_isTrain : GoodIn wsX3_handsToCorrect wsX3_isTrain := goodIn_r _ [6] (by decide +kernel) (by decide +kernel)
set_option maxRecDepth 20000 in
theorem gX3_handsToCorrect_X3_isTrain : GoodIn wsX3_handsToCorrect (va_wsS RX3 37 yX3_isTrain wsX3_isTrain) := goodIn_app (goodIn_of _ (by decide +kernel)) ggX3_handsToCorrect_X3_isTrain
set_option maxRecDepth 20000 in
theorem ggX3_handsToCorrect_X3_refuse : GoodIn wsX3_handsToCorrect wsX3_refuse := goodIn_r _ [10, 11, 12, 13, 5, 14, 52, 53, 54, 55, 56] (by decide +kernel) (by decide +kernel)
set_option maxRecDepth 20000 in
theorem gX3_handsToCorrect_X3_refuse : GoodIn wsX3_handsToCorrect (wsV RX3 41 RX3 yX3_refuse wsX3_refuse) := goodIn_app (goodIn_of _ (by decide +kernel)) ggX3_handsToCorrect_X3_refuse
set_option maxRecDepth 20000 in
theorem ggX3_handsToCorrect_X0_trainOf : GoodIn wsX3_handsToCorrect wsX0_trainOf := goodIn_r _ [19, 20, 21, 57, 58, 59, 60, 61, 62, 63] (by decide +kernel) (by decide +kernel)
set_option maxRecDepth 20000 in
theorem gX3_handsToCorrect_X0_trainOf : GoodIn wsX3_handsToCorrect (wsV RX3 48 RX0 yX0_trainOf wsX0_trainOf) := goodIn_app (goodIn_of _ (by decide +kernel)) ggX3_handsToCorrect_X0_trainOf
set_option maxRecDepth 20000 in
theorem ggX3_handsToCorrect_X2_lagAt : GoodIn wsX3_handsToCorrect wsX2_lagAt := goodIn_r _ [26, 27, 28, 29, 30, 31, 25, 32, 33, 34, 35, 36, 37, 38, 39, 40, 41, 42, 43, 44, 45, 64, 65, 66, 67, 68, 69] (by decide +kernel) (by decide +kernel)
set_option maxRecDepth 20000 in
theorem gX3_handsToCorrect_X2_lagAt : GoodIn wsX3_handsToCorrect (wsV RX3 99 RX2 yX2_lagAt wsX2_lagAt) := goodIn_app (goodIn_of _ (by decide +kernel)) ggX3_handsToCorrect_X2_lagAt
set_option maxRecDepth 20000 in
theorem ggX3_handsToCorrect_X2_lastPosition : GoodIn wsX3_handsToCorrect wsX2_lastPosition := goodIn_r _ [45, 37, 64, 65, 66, 67, 68, 69] (by decide +kernel) (by decide +kernel)
set_option maxRecDepth 20000 in
theorem gX3_handsToCorrect_X2_lastPosition : GoodIn wsX3_handsToCorrect (wsV RX3 55 RX2 yX2_lastPosition wsX2_lastPosition) := goodIn_app (goodIn_of _ (by decide +kernel)) ggX3_handsToCorrect_X2_lastPosition
set_option maxRecDepth 20000 in
theorem ggX3_handsToCorrect_X2_lastReleaseUpTo : GoodIn wsX3_handsToCorrect wsX2_lastReleaseUpTo := goodIn_r _ [50, 37, 64, 65, 66, 67, 68, 69] (by decide +kernel) (by decide +kernel)
set_option maxRecDepth 20000 in
theorem gX3_handsToCorrect_X2_lastReleaseUpTo : GoodIn wsX3_handsToCorrect (wsV RX3 105 RX2 yX2_lastReleaseUpTo wsX2_lastReleaseUpTo) := goodIn_app (goodIn_of _ (by decide +kernel)) ggX3_handsToCorrect_X2_lastReleaseUpTo
set_option maxRecDepth 20000 in
theorem ggX3_handsToCorrect_X2_period : GoodIn wsX3_handsToCorrect wsX2_period := goodIn_r _ [36, 37, 64, 65, 66, 67, 68, 69] (by decide +kernel) (by decide +kernel)
set_option maxRecDepth 20000 in
theorem gX3_handsToCorrect_X2_period : GoodIn wsX3_handsToCorrect (wsV RX3 108 RX2 yX2_period wsX2_period) := goodIn_app (goodIn_of _ (by decide +kernel)) ggX3_handsToCorrect_X2_period
theorem dX3_handsToCorrect_0 : decode cX3_handsToCorrect 0 = .ok (.iload_n 1, 1) := by decide +kernel
theorem dX3_handsToCorrect_1 : decode cX3_handsToCorrect 1 = .ok (.invokestatic 37, 3) := by decide +kernel
theorem dX3_handsToCorrect_4 : decode cX3_handsToCorrect 4 = .ok (.ifCond .ne 10, 3) := by decide +kernel
theorem dX3_handsToCorrect_7 : decode cX3_handsToCorrect 7 = .ok (.aload_n 0, 1) := by decide +kernel
theorem dX3_handsToCorrect_8 : decode cX3_handsToCorrect 8 = .ok (.bipush (-2), 2) := by decide +kernel
theorem dX3_handsToCorrect_10 : decode cX3_handsToCorrect 10 = .ok (.invokevirtual 41, 3) := by decide +kernel
theorem dX3_handsToCorrect_13 : decode cX3_handsToCorrect 13 = .ok (.ireturn, 1) := by decide +kernel
theorem dX3_handsToCorrect_14 : decode cX3_handsToCorrect 14 = .ok (.aload_n 0, 1) := by decide +kernel
theorem dX3_handsToCorrect_15 : decode cX3_handsToCorrect 15 = .ok (.getfield 10, 3) := by decide +kernel
theorem dX3_handsToCorrect_18 : decode cX3_handsToCorrect 18 = .ok (.iload_n 1, 1) := by decide +kernel
theorem dX3_handsToCorrect_19 : decode cX3_handsToCorrect 19 = .ok (.invokevirtual 48, 3) := by decide +kernel
theorem dX3_handsToCorrect_22 : decode cX3_handsToCorrect 22 = .ok (.astore_n 2, 1) := by decide +kernel
theorem dX3_handsToCorrect_23 : decode cX3_handsToCorrect 23 = .ok (.aload_n 2, 1) := by decide +kernel
theorem dX3_handsToCorrect_24 : decode cX3_handsToCorrect 24 = .ok (.aload_n 0, 1) := by decide +kernel
theorem dX3_handsToCorrect_25 : decode cX3_handsToCorrect 25 = .ok (.getfield 10, 3) := by decide +kernel
theorem dX3_handsToCorrect_28 : decode cX3_handsToCorrect 28 = .ok (.getfield 83, 3) := by decide +kernel
theorem dX3_handsToCorrect_31 : decode cX3_handsToCorrect 31 = .ok (.invokevirtual 99, 3) := by decide +kernel
theorem dX3_handsToCorrect_34 : decode cX3_handsToCorrect 34 = .ok (.istore_n 3, 1) := by decide +kernel
theorem dX3_handsToCorrect_35 : decode cX3_handsToCorrect 35 = .ok (.iload_n 3, 1) := by decide +kernel
theorem dX3_handsToCorrect_36 : decode cX3_handsToCorrect 36 = .ok (.ifCond .ne 11, 3) := by decide +kernel
theorem dX3_handsToCorrect_39 : decode cX3_handsToCorrect 39 = .ok (.aload_n 0, 1) := by decide +kernel
theorem dX3_handsToCorrect_40 : decode cX3_handsToCorrect 40 = .ok (.getfield 10, 3) := by decide +kernel
theorem dX3_handsToCorrect_43 : decode cX3_handsToCorrect 43 = .ok (.getfield 83, 3) := by decide +kernel
theorem dX3_handsToCorrect_46 : decode cX3_handsToCorrect 46 = .ok (.ireturn, 1) := by decide +kernel
theorem dX3_handsToCorrect_47 : decode cX3_handsToCorrect 47 = .ok (.aload_n 2, 1) := by decide +kernel
theorem dX3_handsToCorrect_48 : decode cX3_handsToCorrect 48 = .ok (.invokevirtual 55, 3) := by decide +kernel
theorem dX3_handsToCorrect_51 : decode cX3_handsToCorrect 51 = .ok (.iload_n 3, 1) := by decide +kernel
theorem dX3_handsToCorrect_52 : decode cX3_handsToCorrect 52 = .ok (.isub, 1) := by decide +kernel
theorem dX3_handsToCorrect_53 : decode cX3_handsToCorrect 53 = .ok (.istore 4, 2) := by decide +kernel
theorem dX3_handsToCorrect_55 : decode cX3_handsToCorrect 55 = .ok (.aload_n 2, 1) := by decide +kernel
theorem dX3_handsToCorrect_56 : decode cX3_handsToCorrect 56 = .ok (.aload_n 0, 1) := by decide +kernel
theorem dX3_handsToCorrect_57 : decode cX3_handsToCorrect 57 = .ok (.getfield 10, 3) := by decide +kernel
theorem dX3_handsToCorrect_60 : decode cX3_handsToCorrect 60 = .ok (.getfield 83, 3) := by decide +kernel
theorem dX3_handsToCorrect_63 : decode cX3_handsToCorrect 63 = .ok (.invokevirtual 105, 3) := by decide +kernel
theorem dX3_handsToCorrect_66 : decode cX3_handsToCorrect 66 = .ok (.iload 4, 2) := by decide +kernel
theorem dX3_handsToCorrect_68 : decode cX3_handsToCorrect 68 = .ok (.aload_n 2, 1) := by decide +kernel
theorem dX3_handsToCorrect_69 : decode cX3_handsToCorrect 69 = .ok (.invokevirtual 108, 3) := by decide +kernel
theorem dX3_handsToCorrect_72 : decode cX3_handsToCorrect 72 = .ok (.imul, 1) := by decide +kernel
theorem dX3_handsToCorrect_73 : decode cX3_handsToCorrect 73 = .ok (.iadd, 1) := by decide +kernel
theorem dX3_handsToCorrect_74 : decode cX3_handsToCorrect 74 = .ok (.sipush 1440, 3) := by decide +kernel
theorem dX3_handsToCorrect_77 : decode cX3_handsToCorrect 77 = .ok (.irem, 1) := by decide +kernel
theorem dX3_handsToCorrect_78 : decode cX3_handsToCorrect 78 = .ok (.ireturn, 1) := by decide +kernel
set_option maxRecDepth 20000 in
theorem ggX3_minutesToMiss_X3_isTrain : GoodIn wsX3_minutesToMiss wsX3_isTrain := goodIn_r _ [8] (by decide +kernel) (by decide +kernel)
set_option maxRecDepth 20000 in
theorem gX3_minutesToMiss_X3_isTrain : GoodIn wsX3_minutesToMiss (va_wsS RX3 37 yX3_isTrain wsX3_isTrain) := goodIn_app (goodIn_of _ (by decide +kernel)) ggX3_minutesToMiss_X3_isTrain
set_option maxRecDepth 20000 in
theorem ggX3_minutesToMiss_X3_refuse : GoodIn wsX3_minutesToMiss wsX3_refuse := goodIn_r _ [12, 13, 14, 15, 7, 16, 78, 79, 80, 81, 82] (by decide +kernel) (by decide +kernel)
set_option maxRecDepth 20000 in
theorem gX3_minutesToMiss_X3_refuse : GoodIn wsX3_minutesToMiss (wsV RX3 41 RX3 yX3_refuse wsX3_refuse) := goodIn_app (goodIn_of _ (by decide +kernel)) ggX3_minutesToMiss_X3_refuse
set_option maxRecDepth 20000 in
theorem ggX3_minutesToMiss_X0_trainOf : GoodIn wsX3_minutesToMiss wsX0_trainOf := goodIn_r _ [21, 22, 23, 89, 90, 91, 92, 93, 94, 95] (by decide +kernel) (by decide +kernel)
set_option maxRecDepth 20000 in
theorem gX3_minutesToMiss_X0_trainOf : GoodIn wsX3_minutesToMiss (wsV RX3 48 RX0 yX0_trainOf wsX0_trainOf) := goodIn_app (goodIn_of _ (by decide +kernel)) ggX3_minutesToMiss_X0_trainOf
set_option maxRecDepth 20000 in
theorem ggX3_minutesToMiss_X2_copyFrom : GoodIn wsX3_minutesToMiss wsX2_copyFrom := goodIn_r _ [28, 29, 30, 31, 32, 33, 34, 83, 84, 85, 86, 87, 88] (by decide +kernel) (by decide +kernel)
set_option maxRecDepth 20000 in
theorem gX3_minutesToMiss_X2_copyFrom : GoodIn wsX3_minutesToMiss (wsV RX3 111 RX2 yX2_copyFrom wsX2_copyFrom) := goodIn_app (goodIn_of _ (by decide +kernel)) ggX3_minutesToMiss_X2_copyFrom
set_option maxRecDepth 20000 in
theorem ggX3_minutesToMiss_X2_isReleasedAt : GoodIn wsX3_minutesToMiss wsX2_isReleasedAt := goodIn_r _ [38, 39, 40, 41, 27, 42, 29, 83, 84, 85, 86, 87, 88] (by decide +kernel) (by decide +kernel)
set_option maxRecDepth 20000 in
theorem gX3_minutesToMiss_X2_isReleasedAt : GoodIn wsX3_minutesToMiss (wsV RX3 118 RX2 yX2_isReleasedAt wsX2_isReleasedAt) := goodIn_app (goodIn_of _ (by decide +kernel)) ggX3_minutesToMiss_X2_isReleasedAt
set_option maxRecDepth 20000 in
theorem ggX3_minutesToMiss_X0_blocksAt : GoodIn wsX3_minutesToMiss wsX0_blocksAt := goodIn_r _ [46, 47, 48, 49, 50, 20, 51, 52, 53, 89, 90, 91, 92, 93, 94, 95] (by decide +kernel) (by decide +kernel)
set_option maxRecDepth 20000 in
theorem gX3_minutesToMiss_X0_blocksAt : GoodIn wsX3_minutesToMiss (wsV RX3 121 RX0 yX0_blocksAt wsX0_blocksAt) := goodIn_app (goodIn_of _ (by decide +kernel)) ggX3_minutesToMiss_X0_blocksAt
set_option maxRecDepth 20000 in
theorem ggX3_minutesToMiss_X2_dueAt : GoodIn wsX3_minutesToMiss wsX2_dueAt := goodIn_r _ [57, 29, 58, 59, 60, 27, 61, 83, 84, 85, 86, 87, 88] (by decide +kernel) (by decide +kernel)
set_option maxRecDepth 20000 in
theorem gX3_minutesToMiss_X2_dueAt : GoodIn wsX3_minutesToMiss (wsV RX3 124 RX2 yX2_dueAt wsX2_dueAt) := goodIn_app (goodIn_of _ (by decide +kernel)) ggX3_minutesToMiss_X2_dueAt
set_option maxRecDepth 20000 in
theorem ggX3_minutesToMiss_X2_releaseWith : GoodIn wsX3_minutesToMiss wsX2_releaseWith := goodIn_r _ [65, 30, 34, 32, 31, 66, 67, 68, 27, 69, 70, 71, 72, 73, 74, 75, 76, 77, 58, 59, 60, 61, 29, 83, 84, 85, 86, 87, 88] (by decide +kernel) (by decide +kernel)
set_option maxRecDepth 20000 in
theorem gX3_minutesToMiss_X2_releaseWith : GoodIn wsX3_minutesToMiss (wsV RX3 127 RX2 yX2_releaseWith wsX2_releaseWith) := goodIn_app (goodIn_of _ (by decide +kernel)) ggX3_minutesToMiss_X2_releaseWith
theorem dX3_minutesToMiss_0 : decode cX3_minutesToMiss 0 = .ok (.iload_n 1, 1) := by decide +kernel
theorem dX3_minutesToMiss_1 : decode cX3_minutesToMiss 1 = .ok (.invokestatic 37, 3) := by decide +kernel
theorem dX3_minutesToMiss_4 : decode cX3_minutesToMiss 4 = .ok (.ifCond .ne 10, 3) := by decide +kernel
theorem dX3_minutesToMiss_7 : decode cX3_minutesToMiss 7 = .ok (.aload_n 0, 1) := by decide +kernel
theorem dX3_minutesToMiss_8 : decode cX3_minutesToMiss 8 = .ok (.bipush (-2), 2) := by decide +kernel
theorem dX3_minutesToMiss_10 : decode cX3_minutesToMiss 10 = .ok (.invokevirtual 41, 3) := by decide +kernel
theorem dX3_minutesToMiss_13 : decode cX3_minutesToMiss 13 = .ok (.ireturn, 1) := by decide +kernel
theorem dX3_minutesToMiss_14 : decode cX3_minutesToMiss 14 = .ok (.aload_n 0, 1) := by decide +kernel
theorem dX3_minutesToMiss_15 : decode cX3_minutesToMiss 15 = .ok (.getfield 25, 3) := by decide +kernel
theorem dX3_minutesToMiss_18 : decode cX3_minutesToMiss 18 = .ok (.aload_n 0, 1) := by decide +kernel
theorem dX3_minutesToMiss_19 : decode cX3_minutesToMiss 19 = .ok (.getfield 10, 3) := by decide +kernel
theorem dX3_minutesToMiss_22 : decode cX3_minutesToMiss 22 = .ok (.iload_n 1, 1) := by decide +kernel
theorem dX3_minutesToMiss_23 : decode cX3_minutesToMiss 23 = .ok (.invokevirtual 48, 3) := by decide +kernel
theorem dX3_minutesToMiss_26 : decode cX3_minutesToMiss 26 = .ok (.invokevirtual 111, 3) := by decide +kernel
theorem dX3_minutesToMiss_29 : decode cX3_minutesToMiss 29 = .ok (.aload_n 0, 1) := by decide +kernel
theorem dX3_minutesToMiss_30 : decode cX3_minutesToMiss 30 = .ok (.getfield 25, 3) := by decide +kernel
theorem dX3_minutesToMiss_33 : decode cX3_minutesToMiss 33 = .ok (.getfield 115, 3) := by decide +kernel
theorem dX3_minutesToMiss_36 : decode cX3_minutesToMiss 36 = .ok (.istore_n 2, 1) := by decide +kernel
theorem dX3_minutesToMiss_37 : decode cX3_minutesToMiss 37 = .ok (.bipush 15, 2) := by decide +kernel
theorem dX3_minutesToMiss_39 : decode cX3_minutesToMiss 39 = .ok (.aload_n 0, 1) := by decide +kernel
theorem dX3_minutesToMiss_40 : decode cX3_minutesToMiss 40 = .ok (.getfield 10, 3) := by decide +kernel
theorem dX3_minutesToMiss_43 : decode cX3_minutesToMiss 43 = .ok (.getfield 83, 3) := by decide +kernel
theorem dX3_minutesToMiss_46 : decode cX3_minutesToMiss 46 = .ok (.bipush 15, 2) := by decide +kernel
theorem dX3_minutesToMiss_48 : decode cX3_minutesToMiss 48 = .ok (.irem, 1) := by decide +kernel
theorem dX3_minutesToMiss_49 : decode cX3_minutesToMiss 49 = .ok (.isub, 1) := by decide +kernel
theorem dX3_minutesToMiss_50 : decode cX3_minutesToMiss 50 = .ok (.istore_n 3, 1) := by decide +kernel
theorem dX3_minutesToMiss_51 : decode cX3_minutesToMiss 51 = .ok (.iload_n 3, 1) := by decide +kernel
theorem dX3_minutesToMiss_52 : decode cX3_minutesToMiss 52 = .ok (.sipush 20000, 3) := by decide +kernel
theorem dX3_minutesToMiss_55 : decode cX3_minutesToMiss 55 = .ok (.if_icmp .gt 78, 3) := by decide +kernel
theorem dX3_minutesToMiss_58 : decode cX3_minutesToMiss 58 = .ok (.aload_n 0, 1) := by decide +kernel
theorem dX3_minutesToMiss_59 : decode cX3_minutesToMiss 59 = .ok (.getfield 10, 3) := by decide +kernel
theorem dX3_minutesToMiss_62 : decode cX3_minutesToMiss 62 = .ok (.getfield 83, 3) := by decide +kernel
theorem dX3_minutesToMiss_65 : decode cX3_minutesToMiss 65 = .ok (.iload_n 3, 1) := by decide +kernel
theorem dX3_minutesToMiss_66 : decode cX3_minutesToMiss 66 = .ok (.iadd, 1) := by decide +kernel
theorem dX3_minutesToMiss_67 : decode cX3_minutesToMiss 67 = .ok (.sipush 1440, 3) := by decide +kernel
theorem dX3_minutesToMiss_70 : decode cX3_minutesToMiss 70 = .ok (.irem, 1) := by decide +kernel
theorem dX3_minutesToMiss_71 : decode cX3_minutesToMiss 71 = .ok (.istore 4, 2) := by decide +kernel
theorem dX3_minutesToMiss_73 : decode cX3_minutesToMiss 73 = .ok (.aload_n 0, 1) := by decide +kernel
theorem dX3_minutesToMiss_74 : decode cX3_minutesToMiss 74 = .ok (.getfield 25, 3) := by decide +kernel
theorem dX3_minutesToMiss_77 : decode cX3_minutesToMiss 77 = .ok (.iload 4, 2) := by decide +kernel
theorem dX3_minutesToMiss_79 : decode cX3_minutesToMiss 79 = .ok (.invokevirtual 118, 3) := by decide +kernel
theorem dX3_minutesToMiss_82 : decode cX3_minutesToMiss 82 = .ok (.ifCond .eq 32, 3) := by decide +kernel
theorem dX3_minutesToMiss_85 : decode cX3_minutesToMiss 85 = .ok (.aload_n 0, 1) := by decide +kernel
theorem dX3_minutesToMiss_86 : decode cX3_minutesToMiss 86 = .ok (.getfield 10, 3) := by decide +kernel
theorem dX3_minutesToMiss_89 : decode cX3_minutesToMiss 89 = .ok (.iload 4, 2) := by decide +kernel
theorem dX3_minutesToMiss_91 : decode cX3_minutesToMiss 91 = .ok (.invokevirtual 121, 3) := by decide +kernel
theorem dX3_minutesToMiss_94 : decode cX3_minutesToMiss 94 = .ok (.ifCond .ne 20, 3) := by decide +kernel
theorem dX3_minutesToMiss_97 : decode cX3_minutesToMiss 97 = .ok (.aload_n 0, 1) := by decide +kernel
theorem dX3_minutesToMiss_98 : decode cX3_minutesToMiss 98 = .ok (.getfield 25, 3) := by decide +kernel
theorem dX3_minutesToMiss_101 : decode cX3_minutesToMiss 101 = .ok (.aload_n 0, 1) := by decide +kernel
theorem dX3_minutesToMiss_102 : decode cX3_minutesToMiss 102 = .ok (.getfield 25, 3) := by decide +kernel
theorem dX3_minutesToMiss_105 : decode cX3_minutesToMiss 105 = .ok (.iload 4, 2) := by decide +kernel
theorem dX3_minutesToMiss_107 : decode cX3_minutesToMiss 107 = .ok (.invokevirtual 124, 3) := by decide +kernel
theorem dX3_minutesToMiss_110 : decode cX3_minutesToMiss 110 = .ok (.invokevirtual 127, 3) := by decide +kernel
theorem dX3_minutesToMiss_113 : decode cX3_minutesToMiss 113 = .ok (.pop, 1) := by decide +kernel
theorem dX3_minutesToMiss_114 : decode cX3_minutesToMiss 114 = .ok (.aload_n 0, 1) := by decide +kernel
theorem dX3_minutesToMiss_115 : decode cX3_minutesToMiss 115 = .ok (.getfield 25, 3) := by decide +kernel
theorem dX3_minutesToMiss_118 : decode cX3_minutesToMiss 118 = .ok (.getfield 115, 3) := by decide +kernel
theorem dX3_minutesToMiss_121 : decode cX3_minutesToMiss 121 = .ok (.iload_n 2, 1) := by decide +kernel
theorem dX3_minutesToMiss_122 : decode cX3_minutesToMiss 122 = .ok (.if_icmp .eq 5, 3) := by decide +kernel
theorem dX3_minutesToMiss_125 : decode cX3_minutesToMiss 125 = .ok (.iload_n 3, 1) := by decide +kernel
theorem dX3_minutesToMiss_126 : decode cX3_minutesToMiss 126 = .ok (.ireturn, 1) := by decide +kernel
theorem dX3_minutesToMiss_127 : decode cX3_minutesToMiss 127 = .ok (.iinc 3 15, 3) := by decide +kernel
theorem dX3_minutesToMiss_130 : decode cX3_minutesToMiss 130 = .ok (.goto (-79), 3) := by decide +kernel
theorem dX3_minutesToMiss_133 : decode cX3_minutesToMiss 133 = .ok (.iconst (-1), 1) := by decide +kernel
theorem dX3_minutesToMiss_134 : decode cX3_minutesToMiss 134 = .ok (.ireturn, 1) := by decide +kernel
theorem dX3_minute_0 : decode cX3_minute 0 = .ok (.aload_n 0, 1) := by decide +kernel
theorem dX3_minute_1 : decode cX3_minute 1 = .ok (.getfield 10, 3) := by decide +kernel
theorem dX3_minute_4 : decode cX3_minute 4 = .ok (.getfield 83, 3) := by decide +kernel
theorem dX3_minute_7 : decode cX3_minute 7 = .ok (.ireturn, 1) := by decide +kernel
set_option maxRecDepth 20000 in
theorem ggX3_position_X3_isTrain : GoodIn wsX3_position wsX3_isTrain := goodIn_r _ [6] (by decide +kernel) (by decide +kernel)
set_option maxRecDepth 20000 in
theorem gX3_position_X3_isTrain : GoodIn wsX3_position (va_wsS RX3 37 yX3_isTrain wsX3_isTrain) := goodIn_app (goodIn_of _ (by decide +kernel)) ggX3_position_X3_isTrain
set_option maxRecDepth 20000 in
theorem ggX3_position_X0_trainOf : GoodIn wsX3_position wsX0_trainOf := goodIn_r _ [11, 12, 13, 33, 34, 35, 36, 37, 38, 39] (by decide +kernel) (by decide +kernel)
set_option maxRecDepth 20000 in
theorem gX3_position_X0_trainOf : GoodIn wsX3_position (wsV RX3 48 RX0 yX0_trainOf wsX0_trainOf) := goodIn_app (goodIn_of _ (by decide +kernel)) ggX3_position_X0_trainOf
set_option maxRecDepth 20000 in
theorem ggX3_position_X3_refuse : GoodIn wsX3_position wsX3_refuse := goodIn_r _ [17, 18, 19, 20, 5, 21, 22, 23, 24, 25, 26] (by decide +kernel) (by decide +kernel)
set_option maxRecDepth 20000 in
theorem gX3_position_X3_refuse : GoodIn wsX3_position (wsV RX3 41 RX3 yX3_refuse wsX3_refuse) := goodIn_app (goodIn_of _ (by decide +kernel)) ggX3_position_X3_refuse
theorem dX3_position_0 : decode cX3_position 0 = .ok (.iload_n 1, 1) := by decide +kernel
theorem dX3_position_1 : decode cX3_position 1 = .ok (.invokestatic 37, 3) := by decide +kernel
theorem dX3_position_4 : decode cX3_position 4 = .ok (.ifCond .eq 17, 3) := by decide +kernel
theorem dX3_position_7 : decode cX3_position 7 = .ok (.aload_n 0, 1) := by decide +kernel
theorem dX3_position_8 : decode cX3_position 8 = .ok (.getfield 10, 3) := by decide +kernel
theorem dX3_position_11 : decode cX3_position 11 = .ok (.iload_n 1, 1) := by decide +kernel
theorem dX3_position_12 : decode cX3_position 12 = .ok (.invokevirtual 48, 3) := by decide +kernel
theorem dX3_position_15 : decode cX3_position 15 = .ok (.getfield 59, 3) := by decide +kernel
theorem dX3_position_18 : decode cX3_position 18 = .ok (.goto 9, 3) := by decide +kernel
theorem dX3_position_21 : decode cX3_position 21 = .ok (.aload_n 0, 1) := by decide +kernel
theorem dX3_position_22 : decode cX3_position 22 = .ok (.bipush (-2), 2) := by decide +kernel
theorem dX3_position_24 : decode cX3_position 24 = .ok (.invokevirtual 41, 3) := by decide +kernel
theorem dX3_position_27 : decode cX3_position 27 = .ok (.ireturn, 1) := by decide +kernel
set_option maxRecDepth 20000 in
theorem ggX3_weight_X3_isTrain : GoodIn wsX3_weight wsX3_isTrain := goodIn_r _ [6] (by decide +kernel) (by decide +kernel)
set_option maxRecDepth 20000 in
theorem gX3_weight_X3_isTrain : GoodIn wsX3_weight (va_wsS RX3 37 yX3_isTrain wsX3_isTrain) := goodIn_app (goodIn_of _ (by decide +kernel)) ggX3_weight_X3_isTrain
set_option maxRecDepth 20000 in
theorem ggX3_weight_X0_trainOf : GoodIn wsX3_weight wsX0_trainOf := goodIn_r _ [11, 12, 13, 33, 34, 35, 36, 37, 38, 39] (by decide +kernel) (by decide +kernel)
set_option maxRecDepth 20000 in
theorem gX3_weight_X0_trainOf : GoodIn wsX3_weight (wsV RX3 48 RX0 yX0_trainOf wsX0_trainOf) := goodIn_app (goodIn_of _ (by decide +kernel)) ggX3_weight_X0_trainOf
set_option maxRecDepth 20000 in
theorem ggX3_weight_X3_refuse : GoodIn wsX3_weight wsX3_refuse := goodIn_r _ [17, 18, 19, 20, 5, 21, 22, 23, 24, 25, 26] (by decide +kernel) (by decide +kernel)
set_option maxRecDepth 20000 in
theorem gX3_weight_X3_refuse : GoodIn wsX3_weight (wsV RX3 41 RX3 yX3_refuse wsX3_refuse) := goodIn_app (goodIn_of _ (by decide +kernel)) ggX3_weight_X3_refuse
theorem dX3_weight_0 : decode cX3_weight 0 = .ok (.iload_n 1, 1) := by decide +kernel
theorem dX3_weight_1 : decode cX3_weight 1 = .ok (.invokestatic 37, 3) := by decide +kernel
theorem dX3_weight_4 : decode cX3_weight 4 = .ok (.ifCond .eq 17, 3) := by decide +kernel
theorem dX3_weight_7 : decode cX3_weight 7 = .ok (.aload_n 0, 1) := by decide +kernel
theorem dX3_weight_8 : decode cX3_weight 8 = .ok (.getfield 10, 3) := by decide +kernel
theorem dX3_weight_11 : decode cX3_weight 11 = .ok (.iload_n 1, 1) := by decide +kernel
theorem dX3_weight_12 : decode cX3_weight 12 = .ok (.invokevirtual 48, 3) := by decide +kernel
theorem dX3_weight_15 : decode cX3_weight 15 = .ok (.getfield 74, 3) := by decide +kernel
theorem dX3_weight_18 : decode cX3_weight 18 = .ok (.goto 9, 3) := by decide +kernel
theorem dX3_weight_21 : decode cX3_weight 21 = .ok (.aload_n 0, 1) := by decide +kernel
theorem dX3_weight_22 : decode cX3_weight 22 = .ok (.bipush (-2), 2) := by decide +kernel
theorem dX3_weight_24 : decode cX3_weight 24 = .ok (.invokevirtual 41, 3) := by decide +kernel
theorem dX3_weight_27 : decode cX3_weight 27 = .ok (.ireturn, 1) := by decide +kernel
set_option maxRecDepth 20000 in
theorem ggX3_sounded_X3_isTrain : GoodIn wsX3_sounded wsX3_isTrain := goodIn_r _ [6] (by decide +kernel) (by decide +kernel)
set_option maxRecDepth 20000 in
theorem gX3_sounded_X3_isTrain : GoodIn wsX3_sounded (va_wsS RX3 37 yX3_isTrain wsX3_isTrain) := goodIn_app (goodIn_of _ (by decide +kernel)) ggX3_sounded_X3_isTrain
set_option maxRecDepth 20000 in
theorem ggX3_sounded_X0_trainOf : GoodIn wsX3_sounded wsX0_trainOf := goodIn_r _ [11, 12, 13, 33, 34, 35, 36, 37, 38, 39] (by decide +kernel) (by decide +kernel)
set_option maxRecDepth 20000 in
theorem gX3_sounded_X0_trainOf : GoodIn wsX3_sounded (wsV RX3 48 RX0 yX0_trainOf wsX0_trainOf) := goodIn_app (goodIn_of _ (by decide +kernel)) ggX3_sounded_X0_trainOf
set_option maxRecDepth 20000 in
theorem ggX3_sounded_X3_refuse : GoodIn wsX3_sounded wsX3_refuse := goodIn_r _ [17, 18, 19, 20, 5, 21, 22, 23, 24, 25, 26] (by decide +kernel) (by decide +kernel)
set_option maxRecDepth 20000 in
theorem gX3_sounded_X3_refuse : GoodIn wsX3_sounded (wsV RX3 41 RX3 yX3_refuse wsX3_refuse) := goodIn_app (goodIn_of _ (by decide +kernel)) ggX3_sounded_X3_refuse
theorem dX3_sounded_0 : decode cX3_sounded 0 = .ok (.iload_n 1, 1) := by decide +kernel
theorem dX3_sounded_1 : decode cX3_sounded 1 = .ok (.invokestatic 37, 3) := by decide +kernel
theorem dX3_sounded_4 : decode cX3_sounded 4 = .ok (.ifCond .eq 17, 3) := by decide +kernel
theorem dX3_sounded_7 : decode cX3_sounded 7 = .ok (.aload_n 0, 1) := by decide +kernel
theorem dX3_sounded_8 : decode cX3_sounded 8 = .ok (.getfield 10, 3) := by decide +kernel
theorem dX3_sounded_11 : decode cX3_sounded 11 = .ok (.iload_n 1, 1) := by decide +kernel
theorem dX3_sounded_12 : decode cX3_sounded 12 = .ok (.invokevirtual 48, 3) := by decide +kernel
theorem dX3_sounded_15 : decode cX3_sounded 15 = .ok (.getfield 130, 3) := by decide +kernel
theorem dX3_sounded_18 : decode cX3_sounded 18 = .ok (.goto 9, 3) := by decide +kernel
theorem dX3_sounded_21 : decode cX3_sounded 21 = .ok (.aload_n 0, 1) := by decide +kernel
theorem dX3_sounded_22 : decode cX3_sounded 22 = .ok (.bipush (-2), 2) := by decide +kernel
theorem dX3_sounded_24 : decode cX3_sounded 24 = .ok (.invokevirtual 41, 3) := by decide +kernel
theorem dX3_sounded_27 : decode cX3_sounded 27 = .ok (.ireturn, 1) := by decide +kernel
set_option maxRecDepth 20000 in
theorem ggX3_missed_X3_isTrain : GoodIn wsX3_missed wsX3_isTrain := goodIn_r _ [6] (by decide +kernel) (by decide +kernel)
set_option maxRecDepth 20000 in
theorem gX3_missed_X3_isTrain : GoodIn wsX3_missed (va_wsS RX3 37 yX3_isTrain wsX3_isTrain) := goodIn_app (goodIn_of _ (by decide +kernel)) ggX3_missed_X3_isTrain
set_option maxRecDepth 20000 in
theorem ggX3_missed_X0_trainOf : GoodIn wsX3_missed wsX0_trainOf := goodIn_r _ [11, 12, 13, 33, 34, 35, 36, 37, 38, 39] (by decide +kernel) (by decide +kernel)
set_option maxRecDepth 20000 in
theorem gX3_missed_X0_trainOf : GoodIn wsX3_missed (wsV RX3 48 RX0 yX0_trainOf wsX0_trainOf) := goodIn_app (goodIn_of _ (by decide +kernel)) ggX3_missed_X0_trainOf
set_option maxRecDepth 20000 in
theorem ggX3_missed_X3_refuse : GoodIn wsX3_missed wsX3_refuse := goodIn_r _ [17, 18, 19, 20, 5, 21, 22, 23, 24, 25, 26] (by decide +kernel) (by decide +kernel)
set_option maxRecDepth 20000 in
theorem gX3_missed_X3_refuse : GoodIn wsX3_missed (wsV RX3 41 RX3 yX3_refuse wsX3_refuse) := goodIn_app (goodIn_of _ (by decide +kernel)) ggX3_missed_X3_refuse
theorem dX3_missed_0 : decode cX3_missed 0 = .ok (.iload_n 1, 1) := by decide +kernel
theorem dX3_missed_1 : decode cX3_missed 1 = .ok (.invokestatic 37, 3) := by decide +kernel
theorem dX3_missed_4 : decode cX3_missed 4 = .ok (.ifCond .eq 17, 3) := by decide +kernel
theorem dX3_missed_7 : decode cX3_missed 7 = .ok (.aload_n 0, 1) := by decide +kernel
theorem dX3_missed_8 : decode cX3_missed 8 = .ok (.getfield 10, 3) := by decide +kernel
theorem dX3_missed_11 : decode cX3_missed 11 = .ok (.iload_n 1, 1) := by decide +kernel
theorem dX3_missed_12 : decode cX3_missed 12 = .ok (.invokevirtual 48, 3) := by decide +kernel
theorem dX3_missed_15 : decode cX3_missed 15 = .ok (.getfield 115, 3) := by decide +kernel
theorem dX3_missed_18 : decode cX3_missed 18 = .ok (.goto 9, 3) := by decide +kernel
theorem dX3_missed_21 : decode cX3_missed 21 = .ok (.aload_n 0, 1) := by decide +kernel
theorem dX3_missed_22 : decode cX3_missed 22 = .ok (.bipush (-2), 2) := by decide +kernel
theorem dX3_missed_24 : decode cX3_missed 24 = .ok (.invokevirtual 41, 3) := by decide +kernel
theorem dX3_missed_27 : decode cX3_missed 27 = .ok (.ireturn, 1) := by decide +kernel
set_option maxRecDepth 20000 in
theorem ggX3_isSilent_X3_isMinute : GoodIn wsX3_isSilent wsX3_isMinute := goodIn_r _ [5] (by decide +kernel) (by decide +kernel)
set_option maxRecDepth 20000 in
theorem gX3_isSilent_X3_isMinute : GoodIn wsX3_isSilent (va_wsS RX3 62 yX3_isMinute wsX3_isMinute) := goodIn_app (goodIn_of _ (by decide +kernel)) ggX3_isSilent_X3_isMinute
set_option maxRecDepth 20000 in
theorem ggX3_isSilent_X3_refuse : GoodIn wsX3_isSilent wsX3_refuse := goodIn_r _ [9, 10, 11, 12, 4, 13, 22, 23, 24, 25, 26] (by decide +kernel) (by decide +kernel)
set_option maxRecDepth 20000 in
theorem gX3_isSilent_X3_refuse : GoodIn wsX3_isSilent (wsV RX3 41 RX3 yX3_refuse wsX3_refuse) := goodIn_app (goodIn_of _ (by decide +kernel)) ggX3_isSilent_X3_refuse
set_option maxRecDepth 20000 in
theorem ggX3_isSilent_X0_hushesAt : GoodIn wsX3_isSilent wsX0_hushesAt := goodIn_r _ [18, 19, 20, 21, 27, 28, 29, 30, 31, 32, 33] (by decide +kernel) (by decide +kernel)
set_option maxRecDepth 20000 in
theorem gX3_isSilent_X0_hushesAt : GoodIn wsX3_isSilent (wsV RX3 133 RX0 yX0_hushesAt wsX0_hushesAt) := goodIn_app (goodIn_of _ (by decide +kernel)) ggX3_isSilent_X0_hushesAt
theorem dX3_isSilent_0 : decode cX3_isSilent 0 = .ok (.iload_n 1, 1) := by decide +kernel
theorem dX3_isSilent_1 : decode cX3_isSilent 1 = .ok (.invokestatic 62, 3) := by decide +kernel
theorem dX3_isSilent_4 : decode cX3_isSilent 4 = .ok (.ifCond .ne 10, 3) := by decide +kernel
theorem dX3_isSilent_7 : decode cX3_isSilent 7 = .ok (.aload_n 0, 1) := by decide +kernel
theorem dX3_isSilent_8 : decode cX3_isSilent 8 = .ok (.bipush (-2), 2) := by decide +kernel
theorem dX3_isSilent_10 : decode cX3_isSilent 10 = .ok (.invokevirtual 41, 3) := by decide +kernel
theorem dX3_isSilent_13 : decode cX3_isSilent 13 = .ok (.ireturn, 1) := by decide +kernel
theorem dX3_isSilent_14 : decode cX3_isSilent 14 = .ok (.aload_n 0, 1) := by decide +kernel
theorem dX3_isSilent_15 : decode cX3_isSilent 15 = .ok (.getfield 10, 3) := by decide +kernel
theorem dX3_isSilent_18 : decode cX3_isSilent 18 = .ok (.iload_n 1, 1) := by decide +kernel
theorem dX3_isSilent_19 : decode cX3_isSilent 19 = .ok (.invokevirtual 133, 3) := by decide +kernel
theorem dX3_isSilent_22 : decode cX3_isSilent 22 = .ok (.ifCond .eq 7, 3) := by decide +kernel
theorem dX3_isSilent_25 : decode cX3_isSilent 25 = .ok (.iconst 1, 1) := by decide +kernel
theorem dX3_isSilent_26 : decode cX3_isSilent 26 = .ok (.goto 4, 3) := by decide +kernel
theorem dX3_isSilent_29 : decode cX3_isSilent 29 = .ok (.iconst 0, 1) := by decide +kernel
theorem dX3_isSilent_30 : decode cX3_isSilent 30 = .ok (.ireturn, 1) := by decide +kernel
set_option maxRecDepth 20000 in
theorem ggX3_strikeMinute_X3_refuse : GoodIn wsX3_strikeMinute wsX3_refuse := goodIn_r _ [9, 10, 11, 12, 8, 13, 14, 15, 16, 17, 18] (by decide +kernel) (by decide +kernel)
set_option maxRecDepth 20000 in
theorem gX3_strikeMinute_X3_refuse : GoodIn wsX3_strikeMinute (wsV RX3 41 RX3 yX3_refuse wsX3_refuse) := goodIn_app (goodIn_of _ (by decide +kernel)) ggX3_strikeMinute_X3_refuse
theorem dX3_strikeMinute_0 : decode cX3_strikeMinute 0 = .ok (.iload_n 1, 1) := by decide +kernel
theorem dX3_strikeMinute_1 : decode cX3_strikeMinute 1 = .ok (.ifCond .ge 10, 3) := by decide +kernel
theorem dX3_strikeMinute_4 : decode cX3_strikeMinute 4 = .ok (.aload_n 0, 1) := by decide +kernel
theorem dX3_strikeMinute_5 : decode cX3_strikeMinute 5 = .ok (.bipush (-2), 2) := by decide +kernel
theorem dX3_strikeMinute_7 : decode cX3_strikeMinute 7 = .ok (.invokevirtual 41, 3) := by decide +kernel
theorem dX3_strikeMinute_10 : decode cX3_strikeMinute 10 = .ok (.ireturn, 1) := by decide +kernel
theorem dX3_strikeMinute_11 : decode cX3_strikeMinute 11 = .ok (.iload_n 1, 1) := by decide +kernel
theorem dX3_strikeMinute_12 : decode cX3_strikeMinute 12 = .ok (.aload_n 0, 1) := by decide +kernel
theorem dX3_strikeMinute_13 : decode cX3_strikeMinute 13 = .ok (.getfield 10, 3) := by decide +kernel
theorem dX3_strikeMinute_16 : decode cX3_strikeMinute 16 = .ok (.getfield 136, 3) := by decide +kernel
theorem dX3_strikeMinute_19 : decode cX3_strikeMinute 19 = .ok (.getfield 140, 3) := by decide +kernel
theorem dX3_strikeMinute_22 : decode cX3_strikeMinute 22 = .ok (.if_icmp .ge 18, 3) := by decide +kernel
theorem dX3_strikeMinute_25 : decode cX3_strikeMinute 25 = .ok (.aload_n 0, 1) := by decide +kernel
theorem dX3_strikeMinute_26 : decode cX3_strikeMinute 26 = .ok (.getfield 10, 3) := by decide +kernel
theorem dX3_strikeMinute_29 : decode cX3_strikeMinute 29 = .ok (.getfield 136, 3) := by decide +kernel
theorem dX3_strikeMinute_32 : decode cX3_strikeMinute 32 = .ok (.getfield 145, 3) := by decide +kernel
theorem dX3_strikeMinute_35 : decode cX3_strikeMinute 35 = .ok (.iload_n 1, 1) := by decide +kernel
theorem dX3_strikeMinute_36 : decode cX3_strikeMinute 36 = .ok (.iaload, 1) := by decide +kernel
theorem dX3_strikeMinute_37 : decode cX3_strikeMinute 37 = .ok (.goto 4, 3) := by decide +kernel
theorem dX3_strikeMinute_40 : decode cX3_strikeMinute 40 = .ok (.iconst (-1), 1) := by decide +kernel
theorem dX3_strikeMinute_41 : decode cX3_strikeMinute 41 = .ok (.ireturn, 1) := by decide +kernel
set_option maxRecDepth 20000 in
theorem ggX3_strikeTrain_X3_refuse : GoodIn wsX3_strikeTrain wsX3_refuse := goodIn_r _ [9, 10, 11, 12, 8, 13, 14, 15, 16, 17, 18] (by decide +kernel) (by decide +kernel)
set_option maxRecDepth 20000 in
theorem gX3_strikeTrain_X3_refuse : GoodIn wsX3_strikeTrain (wsV RX3 41 RX3 yX3_refuse wsX3_refuse) := goodIn_app (goodIn_of _ (by decide +kernel)) ggX3_strikeTrain_X3_refuse
theorem dX3_strikeTrain_0 : decode cX3_strikeTrain 0 = .ok (.iload_n 1, 1) := by decide +kernel
theorem dX3_strikeTrain_1 : decode cX3_strikeTrain 1 = .ok (.ifCond .ge 10, 3) := by decide +kernel
theorem dX3_strikeTrain_4 : decode cX3_strikeTrain 4 = .ok (.aload_n 0, 1) := by decide +kernel
theorem dX3_strikeTrain_5 : decode cX3_strikeTrain 5 = .ok (.bipush (-2), 2) := by decide +kernel
theorem dX3_strikeTrain_7 : decode cX3_strikeTrain 7 = .ok (.invokevirtual 41, 3) := by decide +kernel
theorem dX3_strikeTrain_10 : decode cX3_strikeTrain 10 = .ok (.ireturn, 1) := by decide +kernel
theorem dX3_strikeTrain_11 : decode cX3_strikeTrain 11 = .ok (.iload_n 1, 1) := by decide +kernel
theorem dX3_strikeTrain_12 : decode cX3_strikeTrain 12 = .ok (.aload_n 0, 1) := by decide +kernel
theorem dX3_strikeTrain_13 : decode cX3_strikeTrain 13 = .ok (.getfield 10, 3) := by decide +kernel
theorem dX3_strikeTrain_16 : decode cX3_strikeTrain 16 = .ok (.getfield 136, 3) := by decide +kernel
theorem dX3_strikeTrain_19 : decode cX3_strikeTrain 19 = .ok (.getfield 140, 3) := by decide +kernel
theorem dX3_strikeTrain_22 : decode cX3_strikeTrain 22 = .ok (.if_icmp .ge 18, 3) := by decide +kernel
theorem dX3_strikeTrain_25 : decode cX3_strikeTrain 25 = .ok (.aload_n 0, 1) := by decide +kernel
theorem dX3_strikeTrain_26 : decode cX3_strikeTrain 26 = .ok (.getfield 10, 3) := by decide +kernel
theorem dX3_strikeTrain_29 : decode cX3_strikeTrain 29 = .ok (.getfield 136, 3) := by decide +kernel
theorem dX3_strikeTrain_32 : decode cX3_strikeTrain 32 = .ok (.getfield 148, 3) := by decide +kernel
theorem dX3_strikeTrain_35 : decode cX3_strikeTrain 35 = .ok (.iload_n 1, 1) := by decide +kernel
theorem dX3_strikeTrain_36 : decode cX3_strikeTrain 36 = .ok (.iaload, 1) := by decide +kernel
theorem dX3_strikeTrain_37 : decode cX3_strikeTrain 37 = .ok (.goto 4, 3) := by decide +kernel
theorem dX3_strikeTrain_40 : decode cX3_strikeTrain 40 = .ok (.iconst (-1), 1) := by decide +kernel
theorem dX3_strikeTrain_41 : decode cX3_strikeTrain 41 = .ok (.ireturn, 1) := by decide +kernel
set_option maxRecDepth 20000 in
theorem ggX3_strikeBlows_X3_refuse : GoodIn wsX3_strikeBlows wsX3_refuse := goodIn_r _ [9, 10, 11, 12, 8, 13, 14, 15, 16, 17, 18] (by decide +kernel) (by decide +kernel)
set_option maxRecDepth 20000 in
theorem gX3_strikeBlows_X3_refuse : GoodIn wsX3_strikeBlows (wsV RX3 41 RX3 yX3_refuse wsX3_refuse) := goodIn_app (goodIn_of _ (by decide +kernel)) ggX3_strikeBlows_X3_refuse
theorem dX3_strikeBlows_0 : decode cX3_strikeBlows 0 = .ok (.iload_n 1, 1) := by decide +kernel
theorem dX3_strikeBlows_1 : decode cX3_strikeBlows 1 = .ok (.ifCond .ge 10, 3) := by decide +kernel
theorem dX3_strikeBlows_4 : decode cX3_strikeBlows 4 = .ok (.aload_n 0, 1) := by decide +kernel
theorem dX3_strikeBlows_5 : decode cX3_strikeBlows 5 = .ok (.bipush (-2), 2) := by decide +kernel
theorem dX3_strikeBlows_7 : decode cX3_strikeBlows 7 = .ok (.invokevirtual 41, 3) := by decide +kernel
theorem dX3_strikeBlows_10 : decode cX3_strikeBlows 10 = .ok (.ireturn, 1) := by decide +kernel
theorem dX3_strikeBlows_11 : decode cX3_strikeBlows 11 = .ok (.iload_n 1, 1) := by decide +kernel
theorem dX3_strikeBlows_12 : decode cX3_strikeBlows 12 = .ok (.aload_n 0, 1) := by decide +kernel
theorem dX3_strikeBlows_13 : decode cX3_strikeBlows 13 = .ok (.getfield 10, 3) := by decide +kernel
theorem dX3_strikeBlows_16 : decode cX3_strikeBlows 16 = .ok (.getfield 136, 3) := by decide +kernel
theorem dX3_strikeBlows_19 : decode cX3_strikeBlows 19 = .ok (.getfield 140, 3) := by decide +kernel
theorem dX3_strikeBlows_22 : decode cX3_strikeBlows 22 = .ok (.if_icmp .ge 18, 3) := by decide +kernel
theorem dX3_strikeBlows_25 : decode cX3_strikeBlows 25 = .ok (.aload_n 0, 1) := by decide +kernel
theorem dX3_strikeBlows_26 : decode cX3_strikeBlows 26 = .ok (.getfield 10, 3) := by decide +kernel
theorem dX3_strikeBlows_29 : decode cX3_strikeBlows 29 = .ok (.getfield 136, 3) := by decide +kernel
theorem dX3_strikeBlows_32 : decode cX3_strikeBlows 32 = .ok (.getfield 151, 3) := by decide +kernel
theorem dX3_strikeBlows_35 : decode cX3_strikeBlows 35 = .ok (.iload_n 1, 1) := by decide +kernel
theorem dX3_strikeBlows_36 : decode cX3_strikeBlows 36 = .ok (.iaload, 1) := by decide +kernel
theorem dX3_strikeBlows_37 : decode cX3_strikeBlows 37 = .ok (.goto 4, 3) := by decide +kernel
theorem dX3_strikeBlows_40 : decode cX3_strikeBlows 40 = .ok (.iconst 0, 1) := by decide +kernel
theorem dX3_strikeBlows_41 : decode cX3_strikeBlows 41 = .ok (.ireturn, 1) := by decide +kernel
set_option maxRecDepth 20000 in
theorem ggX3_undo_X3_refuse : GoodIn wsX3_undo wsX3_refuse := goodIn_r _ [8, 9, 10, 11, 7, 12, 45, 46, 47, 48, 49] (by decide +kernel) (by decide +kernel)
set_option maxRecDepth 20000 in
theorem gX3_undo_X3_refuse : GoodIn wsX3_undo (wsV RX3 41 RX3 yX3_refuse wsX3_refuse) := goodIn_app (goodIn_of _ (by decide +kernel)) ggX3_undo_X3_refuse
set_option maxRecDepth 20000 in
theorem ggX3_undo_X0_copyFrom : GoodIn wsX3_undo wsX0_copyFrom := goodIn_r _ [17, 18, 19, 20, 21, 22, 23, 24, 25, 26, 27, 28, 29, 30, 31, 32, 33, 34, 35, 36, 37, 38, 39, 40, 41, 42, 43, 44, 50, 51, 52, 53, 54, 55, 56, 57, 58, 59, 60, 61, 62, 63, 64, 65, 66] (by decide +kernel) (by decide +kernel)
set_option maxRecDepth 20000 in
theorem gX3_undo_X0_copyFrom : GoodIn wsX3_undo (wsV RX3 154 RX0 yX0_copyFrom wsX0_copyFrom) := goodIn_app (goodIn_of _ (by decide +kernel)) ggX3_undo_X0_copyFrom
theorem dX3_undo_0 : decode cX3_undo 0 = .ok (.aload_n 0, 1) := by decide +kernel
theorem dX3_undo_1 : decode cX3_undo 1 = .ok (.getfield 33, 3) := by decide +kernel
theorem dX3_undo_4 : decode cX3_undo 4 = .ok (.ifCond .gt 10, 3) := by decide +kernel
theorem dX3_undo_7 : decode cX3_undo 7 = .ok (.aload_n 0, 1) := by decide +kernel
theorem dX3_undo_8 : decode cX3_undo 8 = .ok (.bipush (-4), 2) := by decide +kernel
theorem dX3_undo_10 : decode cX3_undo 10 = .ok (.invokevirtual 41, 3) := by decide +kernel
theorem dX3_undo_13 : decode cX3_undo 13 = .ok (.ireturn, 1) := by decide +kernel
theorem dX3_undo_14 : decode cX3_undo 14 = .ok (.aload_n 0, 1) := by decide +kernel
theorem dX3_undo_15 : decode cX3_undo 15 = .ok (.dup, 1) := by decide +kernel
theorem dX3_undo_16 : decode cX3_undo 16 = .ok (.getfield 33, 3) := by decide +kernel
theorem dX3_undo_19 : decode cX3_undo 19 = .ok (.iconst 1, 1) := by decide +kernel
