theorem dX3_undo_20 : decode cX3_undo 20 = .ok (.isub, 1) := by decide +kernel
theorem dX3_undo_21 : decode cX3_undo 21 = .ok (.putfield 33, 3) := by decide +kernel
theorem dX3_undo_24 : decode cX3_undo 24 = .ok (.aload_n 0, 1) := by decide +kernel
theorem dX3_undo_25 : decode cX3_undo 25 = .ok (.getfield 10, 3) := by decide +kernel
theorem dX3_undo_28 : decode cX3_undo 28 = .ok (.aload_n 0, 1) := by decide +kernel
theorem dX3_undo_29 : decode cX3_undo 29 = .ok (.getfield 16, 3) := by decide +kernel
theorem dX3_undo_32 : decode cX3_undo 32 = .ok (.aload_n 0, 1) := by decide +kernel
theorem dX3_undo_33 : decode cX3_undo 33 = .ok (.getfield 33, 3) := by decide +kernel
theorem dX3_undo_36 : decode cX3_undo 36 = .ok (.aaload, 1) := by decide +kernel
theorem dX3_undo_37 : decode cX3_undo 37 = .ok (.invokevirtual 154, 3) := by decide +kernel
theorem dX3_undo_40 : decode cX3_undo 40 = .ok (.aload_n 0, 1) := by decide +kernel
theorem dX3_undo_41 : decode cX3_undo 41 = .ok (.getfield 33, 3) := by decide +kernel
theorem dX3_undo_44 : decode cX3_undo 44 = .ok (.ireturn, 1) := by decide +kernel
set_option maxRecDepth 20000 in
theorem ggX3_errorCount_X3_refuse : GoodIn wsX3_errorCount wsX3_refuse := goodIn_r _ [6, 1, 7, 8, 5, 9, 10, 11, 12, 13, 14] (by decide +kernel) (by decide +kernel)
set_option maxRecDepth 20000 in
theorem gX3_errorCount_X3_refuse : GoodIn wsX3_errorCount (wsV RX3 41 RX3 yX3_refuse wsX3_refuse) := goodIn_app (goodIn_of _ (by decide +kernel)) ggX3_errorCount_X3_refuse
set_option maxRecDepth 20000 in
theorem ggX3_errorCount_X3_errorIndex : GoodIn wsX3_errorCount wsX3_errorIndex := goodIn_r _ [9] (by decide +kernel) (by decide +kernel)
set_option maxRecDepth 20000 in
theorem gX3_errorCount_X3_errorIndex : GoodIn wsX3_errorCount (va_wsS RX3 157 yX3_errorIndex wsX3_errorIndex) := goodIn_app (goodIn_of _ (by decide +kernel)) ggX3_errorCount_X3_errorIndex
theorem dX3_errorCount_0 : decode cX3_errorCount 0 = .ok (.iload_n 1, 1) := by decide +kernel
theorem dX3_errorCount_1 : decode cX3_errorCount 1 = .ok (.bipush (-4), 2) := by decide +kernel
theorem dX3_errorCount_3 : decode cX3_errorCount 3 = .ok (.if_icmp .lt 9, 3) := by decide +kernel
theorem dX3_errorCount_6 : decode cX3_errorCount 6 = .ok (.iload_n 1, 1) := by decide +kernel
theorem dX3_errorCount_7 : decode cX3_errorCount 7 = .ok (.bipush (-2), 2) := by decide +kernel
theorem dX3_errorCount_9 : decode cX3_errorCount 9 = .ok (.if_icmp .le 10, 3) := by decide +kernel
theorem dX3_errorCount_12 : decode cX3_errorCount 12 = .ok (.aload_n 0, 1) := by decide +kernel
theorem dX3_errorCount_13 : decode cX3_errorCount 13 = .ok (.bipush (-2), 2) := by decide +kernel
theorem dX3_errorCount_15 : decode cX3_errorCount 15 = .ok (.invokevirtual 41, 3) := by decide +kernel
theorem dX3_errorCount_18 : decode cX3_errorCount 18 = .ok (.ireturn, 1) := by decide +kernel
theorem dX3_errorCount_19 : decode cX3_errorCount 19 = .ok (.aload_n 0, 1) := by decide +kernel
theorem dX3_errorCount_20 : decode cX3_errorCount 20 = .ok (.getfield 29, 3) := by decide +kernel
theorem dX3_errorCount_23 : decode cX3_errorCount 23 = .ok (.iload_n 1, 1) := by decide +kernel
theorem dX3_errorCount_24 : decode cX3_errorCount 24 = .ok (.invokestatic 157, 3) := by decide +kernel
theorem dX3_errorCount_27 : decode cX3_errorCount 27 = .ok (.iaload, 1) := by decide +kernel
theorem dX3_errorCount_28 : decode cX3_errorCount 28 = .ok (.ireturn, 1) := by decide +kernel
set_option maxRecDepth 20000 in
theorem ggX3_digest_X0_addToHash : GoodIn wsX3_digest wsX0_addToHash := goodIn_r _ [10, 11, 12, 13, 14, 15, 16, 17, 18, 19, 20, 21, 22, 23, 24, 25, 26, 27, 28, 29, 30, 31, 32, 33, 34, 35, 36, 37, 38, 39, 40, 41, 42, 43, 44, 45, 46, 47, 48, 49, 50, 51, 52, 53, 54, 55, 56, 57, 58, 59, 60, 66, 67, 68, 69, 70, 71, 72, 73, 74, 75, 76, 77, 78, 79, 80, 81, 82] (by decide +kernel) (by decide +kernel)
set_option maxRecDepth 20000 in
theorem gX3_digest_X0_addToHash : GoodIn wsX3_digest (wsV RX3 164 RX0 yX0_addToHash wsX0_addToHash) := goodIn_app (goodIn_of _ (by decide +kernel)) ggX3_digest_X0_addToHash
theorem dX3_digest_0 : decode cX3_digest 0 = .ok (.ldc2_w 160, 3) := by decide +kernel
theorem dX3_digest_3 : decode cX3_digest 3 = .ok (.lstore_n 1, 1) := by decide +kernel
theorem dX3_digest_4 : decode cX3_digest 4 = .ok (.iconst 0, 1) := by decide +kernel
theorem dX3_digest_5 : decode cX3_digest 5 = .ok (.istore_n 3, 1) := by decide +kernel
theorem dX3_digest_6 : decode cX3_digest 6 = .ok (.iload_n 3, 1) := by decide +kernel
theorem dX3_digest_7 : decode cX3_digest 7 = .ok (.iconst 3, 1) := by decide +kernel
theorem dX3_digest_8 : decode cX3_digest 8 = .ok (.if_icmp .ge 23, 3) := by decide +kernel
theorem dX3_digest_11 : decode cX3_digest 11 = .ok (.ldc2_w 162, 3) := by decide +kernel
theorem dX3_digest_14 : decode cX3_digest 14 = .ok (.lload_n 1, 1) := by decide +kernel
theorem dX3_digest_15 : decode cX3_digest 15 = .ok (.lmul, 1) := by decide +kernel
theorem dX3_digest_16 : decode cX3_digest 16 = .ok (.aload_n 0, 1) := by decide +kernel
theorem dX3_digest_17 : decode cX3_digest 17 = .ok (.getfield 29, 3) := by decide +kernel
theorem dX3_digest_20 : decode cX3_digest 20 = .ok (.iload_n 3, 1) := by decide +kernel
theorem dX3_digest_21 : decode cX3_digest 21 = .ok (.iaload, 1) := by decide +kernel
theorem dX3_digest_22 : decode cX3_digest 22 = .ok (.i2l, 1) := by decide +kernel
theorem dX3_digest_23 : decode cX3_digest 23 = .ok (.ladd, 1) := by decide +kernel
theorem dX3_digest_24 : decode cX3_digest 24 = .ok (.lstore_n 1, 1) := by decide +kernel
theorem dX3_digest_25 : decode cX3_digest 25 = .ok (.iinc 3 1, 3) := by decide +kernel
theorem dX3_digest_28 : decode cX3_digest 28 = .ok (.goto (-22), 3) := by decide +kernel
theorem dX3_digest_31 : decode cX3_digest 31 = .ok (.aload_n 0, 1) := by decide +kernel
theorem dX3_digest_32 : decode cX3_digest 32 = .ok (.getfield 10, 3) := by decide +kernel
theorem dX3_digest_35 : decode cX3_digest 35 = .ok (.lload_n 1, 1) := by decide +kernel
theorem dX3_digest_36 : decode cX3_digest 36 = .ok (.invokevirtual 164, 3) := by decide +kernel
theorem dX3_digest_39 : decode cX3_digest 39 = .ok (.lstore_n 1, 1) := by decide +kernel
theorem dX3_digest_40 : decode cX3_digest 40 = .ok (.ldc2_w 162, 3) := by decide +kernel
theorem dX3_digest_43 : decode cX3_digest 43 = .ok (.lload_n 1, 1) := by decide +kernel
theorem dX3_digest_44 : decode cX3_digest 44 = .ok (.lmul, 1) := by decide +kernel
theorem dX3_digest_45 : decode cX3_digest 45 = .ok (.aload_n 0, 1) := by decide +kernel
theorem dX3_digest_46 : decode cX3_digest 46 = .ok (.getfield 33, 3) := by decide +kernel
theorem dX3_digest_49 : decode cX3_digest 49 = .ok (.i2l, 1) := by decide +kernel
theorem dX3_digest_50 : decode cX3_digest 50 = .ok (.ladd, 1) := by decide +kernel
theorem dX3_digest_51 : decode cX3_digest 51 = .ok (.lreturn, 1) := by decide +kernel
theorem dX3_isTrain_0 : decode cX3_isTrain 0 = .ok (.iload_n 0, 1) := by decide +kernel
theorem dX3_isTrain_1 : decode cX3_isTrain 1 = .ok (.ifCond .eq 8, 3) := by decide +kernel
theorem dX3_isTrain_4 : decode cX3_isTrain 4 = .ok (.iload_n 0, 1) := by decide +kernel
theorem dX3_isTrain_5 : decode cX3_isTrain 5 = .ok (.iconst 1, 1) := by decide +kernel
theorem dX3_isTrain_6 : decode cX3_isTrain 6 = .ok (.if_icmp .ne 7, 3) := by decide +kernel
theorem dX3_isTrain_9 : decode cX3_isTrain 9 = .ok (.iconst 1, 1) := by decide +kernel
theorem dX3_isTrain_10 : decode cX3_isTrain 10 = .ok (.goto 4, 3) := by decide +kernel
theorem dX3_isTrain_13 : decode cX3_isTrain 13 = .ok (.iconst 0, 1) := by decide +kernel
theorem dX3_isTrain_14 : decode cX3_isTrain 14 = .ok (.ireturn, 1) := by decide +kernel
theorem dX3_isMinute_0 : decode cX3_isMinute 0 = .ok (.iload_n 0, 1) := by decide +kernel
theorem dX3_isMinute_1 : decode cX3_isMinute 1 = .ok (.ifCond .lt 14, 3) := by decide +kernel
theorem dX3_isMinute_4 : decode cX3_isMinute 4 = .ok (.iload_n 0, 1) := by decide +kernel
theorem dX3_isMinute_5 : decode cX3_isMinute 5 = .ok (.sipush 1440, 3) := by decide +kernel
theorem dX3_isMinute_8 : decode cX3_isMinute 8 = .ok (.if_icmp .ge 7, 3) := by decide +kernel
theorem dX3_isMinute_11 : decode cX3_isMinute 11 = .ok (.iconst 1, 1) := by decide +kernel
theorem dX3_isMinute_12 : decode cX3_isMinute 12 = .ok (.goto 4, 3) := by decide +kernel
theorem dX3_isMinute_15 : decode cX3_isMinute 15 = .ok (.iconst 0, 1) := by decide +kernel
theorem dX3_isMinute_16 : decode cX3_isMinute 16 = .ok (.ireturn, 1) := by decide +kernel
theorem dX3_errorIndex_0 : decode cX3_errorIndex 0 = .ok (.bipush (-2), 2) := by decide +kernel
theorem dX3_errorIndex_2 : decode cX3_errorIndex 2 = .ok (.iload_n 0, 1) := by decide +kernel
theorem dX3_errorIndex_3 : decode cX3_errorIndex 3 = .ok (.isub, 1) := by decide +kernel
theorem dX3_errorIndex_4 : decode cX3_errorIndex 4 = .ok (.ireturn, 1) := by decide +kernel
set_option maxRecDepth 20000 in
theorem ggX3_refuse_X3_errorIndex : GoodIn wsX3_refuse wsX3_errorIndex := goodIn_r _ [5] (by decide +kernel) (by decide +kernel)
set_option maxRecDepth 20000 in
theorem gX3_refuse_X3_errorIndex : GoodIn wsX3_refuse (va_wsS RX3 157 yX3_errorIndex wsX3_errorIndex) := goodIn_app (goodIn_of _ (by decide +kernel)) ggX3_refuse_X3_errorIndex
theorem dX3_refuse_0 : decode cX3_refuse 0 = .ok (.aload_n 0, 1) := by decide +kernel
theorem dX3_refuse_1 : decode cX3_refuse 1 = .ok (.getfield 29, 3) := by decide +kernel
theorem dX3_refuse_4 : decode cX3_refuse 4 = .ok (.iload_n 1, 1) := by decide +kernel
theorem dX3_refuse_5 : decode cX3_refuse 5 = .ok (.invokestatic 157, 3) := by decide +kernel
theorem dX3_refuse_8 : decode cX3_refuse 8 = .ok (.dup2, 1) := by decide +kernel
theorem dX3_refuse_9 : decode cX3_refuse 9 = .ok (.iaload, 1) := by decide +kernel
theorem dX3_refuse_10 : decode cX3_refuse 10 = .ok (.iconst 1, 1) := by decide +kernel
theorem dX3_refuse_11 : decode cX3_refuse 11 = .ok (.iadd, 1) := by decide +kernel
theorem dX3_refuse_12 : decode cX3_refuse 12 = .ok (.iastore, 1) := by decide +kernel
theorem dX3_refuse_13 : decode cX3_refuse 13 = .ok (.iload_n 1, 1) := by decide +kernel
theorem dX3_refuse_14 : decode cX3_refuse 14 = .ok (.ireturn, 1) := by decide +kernel
set_option maxRecDepth 20000 in
theorem ggX3_save_X3_dropOldestSaved : GoodIn wsX3_save wsX3_dropOldestSaved := goodIn_r _ [8, 2, 1, 41, 42, 43, 44, 45] (by decide +kernel) (by decide +kernel)
set_option maxRecDepth 20000 in
theorem gX3_save_X3_dropOldestSaved : GoodIn wsX3_save (wsV RX3 168 RX3 yX3_dropOldestSaved wsX3_dropOldestSaved) := goodIn_app (goodIn_of _ (by decide +kernel)) ggX3_save_X3_dropOldestSaved
set_option maxRecDepth 20000 in
theorem ggX3_save_X0_copyFrom : GoodIn wsX3_save wsX0_copyFrom := goodIn_r _ [13, 14, 15, 16, 17, 18, 19, 20, 21, 22, 23, 24, 25, 26, 27, 28, 29, 30, 31, 32, 33, 34, 35, 36, 37, 38, 39, 40, 46, 47, 48, 49, 50, 51, 52, 53, 54, 55, 56, 57, 58, 59, 60, 61, 62] (by decide +kernel) (by decide +kernel)
set_option maxRecDepth 20000 in
theorem gX3_save_X0_copyFrom : GoodIn wsX3_save (wsV RX3 154 RX0 yX0_copyFrom wsX0_copyFrom) := goodIn_app (goodIn_of _ (by decide +kernel)) ggX3_save_X0_copyFrom
theorem dX3_save_0 : decode cX3_save 0 = .ok (.aload_n 0, 1) := by decide +kernel
theorem dX3_save_1 : decode cX3_save 1 = .ok (.getfield 33, 3) := by decide +kernel
theorem dX3_save_4 : decode cX3_save 4 = .ok (.iconst 5, 1) := by decide +kernel
theorem dX3_save_5 : decode cX3_save 5 = .ok (.if_icmp .lt 7, 3) := by decide +kernel
theorem dX3_save_8 : decode cX3_save 8 = .ok (.aload_n 0, 1) := by decide +kernel
theorem dX3_save_9 : decode cX3_save 9 = .ok (.invokevirtual 168, 3) := by decide +kernel
theorem dX3_save_12 : decode cX3_save 12 = .ok (.aload_n 0, 1) := by decide +kernel
theorem dX3_save_13 : decode cX3_save 13 = .ok (.getfield 16, 3) := by decide +kernel
theorem dX3_save_16 : decode cX3_save 16 = .ok (.aload_n 0, 1) := by decide +kernel
theorem dX3_save_17 : decode cX3_save 17 = .ok (.getfield 33, 3) := by decide +kernel
theorem dX3_save_20 : decode cX3_save 20 = .ok (.aaload, 1) := by decide +kernel
theorem dX3_save_21 : decode cX3_save 21 = .ok (.aload_n 0, 1) := by decide +kernel
theorem dX3_save_22 : decode cX3_save 22 = .ok (.getfield 10, 3) := by decide +kernel
theorem dX3_save_25 : decode cX3_save 25 = .ok (.invokevirtual 154, 3) := by decide +kernel
theorem dX3_save_28 : decode cX3_save 28 = .ok (.aload_n 0, 1) := by decide +kernel
theorem dX3_save_29 : decode cX3_save 29 = .ok (.dup, 1) := by decide +kernel
theorem dX3_save_30 : decode cX3_save 30 = .ok (.getfield 33, 3) := by decide +kernel
theorem dX3_save_33 : decode cX3_save 33 = .ok (.iconst 1, 1) := by decide +kernel
theorem dX3_save_34 : decode cX3_save 34 = .ok (.iadd, 1) := by decide +kernel
theorem dX3_save_35 : decode cX3_save 35 = .ok (.putfield 33, 3) := by decide +kernel
theorem dX3_save_38 : decode cX3_save 38 = .ok (.return_, 1) := by decide +kernel
theorem dX3_dropOldestSaved_0 : decode cX3_dropOldestSaved 0 = .ok (.aload_n 0, 1) := by decide +kernel
theorem dX3_dropOldestSaved_1 : decode cX3_dropOldestSaved 1 = .ok (.getfield 16, 3) := by decide +kernel
theorem dX3_dropOldestSaved_4 : decode cX3_dropOldestSaved 4 = .ok (.iconst 0, 1) := by decide +kernel
theorem dX3_dropOldestSaved_5 : decode cX3_dropOldestSaved 5 = .ok (.aaload, 1) := by decide +kernel
theorem dX3_dropOldestSaved_6 : decode cX3_dropOldestSaved 6 = .ok (.astore_n 1, 1) := by decide +kernel
theorem dX3_dropOldestSaved_7 : decode cX3_dropOldestSaved 7 = .ok (.iconst 1, 1) := by decide +kernel
theorem dX3_dropOldestSaved_8 : decode cX3_dropOldestSaved 8 = .ok (.istore_n 2, 1) := by decide +kernel
theorem dX3_dropOldestSaved_9 : decode cX3_dropOldestSaved 9 = .ok (.iload_n 2, 1) := by decide +kernel
theorem dX3_dropOldestSaved_10 : decode cX3_dropOldestSaved 10 = .ok (.iconst 5, 1) := by decide +kernel
theorem dX3_dropOldestSaved_11 : decode cX3_dropOldestSaved 11 = .ok (.if_icmp .ge 23, 3) := by decide +kernel
theorem dX3_dropOldestSaved_14 : decode cX3_dropOldestSaved 14 = .ok (.aload_n 0, 1) := by decide +kernel
theorem dX3_dropOldestSaved_15 : decode cX3_dropOldestSaved 15 = .ok (.getfield 16, 3) := by decide +kernel
theorem dX3_dropOldestSaved_18 : decode cX3_dropOldestSaved 18 = .ok (.iload_n 2, 1) := by decide +kernel
theorem dX3_dropOldestSaved_19 : decode cX3_dropOldestSaved 19 = .ok (.iconst 1, 1) := by decide +kernel
theorem dX3_dropOldestSaved_20 : decode cX3_dropOldestSaved 20 = .ok (.isub, 1) := by decide +kernel
theorem dX3_dropOldestSaved_21 : decode cX3_dropOldestSaved 21 = .ok (.aload_n 0, 1) := by decide +kernel
theorem dX3_dropOldestSaved_22 : decode cX3_dropOldestSaved 22 = .ok (.getfield 16, 3) := by decide +kernel
theorem dX3_dropOldestSaved_25 : decode cX3_dropOldestSaved 25 = .ok (.iload_n 2, 1) := by decide +kernel
theorem dX3_dropOldestSaved_26 : decode cX3_dropOldestSaved 26 = .ok (.aaload, 1) := by decide +kernel
theorem dX3_dropOldestSaved_27 : decode cX3_dropOldestSaved 27 = .ok (.aastore, 1) := by decide +kernel
theorem dX3_dropOldestSaved_28 : decode cX3_dropOldestSaved 28 = .ok (.iinc 2 1, 3) := by decide +kernel
theorem dX3_dropOldestSaved_31 : decode cX3_dropOldestSaved 31 = .ok (.goto (-22), 3) := by decide +kernel
theorem dX3_dropOldestSaved_34 : decode cX3_dropOldestSaved 34 = .ok (.aload_n 0, 1) := by decide +kernel
theorem dX3_dropOldestSaved_35 : decode cX3_dropOldestSaved 35 = .ok (.getfield 16, 3) := by decide +kernel
theorem dX3_dropOldestSaved_38 : decode cX3_dropOldestSaved 38 = .ok (.iconst 4, 1) := by decide +kernel
theorem dX3_dropOldestSaved_39 : decode cX3_dropOldestSaved 39 = .ok (.aload_n 1, 1) := by decide +kernel
theorem dX3_dropOldestSaved_40 : decode cX3_dropOldestSaved 40 = .ok (.aastore, 1) := by decide +kernel
theorem dX3_dropOldestSaved_41 : decode cX3_dropOldestSaved 41 = .ok (.aload_n 0, 1) := by decide +kernel
theorem dX3_dropOldestSaved_42 : decode cX3_dropOldestSaved 42 = .ok (.iconst 4, 1) := by decide +kernel
theorem dX3_dropOldestSaved_43 : decode cX3_dropOldestSaved 43 = .ok (.putfield 33, 3) := by decide +kernel
theorem dX3_dropOldestSaved_46 : decode cX3_dropOldestSaved 46 = .ok (.return_, 1) := by decide +kernel
set_option maxRecDepth 20000 in
theorem ggX3_strikeQuarter_X0_blocksAt : GoodIn wsX3_strikeQuarter wsX0_blocksAt := goodIn_r _ [9, 10, 11, 12, 13, 8, 14, 15, 16, 82, 83, 84, 85, 86, 87, 88] (by decide +kernel) (by decide +kernel)
set_option maxRecDepth 20000 in
theorem gX3_strikeQuarter_X0_blocksAt : GoodIn wsX3_strikeQuarter (wsV RX3 121 RX0 yX0_blocksAt wsX0_blocksAt) := goodIn_app (goodIn_of _ (by decide +kernel)) ggX3_strikeQuarter_X0_blocksAt
set_option maxRecDepth 20000 in
theorem ggX3_strikeQuarter_X0_hushesAt : GoodIn wsX3_strikeQuarter wsX0_hushesAt := goodIn_r _ [14, 10, 15, 16, 82, 83, 84, 85, 86, 87, 88] (by decide +kernel) (by decide +kernel)
set_option maxRecDepth 20000 in
theorem gX3_strikeQuarter_X0_hushesAt : GoodIn wsX3_strikeQuarter (wsV RX3 133 RX0 yX0_hushesAt wsX0_hushesAt) := goodIn_app (goodIn_of _ (by decide +kernel)) ggX3_strikeQuarter_X0_hushesAt
set_option maxRecDepth 20000 in
theorem ggX3_strikeQuarter_X2_dueAt : GoodIn wsX3_strikeQuarter wsX2_dueAt := goodIn_r _ [22, 23, 24, 25, 26, 21, 27, 89, 90, 91, 92, 93, 94] (by decide +kernel) (by decide +kernel)
set_option maxRecDepth 20000 in
theorem gX3_strikeQuarter_X2_dueAt : GoodIn wsX3_strikeQuarter (wsV RX3 124 RX2 yX2_dueAt wsX2_dueAt) := goodIn_app (goodIn_of _ (by decide +kernel)) ggX3_strikeQuarter_X2_dueAt
set_option maxRecDepth 20000 in
theorem ggX3_strikeQuarter_X3_release : GoodIn wsX3_strikeQuarter wsX3_release := goodIn_r _ [32, 1, 33, 2, 34, 35, 36, 37, 38, 21, 39, 40, 41, 42, 43, 44, 45, 46, 47, 48, 49, 50, 51, 52, 53, 54, 55, 24, 25, 26, 27, 23, 56, 57, 58, 59, 60, 61, 62, 63, 64, 65, 66, 67, 68, 77, 78, 79, 80, 81, 82, 83, 84, 85, 86, 87, 88, 89, 90, 91, 92, 93, 94, 95, 96, 97, 98] (by decide +kernel) (by decide +kernel)
set_option maxRecDepth 20000 in
theorem gX3_strikeQuarter_X3_release : GoodIn wsX3_strikeQuarter (wsV RX3 95 RX3 yX3_release wsX3_release) := goodIn_app (goodIn_of _ (by decide +kernel)) ggX3_strikeQuarter_X3_release
set_option maxRecDepth 20000 in
theorem ggX3_strikeQuarter_X2_isReleasedAt : GoodIn wsX3_strikeQuarter wsX2_isReleasedAt := goodIn_r _ [72, 73, 74, 75, 21, 76, 23, 89, 90, 91, 92, 93, 94] (by decide +kernel) (by decide +kernel)
set_option maxRecDepth 20000 in
theorem gX3_strikeQuarter_X2_isReleasedAt : GoodIn wsX3_strikeQuarter (wsV RX3 118 RX2 yX2_isReleasedAt wsX2_isReleasedAt) := goodIn_app (goodIn_of _ (by decide +kernel)) ggX3_strikeQuarter_X2_isReleasedAt
theorem dX3_strikeQuarter_0 : decode cX3_strikeQuarter 0 = .ok (.aload_n 0, 1) := by decide +kernel
theorem dX3_strikeQuarter_1 : decode cX3_strikeQuarter 1 = .ok (.getfield 10, 3) := by decide +kernel
theorem dX3_strikeQuarter_4 : decode cX3_strikeQuarter 4 = .ok (.aload_n 0, 1) := by decide +kernel
theorem dX3_strikeQuarter_5 : decode cX3_strikeQuarter 5 = .ok (.getfield 10, 3) := by decide +kernel
theorem dX3_strikeQuarter_8 : decode cX3_strikeQuarter 8 = .ok (.getfield 83, 3) := by decide +kernel
theorem dX3_strikeQuarter_11 : decode cX3_strikeQuarter 11 = .ok (.invokevirtual 121, 3) := by decide +kernel
theorem dX3_strikeQuarter_14 : decode cX3_strikeQuarter 14 = .ok (.ifCond .eq 5, 3) := by decide +kernel
theorem dX3_strikeQuarter_17 : decode cX3_strikeQuarter 17 = .ok (.iconst 0, 1) := by decide +kernel
theorem dX3_strikeQuarter_18 : decode cX3_strikeQuarter 18 = .ok (.ireturn, 1) := by decide +kernel
theorem dX3_strikeQuarter_19 : decode cX3_strikeQuarter 19 = .ok (.aload_n 0, 1) := by decide +kernel
theorem dX3_strikeQuarter_20 : decode cX3_strikeQuarter 20 = .ok (.getfield 10, 3) := by decide +kernel
theorem dX3_strikeQuarter_23 : decode cX3_strikeQuarter 23 = .ok (.aload_n 0, 1) := by decide +kernel
theorem dX3_strikeQuarter_24 : decode cX3_strikeQuarter 24 = .ok (.getfield 10, 3) := by decide +kernel
theorem dX3_strikeQuarter_27 : decode cX3_strikeQuarter 27 = .ok (.getfield 83, 3) := by decide +kernel
theorem dX3_strikeQuarter_30 : decode cX3_strikeQuarter 30 = .ok (.invokevirtual 133, 3) := by decide +kernel
theorem dX3_strikeQuarter_33 : decode cX3_strikeQuarter 33 = .ok (.istore_n 1, 1) := by decide +kernel
theorem dX3_strikeQuarter_34 : decode cX3_strikeQuarter 34 = .ok (.aload_n 0, 1) := by decide +kernel
theorem dX3_strikeQuarter_35 : decode cX3_strikeQuarter 35 = .ok (.aload_n 0, 1) := by decide +kernel
theorem dX3_strikeQuarter_36 : decode cX3_strikeQuarter 36 = .ok (.getfield 10, 3) := by decide +kernel
theorem dX3_strikeQuarter_39 : decode cX3_strikeQuarter 39 = .ok (.getfield 171, 3) := by decide +kernel
theorem dX3_strikeQuarter_42 : decode cX3_strikeQuarter 42 = .ok (.aload_n 0, 1) := by decide +kernel
theorem dX3_strikeQuarter_43 : decode cX3_strikeQuarter 43 = .ok (.getfield 10, 3) := by decide +kernel
theorem dX3_strikeQuarter_46 : decode cX3_strikeQuarter 46 = .ok (.getfield 171, 3) := by decide +kernel
theorem dX3_strikeQuarter_49 : decode cX3_strikeQuarter 49 = .ok (.aload_n 0, 1) := by decide +kernel
theorem dX3_strikeQuarter_50 : decode cX3_strikeQuarter 50 = .ok (.getfield 10, 3) := by decide +kernel
theorem dX3_strikeQuarter_53 : decode cX3_strikeQuarter 53 = .ok (.getfield 83, 3) := by decide +kernel
theorem dX3_strikeQuarter_56 : decode cX3_strikeQuarter 56 = .ok (.invokevirtual 124, 3) := by decide +kernel
theorem dX3_strikeQuarter_59 : decode cX3_strikeQuarter 59 = .ok (.iload_n 1, 1) := by decide +kernel
theorem dX3_strikeQuarter_60 : decode cX3_strikeQuarter 60 = .ok (.invokevirtual 95, 3) := by decide +kernel
theorem dX3_strikeQuarter_63 : decode cX3_strikeQuarter 63 = .ok (.istore_n 2, 1) := by decide +kernel
theorem dX3_strikeQuarter_64 : decode cX3_strikeQuarter 64 = .ok (.aload_n 0, 1) := by decide +kernel
theorem dX3_strikeQuarter_65 : decode cX3_strikeQuarter 65 = .ok (.getfield 10, 3) := by decide +kernel
theorem dX3_strikeQuarter_68 : decode cX3_strikeQuarter 68 = .ok (.getfield 174, 3) := by decide +kernel
theorem dX3_strikeQuarter_71 : decode cX3_strikeQuarter 71 = .ok (.aload_n 0, 1) := by decide +kernel
theorem dX3_strikeQuarter_72 : decode cX3_strikeQuarter 72 = .ok (.getfield 10, 3) := by decide +kernel
theorem dX3_strikeQuarter_75 : decode cX3_strikeQuarter 75 = .ok (.getfield 83, 3) := by decide +kernel
theorem dX3_strikeQuarter_78 : decode cX3_strikeQuarter 78 = .ok (.invokevirtual 118, 3) := by decide +kernel
theorem dX3_strikeQuarter_81 : decode cX3_strikeQuarter 81 = .ok (.ifCond .eq 35, 3) := by decide +kernel
theorem dX3_strikeQuarter_84 : decode cX3_strikeQuarter 84 = .ok (.iload_n 2, 1) := by decide +kernel
theorem dX3_strikeQuarter_85 : decode cX3_strikeQuarter 85 = .ok (.aload_n 0, 1) := by decide +kernel
theorem dX3_strikeQuarter_86 : decode cX3_strikeQuarter 86 = .ok (.aload_n 0, 1) := by decide +kernel
theorem dX3_strikeQuarter_87 : decode cX3_strikeQuarter 87 = .ok (.getfield 10, 3) := by decide +kernel
theorem dX3_strikeQuarter_90 : decode cX3_strikeQuarter 90 = .ok (.getfield 174, 3) := by decide +kernel
theorem dX3_strikeQuarter_93 : decode cX3_strikeQuarter 93 = .ok (.aload_n 0, 1) := by decide +kernel
theorem dX3_strikeQuarter_94 : decode cX3_strikeQuarter 94 = .ok (.getfield 10, 3) := by decide +kernel
theorem dX3_strikeQuarter_97 : decode cX3_strikeQuarter 97 = .ok (.getfield 174, 3) := by decide +kernel
theorem dX3_strikeQuarter_100 : decode cX3_strikeQuarter 100 = .ok (.aload_n 0, 1) := by decide +kernel
theorem dX3_strikeQuarter_101 : decode cX3_strikeQuarter 101 = .ok (.getfield 10, 3) := by decide +kernel
theorem dX3_strikeQuarter_104 : decode cX3_strikeQuarter 104 = .ok (.getfield 83, 3) := by decide +kernel
theorem dX3_strikeQuarter_107 : decode cX3_strikeQuarter 107 = .ok (.invokevirtual 124, 3) := by decide +kernel
theorem dX3_strikeQuarter_110 : decode cX3_strikeQuarter 110 = .ok (.iload_n 1, 1) := by decide +kernel
theorem dX3_strikeQuarter_111 : decode cX3_strikeQuarter 111 = .ok (.invokevirtual 95, 3) := by decide +kernel
theorem dX3_strikeQuarter_114 : decode cX3_strikeQuarter 114 = .ok (.iadd, 1) := by decide +kernel
theorem dX3_strikeQuarter_115 : decode cX3_strikeQuarter 115 = .ok (.istore_n 2, 1) := by decide +kernel
theorem dX3_strikeQuarter_116 : decode cX3_strikeQuarter 116 = .ok (.iload_n 2, 1) := by decide +kernel
theorem dX3_strikeQuarter_117 : decode cX3_strikeQuarter 117 = .ok (.ireturn, 1) := by decide +kernel
set_option maxRecDepth 20000 in
theorem ggX3_release_X2_releaseWith : GoodIn wsX3_release wsX2_releaseWith := goodIn_r _ [10, 11, 12, 13, 14, 15, 16, 17, 9, 18, 19, 20, 21, 22, 23, 24, 25, 26, 27, 28, 29, 30, 31, 57, 58, 59, 60, 61, 62] (by decide +kernel) (by decide +kernel)
set_option maxRecDepth 20000 in
theorem gX3_release_X2_releaseWith : GoodIn wsX3_release (wsV RX3 127 RX2 yX2_releaseWith wsX2_releaseWith) := goodIn_app (goodIn_of _ (by decide +kernel)) ggX3_release_X2_releaseWith
set_option maxRecDepth 20000 in
theorem ggX3_release_X1_put : GoodIn wsX3_release wsX1_put := goodIn_r _ [36, 37, 38, 39, 40, 41, 42, 43, 44, 63, 64, 65, 66] (by decide +kernel) (by decide +kernel)
set_option maxRecDepth 20000 in
theorem gX3_release_X1_put : GoodIn wsX3_release (wsV RX3 180 RX1 yX1_put wsX1_put) := goodIn_app (goodIn_of _ (by decide +kernel)) ggX3_release_X1_put
theorem dX3_release_0 : decode cX3_release 0 = .ok (.aload_n 1, 1) := by decide +kernel
theorem dX3_release_1 : decode cX3_release 1 = .ok (.iload_n 2, 1) := by decide +kernel
theorem dX3_release_2 : decode cX3_release 2 = .ok (.invokevirtual 127, 3) := by decide +kernel
theorem dX3_release_5 : decode cX3_release 5 = .ok (.istore 4, 2) := by decide +kernel
theorem dX3_release_7 : decode cX3_release 7 = .ok (.iload 4, 2) := by decide +kernel
theorem dX3_release_9 : decode cX3_release 9 = .ok (.ifCond .ne 5, 3) := by decide +kernel
theorem dX3_release_12 : decode cX3_release 12 = .ok (.iconst 0, 1) := by decide +kernel
theorem dX3_release_13 : decode cX3_release 13 = .ok (.ireturn, 1) := by decide +kernel
theorem dX3_release_14 : decode cX3_release 14 = .ok (.aload_n 0, 1) := by decide +kernel
theorem dX3_release_15 : decode cX3_release 15 = .ok (.getfield 10, 3) := by decide +kernel
theorem dX3_release_18 : decode cX3_release 18 = .ok (.getfield 136, 3) := by decide +kernel
theorem dX3_release_21 : decode cX3_release 21 = .ok (.aload_n 0, 1) := by decide +kernel
theorem dX3_release_22 : decode cX3_release 22 = .ok (.getfield 10, 3) := by decide +kernel
theorem dX3_release_25 : decode cX3_release 25 = .ok (.getfield 83, 3) := by decide +kernel
theorem dX3_release_28 : decode cX3_release 28 = .ok (.aload_n 1, 1) := by decide +kernel
theorem dX3_release_29 : decode cX3_release 29 = .ok (.getfield 177, 3) := by decide +kernel
theorem dX3_release_32 : decode cX3_release 32 = .ok (.iload_n 3, 1) := by decide +kernel
theorem dX3_release_33 : decode cX3_release 33 = .ok (.ifCond .eq 9, 3) := by decide +kernel
theorem dX3_release_36 : decode cX3_release 36 = .ok (.iload 4, 2) := by decide +kernel
theorem dX3_release_38 : decode cX3_release 38 = .ok (.ineg, 1) := by decide +kernel
theorem dX3_release_39 : decode cX3_release 39 = .ok (.goto 5, 3) := by decide +kernel
theorem dX3_release_42 : decode cX3_release 42 = .ok (.iload 4, 2) := by decide +kernel
theorem dX3_release_44 : decode cX3_release 44 = .ok (.invokevirtual 180, 3) := by decide +kernel
theorem dX3_release_47 : decode cX3_release 47 = .ok (.iload_n 3, 1) := by decide +kernel
theorem dX3_release_48 : decode cX3_release 48 = .ok (.ifCond .eq 5, 3) := by decide +kernel
theorem dX3_release_51 : decode cX3_release 51 = .ok (.iconst 0, 1) := by decide +kernel
theorem dX3_release_52 : decode cX3_release 52 = .ok (.ireturn, 1) := by decide +kernel
theorem dX3_release_53 : decode cX3_release 53 = .ok (.aload_n 1, 1) := by decide +kernel
theorem dX3_release_54 : decode cX3_release 54 = .ok (.dup, 1) := by decide +kernel
theorem dX3_release_55 : decode cX3_release 55 = .ok (.getfield 130, 3) := by decide +kernel
theorem dX3_release_58 : decode cX3_release 58 = .ok (.iload 4, 2) := by decide +kernel
theorem dX3_release_60 : decode cX3_release 60 = .ok (.iadd, 1) := by decide +kernel
theorem dX3_release_61 : decode cX3_release 61 = .ok (.putfield 130, 3) := by decide +kernel
theorem dX3_release_64 : decode cX3_release 64 = .ok (.iload 4, 2) := by decide +kernel
theorem dX3_release_66 : decode cX3_release 66 = .ok (.ireturn, 1) := by decide +kernel
set_option maxRecDepth 20000 in
theorem ggX4_init_X4_at : GoodIn wsX4_init wsX4_at := goodIn_r _ [12] (by decide +kernel) (by decide +kernel)
set_option maxRecDepth 20000 in
theorem gX4_init_X4_at : GoodIn wsX4_init (va_wsS RX4 22 yX4_at wsX4_at) := goodIn_app (goodIn_of _ (by decide +kernel)) ggX4_init_X4_at
theorem dX4_init_0 : decode cX4_init 0 = .ok (.aload_n 0, 1) := by decide +kernel
theorem dX4_init_1 : decode cX4_init 1 = .ok (.invokespecial 1, 3) := by decide +kernel
theorem dX4_init_4 : decode cX4_init 4 = .ok (.aload_n 0, 1) := by decide +kernel
theorem dX4_init_5 : decode cX4_init 5 = .ok (.bipush 39, 2) := by decide +kernel
theorem dX4_init_7 : decode cX4_init 7 = .ok (.newarray .int, 2) := by decide +kernel
theorem dX4_init_9 : decode cX4_init 9 = .ok (.putfield 7, 3) := by decide +kernel
theorem dX4_init_12 : decode cX4_init 12 = .ok (.aload_n 0, 1) := by decide +kernel
theorem dX4_init_13 : decode cX4_init 13 = .ok (.bipush 39, 2) := by decide +kernel
theorem dX4_init_15 : decode cX4_init 15 = .ok (.newarray .int, 2) := by decide +kernel
theorem dX4_init_17 : decode cX4_init 17 = .ok (.putfield 13, 3) := by decide +kernel
theorem dX4_init_20 : decode cX4_init 20 = .ok (.aload_n 0, 1) := by decide +kernel
theorem dX4_init_21 : decode cX4_init 21 = .ok (.sipush 195, 3) := by decide +kernel
theorem dX4_init_24 : decode cX4_init 24 = .ok (.newarray .int, 2) := by decide +kernel
theorem dX4_init_26 : decode cX4_init 26 = .ok (.putfield 16, 3) := by decide +kernel
theorem dX4_init_29 : decode cX4_init 29 = .ok (.aload_n 0, 1) := by decide +kernel
theorem dX4_init_30 : decode cX4_init 30 = .ok (.iconst 3, 1) := by decide +kernel
theorem dX4_init_31 : decode cX4_init 31 = .ok (.newarray .int, 2) := by decide +kernel
theorem dX4_init_33 : decode cX4_init 33 = .ok (.putfield 19, 3) := by decide +kernel
theorem dX4_init_36 : decode cX4_init 36 = .ok (.iconst 0, 1) := by decide +kernel
theorem dX4_init_37 : decode cX4_init 37 = .ok (.istore_n 1, 1) := by decide +kernel
theorem dX4_init_38 : decode cX4_init 38 = .ok (.iload_n 1, 1) := by decide +kernel
theorem dX4_init_39 : decode cX4_init 39 = .ok (.iconst 2, 1) := by decide +kernel
theorem dX4_init_40 : decode cX4_init 40 = .ok (.if_icmp .ge 44, 3) := by decide +kernel
theorem dX4_init_43 : decode cX4_init 43 = .ok (.aload_n 0, 1) := by decide +kernel
theorem dX4_init_44 : decode cX4_init 44 = .ok (.getfield 7, 3) := by decide +kernel
theorem dX4_init_47 : decode cX4_init 47 = .ok (.iload_n 1, 1) := by decide +kernel
theorem dX4_init_48 : decode cX4_init 48 = .ok (.iconst 0, 1) := by decide +kernel
theorem dX4_init_49 : decode cX4_init 49 = .ok (.invokestatic 22, 3) := by decide +kernel
theorem dX4_init_52 : decode cX4_init 52 = .ok (.iconst 1, 1) := by decide +kernel
theorem dX4_init_53 : decode cX4_init 53 = .ok (.iastore, 1) := by decide +kernel
theorem dX4_init_54 : decode cX4_init 54 = .ok (.aload_n 0, 1) := by decide +kernel
theorem dX4_init_55 : decode cX4_init 55 = .ok (.getfield 7, 3) := by decide +kernel
theorem dX4_init_58 : decode cX4_init 58 = .ok (.iload_n 1, 1) := by decide +kernel
theorem dX4_init_59 : decode cX4_init 59 = .ok (.iconst 1, 1) := by decide +kernel
theorem dX4_init_60 : decode cX4_init 60 = .ok (.invokestatic 22, 3) := by decide +kernel
theorem dX4_init_63 : decode cX4_init 63 = .ok (.iconst 1, 1) := by decide +kernel
theorem dX4_init_64 : decode cX4_init 64 = .ok (.iastore, 1) := by decide +kernel
theorem dX4_init_65 : decode cX4_init 65 = .ok (.aload_n 0, 1) := by decide +kernel
theorem dX4_init_66 : decode cX4_init 66 = .ok (.getfield 7, 3) := by decide +kernel
theorem dX4_init_69 : decode cX4_init 69 = .ok (.iload_n 1, 1) := by decide +kernel
theorem dX4_init_70 : decode cX4_init 70 = .ok (.iconst 2, 1) := by decide +kernel
theorem dX4_init_71 : decode cX4_init 71 = .ok (.invokestatic 22, 3) := by decide +kernel
theorem dX4_init_74 : decode cX4_init 74 = .ok (.sipush 2000, 3) := by decide +kernel
theorem dX4_init_77 : decode cX4_init 77 = .ok (.iastore, 1) := by decide +kernel
theorem dX4_init_78 : decode cX4_init 78 = .ok (.iinc 1 1, 3) := by decide +kernel
theorem dX4_init_81 : decode cX4_init 81 = .ok (.goto (-43), 3) := by decide +kernel
theorem dX4_init_84 : decode cX4_init 84 = .ok (.return_, 1) := by decide +kernel
theorem dX4_in_0 : decode cX4_in 0 = .ok (.iload_n 0, 1) := by decide +kernel
theorem dX4_in_1 : decode cX4_in 1 = .ok (.iload_n 1, 1) := by decide +kernel
theorem dX4_in_2 : decode cX4_in 2 = .ok (.if_icmp .lt 12, 3) := by decide +kernel
theorem dX4_in_5 : decode cX4_in 5 = .ok (.iload_n 0, 1) := by decide +kernel
theorem dX4_in_6 : decode cX4_in 6 = .ok (.iload_n 2, 1) := by decide +kernel
theorem dX4_in_7 : decode cX4_in 7 = .ok (.if_icmp .gt 7, 3) := by decide +kernel
theorem dX4_in_10 : decode cX4_in 10 = .ok (.iconst 1, 1) := by decide +kernel
theorem dX4_in_11 : decode cX4_in 11 = .ok (.goto 4, 3) := by decide +kernel
theorem dX4_in_14 : decode cX4_in 14 = .ok (.iconst 0, 1) := by decide +kernel
theorem dX4_in_15 : decode cX4_in 15 = .ok (.ireturn, 1) := by decide +kernel
theorem dX4_at_0 : decode cX4_at 0 = .ok (.iconst 4, 1) := by decide +kernel
theorem dX4_at_1 : decode cX4_at 1 = .ok (.iconst 5, 1) := by decide +kernel
theorem dX4_at_2 : decode cX4_at 2 = .ok (.iload_n 0, 1) := by decide +kernel
theorem dX4_at_3 : decode cX4_at 3 = .ok (.imul, 1) := by decide +kernel
theorem dX4_at_4 : decode cX4_at 4 = .ok (.iadd, 1) := by decide +kernel
theorem dX4_at_5 : decode cX4_at 5 = .ok (.iload_n 1, 1) := by decide +kernel
theorem dX4_at_6 : decode cX4_at 6 = .ok (.iadd, 1) := by decide +kernel
theorem dX4_at_7 : decode cX4_at 7 = .ok (.ireturn, 1) := by decide +kernel
theorem dX4_error_0 : decode cX4_error 0 = .ok (.aload_n 0, 1) := by decide +kernel
theorem dX4_error_1 : decode cX4_error 1 = .ok (.getfield 19, 3) := by decide +kernel
theorem dX4_error_4 : decode cX4_error 4 = .ok (.bipush (-2), 2) := by decide +kernel
theorem dX4_error_6 : decode cX4_error 6 = .ok (.iload_n 1, 1) := by decide +kernel
theorem dX4_error_7 : decode cX4_error 7 = .ok (.isub, 1) := by decide +kernel
theorem dX4_error_8 : decode cX4_error 8 = .ok (.dup2, 1) := by decide +kernel
theorem dX4_error_9 : decode cX4_error 9 = .ok (.iaload, 1) := by decide +kernel
theorem dX4_error_10 : decode cX4_error 10 = .ok (.iconst 1, 1) := by decide +kernel
theorem dX4_error_11 : decode cX4_error 11 = .ok (.iadd, 1) := by decide +kernel
theorem dX4_error_12 : decode cX4_error 12 = .ok (.iastore, 1) := by decide +kernel
theorem dX4_error_13 : decode cX4_error 13 = .ok (.iload_n 1, 1) := by decide +kernel
theorem dX4_error_14 : decode cX4_error 14 = .ok (.ireturn, 1) := by decide +kernel
theorem dX4_copy_0 : decode cX4_copy 0 = .ok (.iconst 0, 1) := by decide +kernel
theorem dX4_copy_1 : decode cX4_copy 1 = .ok (.istore 4, 2) := by decide +kernel
theorem dX4_copy_3 : decode cX4_copy 3 = .ok (.iload 4, 2) := by decide +kernel
theorem dX4_copy_5 : decode cX4_copy 5 = .ok (.bipush 39, 2) := by decide +kernel
theorem dX4_copy_7 : decode cX4_copy 7 = .ok (.if_icmp .ge 21, 3) := by decide +kernel
theorem dX4_copy_10 : decode cX4_copy 10 = .ok (.aload_n 2, 1) := by decide +kernel
theorem dX4_copy_11 : decode cX4_copy 11 = .ok (.iload_n 3, 1) := by decide +kernel
theorem dX4_copy_12 : decode cX4_copy 12 = .ok (.iload 4, 2) := by decide +kernel
theorem dX4_copy_14 : decode cX4_copy 14 = .ok (.iadd, 1) := by decide +kernel
theorem dX4_copy_15 : decode cX4_copy 15 = .ok (.aload_n 0, 1) := by decide +kernel
theorem dX4_copy_16 : decode cX4_copy 16 = .ok (.iload_n 1, 1) := by decide +kernel
theorem dX4_copy_17 : decode cX4_copy 17 = .ok (.iload 4, 2) := by decide +kernel
theorem dX4_copy_19 : decode cX4_copy 19 = .ok (.iadd, 1) := by decide +kernel
theorem dX4_copy_20 : decode cX4_copy 20 = .ok (.iaload, 1) := by decide +kernel
theorem dX4_copy_21 : decode cX4_copy 21 = .ok (.iastore, 1) := by decide +kernel
theorem dX4_copy_22 : decode cX4_copy 22 = .ok (.iinc 4 1, 3) := by decide +kernel
theorem dX4_copy_25 : decode cX4_copy 25 = .ok (.goto (-22), 3) := by decide +kernel
theorem dX4_copy_28 : decode cX4_copy 28 = .ok (.return_, 1) := by decide +kernel
set_option maxRecDepth 20000 in
theorem ggX4_save_X4_copy : GoodIn wsX4_save wsX4_copy := goodIn_r _ [7] (by decide +kernel) (by decide +kernel)
set_option maxRecDepth 20000 in
theorem gX4_save_X4_copy : GoodIn wsX4_save (va_wsS RX4 30 yX4_copy wsX4_copy) := goodIn_app (goodIn_of _ (by decide +kernel)) ggX4_save_X4_copy
theorem dX4_save_0 : decode cX4_save 0 = .ok (.aload_n 0, 1) := by decide +kernel
theorem dX4_save_1 : decode cX4_save 1 = .ok (.getfield 26, 3) := by decide +kernel
theorem dX4_save_4 : decode cX4_save 4 = .ok (.iconst 5, 1) := by decide +kernel
theorem dX4_save_5 : decode cX4_save 5 = .ok (.if_icmp .ne 43, 3) := by decide +kernel
theorem dX4_save_8 : decode cX4_save 8 = .ok (.iconst 0, 1) := by decide +kernel
theorem dX4_save_9 : decode cX4_save 9 = .ok (.istore_n 1, 1) := by decide +kernel
theorem dX4_save_10 : decode cX4_save 10 = .ok (.iload_n 1, 1) := by decide +kernel
theorem dX4_save_11 : decode cX4_save 11 = .ok (.sipush 156, 3) := by decide +kernel
theorem dX4_save_14 : decode cX4_save 14 = .ok (.if_icmp .ge 24, 3) := by decide +kernel
theorem dX4_save_17 : decode cX4_save 17 = .ok (.aload_n 0, 1) := by decide +kernel
theorem dX4_save_18 : decode cX4_save 18 = .ok (.getfield 16, 3) := by decide +kernel
theorem dX4_save_21 : decode cX4_save 21 = .ok (.iload_n 1, 1) := by decide +kernel
theorem dX4_save_22 : decode cX4_save 22 = .ok (.aload_n 0, 1) := by decide +kernel
theorem dX4_save_23 : decode cX4_save 23 = .ok (.getfield 16, 3) := by decide +kernel
theorem dX4_save_26 : decode cX4_save 26 = .ok (.iload_n 1, 1) := by decide +kernel
theorem dX4_save_27 : decode cX4_save 27 = .ok (.bipush 39, 2) := by decide +kernel
theorem dX4_save_29 : decode cX4_save 29 = .ok (.iadd, 1) := by decide +kernel
theorem dX4_save_30 : decode cX4_save 30 = .ok (.iaload, 1) := by decide +kernel
theorem dX4_save_31 : decode cX4_save 31 = .ok (.iastore, 1) := by decide +kernel
theorem dX4_save_32 : decode cX4_save 32 = .ok (.iinc 1 1, 3) := by decide +kernel
theorem dX4_save_35 : decode cX4_save 35 = .ok (.goto (-25), 3) := by decide +kernel
theorem dX4_save_38 : decode cX4_save 38 = .ok (.aload_n 0, 1) := by decide +kernel
theorem dX4_save_39 : decode cX4_save 39 = .ok (.dup, 1) := by decide +kernel
theorem dX4_save_40 : decode cX4_save 40 = .ok (.getfield 26, 3) := by decide +kernel
theorem dX4_save_43 : decode cX4_save 43 = .ok (.iconst 1, 1) := by decide +kernel
theorem dX4_save_44 : decode cX4_save 44 = .ok (.isub, 1) := by decide +kernel
theorem dX4_save_45 : decode cX4_save 45 = .ok (.putfield 26, 3) := by decide +kernel
theorem dX4_save_48 : decode cX4_save 48 = .ok (.aload_n 0, 1) := by decide +kernel
theorem dX4_save_49 : decode cX4_save 49 = .ok (.getfield 7, 3) := by decide +kernel
theorem dX4_save_52 : decode cX4_save 52 = .ok (.iconst 0, 1) := by decide +kernel
theorem dX4_save_53 : decode cX4_save 53 = .ok (.aload_n 0, 1) := by decide +kernel
theorem dX4_save_54 : decode cX4_save 54 = .ok (.getfield 16, 3) := by decide +kernel
theorem dX4_save_57 : decode cX4_save 57 = .ok (.bipush 39, 2) := by decide +kernel
theorem dX4_save_59 : decode cX4_save 59 = .ok (.aload_n 0, 1) := by decide +kernel
theorem dX4_save_60 : decode cX4_save 60 = .ok (.getfield 26, 3) := by decide +kernel
theorem dX4_save_63 : decode cX4_save 63 = .ok (.imul, 1) := by decide +kernel
theorem dX4_save_64 : decode cX4_save 64 = .ok (.invokestatic 30, 3) := by decide +kernel
theorem dX4_save_67 : decode cX4_save 67 = .ok (.aload_n 0, 1) := by decide +kernel
theorem dX4_save_68 : decode cX4_save 68 = .ok (.dup, 1) := by decide +kernel
theorem dX4_save_69 : decode cX4_save 69 = .ok (.getfield 26, 3) := by decide +kernel
theorem dX4_save_72 : decode cX4_save 72 = .ok (.iconst 1, 1) := by decide +kernel
theorem dX4_save_73 : decode cX4_save 73 = .ok (.iadd, 1) := by decide +kernel
theorem dX4_save_74 : decode cX4_save 74 = .ok (.putfield 26, 3) := by decide +kernel
theorem dX4_save_77 : decode cX4_save 77 = .ok (.return_, 1) := by decide +kernel
set_option maxRecDepth 20000 in
theorem ggX4_isTrain_X4_in : GoodIn wsX4_isTrain wsX4_in := goodIn_r _ [4] (by decide +kernel) (by decide +kernel)
set_option maxRecDepth 20000 in
theorem gX4_isTrain_X4_in : GoodIn wsX4_isTrain (va_wsS RX4 34 yX4_in wsX4_in) := goodIn_app (goodIn_of _ (by decide +kernel)) ggX4_isTrain_X4_in
theorem dX4_isTrain_0 : decode cX4_isTrain 0 = .ok (.iload_n 0, 1) := by decide +kernel
theorem dX4_isTrain_1 : decode cX4_isTrain 1 = .ok (.iconst 0, 1) := by decide +kernel
theorem dX4_isTrain_2 : decode cX4_isTrain 2 = .ok (.iconst 1, 1) := by decide +kernel
theorem dX4_isTrain_3 : decode cX4_isTrain 3 = .ok (.invokestatic 34, 3) := by decide +kernel
theorem dX4_isTrain_6 : decode cX4_isTrain 6 = .ok (.ireturn, 1) := by decide +kernel
theorem dX4_positions_0 : decode cX4_positions 0 = .ok (.iload_n 0, 1) := by decide +kernel
theorem dX4_positions_1 : decode cX4_positions 1 = .ok (.ifCond .ne 8, 3) := by decide +kernel
theorem dX4_positions_4 : decode cX4_positions 4 = .ok (.bipush 12, 2) := by decide +kernel
theorem dX4_positions_6 : decode cX4_positions 6 = .ok (.goto 4, 3) := by decide +kernel
theorem dX4_positions_9 : decode cX4_positions 9 = .ok (.iconst 4, 1) := by decide +kernel
theorem dX4_positions_10 : decode cX4_positions 10 = .ok (.ireturn, 1) := by decide +kernel
set_option maxRecDepth 20000 in
theorem ggX4_setMechanism_X4_isTrain : GoodIn wsX4_setMechanism wsX4_isTrain := goodIn_r _ [5, 6, 7, 4, 8] (by decide +kernel) (by decide +kernel)
set_option maxRecDepth 20000 in
theorem gX4_setMechanism_X4_isTrain : GoodIn wsX4_setMechanism (va_wsS RX4 38 yX4_isTrain wsX4_isTrain) := goodIn_app (goodIn_of _ (by decide +kernel)) ggX4_setMechanism_X4_isTrain
set_option maxRecDepth 20000 in
theorem ggX4_setMechanism_X4_in : GoodIn wsX4_setMechanism wsX4_in := goodIn_r _ [8] (by decide +kernel) (by decide +kernel)
set_option maxRecDepth 20000 in
theorem gX4_setMechanism_X4_in : GoodIn wsX4_setMechanism (va_wsS RX4 34 yX4_in wsX4_in) := goodIn_app (goodIn_of _ (by decide +kernel)) ggX4_setMechanism_X4_in
set_option maxRecDepth 20000 in
theorem ggX4_setMechanism_X4_error : GoodIn wsX4_setMechanism wsX4_error := goodIn_r _ [12, 13, 26, 27, 28, 29, 30, 31] (by decide +kernel) (by decide +kernel)
set_option maxRecDepth 20000 in
theorem gX4_setMechanism_X4_error : GoodIn wsX4_setMechanism (wsV RX4 42 RX4 yX4_error wsX4_error) := goodIn_app (goodIn_of _ (by decide +kernel)) ggX4_setMechanism_X4_error
set_option maxRecDepth 20000 in
theorem ggX4_setMechanism_X4_save : GoodIn wsX4_setMechanism wsX4_save := goodIn_r _ [17, 18, 19, 1, 20, 21, 4, 22, 26, 27, 28, 29, 30, 31] (by decide +kernel) (by decide +kernel)
set_option maxRecDepth 20000 in
theorem gX4_setMechanism_X4_save : GoodIn wsX4_setMechanism (wsV RX4 46 RX4 yX4_save wsX4_save) := goodIn_app (goodIn_of _ (by decide +kernel)) ggX4_setMechanism_X4_save
set_option maxRecDepth 20000 in
theorem ggX4_setMechanism_X4_at : GoodIn wsX4_setMechanism wsX4_at := goodIn_r _ [25] (by decide +kernel) (by decide +kernel)
set_option maxRecDepth 20000 in
theorem gX4_setMechanism_X4_at : GoodIn wsX4_setMechanism (va_wsS RX4 22 yX4_at wsX4_at) := goodIn_app (goodIn_of _ (by decide +kernel)) ggX4_setMechanism_X4_at
theorem dX4_setMechanism_0 : decode cX4_setMechanism 0 = .ok (.iload_n 1, 1) := by decide +kernel
theorem dX4_setMechanism_1 : decode cX4_setMechanism 1 = .ok (.invokestatic 38, 3) := by decide +kernel
theorem dX4_setMechanism_4 : decode cX4_setMechanism 4 = .ok (.ifCond .eq 12, 3) := by decide +kernel
theorem dX4_setMechanism_7 : decode cX4_setMechanism 7 = .ok (.iload_n 2, 1) := by decide +kernel
theorem dX4_setMechanism_8 : decode cX4_setMechanism 8 = .ok (.iconst 0, 1) := by decide +kernel
theorem dX4_setMechanism_9 : decode cX4_setMechanism 9 = .ok (.iconst 2, 1) := by decide +kernel
theorem dX4_setMechanism_10 : decode cX4_setMechanism 10 = .ok (.invokestatic 34, 3) := by decide +kernel
theorem dX4_setMechanism_13 : decode cX4_setMechanism 13 = .ok (.ifCond .ne 10, 3) := by decide +kernel
theorem dX4_setMechanism_16 : decode cX4_setMechanism 16 = .ok (.aload_n 0, 1) := by decide +kernel
theorem dX4_setMechanism_17 : decode cX4_setMechanism 17 = .ok (.bipush (-2), 2) := by decide +kernel
theorem dX4_setMechanism_19 : decode cX4_setMechanism 19 = .ok (.invokevirtual 42, 3) := by decide +kernel
theorem dX4_setMechanism_22 : decode cX4_setMechanism 22 = .ok (.ireturn, 1) := by decide +kernel
theorem dX4_setMechanism_23 : decode cX4_setMechanism 23 = .ok (.aload_n 0, 1) := by decide +kernel
theorem dX4_setMechanism_24 : decode cX4_setMechanism 24 = .ok (.invokevirtual 46, 3) := by decide +kernel
theorem dX4_setMechanism_27 : decode cX4_setMechanism 27 = .ok (.aload_n 0, 1) := by decide +kernel
theorem dX4_setMechanism_28 : decode cX4_setMechanism 28 = .ok (.getfield 7, 3) := by decide +kernel
theorem dX4_setMechanism_31 : decode cX4_setMechanism 31 = .ok (.iload_n 1, 1) := by decide +kernel
theorem dX4_setMechanism_32 : decode cX4_setMechanism 32 = .ok (.iconst 0, 1) := by decide +kernel
theorem dX4_setMechanism_33 : decode cX4_setMechanism 33 = .ok (.invokestatic 22, 3) := by decide +kernel
theorem dX4_setMechanism_36 : decode cX4_setMechanism 36 = .ok (.iaload, 1) := by decide +kernel
theorem dX4_setMechanism_37 : decode cX4_setMechanism 37 = .ok (.istore_n 3, 1) := by decide +kernel
theorem dX4_setMechanism_38 : decode cX4_setMechanism 38 = .ok (.aload_n 0, 1) := by decide +kernel
theorem dX4_setMechanism_39 : decode cX4_setMechanism 39 = .ok (.getfield 7, 3) := by decide +kernel
theorem dX4_setMechanism_42 : decode cX4_setMechanism 42 = .ok (.iload_n 1, 1) := by decide +kernel
theorem dX4_setMechanism_43 : decode cX4_setMechanism 43 = .ok (.iconst 0, 1) := by decide +kernel
theorem dX4_setMechanism_44 : decode cX4_setMechanism 44 = .ok (.invokestatic 22, 3) := by decide +kernel
theorem dX4_setMechanism_47 : decode cX4_setMechanism 47 = .ok (.iload_n 2, 1) := by decide +kernel
theorem dX4_setMechanism_48 : decode cX4_setMechanism 48 = .ok (.iastore, 1) := by decide +kernel
theorem dX4_setMechanism_49 : decode cX4_setMechanism 49 = .ok (.iload_n 3, 1) := by decide +kernel
theorem dX4_setMechanism_50 : decode cX4_setMechanism 50 = .ok (.ireturn, 1) := by decide +kernel
set_option maxRecDepth 20000 in
theorem ggX4_setPosition_X4_isTrain : GoodIn wsX4_setPosition wsX4_isTrain := goodIn_r _ [5, 6, 7, 4, 8] (by decide +kernel) (by decide +kernel)
set_option maxRecDepth 20000 in
theorem gX4_setPosition_X4_isTrain : GoodIn wsX4_setPosition (va_wsS RX4 38 yX4_isTrain wsX4_isTrain) := goodIn_app (goodIn_of _ (by decide +kernel)) ggX4_setPosition_X4_isTrain
set_option maxRecDepth 20000 in
theorem ggX4_setPosition_X4_positions : GoodIn wsX4_setPosition wsX4_positions := goodIn_r _ [11] (by decide +kernel) (by decide +kernel)
set_option maxRecDepth 20000 in
theorem gX4_setPosition_X4_positions : GoodIn wsX4_setPosition (va_wsS RX4 49 yX4_positions wsX4_positions) := goodIn_app (goodIn_of _ (by decide +kernel)) ggX4_setPosition_X4_positions
set_option maxRecDepth 20000 in
theorem ggX4_setPosition_X4_in : GoodIn wsX4_setPosition wsX4_in := goodIn_r _ [8] (by decide +kernel) (by decide +kernel)
set_option maxRecDepth 20000 in
theorem gX4_setPosition_X4_in : GoodIn wsX4_setPosition (va_wsS RX4 34 yX4_in wsX4_in) := goodIn_app (goodIn_of _ (by decide +kernel)) ggX4_setPosition_X4_in
set_option maxRecDepth 20000 in
theorem ggX4_setPosition_X4_error : GoodIn wsX4_setPosition wsX4_error := goodIn_r _ [15, 16, 29, 30, 31, 32, 33, 34] (by decide +kernel) (by decide +kernel)
set_option maxRecDepth 20000 in
theorem gX4_setPosition_X4_error : GoodIn wsX4_setPosition (wsV RX4 42 RX4 yX4_error wsX4_error) := goodIn_app (goodIn_of _ (by decide +kernel)) ggX4_setPosition_X4_error
set_option maxRecDepth 20000 in
theorem ggX4_setPosition_X4_save : GoodIn wsX4_setPosition wsX4_save := goodIn_r _ [20, 21, 22, 1, 23, 24, 4, 25, 29, 30, 31, 32, 33, 34] (by decide +kernel) (by decide +kernel)
set_option maxRecDepth 20000 in
theorem gX4_setPosition_X4_save : GoodIn wsX4_setPosition (wsV RX4 46 RX4 yX4_save wsX4_save) := goodIn_app (goodIn_of _ (by decide +kernel)) ggX4_setPosition_X4_save
set_option maxRecDepth 20000 in
theorem ggX4_setPosition_X4_at : GoodIn wsX4_setPosition wsX4_at := goodIn_r _ [28] (by decide +kernel) (by decide +kernel)
set_option maxRecDepth 20000 in
theorem gX4_setPosition_X4_at : GoodIn wsX4_setPosition (va_wsS RX4 22 yX4_at wsX4_at) := goodIn_app (goodIn_of _ (by decide +kernel)) ggX4_setPosition_X4_at
theorem dX4_setPosition_0 : decode cX4_setPosition 0 = .ok (.iload_n 1, 1) := by decide +kernel
theorem dX4_setPosition_1 : decode cX4_setPosition 1 = .ok (.invokestatic 38, 3) := by decide +kernel
theorem dX4_setPosition_4 : decode cX4_setPosition 4 = .ok (.ifCond .eq 15, 3) := by decide +kernel
theorem dX4_setPosition_7 : decode cX4_setPosition 7 = .ok (.iload_n 2, 1) := by decide +kernel
theorem dX4_setPosition_8 : decode cX4_setPosition 8 = .ok (.iconst 1, 1) := by decide +kernel
theorem dX4_setPosition_9 : decode cX4_setPosition 9 = .ok (.iload_n 1, 1) := by decide +kernel
theorem dX4_setPosition_10 : decode cX4_setPosition 10 = .ok (.invokestatic 49, 3) := by decide +kernel
theorem dX4_setPosition_13 : decode cX4_setPosition 13 = .ok (.invokestatic 34, 3) := by decide +kernel
theorem dX4_setPosition_16 : decode cX4_setPosition 16 = .ok (.ifCond .ne 10, 3) := by decide +kernel
theorem dX4_setPosition_19 : decode cX4_setPosition 19 = .ok (.aload_n 0, 1) := by decide +kernel
theorem dX4_setPosition_20 : decode cX4_setPosition 20 = .ok (.bipush (-2), 2) := by decide +kernel
theorem dX4_setPosition_22 : decode cX4_setPosition 22 = .ok (.invokevirtual 42, 3) := by decide +kernel
theorem dX4_setPosition_25 : decode cX4_setPosition 25 = .ok (.ireturn, 1) := by decide +kernel
theorem dX4_setPosition_26 : decode cX4_setPosition 26 = .ok (.aload_n 0, 1) := by decide +kernel
theorem dX4_setPosition_27 : decode cX4_setPosition 27 = .ok (.invokevirtual 46, 3) := by decide +kernel
theorem dX4_setPosition_30 : decode cX4_setPosition 30 = .ok (.aload_n 0, 1) := by decide +kernel
theorem dX4_setPosition_31 : decode cX4_setPosition 31 = .ok (.getfield 7, 3) := by decide +kernel
theorem dX4_setPosition_34 : decode cX4_setPosition 34 = .ok (.iload_n 1, 1) := by decide +kernel
theorem dX4_setPosition_35 : decode cX4_setPosition 35 = .ok (.iconst 1, 1) := by decide +kernel
theorem dX4_setPosition_36 : decode cX4_setPosition 36 = .ok (.invokestatic 22, 3) := by decide +kernel
theorem dX4_setPosition_39 : decode cX4_setPosition 39 = .ok (.iaload, 1) := by decide +kernel
theorem dX4_setPosition_40 : decode cX4_setPosition 40 = .ok (.istore_n 3, 1) := by decide +kernel
theorem dX4_setPosition_41 : decode cX4_setPosition 41 = .ok (.aload_n 0, 1) := by decide +kernel
theorem dX4_setPosition_42 : decode cX4_setPosition 42 = .ok (.getfield 7, 3) := by decide +kernel
theorem dX4_setPosition_45 : decode cX4_setPosition 45 = .ok (.iload_n 1, 1) := by decide +kernel
theorem dX4_setPosition_46 : decode cX4_setPosition 46 = .ok (.iconst 1, 1) := by decide +kernel
theorem dX4_setPosition_47 : decode cX4_setPosition 47 = .ok (.invokestatic 22, 3) := by decide +kernel
theorem dX4_setPosition_50 : decode cX4_setPosition 50 = .ok (.iload_n 2, 1) := by decide +kernel
theorem dX4_setPosition_51 : decode cX4_setPosition 51 = .ok (.iastore, 1) := by decide +kernel
theorem dX4_setPosition_52 : decode cX4_setPosition 52 = .ok (.iload_n 3, 1) := by decide +kernel
theorem dX4_setPosition_53 : decode cX4_setPosition 53 = .ok (.ireturn, 1) := by decide +kernel
set_option maxRecDepth 20000 in
theorem ggX4_setSilence_X4_in : GoodIn wsX4_setSilence wsX4_in := goodIn_r _ [5] (by decide +kernel) (by decide +kernel)
set_option maxRecDepth 20000 in
theorem gX4_setSilence_X4_in : GoodIn wsX4_setSilence (va_wsS RX4 34 yX4_in wsX4_in) := goodIn_app (goodIn_of _ (by decide +kernel)) ggX4_setSilence_X4_in
set_option maxRecDepth 20000 in
theorem ggX4_setSilence_X4_error : GoodIn wsX4_setSilence wsX4_error := goodIn_r _ [9, 10, 20, 21, 22, 23, 24, 25] (by decide +kernel) (by decide +kernel)
set_option maxRecDepth 20000 in
theorem gX4_setSilence_X4_error : GoodIn wsX4_setSilence (wsV RX4 42 RX4 yX4_error wsX4_error) := goodIn_app (goodIn_of _ (by decide +kernel)) ggX4_setSilence_X4_error
set_option maxRecDepth 20000 in
theorem ggX4_setSilence_X4_save : GoodIn wsX4_setSilence wsX4_save := goodIn_r _ [14, 15, 16, 1, 17, 18, 4, 19, 20, 21, 22, 23, 24, 25] (by decide +kernel) (by decide +kernel)
set_option maxRecDepth 20000 in
theorem gX4_setSilence_X4_save : GoodIn wsX4_setSilence (wsV RX4 46 RX4 yX4_save wsX4_save) := goodIn_app (goodIn_of _ (by decide +kernel)) ggX4_setSilence_X4_save
theorem dX4_setSilence_0 : decode cX4_setSilence 0 = .ok (.iload_n 1, 1) := by decide +kernel
theorem dX4_setSilence_1 : decode cX4_setSilence 1 = .ok (.iconst 0, 1) := by decide +kernel
theorem dX4_setSilence_2 : decode cX4_setSilence 2 = .ok (.iconst 2, 1) := by decide +kernel
theorem dX4_setSilence_3 : decode cX4_setSilence 3 = .ok (.invokestatic 34, 3) := by decide +kernel
theorem dX4_setSilence_6 : decode cX4_setSilence 6 = .ok (.ifCond .eq 25, 3) := by decide +kernel
theorem dX4_setSilence_9 : decode cX4_setSilence 9 = .ok (.iload_n 2, 1) := by decide +kernel
theorem dX4_setSilence_10 : decode cX4_setSilence 10 = .ok (.iconst 0, 1) := by decide +kernel
theorem dX4_setSilence_11 : decode cX4_setSilence 11 = .ok (.sipush 1439, 3) := by decide +kernel
theorem dX4_setSilence_14 : decode cX4_setSilence 14 = .ok (.invokestatic 34, 3) := by decide +kernel
theorem dX4_setSilence_17 : decode cX4_setSilence 17 = .ok (.ifCond .eq 14, 3) := by decide +kernel
theorem dX4_setSilence_20 : decode cX4_setSilence 20 = .ok (.iload_n 3, 1) := by decide +kernel
theorem dX4_setSilence_21 : decode cX4_setSilence 21 = .ok (.iconst 0, 1) := by decide +kernel
theorem dX4_setSilence_22 : decode cX4_setSilence 22 = .ok (.sipush 1439, 3) := by decide +kernel
theorem dX4_setSilence_25 : decode cX4_setSilence 25 = .ok (.invokestatic 34, 3) := by decide +kernel
theorem dX4_setSilence_28 : decode cX4_setSilence 28 = .ok (.ifCond .ne 10, 3) := by decide +kernel
theorem dX4_setSilence_31 : decode cX4_setSilence 31 = .ok (.aload_n 0, 1) := by decide +kernel
theorem dX4_setSilence_32 : decode cX4_setSilence 32 = .ok (.bipush (-2), 2) := by decide +kernel
theorem dX4_setSilence_34 : decode cX4_setSilence 34 = .ok (.invokevirtual 42, 3) := by decide +kernel
theorem dX4_setSilence_37 : decode cX4_setSilence 37 = .ok (.ireturn, 1) := by decide +kernel
theorem dX4_setSilence_38 : decode cX4_setSilence 38 = .ok (.aload_n 0, 1) := by decide +kernel
theorem dX4_setSilence_39 : decode cX4_setSilence 39 = .ok (.invokevirtual 46, 3) := by decide +kernel
theorem dX4_setSilence_42 : decode cX4_setSilence 42 = .ok (.aload_n 0, 1) := by decide +kernel
theorem dX4_setSilence_43 : decode cX4_setSilence 43 = .ok (.getfield 7, 3) := by decide +kernel
theorem dX4_setSilence_46 : decode cX4_setSilence 46 = .ok (.iconst 1, 1) := by decide +kernel
theorem dX4_setSilence_47 : decode cX4_setSilence 47 = .ok (.iaload, 1) := by decide +kernel
theorem dX4_setSilence_48 : decode cX4_setSilence 48 = .ok (.istore 4, 2) := by decide +kernel
theorem dX4_setSilence_50 : decode cX4_setSilence 50 = .ok (.aload_n 0, 1) := by decide +kernel
theorem dX4_setSilence_51 : decode cX4_setSilence 51 = .ok (.getfield 7, 3) := by decide +kernel
theorem dX4_setSilence_54 : decode cX4_setSilence 54 = .ok (.iconst 1, 1) := by decide +kernel
theorem dX4_setSilence_55 : decode cX4_setSilence 55 = .ok (.iload_n 1, 1) := by decide +kernel
theorem dX4_setSilence_56 : decode cX4_setSilence 56 = .ok (.iastore, 1) := by decide +kernel
theorem dX4_setSilence_57 : decode cX4_setSilence 57 = .ok (.aload_n 0, 1) := by decide +kernel
theorem dX4_setSilence_58 : decode cX4_setSilence 58 = .ok (.getfield 7, 3) := by decide +kernel
theorem dX4_setSilence_61 : decode cX4_setSilence 61 = .ok (.iconst 2, 1) := by decide +kernel
theorem dX4_setSilence_62 : decode cX4_setSilence 62 = .ok (.iload_n 2, 1) := by decide +kernel
theorem dX4_setSilence_63 : decode cX4_setSilence 63 = .ok (.iastore, 1) := by decide +kernel
theorem dX4_setSilence_64 : decode cX4_setSilence 64 = .ok (.aload_n 0, 1) := by decide +kernel
theorem dX4_setSilence_65 : decode cX4_setSilence 65 = .ok (.getfield 7, 3) := by decide +kernel
theorem dX4_setSilence_68 : decode cX4_setSilence 68 = .ok (.iconst 3, 1) := by decide +kernel
theorem dX4_setSilence_69 : decode cX4_setSilence 69 = .ok (.iload_n 3, 1) := by decide +kernel
theorem dX4_setSilence_70 : decode cX4_setSilence 70 = .ok (.iastore, 1) := by decide +kernel
theorem dX4_setSilence_71 : decode cX4_setSilence 71 = .ok (.iload 4, 2) := by decide +kernel
theorem dX4_setSilence_73 : decode cX4_setSilence 73 = .ok (.ireturn, 1) := by decide +kernel
set_option maxRecDepth 20000 in
theorem ggX4_wind_X4_isTrain : GoodIn wsX4_wind wsX4_isTrain := goodIn_r _ [5, 6, 7, 4, 8] (by decide +kernel) (by decide +kernel)
set_option maxRecDepth 20000 in
theorem gX4_wind_X4_isTrain : GoodIn wsX4_wind (va_wsS RX4 38 yX4_isTrain wsX4_isTrain) := goodIn_app (goodIn_of _ (by decide +kernel)) ggX4_wind_X4_isTrain
set_option maxRecDepth 20000 in
theorem ggX4_wind_X4_in : GoodIn wsX4_wind wsX4_in := goodIn_r _ [8] (by decide +kernel) (by decide +kernel)
set_option maxRecDepth 20000 in
theorem gX4_wind_X4_in : GoodIn wsX4_wind (va_wsS RX4 34 yX4_in wsX4_in) := goodIn_app (goodIn_of _ (by decide +kernel)) ggX4_wind_X4_in
set_option maxRecDepth 20000 in
theorem ggX4_wind_X4_error : GoodIn wsX4_wind wsX4_error := goodIn_r _ [12, 13, 26, 27, 28, 29, 30, 31] (by decide +kernel) (by decide +kernel)
set_option maxRecDepth 20000 in
theorem gX4_wind_X4_error : GoodIn wsX4_wind (wsV RX4 42 RX4 yX4_error wsX4_error) := goodIn_app (goodIn_of _ (by decide +kernel)) ggX4_wind_X4_error
set_option maxRecDepth 20000 in
theorem ggX4_wind_X4_save : GoodIn wsX4_wind wsX4_save := goodIn_r _ [17, 18, 19, 1, 20, 21, 4, 22, 26, 27, 28, 29, 30, 31] (by decide +kernel) (by decide +kernel)
set_option maxRecDepth 20000 in
theorem gX4_wind_X4_save : GoodIn wsX4_wind (wsV RX4 46 RX4 yX4_save wsX4_save) := goodIn_app (goodIn_of _ (by decide +kernel)) ggX4_wind_X4_save
set_option maxRecDepth 20000 in
theorem ggX4_wind_X4_at : GoodIn wsX4_wind wsX4_at := goodIn_r _ [25] (by decide +kernel) (by decide +kernel)
set_option maxRecDepth 20000 in
theorem gX4_wind_X4_at : GoodIn wsX4_wind (va_wsS RX4 22 yX4_at wsX4_at) := goodIn_app (goodIn_of _ (by decide +kernel)) ggX4_wind_X4_at
theorem dX4_wind_0 : decode cX4_wind 0 = .ok (.iload_n 1, 1) := by decide +kernel
theorem dX4_wind_1 : decode cX4_wind 1 = .ok (.invokestatic 38, 3) := by decide +kernel
theorem dX4_wind_4 : decode cX4_wind 4 = .ok (.ifCond .eq 14, 3) := by decide +kernel
theorem dX4_wind_7 : decode cX4_wind 7 = .ok (.iload_n 2, 1) := by decide +kernel
theorem dX4_wind_8 : decode cX4_wind 8 = .ok (.iconst 1, 1) := by decide +kernel
theorem dX4_wind_9 : decode cX4_wind 9 = .ok (.sipush 2000, 3) := by decide +kernel
theorem dX4_wind_12 : decode cX4_wind 12 = .ok (.invokestatic 34, 3) := by decide +kernel
theorem dX4_wind_15 : decode cX4_wind 15 = .ok (.ifCond .ne 10, 3) := by decide +kernel
theorem dX4_wind_18 : decode cX4_wind 18 = .ok (.aload_n 0, 1) := by decide +kernel
theorem dX4_wind_19 : decode cX4_wind 19 = .ok (.bipush (-2), 2) := by decide +kernel
theorem dX4_wind_21 : decode cX4_wind 21 = .ok (.invokevirtual 42, 3) := by decide +kernel
theorem dX4_wind_24 : decode cX4_wind 24 = .ok (.ireturn, 1) := by decide +kernel
theorem dX4_wind_25 : decode cX4_wind 25 = .ok (.aload_n 0, 1) := by decide +kernel
theorem dX4_wind_26 : decode cX4_wind 26 = .ok (.invokevirtual 46, 3) := by decide +kernel
theorem dX4_wind_29 : decode cX4_wind 29 = .ok (.aload_n 0, 1) := by decide +kernel
theorem dX4_wind_30 : decode cX4_wind 30 = .ok (.getfield 7, 3) := by decide +kernel
theorem dX4_wind_33 : decode cX4_wind 33 = .ok (.iload_n 1, 1) := by decide +kernel
theorem dX4_wind_34 : decode cX4_wind 34 = .ok (.iconst 2, 1) := by decide +kernel
theorem dX4_wind_35 : decode cX4_wind 35 = .ok (.invokestatic 22, 3) := by decide +kernel
theorem dX4_wind_38 : decode cX4_wind 38 = .ok (.iaload, 1) := by decide +kernel
theorem dX4_wind_39 : decode cX4_wind 39 = .ok (.istore_n 3, 1) := by decide +kernel
theorem dX4_wind_40 : decode cX4_wind 40 = .ok (.iload_n 3, 1) := by decide +kernel
theorem dX4_wind_41 : decode cX4_wind 41 = .ok (.iload_n 2, 1) := by decide +kernel
theorem dX4_wind_42 : decode cX4_wind 42 = .ok (.iadd, 1) := by decide +kernel
theorem dX4_wind_43 : decode cX4_wind 43 = .ok (.sipush 2000, 3) := by decide +kernel
theorem dX4_wind_46 : decode cX4_wind 46 = .ok (.if_icmp .le 9, 3) := by decide +kernel
theorem dX4_wind_49 : decode cX4_wind 49 = .ok (.sipush 2000, 3) := by decide +kernel
theorem dX4_wind_52 : decode cX4_wind 52 = .ok (.goto 6, 3) := by decide +kernel
theorem dX4_wind_55 : decode cX4_wind 55 = .ok (.iload_n 3, 1) := by decide +kernel
theorem dX4_wind_56 : decode cX4_wind 56 = .ok (.iload_n 2, 1) := by decide +kernel
theorem dX4_wind_57 : decode cX4_wind 57 = .ok (.iadd, 1) := by decide +kernel
theorem dX4_wind_58 : decode cX4_wind 58 = .ok (.istore 4, 2) := by decide +kernel
theorem dX4_wind_60 : decode cX4_wind 60 = .ok (.aload_n 0, 1) := by decide +kernel
theorem dX4_wind_61 : decode cX4_wind 61 = .ok (.getfield 7, 3) := by decide +kernel
theorem dX4_wind_64 : decode cX4_wind 64 = .ok (.iload_n 1, 1) := by decide +kernel
theorem dX4_wind_65 : decode cX4_wind 65 = .ok (.iconst 2, 1) := by decide +kernel
theorem dX4_wind_66 : decode cX4_wind 66 = .ok (.invokestatic 22, 3) := by decide +kernel
theorem dX4_wind_69 : decode cX4_wind 69 = .ok (.iload 4, 2) := by decide +kernel
theorem dX4_wind_71 : decode cX4_wind 71 = .ok (.iastore, 1) := by decide +kernel
theorem dX4_wind_72 : decode cX4_wind 72 = .ok (.iload 4, 2) := by decide +kernel
theorem dX4_wind_74 : decode cX4_wind 74 = .ok (.iload_n 3, 1) := by decide +kernel
theorem dX4_wind_75 : decode cX4_wind 75 = .ok (.isub, 1) := by decide +kernel
theorem dX4_wind_76 : decode cX4_wind 76 = .ok (.ireturn, 1) := by decide +kernel
theorem dX4_silentAt_0 : decode cX4_silentAt 0 = .ok (.aload_n 0, 1) := by decide +kernel
theorem dX4_silentAt_1 : decode cX4_silentAt 1 = .ok (.getfield 7, 3) := by decide +kernel
theorem dX4_silentAt_4 : decode cX4_silentAt 4 = .ok (.iconst 2, 1) := by decide +kernel
theorem dX4_silentAt_5 : decode cX4_silentAt 5 = .ok (.iaload, 1) := by decide +kernel
theorem dX4_silentAt_6 : decode cX4_silentAt 6 = .ok (.istore_n 2, 1) := by decide +kernel
theorem dX4_silentAt_7 : decode cX4_silentAt 7 = .ok (.aload_n 0, 1) := by decide +kernel
theorem dX4_silentAt_8 : decode cX4_silentAt 8 = .ok (.getfield 7, 3) := by decide +kernel
theorem dX4_silentAt_11 : decode cX4_silentAt 11 = .ok (.iconst 3, 1) := by decide +kernel
theorem dX4_silentAt_12 : decode cX4_silentAt 12 = .ok (.iaload, 1) := by decide +kernel
theorem dX4_silentAt_13 : decode cX4_silentAt 13 = .ok (.istore_n 3, 1) := by decide +kernel
theorem dX4_silentAt_14 : decode cX4_silentAt 14 = .ok (.aload_n 0, 1) := by decide +kernel
theorem dX4_silentAt_15 : decode cX4_silentAt 15 = .ok (.getfield 7, 3) := by decide +kernel
theorem dX4_silentAt_18 : decode cX4_silentAt 18 = .ok (.iconst 1, 1) := by decide +kernel
theorem dX4_silentAt_19 : decode cX4_silentAt 19 = .ok (.iaload, 1) := by decide +kernel
theorem dX4_silentAt_20 : decode cX4_silentAt 20 = .ok (.ifCond .eq 8, 3) := by decide +kernel
theorem dX4_silentAt_23 : decode cX4_silentAt 23 = .ok (.iload_n 2, 1) := by decide +kernel
theorem dX4_silentAt_24 : decode cX4_silentAt 24 = .ok (.iload_n 3, 1) := by decide +kernel
theorem dX4_silentAt_25 : decode cX4_silentAt 25 = .ok (.if_icmp .ne 5, 3) := by decide +kernel
theorem dX4_silentAt_28 : decode cX4_silentAt 28 = .ok (.iconst 0, 1) := by decide +kernel
theorem dX4_silentAt_29 : decode cX4_silentAt 29 = .ok (.ireturn, 1) := by decide +kernel
theorem dX4_silentAt_30 : decode cX4_silentAt 30 = .ok (.iload_n 2, 1) := by decide +kernel
theorem dX4_silentAt_31 : decode cX4_silentAt 31 = .ok (.iload_n 3, 1) := by decide +kernel
theorem dX4_silentAt_32 : decode cX4_silentAt 32 = .ok (.if_icmp .ge 21, 3) := by decide +kernel
theorem dX4_silentAt_35 : decode cX4_silentAt 35 = .ok (.iload_n 1, 1) := by decide +kernel
theorem dX4_silentAt_36 : decode cX4_silentAt 36 = .ok (.iload_n 2, 1) := by decide +kernel
theorem dX4_silentAt_37 : decode cX4_silentAt 37 = .ok (.if_icmp .lt 12, 3) := by decide +kernel
theorem dX4_silentAt_40 : decode cX4_silentAt 40 = .ok (.iload_n 1, 1) := by decide +kernel
theorem dX4_silentAt_41 : decode cX4_silentAt 41 = .ok (.iload_n 3, 1) := by decide +kernel
theorem dX4_silentAt_42 : decode cX4_silentAt 42 = .ok (.if_icmp .ge 7, 3) := by decide +kernel
theorem dX4_silentAt_45 : decode cX4_silentAt 45 = .ok (.iconst 1, 1) := by decide +kernel
theorem dX4_silentAt_46 : decode cX4_silentAt 46 = .ok (.goto 22, 3) := by decide +kernel
theorem dX4_silentAt_49 : decode cX4_silentAt 49 = .ok (.iconst 0, 1) := by decide +kernel
theorem dX4_silentAt_50 : decode cX4_silentAt 50 = .ok (.goto 18, 3) := by decide +kernel
theorem dX4_silentAt_53 : decode cX4_silentAt 53 = .ok (.iload_n 1, 1) := by decide +kernel
theorem dX4_silentAt_54 : decode cX4_silentAt 54 = .ok (.iload_n 2, 1) := by decide +kernel
theorem dX4_silentAt_55 : decode cX4_silentAt 55 = .ok (.if_icmp .ge 8, 3) := by decide +kernel
theorem dX4_silentAt_58 : decode cX4_silentAt 58 = .ok (.iload_n 1, 1) := by decide +kernel
theorem dX4_silentAt_59 : decode cX4_silentAt 59 = .ok (.iload_n 3, 1) := by decide +kernel
theorem dX4_silentAt_60 : decode cX4_silentAt 60 = .ok (.if_icmp .ge 7, 3) := by decide +kernel
theorem dX4_silentAt_63 : decode cX4_silentAt 63 = .ok (.iconst 1, 1) := by decide +kernel
theorem dX4_silentAt_64 : decode cX4_silentAt 64 = .ok (.goto 4, 3) := by decide +kernel
theorem dX4_silentAt_67 : decode cX4_silentAt 67 = .ok (.iconst 0, 1) := by decide +kernel
theorem dX4_silentAt_68 : decode cX4_silentAt 68 = .ok (.ireturn, 1) := by decide +kernel
set_option maxRecDepth 20000 in
theorem ggX4_dueAfter_X4_positions : GoodIn wsX4_dueAfter wsX4_positions := goodIn_r _ [4] (by decide +kernel) (by decide +kernel)
set_option maxRecDepth 20000 in
theorem gX4_dueAfter_X4_positions : GoodIn wsX4_dueAfter (va_wsS RX4 49 yX4_positions wsX4_positions) := goodIn_app (goodIn_of _ (by decide +kernel)) ggX4_dueAfter_X4_positions
theorem dX4_dueAfter_0 : decode cX4_dueAfter 0 = .ok (.iload_n 0, 1) := by decide +kernel
theorem dX4_dueAfter_1 : decode cX4_dueAfter 1 = .ok (.ifCond .ne 8, 3) := by decide +kernel
theorem dX4_dueAfter_4 : decode cX4_dueAfter 4 = .ok (.bipush 60, 2) := by decide +kernel
theorem dX4_dueAfter_6 : decode cX4_dueAfter 6 = .ok (.goto 5, 3) := by decide +kernel
theorem dX4_dueAfter_9 : decode cX4_dueAfter 9 = .ok (.bipush 15, 2) := by decide +kernel
theorem dX4_dueAfter_11 : decode cX4_dueAfter 11 = .ok (.istore_n 2, 1) := by decide +kernel
theorem dX4_dueAfter_12 : decode cX4_dueAfter 12 = .ok (.iload_n 1, 1) := by decide +kernel
theorem dX4_dueAfter_13 : decode cX4_dueAfter 13 = .ok (.iload_n 2, 1) := by decide +kernel
theorem dX4_dueAfter_14 : decode cX4_dueAfter 14 = .ok (.idiv, 1) := by decide +kernel
theorem dX4_dueAfter_15 : decode cX4_dueAfter 15 = .ok (.iconst 1, 1) := by decide +kernel
theorem dX4_dueAfter_16 : decode cX4_dueAfter 16 = .ok (.iadd, 1) := by decide +kernel
theorem dX4_dueAfter_17 : decode cX4_dueAfter 17 = .ok (.iload_n 0, 1) := by decide +kernel
theorem dX4_dueAfter_18 : decode cX4_dueAfter 18 = .ok (.invokestatic 49, 3) := by decide +kernel
theorem dX4_dueAfter_21 : decode cX4_dueAfter 21 = .ok (.irem, 1) := by decide +kernel
theorem dX4_dueAfter_22 : decode cX4_dueAfter 22 = .ok (.istore_n 3, 1) := by decide +kernel
theorem dX4_dueAfter_23 : decode cX4_dueAfter 23 = .ok (.iload_n 3, 1) := by decide +kernel
theorem dX4_dueAfter_24 : decode cX4_dueAfter 24 = .ok (.ifCond .ne 10, 3) := by decide +kernel
theorem dX4_dueAfter_27 : decode cX4_dueAfter 27 = .ok (.iload_n 0, 1) := by decide +kernel
theorem dX4_dueAfter_28 : decode cX4_dueAfter 28 = .ok (.invokestatic 49, 3) := by decide +kernel
theorem dX4_dueAfter_31 : decode cX4_dueAfter 31 = .ok (.goto 4, 3) := by decide +kernel
theorem dX4_dueAfter_34 : decode cX4_dueAfter 34 = .ok (.iload_n 3, 1) := by decide +kernel
theorem dX4_dueAfter_35 : decode cX4_dueAfter 35 = .ok (.ireturn, 1) := by decide +kernel
theorem dX4_record_0 : decode cX4_record 0 = .ok (.bipush 23, 2) := by decide +kernel
theorem dX4_record_2 : decode cX4_record 2 = .ok (.istore_n 3, 1) := by decide +kernel
theorem dX4_record_3 : decode cX4_record 3 = .ok (.iload_n 3, 1) := by decide +kernel
theorem dX4_record_4 : decode cX4_record 4 = .ok (.iconst 4, 1) := by decide +kernel
theorem dX4_record_5 : decode cX4_record 5 = .ok (.if_icmp .lt 29, 3) := by decide +kernel
theorem dX4_record_8 : decode cX4_record 8 = .ok (.aload_n 0, 1) := by decide +kernel
theorem dX4_record_9 : decode cX4_record 9 = .ok (.getfield 7, 3) := by decide +kernel
theorem dX4_record_12 : decode cX4_record 12 = .ok (.bipush 15, 2) := by decide +kernel
theorem dX4_record_14 : decode cX4_record 14 = .ok (.iload_n 3, 1) := by decide +kernel
theorem dX4_record_15 : decode cX4_record 15 = .ok (.iadd, 1) := by decide +kernel
theorem dX4_record_16 : decode cX4_record 16 = .ok (.aload_n 0, 1) := by decide +kernel
theorem dX4_record_17 : decode cX4_record 17 = .ok (.getfield 7, 3) := by decide +kernel
theorem dX4_record_20 : decode cX4_record 20 = .ok (.bipush 15, 2) := by decide +kernel
theorem dX4_record_22 : decode cX4_record 22 = .ok (.iload_n 3, 1) := by decide +kernel
theorem dX4_record_23 : decode cX4_record 23 = .ok (.iadd, 1) := by decide +kernel
theorem dX4_record_24 : decode cX4_record 24 = .ok (.iconst 4, 1) := by decide +kernel
theorem dX4_record_25 : decode cX4_record 25 = .ok (.isub, 1) := by decide +kernel
theorem dX4_record_26 : decode cX4_record 26 = .ok (.iaload, 1) := by decide +kernel
theorem dX4_record_27 : decode cX4_record 27 = .ok (.iastore, 1) := by decide +kernel
theorem dX4_record_28 : decode cX4_record 28 = .ok (.iinc 3 (-1), 3) := by decide +kernel
theorem dX4_record_31 : decode cX4_record 31 = .ok (.goto (-28), 3) := by decide +kernel
theorem dX4_record_34 : decode cX4_record 34 = .ok (.aload_n 0, 1) := by decide +kernel
theorem dX4_record_35 : decode cX4_record 35 = .ok (.getfield 7, 3) := by decide +kernel
theorem dX4_record_38 : decode cX4_record 38 = .ok (.bipush 15, 2) := by decide +kernel
theorem dX4_record_40 : decode cX4_record 40 = .ok (.aload_n 0, 1) := by decide +kernel
theorem dX4_record_41 : decode cX4_record 41 = .ok (.getfield 7, 3) := by decide +kernel
theorem dX4_record_44 : decode cX4_record 44 = .ok (.iconst 0, 1) := by decide +kernel
theorem dX4_record_45 : decode cX4_record 45 = .ok (.iaload, 1) := by decide +kernel
theorem dX4_record_46 : decode cX4_record 46 = .ok (.iastore, 1) := by decide +kernel
theorem dX4_record_47 : decode cX4_record 47 = .ok (.aload_n 0, 1) := by decide +kernel
theorem dX4_record_48 : decode cX4_record 48 = .ok (.getfield 7, 3) := by decide +kernel
theorem dX4_record_51 : decode cX4_record 51 = .ok (.bipush 16, 2) := by decide +kernel
theorem dX4_record_53 : decode cX4_record 53 = .ok (.iload_n 1, 1) := by decide +kernel
theorem dX4_record_54 : decode cX4_record 54 = .ok (.iastore, 1) := by decide +kernel
theorem dX4_record_55 : decode cX4_record 55 = .ok (.aload_n 0, 1) := by decide +kernel
theorem dX4_record_56 : decode cX4_record 56 = .ok (.getfield 7, 3) := by decide +kernel
theorem dX4_record_59 : decode cX4_record 59 = .ok (.bipush 17, 2) := by decide +kernel
theorem dX4_record_61 : decode cX4_record 61 = .ok (.iload_n 2, 1) := by decide +kernel
theorem dX4_record_62 : decode cX4_record 62 = .ok (.iastore, 1) := by decide +kernel
theorem dX4_record_63 : decode cX4_record 63 = .ok (.aload_n 0, 1) := by decide +kernel
theorem dX4_record_64 : decode cX4_record 64 = .ok (.getfield 7, 3) := by decide +kernel
theorem dX4_record_67 : decode cX4_record 67 = .ok (.bipush 14, 2) := by decide +kernel
theorem dX4_record_69 : decode cX4_record 69 = .ok (.dup2, 1) := by decide +kernel
theorem dX4_record_70 : decode cX4_record 70 = .ok (.iaload, 1) := by decide +kernel
theorem dX4_record_71 : decode cX4_record 71 = .ok (.aload_n 0, 1) := by decide +kernel
theorem dX4_record_72 : decode cX4_record 72 = .ok (.getfield 7, 3) := by decide +kernel
theorem dX4_record_75 : decode cX4_record 75 = .ok (.bipush 14, 2) := by decide +kernel
theorem dX4_record_77 : decode cX4_record 77 = .ok (.iaload, 1) := by decide +kernel
theorem dX4_record_78 : decode cX4_record 78 = .ok (.bipush 6, 2) := by decide +kernel
theorem dX4_record_80 : decode cX4_record 80 = .ok (.if_icmp .ge 7, 3) := by decide +kernel
theorem dX4_record_83 : decode cX4_record 83 = .ok (.iconst 1, 1) := by decide +kernel
theorem dX4_record_84 : decode cX4_record 84 = .ok (.goto 4, 3) := by decide +kernel
theorem dX4_record_87 : decode cX4_record 87 = .ok (.iconst 0, 1) := by decide +kernel
theorem dX4_record_88 : decode cX4_record 88 = .ok (.iadd, 1) := by decide +kernel
theorem dX4_record_89 : decode cX4_record 89 = .ok (.iastore, 1) := by decide +kernel
theorem dX4_record_90 : decode cX4_record 90 = .ok (.return_, 1) := by decide +kernel
set_option maxRecDepth 20000 in
theorem ggX4_blowsOf_X4_at : GoodIn wsX4_blowsOf wsX4_at := goodIn_r _ [5] (by decide +kernel) (by decide +kernel)
