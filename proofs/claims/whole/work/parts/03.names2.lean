set_option maxRecDepth 20000 in
theorem ggX0_init_X2_init : GoodIn wsX0_init wsX2_init := goodIn_r _ [19, 20, 2, 3, 21, 22, 23, 24, 25, 26, 35, 36, 37, 38, 39, 40] (by decide +kernel) (by decide +kernel)
set_option maxRecDepth 20000 in
theorem gX0_init_X2_init : GoodIn wsX0_init (wsX2_init) := ggX0_init_X2_init
set_option maxRecDepth 20000 in
theorem ggX0_init_X1_init : GoodIn wsX0_init wsX1_init := goodIn_r _ [28, 29, 2, 3, 30, 31, 32, 33, 34, 48, 49, 50, 51] (by decide +kernel) (by decide +kernel)
set_option maxRecDepth 20000 in
theorem gX0_init_X1_init_n25 : GoodIn wsX0_init (wsX1_init) := ggX0_init_X1_init
theorem dX0_init_0 : decode cX0_init 0 = .ok (.aload_n 0, 1) := by decide +kernel
theorem dX0_init_1 : decode cX0_init 1 = .ok (.invokespecial 3, 3) := by decide +kernel
theorem dX0_init_4 : decode cX0_init 4 = .ok (.aload_n 0, 1) := by decide +kernel
theorem dX0_init_5 : decode cX0_init 5 = .ok (.new 9, 3) := by decide +kernel
theorem dX0_init_8 : decode cX0_init 8 = .ok (.dup, 1) := by decide +kernel
theorem dX0_init_9 : decode cX0_init 9 = .ok (.iconst 0, 1) := by decide +kernel
theorem dX0_init_10 : decode cX0_init 10 = .ok (.invokespecial 11, 3) := by decide +kernel
theorem dX0_init_13 : decode cX0_init 13 = .ok (.putfield 14, 3) := by decide +kernel
theorem dX0_init_16 : decode cX0_init 16 = .ok (.aload_n 0, 1) := by decide +kernel
theorem dX0_init_17 : decode cX0_init 17 = .ok (.new 9, 3) := by decide +kernel
theorem dX0_init_20 : decode cX0_init 20 = .ok (.dup, 1) := by decide +kernel
theorem dX0_init_21 : decode cX0_init 21 = .ok (.iconst 1, 1) := by decide +kernel
theorem dX0_init_22 : decode cX0_init 22 = .ok (.invokespecial 11, 3) := by decide +kernel
theorem dX0_init_25 : decode cX0_init 25 = .ok (.putfield 20, 3) := by decide +kernel
theorem dX0_init_28 : decode cX0_init 28 = .ok (.aload_n 0, 1) := by decide +kernel
theorem dX0_init_29 : decode cX0_init 29 = .ok (.new 23, 3) := by decide +kernel
theorem dX0_init_32 : decode cX0_init 32 = .ok (.dup, 1) := by decide +kernel
theorem dX0_init_33 : decode cX0_init 33 = .ok (.invokespecial 25, 3) := by decide +kernel
theorem dX0_init_36 : decode cX0_init 36 = .ok (.putfield 26, 3) := by decide +kernel
theorem dX0_init_39 : decode cX0_init 39 = .ok (.aload_n 0, 1) := by decide +kernel
theorem dX0_init_40 : decode cX0_init 40 = .ok (.iconst 0, 1) := by decide +kernel
theorem dX0_init_41 : decode cX0_init 41 = .ok (.putfield 30, 3) := by decide +kernel
theorem dX0_init_44 : decode cX0_init 44 = .ok (.aload_n 0, 1) := by decide +kernel
theorem dX0_init_45 : decode cX0_init 45 = .ok (.iconst 0, 1) := by decide +kernel
theorem dX0_init_46 : decode cX0_init 46 = .ok (.putfield 34, 3) := by decide +kernel
theorem dX0_init_49 : decode cX0_init 49 = .ok (.aload_n 0, 1) := by decide +kernel
theorem dX0_init_50 : decode cX0_init 50 = .ok (.iconst 0, 1) := by decide +kernel
theorem dX0_init_51 : decode cX0_init 51 = .ok (.putfield 37, 3) := by decide +kernel
theorem dX0_init_54 : decode cX0_init 54 = .ok (.aload_n 0, 1) := by decide +kernel
theorem dX0_init_55 : decode cX0_init 55 = .ok (.iconst 0, 1) := by decide +kernel
theorem dX0_init_56 : decode cX0_init 56 = .ok (.putfield 40, 3) := by decide +kernel
theorem dX0_init_59 : decode cX0_init 59 = .ok (.return_, 1) := by decide +kernel
theorem dX0_trainOf_0 : decode cX0_trainOf 0 = .ok (.iload_n 1, 1) := by decide +kernel
theorem dX0_trainOf_1 : decode cX0_trainOf 1 = .ok (.ifCond .ne 10, 3) := by decide +kernel
theorem dX0_trainOf_4 : decode cX0_trainOf 4 = .ok (.aload_n 0, 1) := by decide +kernel
theorem dX0_trainOf_5 : decode cX0_trainOf 5 = .ok (.getfield 14, 3) := by decide +kernel
theorem dX0_trainOf_8 : decode cX0_trainOf 8 = .ok (.goto 7, 3) := by decide +kernel
theorem dX0_trainOf_11 : decode cX0_trainOf 11 = .ok (.aload_n 0, 1) := by decide +kernel
theorem dX0_trainOf_12 : decode cX0_trainOf 12 = .ok (.getfield 20, 3) := by decide +kernel
theorem dX0_trainOf_15 : decode cX0_trainOf 15 = .ok (.areturn, 1) := by decide +kernel
theorem dX0_hushesAt_0 : decode cX0_hushesAt 0 = .ok (.aload_n 0, 1) := by decide +kernel
theorem dX0_hushesAt_1 : decode cX0_hushesAt 1 = .ok (.getfield 34, 3) := by decide +kernel
theorem dX0_hushesAt_4 : decode cX0_hushesAt 4 = .ok (.ifCond .ne 5, 3) := by decide +kernel
theorem dX0_hushesAt_7 : decode cX0_hushesAt 7 = .ok (.iconst 0, 1) := by decide +kernel
theorem dX0_hushesAt_8 : decode cX0_hushesAt 8 = .ok (.ireturn, 1) := by decide +kernel
theorem dX0_hushesAt_9 : decode cX0_hushesAt 9 = .ok (.aload_n 0, 1) := by decide +kernel
theorem dX0_hushesAt_10 : decode cX0_hushesAt 10 = .ok (.getfield 37, 3) := by decide +kernel
theorem dX0_hushesAt_13 : decode cX0_hushesAt 13 = .ok (.aload_n 0, 1) := by decide +kernel
theorem dX0_hushesAt_14 : decode cX0_hushesAt 14 = .ok (.getfield 40, 3) := by decide +kernel
theorem dX0_hushesAt_17 : decode cX0_hushesAt 17 = .ok (.if_icmp .ge 25, 3) := by decide +kernel
theorem dX0_hushesAt_20 : decode cX0_hushesAt 20 = .ok (.iload_n 1, 1) := by decide +kernel
theorem dX0_hushesAt_21 : decode cX0_hushesAt 21 = .ok (.aload_n 0, 1) := by decide +kernel
theorem dX0_hushesAt_22 : decode cX0_hushesAt 22 = .ok (.getfield 37, 3) := by decide +kernel
theorem dX0_hushesAt_25 : decode cX0_hushesAt 25 = .ok (.if_icmp .lt 15, 3) := by decide +kernel
theorem dX0_hushesAt_28 : decode cX0_hushesAt 28 = .ok (.iload_n 1, 1) := by decide +kernel
theorem dX0_hushesAt_29 : decode cX0_hushesAt 29 = .ok (.aload_n 0, 1) := by decide +kernel
theorem dX0_hushesAt_30 : decode cX0_hushesAt 30 = .ok (.getfield 40, 3) := by decide +kernel
theorem dX0_hushesAt_33 : decode cX0_hushesAt 33 = .ok (.if_icmp .ge 7, 3) := by decide +kernel
theorem dX0_hushesAt_36 : decode cX0_hushesAt 36 = .ok (.iconst 1, 1) := by decide +kernel
theorem dX0_hushesAt_37 : decode cX0_hushesAt 37 = .ok (.goto 4, 3) := by decide +kernel
theorem dX0_hushesAt_40 : decode cX0_hushesAt 40 = .ok (.iconst 0, 1) := by decide +kernel
theorem dX0_hushesAt_41 : decode cX0_hushesAt 41 = .ok (.ireturn, 1) := by decide +kernel
theorem dX0_hushesAt_42 : decode cX0_hushesAt 42 = .ok (.aload_n 0, 1) := by decide +kernel
theorem dX0_hushesAt_43 : decode cX0_hushesAt 43 = .ok (.getfield 37, 3) := by decide +kernel
theorem dX0_hushesAt_46 : decode cX0_hushesAt 46 = .ok (.aload_n 0, 1) := by decide +kernel
theorem dX0_hushesAt_47 : decode cX0_hushesAt 47 = .ok (.getfield 40, 3) := by decide +kernel
theorem dX0_hushesAt_50 : decode cX0_hushesAt 50 = .ok (.if_icmp .le 23, 3) := by decide +kernel
theorem dX0_hushesAt_53 : decode cX0_hushesAt 53 = .ok (.iload_n 1, 1) := by decide +kernel
theorem dX0_hushesAt_54 : decode cX0_hushesAt 54 = .ok (.aload_n 0, 1) := by decide +kernel
theorem dX0_hushesAt_55 : decode cX0_hushesAt 55 = .ok (.getfield 37, 3) := by decide +kernel
theorem dX0_hushesAt_58 : decode cX0_hushesAt 58 = .ok (.if_icmp .ge 11, 3) := by decide +kernel
theorem dX0_hushesAt_61 : decode cX0_hushesAt 61 = .ok (.iload_n 1, 1) := by decide +kernel
theorem dX0_hushesAt_62 : decode cX0_hushesAt 62 = .ok (.aload_n 0, 1) := by decide +kernel
theorem dX0_hushesAt_63 : decode cX0_hushesAt 63 = .ok (.getfield 40, 3) := by decide +kernel
theorem dX0_hushesAt_66 : decode cX0_hushesAt 66 = .ok (.if_icmp .ge 7, 3) := by decide +kernel
theorem dX0_hushesAt_69 : decode cX0_hushesAt 69 = .ok (.iconst 1, 1) := by decide +kernel
theorem dX0_hushesAt_70 : decode cX0_hushesAt 70 = .ok (.goto 4, 3) := by decide +kernel
theorem dX0_hushesAt_73 : decode cX0_hushesAt 73 = .ok (.iconst 0, 1) := by decide +kernel
theorem dX0_hushesAt_74 : decode cX0_hushesAt 74 = .ok (.ireturn, 1) := by decide +kernel
set_option maxRecDepth 20000 in
theorem ggX0_blocksAt_X0_hushesAt : GoodIn wsX0_blocksAt wsX0_hushesAt := goodIn_r _ [6, 1, 7, 8, 9, 10, 11, 12, 13, 14, 15] (by decide +kernel) (by decide +kernel)
set_option maxRecDepth 20000 in
theorem gX0_blocksAt_X0_hushesAt : GoodIn wsX0_blocksAt (wsV RX0 43 RX0 yX0_hushesAt wsX0_hushesAt) := goodIn_app (goodIn_of _ (by decide +kernel)) ggX0_blocksAt_X0_hushesAt
theorem dX0_blocksAt_0 : decode cX0_blocksAt 0 = .ok (.aload_n 0, 1) := by decide +kernel
theorem dX0_blocksAt_1 : decode cX0_blocksAt 1 = .ok (.getfield 34, 3) := by decide +kernel
theorem dX0_blocksAt_4 : decode cX0_blocksAt 4 = .ok (.iconst 1, 1) := by decide +kernel
theorem dX0_blocksAt_5 : decode cX0_blocksAt 5 = .ok (.if_icmp .ne 15, 3) := by decide +kernel
theorem dX0_blocksAt_8 : decode cX0_blocksAt 8 = .ok (.aload_n 0, 1) := by decide +kernel
theorem dX0_blocksAt_9 : decode cX0_blocksAt 9 = .ok (.iload_n 1, 1) := by decide +kernel
theorem dX0_blocksAt_10 : decode cX0_blocksAt 10 = .ok (.invokevirtual 43, 3) := by decide +kernel
theorem dX0_blocksAt_13 : decode cX0_blocksAt 13 = .ok (.ifCond .eq 7, 3) := by decide +kernel
theorem dX0_blocksAt_16 : decode cX0_blocksAt 16 = .ok (.iconst 1, 1) := by decide +kernel
theorem dX0_blocksAt_17 : decode cX0_blocksAt 17 = .ok (.goto 4, 3) := by decide +kernel
theorem dX0_blocksAt_20 : decode cX0_blocksAt 20 = .ok (.iconst 0, 1) := by decide +kernel
theorem dX0_blocksAt_21 : decode cX0_blocksAt 21 = .ok (.ireturn, 1) := by decide +kernel
set_option maxRecDepth 20000 in
theorem ggX0_copyFrom_X2_copyFrom : GoodIn wsX0_copyFrom wsX2_copyFrom := goodIn_r _ [12, 13, 14, 15, 16, 17, 18, 35, 36, 37, 38, 39, 40] (by decide +kernel) (by decide +kernel)
set_option maxRecDepth 20000 in
theorem gX0_copyFrom_X2_copyFrom : GoodIn wsX0_copyFrom (wsV RX0 47 RX2 yX2_copyFrom wsX2_copyFrom) := goodIn_app (goodIn_of _ (by decide +kernel)) ggX0_copyFrom_X2_copyFrom
set_option maxRecDepth 20000 in
theorem ggX0_copyFrom_X1_copyFrom : GoodIn wsX0_copyFrom wsX1_copyFrom := goodIn_r _ [23, 24, 25, 26, 27, 41, 42, 43, 44] (by decide +kernel) (by decide +kernel)
set_option maxRecDepth 20000 in
theorem gX0_copyFrom_X1_copyFrom : GoodIn wsX0_copyFrom (wsV RX0 51 RX1 yX1_copyFrom wsX1_copyFrom) := goodIn_app (goodIn_of _ (by decide +kernel)) ggX0_copyFrom_X1_copyFrom
theorem dX0_copyFrom_0 : decode cX0_copyFrom 0 = .ok (.aload_n 0, 1) := by decide +kernel
theorem dX0_copyFrom_1 : decode cX0_copyFrom 1 = .ok (.getfield 14, 3) := by decide +kernel
theorem dX0_copyFrom_4 : decode cX0_copyFrom 4 = .ok (.aload_n 1, 1) := by decide +kernel
theorem dX0_copyFrom_5 : decode cX0_copyFrom 5 = .ok (.getfield 14, 3) := by decide +kernel
theorem dX0_copyFrom_8 : decode cX0_copyFrom 8 = .ok (.invokevirtual 47, 3) := by decide +kernel
theorem dX0_copyFrom_11 : decode cX0_copyFrom 11 = .ok (.aload_n 0, 1) := by decide +kernel
theorem dX0_copyFrom_12 : decode cX0_copyFrom 12 = .ok (.getfield 20, 3) := by decide +kernel
theorem dX0_copyFrom_15 : decode cX0_copyFrom 15 = .ok (.aload_n 1, 1) := by decide +kernel
theorem dX0_copyFrom_16 : decode cX0_copyFrom 16 = .ok (.getfield 20, 3) := by decide +kernel
theorem dX0_copyFrom_19 : decode cX0_copyFrom 19 = .ok (.invokevirtual 47, 3) := by decide +kernel
theorem dX0_copyFrom_22 : decode cX0_copyFrom 22 = .ok (.aload_n 0, 1) := by decide +kernel
theorem dX0_copyFrom_23 : decode cX0_copyFrom 23 = .ok (.getfield 26, 3) := by decide +kernel
theorem dX0_copyFrom_26 : decode cX0_copyFrom 26 = .ok (.aload_n 1, 1) := by decide +kernel
theorem dX0_copyFrom_27 : decode cX0_copyFrom 27 = .ok (.getfield 26, 3) := by decide +kernel
theorem dX0_copyFrom_30 : decode cX0_copyFrom 30 = .ok (.invokevirtual 51, 3) := by decide +kernel
theorem dX0_copyFrom_33 : decode cX0_copyFrom 33 = .ok (.aload_n 0, 1) := by decide +kernel
theorem dX0_copyFrom_34 : decode cX0_copyFrom 34 = .ok (.aload_n 1, 1) := by decide +kernel
theorem dX0_copyFrom_35 : decode cX0_copyFrom 35 = .ok (.getfield 30, 3) := by decide +kernel
theorem dX0_copyFrom_38 : decode cX0_copyFrom 38 = .ok (.putfield 30, 3) := by decide +kernel
theorem dX0_copyFrom_41 : decode cX0_copyFrom 41 = .ok (.aload_n 0, 1) := by decide +kernel
theorem dX0_copyFrom_42 : decode cX0_copyFrom 42 = .ok (.aload_n 1, 1) := by decide +kernel
theorem dX0_copyFrom_43 : decode cX0_copyFrom 43 = .ok (.getfield 34, 3) := by decide +kernel
theorem dX0_copyFrom_46 : decode cX0_copyFrom 46 = .ok (.putfield 34, 3) := by decide +kernel
theorem dX0_copyFrom_49 : decode cX0_copyFrom 49 = .ok (.aload_n 0, 1) := by decide +kernel
theorem dX0_copyFrom_50 : decode cX0_copyFrom 50 = .ok (.aload_n 1, 1) := by decide +kernel
theorem dX0_copyFrom_51 : decode cX0_copyFrom 51 = .ok (.getfield 37, 3) := by decide +kernel
theorem dX0_copyFrom_54 : decode cX0_copyFrom 54 = .ok (.putfield 37, 3) := by decide +kernel
theorem dX0_copyFrom_57 : decode cX0_copyFrom 57 = .ok (.aload_n 0, 1) := by decide +kernel
theorem dX0_copyFrom_58 : decode cX0_copyFrom 58 = .ok (.aload_n 1, 1) := by decide +kernel
theorem dX0_copyFrom_59 : decode cX0_copyFrom 59 = .ok (.getfield 40, 3) := by decide +kernel
theorem dX0_copyFrom_62 : decode cX0_copyFrom 62 = .ok (.putfield 40, 3) := by decide +kernel
theorem dX0_copyFrom_65 : decode cX0_copyFrom 65 = .ok (.return_, 1) := by decide +kernel
set_option maxRecDepth 20000 in
theorem ggX0_addToHash_X2_addToHash : GoodIn wsX0_addToHash wsX2_addToHash := goodIn_r _ [13, 14, 15, 16, 17, 18, 19, 20, 21, 22, 12, 23, 24, 25, 26, 27, 28, 29, 30, 31, 32, 33, 34, 35, 36, 37, 38, 39, 40, 58, 59, 60, 61, 62, 63] (by decide +kernel) (by decide +kernel)
set_option maxRecDepth 20000 in
theorem gX0_addToHash_X2_addToHash : GoodIn wsX0_addToHash (wsV RX0 56 RX2 yX2_addToHash wsX2_addToHash) := goodIn_app (goodIn_of _ (by decide +kernel)) ggX0_addToHash_X2_addToHash
set_option maxRecDepth 20000 in
theorem ggX0_addToHash_X1_addToHash : GoodIn wsX0_addToHash wsX1_addToHash := goodIn_r _ [45, 46, 47, 48, 49, 50, 64, 65, 66, 67] (by decide +kernel) (by decide +kernel)
set_option maxRecDepth 20000 in
theorem gX0_addToHash_X1_addToHash : GoodIn wsX0_addToHash (wsV RX0 60 RX1 yX1_addToHash wsX1_addToHash) := goodIn_app (goodIn_of _ (by decide +kernel)) ggX0_addToHash_X1_addToHash
theorem dX0_addToHash_0 : decode cX0_addToHash 0 = .ok (.ldc2_w 54, 3) := by decide +kernel
theorem dX0_addToHash_3 : decode cX0_addToHash 3 = .ok (.lload_n 1, 1) := by decide +kernel
theorem dX0_addToHash_4 : decode cX0_addToHash 4 = .ok (.lmul, 1) := by decide +kernel
theorem dX0_addToHash_5 : decode cX0_addToHash 5 = .ok (.aload_n 0, 1) := by decide +kernel
theorem dX0_addToHash_6 : decode cX0_addToHash 6 = .ok (.getfield 30, 3) := by decide +kernel
theorem dX0_addToHash_9 : decode cX0_addToHash 9 = .ok (.i2l, 1) := by decide +kernel
theorem dX0_addToHash_10 : decode cX0_addToHash 10 = .ok (.ladd, 1) := by decide +kernel
theorem dX0_addToHash_11 : decode cX0_addToHash 11 = .ok (.lstore_n 3, 1) := by decide +kernel
theorem dX0_addToHash_12 : decode cX0_addToHash 12 = .ok (.aload_n 0, 1) := by decide +kernel
theorem dX0_addToHash_13 : decode cX0_addToHash 13 = .ok (.getfield 14, 3) := by decide +kernel
theorem dX0_addToHash_16 : decode cX0_addToHash 16 = .ok (.lload_n 3, 1) := by decide +kernel
theorem dX0_addToHash_17 : decode cX0_addToHash 17 = .ok (.aload_n 0, 1) := by decide +kernel
theorem dX0_addToHash_18 : decode cX0_addToHash 18 = .ok (.getfield 30, 3) := by decide +kernel
theorem dX0_addToHash_21 : decode cX0_addToHash 21 = .ok (.invokevirtual 56, 3) := by decide +kernel
theorem dX0_addToHash_24 : decode cX0_addToHash 24 = .ok (.lstore_n 3, 1) := by decide +kernel
theorem dX0_addToHash_25 : decode cX0_addToHash 25 = .ok (.aload_n 0, 1) := by decide +kernel
theorem dX0_addToHash_26 : decode cX0_addToHash 26 = .ok (.getfield 20, 3) := by decide +kernel
theorem dX0_addToHash_29 : decode cX0_addToHash 29 = .ok (.lload_n 3, 1) := by decide +kernel
theorem dX0_addToHash_30 : decode cX0_addToHash 30 = .ok (.aload_n 0, 1) := by decide +kernel
theorem dX0_addToHash_31 : decode cX0_addToHash 31 = .ok (.getfield 30, 3) := by decide +kernel
theorem dX0_addToHash_34 : decode cX0_addToHash 34 = .ok (.invokevirtual 56, 3) := by decide +kernel
theorem dX0_addToHash_37 : decode cX0_addToHash 37 = .ok (.lstore_n 3, 1) := by decide +kernel
theorem dX0_addToHash_38 : decode cX0_addToHash 38 = .ok (.ldc2_w 54, 3) := by decide +kernel
theorem dX0_addToHash_41 : decode cX0_addToHash 41 = .ok (.lload_n 3, 1) := by decide +kernel
theorem dX0_addToHash_42 : decode cX0_addToHash 42 = .ok (.lmul, 1) := by decide +kernel
theorem dX0_addToHash_43 : decode cX0_addToHash 43 = .ok (.aload_n 0, 1) := by decide +kernel
theorem dX0_addToHash_44 : decode cX0_addToHash 44 = .ok (.getfield 34, 3) := by decide +kernel
theorem dX0_addToHash_47 : decode cX0_addToHash 47 = .ok (.i2l, 1) := by decide +kernel
theorem dX0_addToHash_48 : decode cX0_addToHash 48 = .ok (.ladd, 1) := by decide +kernel
theorem dX0_addToHash_49 : decode cX0_addToHash 49 = .ok (.lstore_n 3, 1) := by decide +kernel
theorem dX0_addToHash_50 : decode cX0_addToHash 50 = .ok (.ldc2_w 54, 3) := by decide +kernel
theorem dX0_addToHash_53 : decode cX0_addToHash 53 = .ok (.lload_n 3, 1) := by decide +kernel
theorem dX0_addToHash_54 : decode cX0_addToHash 54 = .ok (.lmul, 1) := by decide +kernel
theorem dX0_addToHash_55 : decode cX0_addToHash 55 = .ok (.aload_n 0, 1) := by decide +kernel
theorem dX0_addToHash_56 : decode cX0_addToHash 56 = .ok (.getfield 37, 3) := by decide +kernel
theorem dX0_addToHash_59 : decode cX0_addToHash 59 = .ok (.i2l, 1) := by decide +kernel
theorem dX0_addToHash_60 : decode cX0_addToHash 60 = .ok (.ladd, 1) := by decide +kernel
theorem dX0_addToHash_61 : decode cX0_addToHash 61 = .ok (.lstore_n 3, 1) := by decide +kernel
theorem dX0_addToHash_62 : decode cX0_addToHash 62 = .ok (.ldc2_w 54, 3) := by decide +kernel
theorem dX0_addToHash_65 : decode cX0_addToHash 65 = .ok (.lload_n 3, 1) := by decide +kernel
theorem dX0_addToHash_66 : decode cX0_addToHash 66 = .ok (.lmul, 1) := by decide +kernel
theorem dX0_addToHash_67 : decode cX0_addToHash 67 = .ok (.aload_n 0, 1) := by decide +kernel
theorem dX0_addToHash_68 : decode cX0_addToHash 68 = .ok (.getfield 40, 3) := by decide +kernel
theorem dX0_addToHash_71 : decode cX0_addToHash 71 = .ok (.i2l, 1) := by decide +kernel
theorem dX0_addToHash_72 : decode cX0_addToHash 72 = .ok (.ladd, 1) := by decide +kernel
theorem dX0_addToHash_73 : decode cX0_addToHash 73 = .ok (.lstore_n 3, 1) := by decide +kernel
theorem dX0_addToHash_74 : decode cX0_addToHash 74 = .ok (.aload_n 0, 1) := by decide +kernel
theorem dX0_addToHash_75 : decode cX0_addToHash 75 = .ok (.getfield 26, 3) := by decide +kernel
theorem dX0_addToHash_78 : decode cX0_addToHash 78 = .ok (.lload_n 3, 1) := by decide +kernel
theorem dX0_addToHash_79 : decode cX0_addToHash 79 = .ok (.invokevirtual 60, 3) := by decide +kernel
theorem dX0_addToHash_82 : decode cX0_addToHash 82 = .ok (.lreturn, 1) := by decide +kernel
theorem dX1_init_0 : decode cX1_init 0 = .ok (.aload_n 0, 1) := by decide +kernel
theorem dX1_init_1 : decode cX1_init 1 = .ok (.invokespecial 3, 3) := by decide +kernel
theorem dX1_init_4 : decode cX1_init 4 = .ok (.aload_n 0, 1) := by decide +kernel
theorem dX1_init_5 : decode cX1_init 5 = .ok (.bipush 6, 2) := by decide +kernel
theorem dX1_init_7 : decode cX1_init 7 = .ok (.newarray .int, 2) := by decide +kernel
theorem dX1_init_9 : decode cX1_init 9 = .ok (.putfield 9, 3) := by decide +kernel
theorem dX1_init_12 : decode cX1_init 12 = .ok (.aload_n 0, 1) := by decide +kernel
theorem dX1_init_13 : decode cX1_init 13 = .ok (.bipush 6, 2) := by decide +kernel
theorem dX1_init_15 : decode cX1_init 15 = .ok (.newarray .int, 2) := by decide +kernel
theorem dX1_init_17 : decode cX1_init 17 = .ok (.putfield 15, 3) := by decide +kernel
theorem dX1_init_20 : decode cX1_init 20 = .ok (.aload_n 0, 1) := by decide +kernel
theorem dX1_init_21 : decode cX1_init 21 = .ok (.bipush 6, 2) := by decide +kernel
theorem dX1_init_23 : decode cX1_init 23 = .ok (.newarray .int, 2) := by decide +kernel
theorem dX1_init_25 : decode cX1_init 25 = .ok (.putfield 18, 3) := by decide +kernel
theorem dX1_init_28 : decode cX1_init 28 = .ok (.aload_n 0, 1) := by decide +kernel
theorem dX1_init_29 : decode cX1_init 29 = .ok (.iconst 0, 1) := by decide +kernel
theorem dX1_init_30 : decode cX1_init 30 = .ok (.putfield 21, 3) := by decide +kernel
theorem dX1_init_33 : decode cX1_init 33 = .ok (.return_, 1) := by decide +kernel
theorem dX1_put_0 : decode cX1_put 0 = .ok (.iconst 5, 1) := by decide +kernel
theorem dX1_put_1 : decode cX1_put 1 = .ok (.istore 4, 2) := by decide +kernel
theorem dX1_put_3 : decode cX1_put 3 = .ok (.iload 4, 2) := by decide +kernel
theorem dX1_put_5 : decode cX1_put 5 = .ok (.ifCond .le 57, 3) := by decide +kernel
theorem dX1_put_8 : decode cX1_put 8 = .ok (.aload_n 0, 1) := by decide +kernel
theorem dX1_put_9 : decode cX1_put 9 = .ok (.getfield 9, 3) := by decide +kernel
theorem dX1_put_12 : decode cX1_put 12 = .ok (.iload 4, 2) := by decide +kernel
theorem dX1_put_14 : decode cX1_put 14 = .ok (.aload_n 0, 1) := by decide +kernel
theorem dX1_put_15 : decode cX1_put 15 = .ok (.getfield 9, 3) := by decide +kernel
theorem dX1_put_18 : decode cX1_put 18 = .ok (.iload 4, 2) := by decide +kernel
theorem dX1_put_20 : decode cX1_put 20 = .ok (.iconst 1, 1) := by decide +kernel
theorem dX1_put_21 : decode cX1_put 21 = .ok (.isub, 1) := by decide +kernel
theorem dX1_put_22 : decode cX1_put 22 = .ok (.iaload, 1) := by decide +kernel
theorem dX1_put_23 : decode cX1_put 23 = .ok (.iastore, 1) := by decide +kernel
theorem dX1_put_24 : decode cX1_put 24 = .ok (.aload_n 0, 1) := by decide +kernel
theorem dX1_put_25 : decode cX1_put 25 = .ok (.getfield 15, 3) := by decide +kernel
theorem dX1_put_28 : decode cX1_put 28 = .ok (.iload 4, 2) := by decide +kernel
theorem dX1_put_30 : decode cX1_put 30 = .ok (.aload_n 0, 1) := by decide +kernel
theorem dX1_put_31 : decode cX1_put 31 = .ok (.getfield 15, 3) := by decide +kernel
theorem dX1_put_34 : decode cX1_put 34 = .ok (.iload 4, 2) := by decide +kernel
theorem dX1_put_36 : decode cX1_put 36 = .ok (.iconst 1, 1) := by decide +kernel
theorem dX1_put_37 : decode cX1_put 37 = .ok (.isub, 1) := by decide +kernel
theorem dX1_put_38 : decode cX1_put 38 = .ok (.iaload, 1) := by decide +kernel
theorem dX1_put_39 : decode cX1_put 39 = .ok (.iastore, 1) := by decide +kernel
theorem dX1_put_40 : decode cX1_put 40 = .ok (.aload_n 0, 1) := by decide +kernel
theorem dX1_put_41 : decode cX1_put 41 = .ok (.getfield 18, 3) := by decide +kernel
theorem dX1_put_44 : decode cX1_put 44 = .ok (.iload 4, 2) := by decide +kernel
theorem dX1_put_46 : decode cX1_put 46 = .ok (.aload_n 0, 1) := by decide +kernel
theorem dX1_put_47 : decode cX1_put 47 = .ok (.getfield 18, 3) := by decide +kernel
theorem dX1_put_50 : decode cX1_put 50 = .ok (.iload 4, 2) := by decide +kernel
theorem dX1_put_52 : decode cX1_put 52 = .ok (.iconst 1, 1) := by decide +kernel
theorem dX1_put_53 : decode cX1_put 53 = .ok (.isub, 1) := by decide +kernel
theorem dX1_put_54 : decode cX1_put 54 = .ok (.iaload, 1) := by decide +kernel
theorem dX1_put_55 : decode cX1_put 55 = .ok (.iastore, 1) := by decide +kernel
theorem dX1_put_56 : decode cX1_put 56 = .ok (.iinc 4 (-1), 3) := by decide +kernel
theorem dX1_put_59 : decode cX1_put 59 = .ok (.goto (-56), 3) := by decide +kernel
theorem dX1_put_62 : decode cX1_put 62 = .ok (.aload_n 0, 1) := by decide +kernel
theorem dX1_put_63 : decode cX1_put 63 = .ok (.getfield 9, 3) := by decide +kernel
theorem dX1_put_66 : decode cX1_put 66 = .ok (.iconst 0, 1) := by decide +kernel
theorem dX1_put_67 : decode cX1_put 67 = .ok (.iload_n 1, 1) := by decide +kernel
theorem dX1_put_68 : decode cX1_put 68 = .ok (.iastore, 1) := by decide +kernel
theorem dX1_put_69 : decode cX1_put 69 = .ok (.aload_n 0, 1) := by decide +kernel
theorem dX1_put_70 : decode cX1_put 70 = .ok (.getfield 15, 3) := by decide +kernel
theorem dX1_put_73 : decode cX1_put 73 = .ok (.iconst 0, 1) := by decide +kernel
theorem dX1_put_74 : decode cX1_put 74 = .ok (.iload_n 2, 1) := by decide +kernel
theorem dX1_put_75 : decode cX1_put 75 = .ok (.iastore, 1) := by decide +kernel
theorem dX1_put_76 : decode cX1_put 76 = .ok (.aload_n 0, 1) := by decide +kernel
theorem dX1_put_77 : decode cX1_put 77 = .ok (.getfield 18, 3) := by decide +kernel
theorem dX1_put_80 : decode cX1_put 80 = .ok (.iconst 0, 1) := by decide +kernel
theorem dX1_put_81 : decode cX1_put 81 = .ok (.iload_n 3, 1) := by decide +kernel
theorem dX1_put_82 : decode cX1_put 82 = .ok (.iastore, 1) := by decide +kernel
theorem dX1_put_83 : decode cX1_put 83 = .ok (.aload_n 0, 1) := by decide +kernel
theorem dX1_put_84 : decode cX1_put 84 = .ok (.aload_n 0, 1) := by decide +kernel
theorem dX1_put_85 : decode cX1_put 85 = .ok (.getfield 21, 3) := by decide +kernel
theorem dX1_put_88 : decode cX1_put 88 = .ok (.iconst 1, 1) := by decide +kernel
theorem dX1_put_89 : decode cX1_put 89 = .ok (.iadd, 1) := by decide +kernel
theorem dX1_put_90 : decode cX1_put 90 = .ok (.bipush 6, 2) := by decide +kernel
theorem dX1_put_92 : decode cX1_put 92 = .ok (.invokestatic 25, 3) := by decide +kernel
theorem dX1_put_95 : decode cX1_put 95 = .ok (.putfield 21, 3) := by decide +kernel
theorem dX1_put_98 : decode cX1_put 98 = .ok (.return_, 1) := by decide +kernel
theorem dX1_copyFrom_0 : decode cX1_copyFrom 0 = .ok (.iconst 0, 1) := by decide +kernel
theorem dX1_copyFrom_1 : decode cX1_copyFrom 1 = .ok (.istore_n 2, 1) := by decide +kernel
theorem dX1_copyFrom_2 : decode cX1_copyFrom 2 = .ok (.iload_n 2, 1) := by decide +kernel
theorem dX1_copyFrom_3 : decode cX1_copyFrom 3 = .ok (.bipush 6, 2) := by decide +kernel
theorem dX1_copyFrom_5 : decode cX1_copyFrom 5 = .ok (.if_icmp .ge 45, 3) := by decide +kernel
theorem dX1_copyFrom_8 : decode cX1_copyFrom 8 = .ok (.aload_n 0, 1) := by decide +kernel
theorem dX1_copyFrom_9 : decode cX1_copyFrom 9 = .ok (.getfield 9, 3) := by decide +kernel
theorem dX1_copyFrom_12 : decode cX1_copyFrom 12 = .ok (.iload_n 2, 1) := by decide +kernel
theorem dX1_copyFrom_13 : decode cX1_copyFrom 13 = .ok (.aload_n 1, 1) := by decide +kernel
theorem dX1_copyFrom_14 : decode cX1_copyFrom 14 = .ok (.getfield 9, 3) := by decide +kernel
theorem dX1_copyFrom_17 : decode cX1_copyFrom 17 = .ok (.iload_n 2, 1) := by decide +kernel
theorem dX1_copyFrom_18 : decode cX1_copyFrom 18 = .ok (.iaload, 1) := by decide +kernel
theorem dX1_copyFrom_19 : decode cX1_copyFrom 19 = .ok (.iastore, 1) := by decide +kernel
theorem dX1_copyFrom_20 : decode cX1_copyFrom 20 = .ok (.aload_n 0, 1) := by decide +kernel
theorem dX1_copyFrom_21 : decode cX1_copyFrom 21 = .ok (.getfield 15, 3) := by decide +kernel
theorem dX1_copyFrom_24 : decode cX1_copyFrom 24 = .ok (.iload_n 2, 1) := by decide +kernel
theorem dX1_copyFrom_25 : decode cX1_copyFrom 25 = .ok (.aload_n 1, 1) := by decide +kernel
theorem dX1_copyFrom_26 : decode cX1_copyFrom 26 = .ok (.getfield 15, 3) := by decide +kernel
theorem dX1_copyFrom_29 : decode cX1_copyFrom 29 = .ok (.iload_n 2, 1) := by decide +kernel
theorem dX1_copyFrom_30 : decode cX1_copyFrom 30 = .ok (.iaload, 1) := by decide +kernel
theorem dX1_copyFrom_31 : decode cX1_copyFrom 31 = .ok (.iastore, 1) := by decide +kernel
theorem dX1_copyFrom_32 : decode cX1_copyFrom 32 = .ok (.aload_n 0, 1) := by decide +kernel
theorem dX1_copyFrom_33 : decode cX1_copyFrom 33 = .ok (.getfield 18, 3) := by decide +kernel
theorem dX1_copyFrom_36 : decode cX1_copyFrom 36 = .ok (.iload_n 2, 1) := by decide +kernel
theorem dX1_copyFrom_37 : decode cX1_copyFrom 37 = .ok (.aload_n 1, 1) := by decide +kernel
theorem dX1_copyFrom_38 : decode cX1_copyFrom 38 = .ok (.getfield 18, 3) := by decide +kernel
theorem dX1_copyFrom_41 : decode cX1_copyFrom 41 = .ok (.iload_n 2, 1) := by decide +kernel
theorem dX1_copyFrom_42 : decode cX1_copyFrom 42 = .ok (.iaload, 1) := by decide +kernel
theorem dX1_copyFrom_43 : decode cX1_copyFrom 43 = .ok (.iastore, 1) := by decide +kernel
theorem dX1_copyFrom_44 : decode cX1_copyFrom 44 = .ok (.iinc 2 1, 3) := by decide +kernel
theorem dX1_copyFrom_47 : decode cX1_copyFrom 47 = .ok (.goto (-45), 3) := by decide +kernel
theorem dX1_copyFrom_50 : decode cX1_copyFrom 50 = .ok (.aload_n 0, 1) := by decide +kernel
theorem dX1_copyFrom_51 : decode cX1_copyFrom 51 = .ok (.aload_n 1, 1) := by decide +kernel
theorem dX1_copyFrom_52 : decode cX1_copyFrom 52 = .ok (.getfield 21, 3) := by decide +kernel
theorem dX1_copyFrom_55 : decode cX1_copyFrom 55 = .ok (.putfield 21, 3) := by decide +kernel
theorem dX1_copyFrom_58 : decode cX1_copyFrom 58 = .ok (.return_, 1) := by decide +kernel
theorem dX1_addToHash_0 : decode cX1_addToHash 0 = .ok (.ldc2_w 31, 3) := by decide +kernel
theorem dX1_addToHash_3 : decode cX1_addToHash 3 = .ok (.lload_n 1, 1) := by decide +kernel
theorem dX1_addToHash_4 : decode cX1_addToHash 4 = .ok (.lmul, 1) := by decide +kernel
theorem dX1_addToHash_5 : decode cX1_addToHash 5 = .ok (.aload_n 0, 1) := by decide +kernel
theorem dX1_addToHash_6 : decode cX1_addToHash 6 = .ok (.getfield 21, 3) := by decide +kernel
theorem dX1_addToHash_9 : decode cX1_addToHash 9 = .ok (.i2l, 1) := by decide +kernel
theorem dX1_addToHash_10 : decode cX1_addToHash 10 = .ok (.ladd, 1) := by decide +kernel
theorem dX1_addToHash_11 : decode cX1_addToHash 11 = .ok (.lstore_n 3, 1) := by decide +kernel
theorem dX1_addToHash_12 : decode cX1_addToHash 12 = .ok (.iconst 0, 1) := by decide +kernel
theorem dX1_addToHash_13 : decode cX1_addToHash 13 = .ok (.istore 5, 2) := by decide +kernel
theorem dX1_addToHash_15 : decode cX1_addToHash 15 = .ok (.iload 5, 2) := by decide +kernel
theorem dX1_addToHash_17 : decode cX1_addToHash 17 = .ok (.aload_n 0, 1) := by decide +kernel
theorem dX1_addToHash_18 : decode cX1_addToHash 18 = .ok (.getfield 21, 3) := by decide +kernel
theorem dX1_addToHash_21 : decode cX1_addToHash 21 = .ok (.if_icmp .ge 54, 3) := by decide +kernel
theorem dX1_addToHash_24 : decode cX1_addToHash 24 = .ok (.ldc2_w 31, 3) := by decide +kernel
theorem dX1_addToHash_27 : decode cX1_addToHash 27 = .ok (.lload_n 3, 1) := by decide +kernel
theorem dX1_addToHash_28 : decode cX1_addToHash 28 = .ok (.lmul, 1) := by decide +kernel
theorem dX1_addToHash_29 : decode cX1_addToHash 29 = .ok (.aload_n 0, 1) := by decide +kernel
theorem dX1_addToHash_30 : decode cX1_addToHash 30 = .ok (.getfield 9, 3) := by decide +kernel
theorem dX1_addToHash_33 : decode cX1_addToHash 33 = .ok (.iload 5, 2) := by decide +kernel
theorem dX1_addToHash_35 : decode cX1_addToHash 35 = .ok (.iaload, 1) := by decide +kernel
theorem dX1_addToHash_36 : decode cX1_addToHash 36 = .ok (.i2l, 1) := by decide +kernel
theorem dX1_addToHash_37 : decode cX1_addToHash 37 = .ok (.ladd, 1) := by decide +kernel
theorem dX1_addToHash_38 : decode cX1_addToHash 38 = .ok (.lstore_n 3, 1) := by decide +kernel
theorem dX1_addToHash_39 : decode cX1_addToHash 39 = .ok (.ldc2_w 31, 3) := by decide +kernel
theorem dX1_addToHash_42 : decode cX1_addToHash 42 = .ok (.lload_n 3, 1) := by decide +kernel
theorem dX1_addToHash_43 : decode cX1_addToHash 43 = .ok (.lmul, 1) := by decide +kernel
theorem dX1_addToHash_44 : decode cX1_addToHash 44 = .ok (.aload_n 0, 1) := by decide +kernel
theorem dX1_addToHash_45 : decode cX1_addToHash 45 = .ok (.getfield 15, 3) := by decide +kernel
theorem dX1_addToHash_48 : decode cX1_addToHash 48 = .ok (.iload 5, 2) := by decide +kernel
theorem dX1_addToHash_50 : decode cX1_addToHash 50 = .ok (.iaload, 1) := by decide +kernel
theorem dX1_addToHash_51 : decode cX1_addToHash 51 = .ok (.i2l, 1) := by decide +kernel
theorem dX1_addToHash_52 : decode cX1_addToHash 52 = .ok (.ladd, 1) := by decide +kernel
theorem dX1_addToHash_53 : decode cX1_addToHash 53 = .ok (.lstore_n 3, 1) := by decide +kernel
theorem dX1_addToHash_54 : decode cX1_addToHash 54 = .ok (.ldc2_w 31, 3) := by decide +kernel
theorem dX1_addToHash_57 : decode cX1_addToHash 57 = .ok (.lload_n 3, 1) := by decide +kernel
theorem dX1_addToHash_58 : decode cX1_addToHash 58 = .ok (.lmul, 1) := by decide +kernel
theorem dX1_addToHash_59 : decode cX1_addToHash 59 = .ok (.aload_n 0, 1) := by decide +kernel
theorem dX1_addToHash_60 : decode cX1_addToHash 60 = .ok (.getfield 18, 3) := by decide +kernel
theorem dX1_addToHash_63 : decode cX1_addToHash 63 = .ok (.iload 5, 2) := by decide +kernel
theorem dX1_addToHash_65 : decode cX1_addToHash 65 = .ok (.iaload, 1) := by decide +kernel
theorem dX1_addToHash_66 : decode cX1_addToHash 66 = .ok (.i2l, 1) := by decide +kernel
theorem dX1_addToHash_67 : decode cX1_addToHash 67 = .ok (.ladd, 1) := by decide +kernel
theorem dX1_addToHash_68 : decode cX1_addToHash 68 = .ok (.lstore_n 3, 1) := by decide +kernel
theorem dX1_addToHash_69 : decode cX1_addToHash 69 = .ok (.iinc 5 1, 3) := by decide +kernel
theorem dX1_addToHash_72 : decode cX1_addToHash 72 = .ok (.goto (-57), 3) := by decide +kernel
theorem dX1_addToHash_75 : decode cX1_addToHash 75 = .ok (.lload_n 3, 1) := by decide +kernel
theorem dX1_addToHash_76 : decode cX1_addToHash 76 = .ok (.lreturn, 1) := by decide +kernel
theorem dX2_init_0 : decode cX2_init 0 = .ok (.aload_n 0, 1) := by decide +kernel
theorem dX2_init_1 : decode cX2_init 1 = .ok (.invokespecial 3, 3) := by decide +kernel
theorem dX2_init_4 : decode cX2_init 4 = .ok (.aload_n 0, 1) := by decide +kernel
theorem dX2_init_5 : decode cX2_init 5 = .ok (.iconst 1, 1) := by decide +kernel
theorem dX2_init_6 : decode cX2_init 6 = .ok (.putfield 9, 3) := by decide +kernel
theorem dX2_init_9 : decode cX2_init 9 = .ok (.aload_n 0, 1) := by decide +kernel
theorem dX2_init_10 : decode cX2_init 10 = .ok (.iconst 1, 1) := by decide +kernel
theorem dX2_init_11 : decode cX2_init 11 = .ok (.putfield 15, 3) := by decide +kernel
theorem dX2_init_14 : decode cX2_init 14 = .ok (.aload_n 0, 1) := by decide +kernel
theorem dX2_init_15 : decode cX2_init 15 = .ok (.sipush 2000, 3) := by decide +kernel
theorem dX2_init_18 : decode cX2_init 18 = .ok (.putfield 18, 3) := by decide +kernel
theorem dX2_init_21 : decode cX2_init 21 = .ok (.aload_n 0, 1) := by decide +kernel
theorem dX2_init_22 : decode cX2_init 22 = .ok (.iconst 0, 1) := by decide +kernel
theorem dX2_init_23 : decode cX2_init 23 = .ok (.putfield 21, 3) := by decide +kernel
theorem dX2_init_26 : decode cX2_init 26 = .ok (.aload_n 0, 1) := by decide +kernel
theorem dX2_init_27 : decode cX2_init 27 = .ok (.iconst 0, 1) := by decide +kernel
theorem dX2_init_28 : decode cX2_init 28 = .ok (.putfield 24, 3) := by decide +kernel
theorem dX2_init_31 : decode cX2_init 31 = .ok (.aload_n 0, 1) := by decide +kernel
theorem dX2_init_32 : decode cX2_init 32 = .ok (.iload_n 1, 1) := by decide +kernel
theorem dX2_init_33 : decode cX2_init 33 = .ok (.putfield 27, 3) := by decide +kernel
theorem dX2_init_36 : decode cX2_init 36 = .ok (.return_, 1) := by decide +kernel
theorem dX2_lastPosition_0 : decode cX2_lastPosition 0 = .ok (.aload_n 0, 1) := by decide +kernel
theorem dX2_lastPosition_1 : decode cX2_lastPosition 1 = .ok (.getfield 27, 3) := by decide +kernel
theorem dX2_lastPosition_4 : decode cX2_lastPosition 4 = .ok (.ifCond .ne 8, 3) := by decide +kernel
theorem dX2_lastPosition_7 : decode cX2_lastPosition 7 = .ok (.bipush 12, 2) := by decide +kernel
theorem dX2_lastPosition_9 : decode cX2_lastPosition 9 = .ok (.goto 4, 3) := by decide +kernel
theorem dX2_lastPosition_12 : decode cX2_lastPosition 12 = .ok (.iconst 4, 1) := by decide +kernel
theorem dX2_lastPosition_13 : decode cX2_lastPosition 13 = .ok (.ireturn, 1) := by decide +kernel
theorem dX2_period_0 : decode cX2_period 0 = .ok (.aload_n 0, 1) := by decide +kernel
theorem dX2_period_1 : decode cX2_period 1 = .ok (.getfield 27, 3) := by decide +kernel
theorem dX2_period_4 : decode cX2_period 4 = .ok (.ifCond .ne 8, 3) := by decide +kernel
theorem dX2_period_7 : decode cX2_period 7 = .ok (.bipush 60, 2) := by decide +kernel
theorem dX2_period_9 : decode cX2_period 9 = .ok (.goto 5, 3) := by decide +kernel
theorem dX2_period_12 : decode cX2_period 12 = .ok (.bipush 15, 2) := by decide +kernel
theorem dX2_period_14 : decode cX2_period 14 = .ok (.ireturn, 1) := by decide +kernel
theorem dX2_lastReleaseUpTo_0 : decode cX2_lastReleaseUpTo 0 = .ok (.aload_n 0, 1) := by decide +kernel
theorem dX2_lastReleaseUpTo_1 : decode cX2_lastReleaseUpTo 1 = .ok (.getfield 27, 3) := by decide +kernel
theorem dX2_lastReleaseUpTo_4 : decode cX2_lastReleaseUpTo 4 = .ok (.ifCond .ne 12, 3) := by decide +kernel
theorem dX2_lastReleaseUpTo_7 : decode cX2_lastReleaseUpTo 7 = .ok (.iload_n 1, 1) := by decide +kernel
theorem dX2_lastReleaseUpTo_8 : decode cX2_lastReleaseUpTo 8 = .ok (.iload_n 1, 1) := by decide +kernel
theorem dX2_lastReleaseUpTo_9 : decode cX2_lastReleaseUpTo 9 = .ok (.bipush 60, 2) := by decide +kernel
theorem dX2_lastReleaseUpTo_11 : decode cX2_lastReleaseUpTo 11 = .ok (.irem, 1) := by decide +kernel
theorem dX2_lastReleaseUpTo_12 : decode cX2_lastReleaseUpTo 12 = .ok (.isub, 1) := by decide +kernel
theorem dX2_lastReleaseUpTo_13 : decode cX2_lastReleaseUpTo 13 = .ok (.goto 9, 3) := by decide +kernel
theorem dX2_lastReleaseUpTo_16 : decode cX2_lastReleaseUpTo 16 = .ok (.iload_n 1, 1) := by decide +kernel
theorem dX2_lastReleaseUpTo_17 : decode cX2_lastReleaseUpTo 17 = .ok (.iload_n 1, 1) := by decide +kernel
theorem dX2_lastReleaseUpTo_18 : decode cX2_lastReleaseUpTo 18 = .ok (.bipush 15, 2) := by decide +kernel
theorem dX2_lastReleaseUpTo_20 : decode cX2_lastReleaseUpTo 20 = .ok (.irem, 1) := by decide +kernel
theorem dX2_lastReleaseUpTo_21 : decode cX2_lastReleaseUpTo 21 = .ok (.isub, 1) := by decide +kernel
theorem dX2_lastReleaseUpTo_22 : decode cX2_lastReleaseUpTo 22 = .ok (.ireturn, 1) := by decide +kernel
set_option maxRecDepth 20000 in
theorem ggX2_isReleasedAt_X2_lastReleaseUpTo : GoodIn wsX2_isReleasedAt wsX2_lastReleaseUpTo := goodIn_r _ [5, 6, 7, 8, 9, 10, 11, 12] (by decide +kernel) (by decide +kernel)
set_option maxRecDepth 20000 in
theorem gX2_isReleasedAt_X2_lastReleaseUpTo : GoodIn wsX2_isReleasedAt (wsV RX2 30 RX2 yX2_lastReleaseUpTo wsX2_lastReleaseUpTo) := goodIn_app (goodIn_of _ (by decide +kernel)) ggX2_isReleasedAt_X2_lastReleaseUpTo
theorem dX2_isReleasedAt_0 : decode cX2_isReleasedAt 0 = .ok (.aload_n 0, 1) := by decide +kernel
theorem dX2_isReleasedAt_1 : decode cX2_isReleasedAt 1 = .ok (.iload_n 1, 1) := by decide +kernel
theorem dX2_isReleasedAt_2 : decode cX2_isReleasedAt 2 = .ok (.invokevirtual 30, 3) := by decide +kernel
theorem dX2_isReleasedAt_5 : decode cX2_isReleasedAt 5 = .ok (.iload_n 1, 1) := by decide +kernel
theorem dX2_isReleasedAt_6 : decode cX2_isReleasedAt 6 = .ok (.if_icmp .ne 7, 3) := by decide +kernel
theorem dX2_isReleasedAt_9 : decode cX2_isReleasedAt 9 = .ok (.iconst 1, 1) := by decide +kernel
theorem dX2_isReleasedAt_10 : decode cX2_isReleasedAt 10 = .ok (.goto 4, 3) := by decide +kernel
theorem dX2_isReleasedAt_13 : decode cX2_isReleasedAt 13 = .ok (.iconst 0, 1) := by decide +kernel
theorem dX2_isReleasedAt_14 : decode cX2_isReleasedAt 14 = .ok (.ireturn, 1) := by decide +kernel
set_option maxRecDepth 20000 in
theorem ggX2_dueAt_X2_lastPosition : GoodIn wsX2_dueAt wsX2_lastPosition := goodIn_r _ [6, 1, 7, 8, 9, 10, 11, 12] (by decide +kernel) (by decide +kernel)
set_option maxRecDepth 20000 in
theorem gX2_dueAt_X2_lastPosition : GoodIn wsX2_dueAt (wsV RX2 34 RX2 yX2_lastPosition wsX2_lastPosition) := goodIn_app (goodIn_of _ (by decide +kernel)) ggX2_dueAt_X2_lastPosition
theorem dX2_dueAt_0 : decode cX2_dueAt 0 = .ok (.aload_n 0, 1) := by decide +kernel
theorem dX2_dueAt_1 : decode cX2_dueAt 1 = .ok (.getfield 27, 3) := by decide +kernel
theorem dX2_dueAt_4 : decode cX2_dueAt 4 = .ok (.ifCond .ne 13, 3) := by decide +kernel
theorem dX2_dueAt_7 : decode cX2_dueAt 7 = .ok (.iload_n 1, 1) := by decide +kernel
theorem dX2_dueAt_8 : decode cX2_dueAt 8 = .ok (.bipush 60, 2) := by decide +kernel
theorem dX2_dueAt_10 : decode cX2_dueAt 10 = .ok (.idiv, 1) := by decide +kernel
theorem dX2_dueAt_11 : decode cX2_dueAt 11 = .ok (.bipush 12, 2) := by decide +kernel
theorem dX2_dueAt_13 : decode cX2_dueAt 13 = .ok (.irem, 1) := by decide +kernel
theorem dX2_dueAt_14 : decode cX2_dueAt 14 = .ok (.goto 9, 3) := by decide +kernel
theorem dX2_dueAt_17 : decode cX2_dueAt 17 = .ok (.iload_n 1, 1) := by decide +kernel
theorem dX2_dueAt_18 : decode cX2_dueAt 18 = .ok (.bipush 15, 2) := by decide +kernel
theorem dX2_dueAt_20 : decode cX2_dueAt 20 = .ok (.idiv, 1) := by decide +kernel
theorem dX2_dueAt_21 : decode cX2_dueAt 21 = .ok (.iconst 4, 1) := by decide +kernel
theorem dX2_dueAt_22 : decode cX2_dueAt 22 = .ok (.irem, 1) := by decide +kernel
theorem dX2_dueAt_23 : decode cX2_dueAt 23 = .ok (.istore_n 2, 1) := by decide +kernel
theorem dX2_dueAt_24 : decode cX2_dueAt 24 = .ok (.iload_n 2, 1) := by decide +kernel
theorem dX2_dueAt_25 : decode cX2_dueAt 25 = .ok (.ifCond .ne 10, 3) := by decide +kernel
theorem dX2_dueAt_28 : decode cX2_dueAt 28 = .ok (.aload_n 0, 1) := by decide +kernel
theorem dX2_dueAt_29 : decode cX2_dueAt 29 = .ok (.invokevirtual 34, 3) := by decide +kernel
theorem dX2_dueAt_32 : decode cX2_dueAt 32 = .ok (.goto 4, 3) := by decide +kernel
theorem dX2_dueAt_35 : decode cX2_dueAt 35 = .ok (.iload_n 2, 1) := by decide +kernel
theorem dX2_dueAt_36 : decode cX2_dueAt 36 = .ok (.ireturn, 1) := by decide +kernel
set_option maxRecDepth 20000 in
theorem ggX2_dueAfter_X2_period : GoodIn wsX2_dueAfter wsX2_period := goodIn_r _ [5, 6, 15, 16, 17, 18, 19, 20] (by decide +kernel) (by decide +kernel)
set_option maxRecDepth 20000 in
theorem gX2_dueAfter_X2_period : GoodIn wsX2_dueAfter (wsV RX2 38 RX2 yX2_period wsX2_period) := goodIn_app (goodIn_of _ (by decide +kernel)) ggX2_dueAfter_X2_period
set_option maxRecDepth 20000 in
theorem ggX2_dueAfter_X2_dueAt : GoodIn wsX2_dueAfter wsX2_dueAt := goodIn_r _ [10, 6, 11, 12, 13, 4, 14, 15, 16, 17, 18, 19, 20] (by decide +kernel) (by decide +kernel)
set_option maxRecDepth 20000 in
theorem gX2_dueAfter_X2_dueAt : GoodIn wsX2_dueAfter (wsV RX2 41 RX2 yX2_dueAt wsX2_dueAt) := goodIn_app (goodIn_of _ (by decide +kernel)) ggX2_dueAfter_X2_dueAt
theorem dX2_dueAfter_0 : decode cX2_dueAfter 0 = .ok (.aload_n 0, 1) := by decide +kernel
theorem dX2_dueAfter_1 : decode cX2_dueAfter 1 = .ok (.iload_n 1, 1) := by decide +kernel
theorem dX2_dueAfter_2 : decode cX2_dueAfter 2 = .ok (.aload_n 0, 1) := by decide +kernel
theorem dX2_dueAfter_3 : decode cX2_dueAfter 3 = .ok (.invokevirtual 38, 3) := by decide +kernel
theorem dX2_dueAfter_6 : decode cX2_dueAfter 6 = .ok (.iadd, 1) := by decide +kernel
theorem dX2_dueAfter_7 : decode cX2_dueAfter 7 = .ok (.invokevirtual 41, 3) := by decide +kernel
theorem dX2_dueAfter_10 : decode cX2_dueAfter 10 = .ok (.ireturn, 1) := by decide +kernel
set_option maxRecDepth 20000 in
theorem ggX2_positionAfter_X2_lastPosition : GoodIn wsX2_positionAfter wsX2_lastPosition := goodIn_r _ [5, 6, 7, 8, 9, 10, 11, 12] (by decide +kernel) (by decide +kernel)
set_option maxRecDepth 20000 in
theorem gX2_positionAfter_X2_lastPosition : GoodIn wsX2_positionAfter (wsV RX2 34 RX2 yX2_lastPosition wsX2_lastPosition) := goodIn_app (goodIn_of _ (by decide +kernel)) ggX2_positionAfter_X2_lastPosition
theorem dX2_positionAfter_0 : decode cX2_positionAfter 0 = .ok (.iload_n 1, 1) := by decide +kernel
theorem dX2_positionAfter_1 : decode cX2_positionAfter 1 = .ok (.aload_n 0, 1) := by decide +kernel
theorem dX2_positionAfter_2 : decode cX2_positionAfter 2 = .ok (.invokevirtual 34, 3) := by decide +kernel
theorem dX2_positionAfter_5 : decode cX2_positionAfter 5 = .ok (.if_icmp .ne 7, 3) := by decide +kernel
theorem dX2_positionAfter_8 : decode cX2_positionAfter 8 = .ok (.iconst 1, 1) := by decide +kernel
theorem dX2_positionAfter_9 : decode cX2_positionAfter 9 = .ok (.goto 6, 3) := by decide +kernel
theorem dX2_positionAfter_12 : decode cX2_positionAfter 12 = .ok (.iload_n 1, 1) := by decide +kernel
theorem dX2_positionAfter_13 : decode cX2_positionAfter 13 = .ok (.iconst 1, 1) := by decide +kernel
theorem dX2_positionAfter_14 : decode cX2_positionAfter 14 = .ok (.iadd, 1) := by decide +kernel
theorem dX2_positionAfter_15 : decode cX2_positionAfter 15 = .ok (.ireturn, 1) := by decide +kernel
set_option maxRecDepth 20000 in
theorem ggX2_lagAt_X2_dueAfter : GoodIn wsX2_lagAt wsX2_dueAfter := goodIn_r _ [7, 8, 9, 10, 6, 11, 12, 13, 14, 15, 16, 17, 18, 19, 20, 21, 22, 23, 24, 25, 26] (by decide +kernel) (by decide +kernel)
set_option maxRecDepth 20000 in
theorem gX2_lagAt_X2_dueAfter : GoodIn wsX2_lagAt (wsV RX2 44 RX2 yX2_dueAfter wsX2_dueAfter) := goodIn_app (goodIn_of _ (by decide +kernel)) ggX2_lagAt_X2_dueAfter
set_option maxRecDepth 20000 in
theorem ggX2_lagAt_X2_lastPosition : GoodIn wsX2_lagAt wsX2_lastPosition := goodIn_r _ [20, 12, 21, 22, 23, 24, 25, 26] (by decide +kernel) (by decide +kernel)
set_option maxRecDepth 20000 in
theorem gX2_lagAt_X2_lastPosition : GoodIn wsX2_lagAt (wsV RX2 34 RX2 yX2_lastPosition wsX2_lastPosition) := goodIn_app (goodIn_of _ (by decide +kernel)) ggX2_lagAt_X2_lastPosition
theorem dX2_lagAt_0 : decode cX2_lagAt 0 = .ok (.aload_n 0, 1) := by decide +kernel
theorem dX2_lagAt_1 : decode cX2_lagAt 1 = .ok (.getfield 9, 3) := by decide +kernel
theorem dX2_lagAt_4 : decode cX2_lagAt 4 = .ok (.iconst 1, 1) := by decide +kernel
theorem dX2_lagAt_5 : decode cX2_lagAt 5 = .ok (.if_icmp .eq 5, 3) := by decide +kernel
theorem dX2_lagAt_8 : decode cX2_lagAt 8 = .ok (.iconst 0, 1) := by decide +kernel
theorem dX2_lagAt_9 : decode cX2_lagAt 9 = .ok (.ireturn, 1) := by decide +kernel
theorem dX2_lagAt_10 : decode cX2_lagAt 10 = .ok (.aload_n 0, 1) := by decide +kernel
theorem dX2_lagAt_11 : decode cX2_lagAt 11 = .ok (.iload_n 1, 1) := by decide +kernel
theorem dX2_lagAt_12 : decode cX2_lagAt 12 = .ok (.invokevirtual 44, 3) := by decide +kernel
theorem dX2_lagAt_15 : decode cX2_lagAt 15 = .ok (.aload_n 0, 1) := by decide +kernel
theorem dX2_lagAt_16 : decode cX2_lagAt 16 = .ok (.getfield 15, 3) := by decide +kernel
theorem dX2_lagAt_19 : decode cX2_lagAt 19 = .ok (.isub, 1) := by decide +kernel
theorem dX2_lagAt_20 : decode cX2_lagAt 20 = .ok (.istore_n 2, 1) := by decide +kernel
theorem dX2_lagAt_21 : decode cX2_lagAt 21 = .ok (.iload_n 2, 1) := by decide +kernel
theorem dX2_lagAt_22 : decode cX2_lagAt 22 = .ok (.ifCond .ge 12, 3) := by decide +kernel
theorem dX2_lagAt_25 : decode cX2_lagAt 25 = .ok (.iload_n 2, 1) := by decide +kernel
theorem dX2_lagAt_26 : decode cX2_lagAt 26 = .ok (.aload_n 0, 1) := by decide +kernel
theorem dX2_lagAt_27 : decode cX2_lagAt 27 = .ok (.invokevirtual 34, 3) := by decide +kernel
theorem dX2_lagAt_30 : decode cX2_lagAt 30 = .ok (.iadd, 1) := by decide +kernel
theorem dX2_lagAt_31 : decode cX2_lagAt 31 = .ok (.goto 4, 3) := by decide +kernel
theorem dX2_lagAt_34 : decode cX2_lagAt 34 = .ok (.iload_n 2, 1) := by decide +kernel
theorem dX2_lagAt_35 : decode cX2_lagAt 35 = .ok (.ireturn, 1) := by decide +kernel
theorem dX2_blowsFor_0 : decode cX2_blowsFor 0 = .ok (.aload_n 0, 1) := by decide +kernel
theorem dX2_blowsFor_1 : decode cX2_blowsFor 1 = .ok (.getfield 9, 3) := by decide +kernel
theorem dX2_blowsFor_4 : decode cX2_blowsFor 4 = .ok (.iconst 1, 1) := by decide +kernel
theorem dX2_blowsFor_5 : decode cX2_blowsFor 5 = .ok (.if_icmp .ne 10, 3) := by decide +kernel
theorem dX2_blowsFor_8 : decode cX2_blowsFor 8 = .ok (.aload_n 0, 1) := by decide +kernel
theorem dX2_blowsFor_9 : decode cX2_blowsFor 9 = .ok (.getfield 15, 3) := by decide +kernel
theorem dX2_blowsFor_12 : decode cX2_blowsFor 12 = .ok (.goto 4, 3) := by decide +kernel
theorem dX2_blowsFor_15 : decode cX2_blowsFor 15 = .ok (.iload_n 1, 1) := by decide +kernel
theorem dX2_blowsFor_16 : decode cX2_blowsFor 16 = .ok (.ireturn, 1) := by decide +kernel
set_option maxRecDepth 20000 in
theorem ggX2_canStrike_X2_blowsFor : GoodIn wsX2_canStrike wsX2_blowsFor := goodIn_r _ [7, 1, 8, 9, 10, 11, 12, 13, 14] (by decide +kernel) (by decide +kernel)
set_option maxRecDepth 20000 in
theorem gX2_canStrike_X2_blowsFor : GoodIn wsX2_canStrike (wsV RX2 47 RX2 yX2_blowsFor wsX2_blowsFor) := goodIn_app (goodIn_of _ (by decide +kernel)) ggX2_canStrike_X2_blowsFor
theorem dX2_canStrike_0 : decode cX2_canStrike 0 = .ok (.aload_n 0, 1) := by decide +kernel
theorem dX2_canStrike_1 : decode cX2_canStrike 1 = .ok (.getfield 9, 3) := by decide +kernel
theorem dX2_canStrike_4 : decode cX2_canStrike 4 = .ok (.ifCond .eq 19, 3) := by decide +kernel
theorem dX2_canStrike_7 : decode cX2_canStrike 7 = .ok (.aload_n 0, 1) := by decide +kernel
theorem dX2_canStrike_8 : decode cX2_canStrike 8 = .ok (.getfield 18, 3) := by decide +kernel
theorem dX2_canStrike_11 : decode cX2_canStrike 11 = .ok (.aload_n 0, 1) := by decide +kernel
theorem dX2_canStrike_12 : decode cX2_canStrike 12 = .ok (.iload_n 1, 1) := by decide +kernel
theorem dX2_canStrike_13 : decode cX2_canStrike 13 = .ok (.invokevirtual 47, 3) := by decide +kernel
theorem dX2_canStrike_16 : decode cX2_canStrike 16 = .ok (.if_icmp .lt 7, 3) := by decide +kernel
theorem dX2_canStrike_19 : decode cX2_canStrike 19 = .ok (.iconst 1, 1) := by decide +kernel
theorem dX2_canStrike_20 : decode cX2_canStrike 20 = .ok (.goto 4, 3) := by decide +kernel
theorem dX2_canStrike_23 : decode cX2_canStrike 23 = .ok (.iconst 0, 1) := by decide +kernel
theorem dX2_canStrike_24 : decode cX2_canStrike 24 = .ok (.ireturn, 1) := by decide +kernel
set_option maxRecDepth 20000 in
theorem ggX2_releaseWith_X2_canStrike : GoodIn wsX2_releaseWith wsX2_canStrike := goodIn_r _ [9, 1, 3, 10, 11, 12, 8, 13, 4, 23, 24, 25, 26, 27, 28] (by decide +kernel) (by decide +kernel)
set_option maxRecDepth 20000 in
theorem gX2_releaseWith_X2_canStrike : GoodIn wsX2_releaseWith (wsV RX2 50 RX2 yX2_canStrike wsX2_canStrike) := goodIn_app (goodIn_of _ (by decide +kernel)) ggX2_releaseWith_X2_canStrike
set_option maxRecDepth 20000 in
theorem ggX2_releaseWith_X2_blowsFor : GoodIn wsX2_releaseWith wsX2_blowsFor := goodIn_r _ [13, 1, 4, 23, 24, 25, 26, 27, 28] (by decide +kernel) (by decide +kernel)
set_option maxRecDepth 20000 in
theorem gX2_releaseWith_X2_blowsFor : GoodIn wsX2_releaseWith (wsV RX2 47 RX2 yX2_blowsFor wsX2_blowsFor) := goodIn_app (goodIn_of _ (by decide +kernel)) ggX2_releaseWith_X2_blowsFor
set_option maxRecDepth 20000 in
theorem ggX2_releaseWith_X2_positionAfter : GoodIn wsX2_releaseWith wsX2_positionAfter := goodIn_r _ [17, 18, 19, 20, 8, 21, 22, 23, 24, 25, 26, 27, 28] (by decide +kernel) (by decide +kernel)
set_option maxRecDepth 20000 in
theorem gX2_releaseWith_X2_positionAfter : GoodIn wsX2_releaseWith (wsV RX2 54 RX2 yX2_positionAfter wsX2_positionAfter) := goodIn_app (goodIn_of _ (by decide +kernel)) ggX2_releaseWith_X2_positionAfter
theorem dX2_releaseWith_0 : decode cX2_releaseWith 0 = .ok (.aload_n 0, 1) := by decide +kernel
theorem dX2_releaseWith_1 : decode cX2_releaseWith 1 = .ok (.getfield 9, 3) := by decide +kernel
theorem dX2_releaseWith_4 : decode cX2_releaseWith 4 = .ok (.ifCond .ne 5, 3) := by decide +kernel
theorem dX2_releaseWith_7 : decode cX2_releaseWith 7 = .ok (.iconst 0, 1) := by decide +kernel
theorem dX2_releaseWith_8 : decode cX2_releaseWith 8 = .ok (.ireturn, 1) := by decide +kernel
theorem dX2_releaseWith_9 : decode cX2_releaseWith 9 = .ok (.aload_n 0, 1) := by decide +kernel
theorem dX2_releaseWith_10 : decode cX2_releaseWith 10 = .ok (.iload_n 1, 1) := by decide +kernel
theorem dX2_releaseWith_11 : decode cX2_releaseWith 11 = .ok (.invokevirtual 50, 3) := by decide +kernel
theorem dX2_releaseWith_14 : decode cX2_releaseWith 14 = .ok (.ifCond .ne 15, 3) := by decide +kernel
theorem dX2_releaseWith_17 : decode cX2_releaseWith 17 = .ok (.aload_n 0, 1) := by decide +kernel
theorem dX2_releaseWith_18 : decode cX2_releaseWith 18 = .ok (.dup, 1) := by decide +kernel
theorem dX2_releaseWith_19 : decode cX2_releaseWith 19 = .ok (.getfield 24, 3) := by decide +kernel
theorem dX2_releaseWith_22 : decode cX2_releaseWith 22 = .ok (.iconst 1, 1) := by decide +kernel
theorem dX2_releaseWith_23 : decode cX2_releaseWith 23 = .ok (.iadd, 1) := by decide +kernel
theorem dX2_releaseWith_24 : decode cX2_releaseWith 24 = .ok (.putfield 24, 3) := by decide +kernel
theorem dX2_releaseWith_27 : decode cX2_releaseWith 27 = .ok (.iconst 0, 1) := by decide +kernel
theorem dX2_releaseWith_28 : decode cX2_releaseWith 28 = .ok (.ireturn, 1) := by decide +kernel
theorem dX2_releaseWith_29 : decode cX2_releaseWith 29 = .ok (.aload_n 0, 1) := by decide +kernel
theorem dX2_releaseWith_30 : decode cX2_releaseWith 30 = .ok (.iload_n 1, 1) := by decide +kernel
theorem dX2_releaseWith_31 : decode cX2_releaseWith 31 = .ok (.invokevirtual 47, 3) := by decide +kernel
theorem dX2_releaseWith_34 : decode cX2_releaseWith 34 = .ok (.istore_n 2, 1) := by decide +kernel
theorem dX2_releaseWith_35 : decode cX2_releaseWith 35 = .ok (.aload_n 0, 1) := by decide +kernel
theorem dX2_releaseWith_36 : decode cX2_releaseWith 36 = .ok (.dup, 1) := by decide +kernel
theorem dX2_releaseWith_37 : decode cX2_releaseWith 37 = .ok (.getfield 18, 3) := by decide +kernel
theorem dX2_releaseWith_40 : decode cX2_releaseWith 40 = .ok (.iload_n 2, 1) := by decide +kernel
theorem dX2_releaseWith_41 : decode cX2_releaseWith 41 = .ok (.isub, 1) := by decide +kernel
theorem dX2_releaseWith_42 : decode cX2_releaseWith 42 = .ok (.putfield 18, 3) := by decide +kernel
theorem dX2_releaseWith_45 : decode cX2_releaseWith 45 = .ok (.aload_n 0, 1) := by decide +kernel
theorem dX2_releaseWith_46 : decode cX2_releaseWith 46 = .ok (.getfield 9, 3) := by decide +kernel
theorem dX2_releaseWith_49 : decode cX2_releaseWith 49 = .ok (.iconst 1, 1) := by decide +kernel
theorem dX2_releaseWith_50 : decode cX2_releaseWith 50 = .ok (.if_icmp .ne 15, 3) := by decide +kernel
theorem dX2_releaseWith_53 : decode cX2_releaseWith 53 = .ok (.aload_n 0, 1) := by decide +kernel
theorem dX2_releaseWith_54 : decode cX2_releaseWith 54 = .ok (.aload_n 0, 1) := by decide +kernel
theorem dX2_releaseWith_55 : decode cX2_releaseWith 55 = .ok (.aload_n 0, 1) := by decide +kernel
theorem dX2_releaseWith_56 : decode cX2_releaseWith 56 = .ok (.getfield 15, 3) := by decide +kernel
theorem dX2_releaseWith_59 : decode cX2_releaseWith 59 = .ok (.invokevirtual 54, 3) := by decide +kernel
theorem dX2_releaseWith_62 : decode cX2_releaseWith 62 = .ok (.putfield 15, 3) := by decide +kernel
theorem dX2_releaseWith_65 : decode cX2_releaseWith 65 = .ok (.iload_n 2, 1) := by decide +kernel
theorem dX2_releaseWith_66 : decode cX2_releaseWith 66 = .ok (.ireturn, 1) := by decide +kernel
theorem dX2_copyFrom_0 : decode cX2_copyFrom 0 = .ok (.aload_n 0, 1) := by decide +kernel
theorem dX2_copyFrom_1 : decode cX2_copyFrom 1 = .ok (.aload_n 1, 1) := by decide +kernel
theorem dX2_copyFrom_2 : decode cX2_copyFrom 2 = .ok (.getfield 27, 3) := by decide +kernel
theorem dX2_copyFrom_5 : decode cX2_copyFrom 5 = .ok (.putfield 27, 3) := by decide +kernel
theorem dX2_copyFrom_8 : decode cX2_copyFrom 8 = .ok (.aload_n 0, 1) := by decide +kernel
theorem dX2_copyFrom_9 : decode cX2_copyFrom 9 = .ok (.aload_n 1, 1) := by decide +kernel
theorem dX2_copyFrom_10 : decode cX2_copyFrom 10 = .ok (.getfield 9, 3) := by decide +kernel
theorem dX2_copyFrom_13 : decode cX2_copyFrom 13 = .ok (.putfield 9, 3) := by decide +kernel
theorem dX2_copyFrom_16 : decode cX2_copyFrom 16 = .ok (.aload_n 0, 1) := by decide +kernel
theorem dX2_copyFrom_17 : decode cX2_copyFrom 17 = .ok (.aload_n 1, 1) := by decide +kernel
theorem dX2_copyFrom_18 : decode cX2_copyFrom 18 = .ok (.getfield 15, 3) := by decide +kernel
theorem dX2_copyFrom_21 : decode cX2_copyFrom 21 = .ok (.putfield 15, 3) := by decide +kernel
theorem dX2_copyFrom_24 : decode cX2_copyFrom 24 = .ok (.aload_n 0, 1) := by decide +kernel
theorem dX2_copyFrom_25 : decode cX2_copyFrom 25 = .ok (.aload_n 1, 1) := by decide +kernel
theorem dX2_copyFrom_26 : decode cX2_copyFrom 26 = .ok (.getfield 18, 3) := by decide +kernel
theorem dX2_copyFrom_29 : decode cX2_copyFrom 29 = .ok (.putfield 18, 3) := by decide +kernel
theorem dX2_copyFrom_32 : decode cX2_copyFrom 32 = .ok (.aload_n 0, 1) := by decide +kernel
theorem dX2_copyFrom_33 : decode cX2_copyFrom 33 = .ok (.aload_n 1, 1) := by decide +kernel
theorem dX2_copyFrom_34 : decode cX2_copyFrom 34 = .ok (.getfield 21, 3) := by decide +kernel
theorem dX2_copyFrom_37 : decode cX2_copyFrom 37 = .ok (.putfield 21, 3) := by decide +kernel
theorem dX2_copyFrom_40 : decode cX2_copyFrom 40 = .ok (.aload_n 0, 1) := by decide +kernel
theorem dX2_copyFrom_41 : decode cX2_copyFrom 41 = .ok (.aload_n 1, 1) := by decide +kernel
theorem dX2_copyFrom_42 : decode cX2_copyFrom 42 = .ok (.getfield 24, 3) := by decide +kernel
theorem dX2_copyFrom_45 : decode cX2_copyFrom 45 = .ok (.putfield 24, 3) := by decide +kernel
theorem dX2_copyFrom_48 : decode cX2_copyFrom 48 = .ok (.return_, 1) := by decide +kernel
set_option maxRecDepth 20000 in
theorem ggX2_addToHash_X2_dueAfter : GoodIn wsX2_addToHash wsX2_dueAfter := goodIn_r _ [11, 12, 13, 14, 10, 15, 16, 17, 18, 19, 20, 21, 22, 23, 24, 29, 30, 31, 32, 33, 34] (by decide +kernel) (by decide +kernel)
set_option maxRecDepth 20000 in
theorem gX2_addToHash_X2_dueAfter : GoodIn wsX2_addToHash (wsV RX2 44 RX2 yX2_dueAfter wsX2_dueAfter) := goodIn_app (goodIn_of _ (by decide +kernel)) ggX2_addToHash_X2_dueAfter
set_option maxRecDepth 20000 in
theorem ggX2_addToHash_X2_lagAt : GoodIn wsX2_addToHash wsX2_lagAt := goodIn_r _ [28, 2, 3, 7, 8, 9, 10, 11, 12, 13, 14, 15, 16, 17, 18, 19, 20, 21, 22, 23, 24, 29, 30, 31, 32, 33, 34] (by decide +kernel) (by decide +kernel)
set_option maxRecDepth 20000 in
theorem gX2_addToHash_X2_lagAt : GoodIn wsX2_addToHash (wsV RX2 59 RX2 yX2_lagAt wsX2_lagAt) := goodIn_app (goodIn_of _ (by decide +kernel)) ggX2_addToHash_X2_lagAt
theorem dX2_addToHash_0 : decode cX2_addToHash 0 = .ok (.ldc2_w 57, 3) := by decide +kernel
theorem dX2_addToHash_3 : decode cX2_addToHash 3 = .ok (.lload_n 1, 1) := by decide +kernel
theorem dX2_addToHash_4 : decode cX2_addToHash 4 = .ok (.lmul, 1) := by decide +kernel
theorem dX2_addToHash_5 : decode cX2_addToHash 5 = .ok (.aload_n 0, 1) := by decide +kernel
theorem dX2_addToHash_6 : decode cX2_addToHash 6 = .ok (.getfield 9, 3) := by decide +kernel
theorem dX2_addToHash_9 : decode cX2_addToHash 9 = .ok (.i2l, 1) := by decide +kernel
theorem dX2_addToHash_10 : decode cX2_addToHash 10 = .ok (.ladd, 1) := by decide +kernel
theorem dX2_addToHash_11 : decode cX2_addToHash 11 = .ok (.lstore 4, 2) := by decide +kernel
theorem dX2_addToHash_13 : decode cX2_addToHash 13 = .ok (.ldc2_w 57, 3) := by decide +kernel
theorem dX2_addToHash_16 : decode cX2_addToHash 16 = .ok (.lload 4, 2) := by decide +kernel
theorem dX2_addToHash_18 : decode cX2_addToHash 18 = .ok (.lmul, 1) := by decide +kernel
theorem dX2_addToHash_19 : decode cX2_addToHash 19 = .ok (.aload_n 0, 1) := by decide +kernel
theorem dX2_addToHash_20 : decode cX2_addToHash 20 = .ok (.getfield 15, 3) := by decide +kernel
theorem dX2_addToHash_23 : decode cX2_addToHash 23 = .ok (.i2l, 1) := by decide +kernel
theorem dX2_addToHash_24 : decode cX2_addToHash 24 = .ok (.ladd, 1) := by decide +kernel
theorem dX2_addToHash_25 : decode cX2_addToHash 25 = .ok (.lstore 4, 2) := by decide +kernel
theorem dX2_addToHash_27 : decode cX2_addToHash 27 = .ok (.ldc2_w 57, 3) := by decide +kernel
theorem dX2_addToHash_30 : decode cX2_addToHash 30 = .ok (.lload 4, 2) := by decide +kernel
theorem dX2_addToHash_32 : decode cX2_addToHash 32 = .ok (.lmul, 1) := by decide +kernel
theorem dX2_addToHash_33 : decode cX2_addToHash 33 = .ok (.aload_n 0, 1) := by decide +kernel
theorem dX2_addToHash_34 : decode cX2_addToHash 34 = .ok (.getfield 18, 3) := by decide +kernel
theorem dX2_addToHash_37 : decode cX2_addToHash 37 = .ok (.i2l, 1) := by decide +kernel
theorem dX2_addToHash_38 : decode cX2_addToHash 38 = .ok (.ladd, 1) := by decide +kernel
theorem dX2_addToHash_39 : decode cX2_addToHash 39 = .ok (.lstore 4, 2) := by decide +kernel
theorem dX2_addToHash_41 : decode cX2_addToHash 41 = .ok (.ldc2_w 57, 3) := by decide +kernel
theorem dX2_addToHash_44 : decode cX2_addToHash 44 = .ok (.lload 4, 2) := by decide +kernel
theorem dX2_addToHash_46 : decode cX2_addToHash 46 = .ok (.lmul, 1) := by decide +kernel
theorem dX2_addToHash_47 : decode cX2_addToHash 47 = .ok (.aload_n 0, 1) := by decide +kernel
theorem dX2_addToHash_48 : decode cX2_addToHash 48 = .ok (.getfield 21, 3) := by decide +kernel
theorem dX2_addToHash_51 : decode cX2_addToHash 51 = .ok (.i2l, 1) := by decide +kernel
theorem dX2_addToHash_52 : decode cX2_addToHash 52 = .ok (.ladd, 1) := by decide +kernel
theorem dX2_addToHash_53 : decode cX2_addToHash 53 = .ok (.lstore 4, 2) := by decide +kernel
theorem dX2_addToHash_55 : decode cX2_addToHash 55 = .ok (.ldc2_w 57, 3) := by decide +kernel
theorem dX2_addToHash_58 : decode cX2_addToHash 58 = .ok (.lload 4, 2) := by decide +kernel
theorem dX2_addToHash_60 : decode cX2_addToHash 60 = .ok (.lmul, 1) := by decide +kernel
theorem dX2_addToHash_61 : decode cX2_addToHash 61 = .ok (.aload_n 0, 1) := by decide +kernel
theorem dX2_addToHash_62 : decode cX2_addToHash 62 = .ok (.getfield 24, 3) := by decide +kernel
theorem dX2_addToHash_65 : decode cX2_addToHash 65 = .ok (.i2l, 1) := by decide +kernel
theorem dX2_addToHash_66 : decode cX2_addToHash 66 = .ok (.ladd, 1) := by decide +kernel
theorem dX2_addToHash_67 : decode cX2_addToHash 67 = .ok (.lstore 4, 2) := by decide +kernel
theorem dX2_addToHash_69 : decode cX2_addToHash 69 = .ok (.ldc2_w 57, 3) := by decide +kernel
theorem dX2_addToHash_72 : decode cX2_addToHash 72 = .ok (.lload 4, 2) := by decide +kernel
theorem dX2_addToHash_74 : decode cX2_addToHash 74 = .ok (.lmul, 1) := by decide +kernel
theorem dX2_addToHash_75 : decode cX2_addToHash 75 = .ok (.aload_n 0, 1) := by decide +kernel
theorem dX2_addToHash_76 : decode cX2_addToHash 76 = .ok (.iload_n 3, 1) := by decide +kernel
theorem dX2_addToHash_77 : decode cX2_addToHash 77 = .ok (.invokevirtual 44, 3) := by decide +kernel
theorem dX2_addToHash_80 : decode cX2_addToHash 80 = .ok (.i2l, 1) := by decide +kernel
theorem dX2_addToHash_81 : decode cX2_addToHash 81 = .ok (.ladd, 1) := by decide +kernel
theorem dX2_addToHash_82 : decode cX2_addToHash 82 = .ok (.lstore 4, 2) := by decide +kernel
theorem dX2_addToHash_84 : decode cX2_addToHash 84 = .ok (.ldc2_w 57, 3) := by decide +kernel
theorem dX2_addToHash_87 : decode cX2_addToHash 87 = .ok (.lload 4, 2) := by decide +kernel
theorem dX2_addToHash_89 : decode cX2_addToHash 89 = .ok (.lmul, 1) := by decide +kernel
theorem dX2_addToHash_90 : decode cX2_addToHash 90 = .ok (.aload_n 0, 1) := by decide +kernel
theorem dX2_addToHash_91 : decode cX2_addToHash 91 = .ok (.iload_n 3, 1) := by decide +kernel
theorem dX2_addToHash_92 : decode cX2_addToHash 92 = .ok (.invokevirtual 59, 3) := by decide +kernel
theorem dX2_addToHash_95 : decode cX2_addToHash 95 = .ok (.i2l, 1) := by decide +kernel
theorem dX2_addToHash_96 : decode cX2_addToHash 96 = .ok (.ladd, 1) := by decide +kernel
theorem dX2_addToHash_97 : decode cX2_addToHash 97 = .ok (.lreturn, 1) := by decide +kernel
set_option maxRecDepth 20000 in
theorem ggX3_init_X0_init : GoodIn wsX3_init wsX0_init := goodIn_r _ [17, 18, 2, 3, 19, 10, 11, 20, 21, 22, 23, 24, 25, 26, 27, 28, 29, 30, 31, 32, 33, 34, 35, 36, 37, 38, 39, 40, 41, 42, 13, 43, 44, 45, 46, 60, 61, 62, 63, 64, 65, 48, 49, 50, 51, 52, 53, 54, 66, 67, 68, 69] (by decide +kernel) (by decide +kernel)
set_option maxRecDepth 20000 in
theorem gX3_init_X0_init_n9 : GoodIn wsX3_init (wsX0_init) := ggX3_init_X0_init
set_option maxRecDepth 20000 in
theorem ggX3_init_X2_init : GoodIn wsX3_init wsX2_init := goodIn_r _ [32, 33, 2, 3, 34, 35, 36, 37, 38, 39, 60, 61, 62, 63, 64, 65] (by decide +kernel) (by decide +kernel)
set_option maxRecDepth 20000 in
theorem gX3_init_X2_init : GoodIn wsX3_init (wsX2_init) := ggX3_init_X2_init
theorem dX3_init_0 : decode cX3_init 0 = .ok (.aload_n 0, 1) := by decide +kernel
theorem dX3_init_1 : decode cX3_init 1 = .ok (.invokespecial 1, 3) := by decide +kernel
theorem dX3_init_4 : decode cX3_init 4 = .ok (.aload_n 0, 1) := by decide +kernel
theorem dX3_init_5 : decode cX3_init 5 = .ok (.new 7, 3) := by decide +kernel
theorem dX3_init_8 : decode cX3_init 8 = .ok (.dup, 1) := by decide +kernel
theorem dX3_init_9 : decode cX3_init 9 = .ok (.invokespecial 9, 3) := by decide +kernel
theorem dX3_init_12 : decode cX3_init 12 = .ok (.putfield 10, 3) := by decide +kernel
theorem dX3_init_15 : decode cX3_init 15 = .ok (.aload_n 0, 1) := by decide +kernel
theorem dX3_init_16 : decode cX3_init 16 = .ok (.iconst 5, 1) := by decide +kernel
theorem dX3_init_17 : decode cX3_init 17 = .ok (.anewarray 7, 3) := by decide +kernel
theorem dX3_init_20 : decode cX3_init 20 = .ok (.putfield 16, 3) := by decide +kernel
theorem dX3_init_23 : decode cX3_init 23 = .ok (.aload_n 0, 1) := by decide +kernel
theorem dX3_init_24 : decode cX3_init 24 = .ok (.new 20, 3) := by decide +kernel
theorem dX3_init_27 : decode cX3_init 27 = .ok (.dup, 1) := by decide +kernel
theorem dX3_init_28 : decode cX3_init 28 = .ok (.iconst 0, 1) := by decide +kernel
theorem dX3_init_29 : decode cX3_init 29 = .ok (.invokespecial 22, 3) := by decide +kernel
theorem dX3_init_32 : decode cX3_init 32 = .ok (.putfield 25, 3) := by decide +kernel
theorem dX3_init_35 : decode cX3_init 35 = .ok (.aload_n 0, 1) := by decide +kernel
theorem dX3_init_36 : decode cX3_init 36 = .ok (.iconst 3, 1) := by decide +kernel
theorem dX3_init_37 : decode cX3_init 37 = .ok (.newarray .int, 2) := by decide +kernel
theorem dX3_init_39 : decode cX3_init 39 = .ok (.putfield 29, 3) := by decide +kernel
theorem dX3_init_42 : decode cX3_init 42 = .ok (.aload_n 0, 1) := by decide +kernel
theorem dX3_init_43 : decode cX3_init 43 = .ok (.iconst 0, 1) := by decide +kernel
theorem dX3_init_44 : decode cX3_init 44 = .ok (.putfield 33, 3) := by decide +kernel
theorem dX3_init_47 : decode cX3_init 47 = .ok (.iconst 0, 1) := by decide +kernel
theorem dX3_init_48 : decode cX3_init 48 = .ok (.istore_n 1, 1) := by decide +kernel
theorem dX3_init_49 : decode cX3_init 49 = .ok (.iload_n 1, 1) := by decide +kernel
theorem dX3_init_50 : decode cX3_init 50 = .ok (.iconst 5, 1) := by decide +kernel
theorem dX3_init_51 : decode cX3_init 51 = .ok (.if_icmp .ge 22, 3) := by decide +kernel
theorem dX3_init_54 : decode cX3_init 54 = .ok (.aload_n 0, 1) := by decide +kernel
theorem dX3_init_55 : decode cX3_init 55 = .ok (.getfield 16, 3) := by decide +kernel
theorem dX3_init_58 : decode cX3_init 58 = .ok (.iload_n 1, 1) := by decide +kernel
theorem dX3_init_59 : decode cX3_init 59 = .ok (.new 7, 3) := by decide +kernel
theorem dX3_init_62 : decode cX3_init 62 = .ok (.dup, 1) := by decide +kernel
theorem dX3_init_63 : decode cX3_init 63 = .ok (.invokespecial 9, 3) := by decide +kernel
theorem dX3_init_66 : decode cX3_init 66 = .ok (.aastore, 1) := by decide +kernel
theorem dX3_init_67 : decode cX3_init 67 = .ok (.iinc 1 1, 3) := by decide +kernel
theorem dX3_init_70 : decode cX3_init 70 = .ok (.goto (-21), 3) := by decide +kernel
theorem dX3_init_73 : decode cX3_init 73 = .ok (.return_, 1) := by decide +kernel
set_option maxRecDepth 20000 in
theorem ggX3_setMechanism_X3_isTrain : GoodIn wsX3_setMechanism wsX3_isTrain := goodIn_r _ [6] (by decide +kernel) (by decide +kernel)
set_option maxRecDepth 20000 in
theorem gX3_setMechanism_X3_isTrain : GoodIn wsX3_setMechanism (va_wsS RX3 37 yX3_isTrain wsX3_isTrain) := goodIn_app (goodIn_of _ (by decide +kernel)) ggX3_setMechanism_X3_isTrain
set_option maxRecDepth 20000 in
theorem ggX3_setMechanism_X3_refuse : GoodIn wsX3_setMechanism wsX3_refuse := goodIn_r _ [10, 11, 12, 13, 5, 14, 61, 62, 63, 64, 65] (by decide +kernel) (by decide +kernel)
set_option maxRecDepth 20000 in
theorem gX3_setMechanism_X3_refuse : GoodIn wsX3_setMechanism (wsV RX3 41 RX3 yX3_refuse wsX3_refuse) := goodIn_app (goodIn_of _ (by decide +kernel)) ggX3_setMechanism_X3_refuse
set_option maxRecDepth 20000 in
theorem ggX3_setMechanism_X3_save : GoodIn wsX3_setMechanism wsX3_save := goodIn_r _ [18, 19, 20, 1, 21, 22, 23, 5, 24, 25, 26, 27, 28, 29, 30, 31, 32, 33, 34, 35, 36, 37, 38, 39, 40, 41, 42, 43, 44, 45, 46, 47, 48, 49, 50, 51, 52, 53, 54, 55, 56, 61, 62, 63, 64, 65, 72, 73, 74, 75, 76, 77, 78, 66, 67, 68, 69, 70, 71, 79, 80, 81, 82] (by decide +kernel) (by decide +kernel)
set_option maxRecDepth 20000 in
theorem gX3_setMechanism_X3_save : GoodIn wsX3_setMechanism (wsV RX3 45 RX3 yX3_save wsX3_save) := goodIn_app (goodIn_of _ (by decide +kernel)) ggX3_setMechanism_X3_save
set_option maxRecDepth 20000 in
theorem ggX3_setMechanism_X0_trainOf : GoodIn wsX3_setMechanism wsX0_trainOf := goodIn_r _ [60, 30, 31, 72, 73, 74, 75, 76, 77, 78] (by decide +kernel) (by decide +kernel)
set_option maxRecDepth 20000 in
theorem gX3_setMechanism_X0_trainOf : GoodIn wsX3_setMechanism (wsV RX3 48 RX0 yX0_trainOf wsX0_trainOf) := goodIn_app (goodIn_of _ (by decide +kernel)) ggX3_setMechanism_X0_trainOf
theorem dX3_setMechanism_0 : decode cX3_setMechanism 0 = .ok (.iload_n 1, 1) := by decide +kernel
theorem dX3_setMechanism_1 : decode cX3_setMechanism 1 = .ok (.invokestatic 37, 3) := by decide +kernel
theorem dX3_setMechanism_4 : decode cX3_setMechanism 4 = .ok (.ifCond .eq 12, 3) := by decide +kernel
theorem dX3_setMechanism_7 : decode cX3_setMechanism 7 = .ok (.iload_n 2, 1) := by decide +kernel
theorem dX3_setMechanism_8 : decode cX3_setMechanism 8 = .ok (.ifCond .lt 8, 3) := by decide +kernel
theorem dX3_setMechanism_11 : decode cX3_setMechanism 11 = .ok (.iload_n 2, 1) := by decide +kernel
theorem dX3_setMechanism_12 : decode cX3_setMechanism 12 = .ok (.iconst 2, 1) := by decide +kernel
theorem dX3_setMechanism_13 : decode cX3_setMechanism 13 = .ok (.if_icmp .le 10, 3) := by decide +kernel
theorem dX3_setMechanism_16 : decode cX3_setMechanism 16 = .ok (.aload_n 0, 1) := by decide +kernel
theorem dX3_setMechanism_17 : decode cX3_setMechanism 17 = .ok (.bipush (-2), 2) := by decide +kernel
theorem dX3_setMechanism_19 : decode cX3_setMechanism 19 = .ok (.invokevirtual 41, 3) := by decide +kernel
theorem dX3_setMechanism_22 : decode cX3_setMechanism 22 = .ok (.ireturn, 1) := by decide +kernel
theorem dX3_setMechanism_23 : decode cX3_setMechanism 23 = .ok (.aload_n 0, 1) := by decide +kernel
theorem dX3_setMechanism_24 : decode cX3_setMechanism 24 = .ok (.invokevirtual 45, 3) := by decide +kernel
theorem dX3_setMechanism_27 : decode cX3_setMechanism 27 = .ok (.aload_n 0, 1) := by decide +kernel
theorem dX3_setMechanism_28 : decode cX3_setMechanism 28 = .ok (.getfield 10, 3) := by decide +kernel
theorem dX3_setMechanism_31 : decode cX3_setMechanism 31 = .ok (.iload_n 1, 1) := by decide +kernel
theorem dX3_setMechanism_32 : decode cX3_setMechanism 32 = .ok (.invokevirtual 48, 3) := by decide +kernel
theorem dX3_setMechanism_35 : decode cX3_setMechanism 35 = .ok (.astore_n 3, 1) := by decide +kernel
theorem dX3_setMechanism_36 : decode cX3_setMechanism 36 = .ok (.aload_n 3, 1) := by decide +kernel
theorem dX3_setMechanism_37 : decode cX3_setMechanism 37 = .ok (.getfield 52, 3) := by decide +kernel
theorem dX3_setMechanism_40 : decode cX3_setMechanism 40 = .ok (.istore 4, 2) := by decide +kernel
theorem dX3_setMechanism_42 : decode cX3_setMechanism 42 = .ok (.aload_n 3, 1) := by decide +kernel
theorem dX3_setMechanism_43 : decode cX3_setMechanism 43 = .ok (.iload_n 2, 1) := by decide +kernel
theorem dX3_setMechanism_44 : decode cX3_setMechanism 44 = .ok (.putfield 52, 3) := by decide +kernel
theorem dX3_setMechanism_47 : decode cX3_setMechanism 47 = .ok (.iload 4, 2) := by decide +kernel
theorem dX3_setMechanism_49 : decode cX3_setMechanism 49 = .ok (.ireturn, 1) := by decide +kernel
set_option maxRecDepth 20000 in
theorem ggX3_setPosition_X3_isTrain : GoodIn wsX3_setPosition wsX3_isTrain := goodIn_r _ [6] (by decide +kernel) (by decide +kernel)
set_option maxRecDepth 20000 in
theorem gX3_setPosition_X3_isTrain : GoodIn wsX3_setPosition (va_wsS RX3 37 yX3_isTrain wsX3_isTrain) := goodIn_app (goodIn_of _ (by decide +kernel)) ggX3_setPosition_X3_isTrain
set_option maxRecDepth 20000 in
theorem ggX3_setPosition_X0_trainOf : GoodIn wsX3_setPosition wsX0_trainOf := goodIn_r _ [11, 12, 13, 76, 77, 78, 79, 80, 81, 82] (by decide +kernel) (by decide +kernel)
set_option maxRecDepth 20000 in
theorem gX3_setPosition_X0_trainOf : GoodIn wsX3_setPosition (wsV RX3 48 RX0 yX0_trainOf wsX0_trainOf) := goodIn_app (goodIn_of _ (by decide +kernel)) ggX3_setPosition_X0_trainOf
set_option maxRecDepth 20000 in
theorem ggX3_setPosition_X2_lastPosition : GoodIn wsX3_setPosition wsX2_lastPosition := goodIn_r _ [18, 19, 70, 71, 72, 73, 74, 75] (by decide +kernel) (by decide +kernel)
set_option maxRecDepth 20000 in
theorem gX3_setPosition_X2_lastPosition : GoodIn wsX3_setPosition (wsV RX3 55 RX2 yX2_lastPosition wsX2_lastPosition) := goodIn_app (goodIn_of _ (by decide +kernel)) ggX3_setPosition_X2_lastPosition
set_option maxRecDepth 20000 in
theorem ggX3_setPosition_X3_refuse : GoodIn wsX3_setPosition wsX3_refuse := goodIn_r _ [23, 24, 25, 26, 5, 27, 65, 66, 67, 68, 69] (by decide +kernel) (by decide +kernel)
set_option maxRecDepth 20000 in
theorem gX3_setPosition_X3_refuse : GoodIn wsX3_setPosition (wsV RX3 41 RX3 yX3_refuse wsX3_refuse) := goodIn_app (goodIn_of _ (by decide +kernel)) ggX3_setPosition_X3_refuse
set_option maxRecDepth 20000 in
theorem ggX3_setPosition_X3_save : GoodIn wsX3_setPosition wsX3_save := goodIn_r _ [31, 32, 33, 1, 34, 35, 36, 5, 37, 38, 39, 40, 10, 41, 12, 13, 42, 43, 44, 45, 46, 47, 48, 49, 17, 50, 19, 51, 52, 53, 54, 55, 56, 57, 58, 59, 60, 61, 62, 63, 64, 65, 66, 67, 68, 69, 76, 77, 78, 79, 80, 81, 82, 70, 71, 72, 73, 74, 75, 83, 84, 85, 86] (by decide +kernel) (by decide +kernel)
set_option maxRecDepth 20000 in
theorem gX3_setPosition_X3_save : GoodIn wsX3_setPosition (wsV RX3 45 RX3 yX3_save wsX3_save) := goodIn_app (goodIn_of _ (by decide +kernel)) ggX3_setPosition_X3_save
theorem dX3_setPosition_0 : decode cX3_setPosition 0 = .ok (.iload_n 1, 1) := by decide +kernel
theorem dX3_setPosition_1 : decode cX3_setPosition 1 = .ok (.invokestatic 37, 3) := by decide +kernel
theorem dX3_setPosition_4 : decode cX3_setPosition 4 = .ok (.ifCond .eq 23, 3) := by decide +kernel
theorem dX3_setPosition_7 : decode cX3_setPosition 7 = .ok (.iload_n 2, 1) := by decide +kernel
theorem dX3_setPosition_8 : decode cX3_setPosition 8 = .ok (.iconst 1, 1) := by decide +kernel
theorem dX3_setPosition_9 : decode cX3_setPosition 9 = .ok (.if_icmp .lt 18, 3) := by decide +kernel
theorem dX3_setPosition_12 : decode cX3_setPosition 12 = .ok (.iload_n 2, 1) := by decide +kernel
theorem dX3_setPosition_13 : decode cX3_setPosition 13 = .ok (.aload_n 0, 1) := by decide +kernel
theorem dX3_setPosition_14 : decode cX3_setPosition 14 = .ok (.getfield 10, 3) := by decide +kernel
theorem dX3_setPosition_17 : decode cX3_setPosition 17 = .ok (.iload_n 1, 1) := by decide +kernel
