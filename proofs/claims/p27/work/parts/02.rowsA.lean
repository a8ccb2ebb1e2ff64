set_option maxRecDepth 20000 in
theorem ggX0_init_X3_init : GoodIn wsX0_init wsX3_init := goodIn_r _ [10, 11, 2, 3, 12, 13, 14, 15, 16, 17, 18, 19, 20, 21, 22, 23, 24, 25, 26, 27, 28, 29, 32, 33, 34, 35, 36, 37, 38, 39, 40, 41, 42, 43, 44, 45, 46] (by decide +kernel) (by decide +kernel)
set_option maxRecDepth 20000 in
theorem gX0_init_X3_init : GoodIn wsX0_init (wsX3_init) := ggX0_init_X3_init
theorem dX0_init_0 : decode cX0_init 0 = .ok (.aload_n 0, 1) := by decide +kernel
theorem dX0_init_1 : decode cX0_init 1 = .ok (.invokespecial 3, 3) := by decide +kernel
theorem dX0_init_4 : decode cX0_init 4 = .ok (.aload_n 0, 1) := by decide +kernel
theorem dX0_init_5 : decode cX0_init 5 = .ok (.iconst 4, 1) := by decide +kernel
theorem dX0_init_6 : decode cX0_init 6 = .ok (.anewarray 9, 3) := by decide +kernel
theorem dX0_init_9 : decode cX0_init 9 = .ok (.putfield 11, 3) := by decide +kernel
theorem dX0_init_12 : decode cX0_init 12 = .ok (.iconst 0, 1) := by decide +kernel
theorem dX0_init_13 : decode cX0_init 13 = .ok (.istore_n 2, 1) := by decide +kernel
theorem dX0_init_14 : decode cX0_init 14 = .ok (.iload_n 2, 1) := by decide +kernel
theorem dX0_init_15 : decode cX0_init 15 = .ok (.aload_n 0, 1) := by decide +kernel
theorem dX0_init_16 : decode cX0_init 16 = .ok (.getfield 11, 3) := by decide +kernel
theorem dX0_init_19 : decode cX0_init 19 = .ok (.arraylength, 1) := by decide +kernel
theorem dX0_init_20 : decode cX0_init 20 = .ok (.if_icmp .ge 23, 3) := by decide +kernel
theorem dX0_init_23 : decode cX0_init 23 = .ok (.aload_n 0, 1) := by decide +kernel
theorem dX0_init_24 : decode cX0_init 24 = .ok (.getfield 11, 3) := by decide +kernel
theorem dX0_init_27 : decode cX0_init 27 = .ok (.iload_n 2, 1) := by decide +kernel
theorem dX0_init_28 : decode cX0_init 28 = .ok (.new 9, 3) := by decide +kernel
theorem dX0_init_31 : decode cX0_init 31 = .ok (.dup, 1) := by decide +kernel
theorem dX0_init_32 : decode cX0_init 32 = .ok (.aload_n 1, 1) := by decide +kernel
theorem dX0_init_33 : decode cX0_init 33 = .ok (.invokespecial 17, 3) := by decide +kernel
theorem dX0_init_36 : decode cX0_init 36 = .ok (.aastore, 1) := by decide +kernel
theorem dX0_init_37 : decode cX0_init 37 = .ok (.iinc 2 1, 3) := by decide +kernel
theorem dX0_init_40 : decode cX0_init 40 = .ok (.goto (-26), 3) := by decide +kernel
theorem dX0_init_43 : decode cX0_init 43 = .ok (.return_, 1) := by decide +kernel
set_option maxRecDepth 20000 in
theorem ggX0_keep_X0_dropOldest : GoodIn wsX0_keep wsX0_dropOldest := goodIn_r _ [6, 7, 1, 8, 9, 10, 5, 11, 42, 43] (by decide +kernel) (by decide +kernel)
set_option maxRecDepth 20000 in
theorem gX0_keep_X0_dropOldest : GoodIn wsX0_keep (wsV RX0 24 RX0 yX0_dropOldest wsX0_dropOldest) := goodIn_app (goodIn_of _ (by decide +kernel)) ggX0_keep_X0_dropOldest
set_option maxRecDepth 20000 in
theorem ggX0_keep_X0_stateAt : GoodIn wsX0_keep wsX0_stateAt := goodIn_r _ [11, 7, 42, 43] (by decide +kernel) (by decide +kernel)
set_option maxRecDepth 20000 in
theorem gX0_keep_X0_stateAt : GoodIn wsX0_keep (wsV RX0 27 RX0 yX0_stateAt wsX0_stateAt) := goodIn_app (goodIn_of _ (by decide +kernel)) ggX0_keep_X0_stateAt
set_option maxRecDepth 20000 in
theorem ggX0_keep_X3_copy : GoodIn wsX0_keep wsX3_copy := goodIn_r _ [16, 17, 18, 19, 20, 21, 22, 23, 24, 25, 26, 27, 28, 29, 30, 31, 32, 33, 34, 35, 36, 37, 38, 39, 40, 41, 44, 45, 46, 47, 48, 49, 50, 51, 52, 53, 54, 55, 56, 57, 58] (by decide +kernel) (by decide +kernel)
set_option maxRecDepth 20000 in
theorem gX0_keep_X3_copy : GoodIn wsX0_keep (wsV RX0 31 RX3 yX3_copy wsX3_copy) := goodIn_app (goodIn_of _ (by decide +kernel)) ggX0_keep_X3_copy
theorem dX0_keep_0 : decode cX0_keep 0 = .ok (.aload_n 0, 1) := by decide +kernel
theorem dX0_keep_1 : decode cX0_keep 1 = .ok (.getfield 20, 3) := by decide +kernel
theorem dX0_keep_4 : decode cX0_keep 4 = .ok (.iconst 4, 1) := by decide +kernel
theorem dX0_keep_5 : decode cX0_keep 5 = .ok (.if_icmp .lt 7, 3) := by decide +kernel
theorem dX0_keep_8 : decode cX0_keep 8 = .ok (.aload_n 0, 1) := by decide +kernel
theorem dX0_keep_9 : decode cX0_keep 9 = .ok (.invokevirtual 24, 3) := by decide +kernel
theorem dX0_keep_12 : decode cX0_keep 12 = .ok (.aload_n 0, 1) := by decide +kernel
theorem dX0_keep_13 : decode cX0_keep 13 = .ok (.aload_n 0, 1) := by decide +kernel
theorem dX0_keep_14 : decode cX0_keep 14 = .ok (.getfield 20, 3) := by decide +kernel
theorem dX0_keep_17 : decode cX0_keep 17 = .ok (.invokevirtual 27, 3) := by decide +kernel
theorem dX0_keep_20 : decode cX0_keep 20 = .ok (.astore_n 2, 1) := by decide +kernel
theorem dX0_keep_21 : decode cX0_keep 21 = .ok (.aload_n 2, 1) := by decide +kernel
theorem dX0_keep_22 : decode cX0_keep 22 = .ok (.ifnull 18, 3) := by decide +kernel
theorem dX0_keep_25 : decode cX0_keep 25 = .ok (.aload_n 2, 1) := by decide +kernel
theorem dX0_keep_26 : decode cX0_keep 26 = .ok (.aload_n 1, 1) := by decide +kernel
theorem dX0_keep_27 : decode cX0_keep 27 = .ok (.invokevirtual 31, 3) := by decide +kernel
theorem dX0_keep_30 : decode cX0_keep 30 = .ok (.aload_n 0, 1) := by decide +kernel
theorem dX0_keep_31 : decode cX0_keep 31 = .ok (.dup, 1) := by decide +kernel
theorem dX0_keep_32 : decode cX0_keep 32 = .ok (.getfield 20, 3) := by decide +kernel
theorem dX0_keep_35 : decode cX0_keep 35 = .ok (.iconst 1, 1) := by decide +kernel
theorem dX0_keep_36 : decode cX0_keep 36 = .ok (.iadd, 1) := by decide +kernel
theorem dX0_keep_37 : decode cX0_keep 37 = .ok (.putfield 20, 3) := by decide +kernel
theorem dX0_keep_40 : decode cX0_keep 40 = .ok (.return_, 1) := by decide +kernel
set_option maxRecDepth 20000 in
theorem ggX0_dropOldest_X0_stateAt : GoodIn wsX0_dropOldest wsX0_stateAt := goodIn_r _ [7, 1, 8, 9] (by decide +kernel) (by decide +kernel)
set_option maxRecDepth 20000 in
theorem gX0_dropOldest_X0_stateAt : GoodIn wsX0_dropOldest (wsV RX0 27 RX0 yX0_stateAt wsX0_stateAt) := goodIn_app (goodIn_of _ (by decide +kernel)) ggX0_dropOldest_X0_stateAt
theorem dX0_dropOldest_0 : decode cX0_dropOldest 0 = .ok (.aload_n 0, 1) := by decide +kernel
theorem dX0_dropOldest_1 : decode cX0_dropOldest 1 = .ok (.iconst 0, 1) := by decide +kernel
theorem dX0_dropOldest_2 : decode cX0_dropOldest 2 = .ok (.invokevirtual 27, 3) := by decide +kernel
theorem dX0_dropOldest_5 : decode cX0_dropOldest 5 = .ok (.astore_n 1, 1) := by decide +kernel
theorem dX0_dropOldest_6 : decode cX0_dropOldest 6 = .ok (.iconst 1, 1) := by decide +kernel
theorem dX0_dropOldest_7 : decode cX0_dropOldest 7 = .ok (.istore_n 2, 1) := by decide +kernel
theorem dX0_dropOldest_8 : decode cX0_dropOldest 8 = .ok (.iload_n 2, 1) := by decide +kernel
theorem dX0_dropOldest_9 : decode cX0_dropOldest 9 = .ok (.aload_n 0, 1) := by decide +kernel
theorem dX0_dropOldest_10 : decode cX0_dropOldest 10 = .ok (.getfield 11, 3) := by decide +kernel
theorem dX0_dropOldest_13 : decode cX0_dropOldest 13 = .ok (.arraylength, 1) := by decide +kernel
theorem dX0_dropOldest_14 : decode cX0_dropOldest 14 = .ok (.if_icmp .ge 23, 3) := by decide +kernel
theorem dX0_dropOldest_17 : decode cX0_dropOldest 17 = .ok (.aload_n 0, 1) := by decide +kernel
theorem dX0_dropOldest_18 : decode cX0_dropOldest 18 = .ok (.getfield 11, 3) := by decide +kernel
theorem dX0_dropOldest_21 : decode cX0_dropOldest 21 = .ok (.iload_n 2, 1) := by decide +kernel
theorem dX0_dropOldest_22 : decode cX0_dropOldest 22 = .ok (.iconst 1, 1) := by decide +kernel
theorem dX0_dropOldest_23 : decode cX0_dropOldest 23 = .ok (.isub, 1) := by decide +kernel
theorem dX0_dropOldest_24 : decode cX0_dropOldest 24 = .ok (.aload_n 0, 1) := by decide +kernel
theorem dX0_dropOldest_25 : decode cX0_dropOldest 25 = .ok (.getfield 11, 3) := by decide +kernel
theorem dX0_dropOldest_28 : decode cX0_dropOldest 28 = .ok (.iload_n 2, 1) := by decide +kernel
theorem dX0_dropOldest_29 : decode cX0_dropOldest 29 = .ok (.aaload, 1) := by decide +kernel
theorem dX0_dropOldest_30 : decode cX0_dropOldest 30 = .ok (.aastore, 1) := by decide +kernel
theorem dX0_dropOldest_31 : decode cX0_dropOldest 31 = .ok (.iinc 2 1, 3) := by decide +kernel
theorem dX0_dropOldest_34 : decode cX0_dropOldest 34 = .ok (.goto (-26), 3) := by decide +kernel
theorem dX0_dropOldest_37 : decode cX0_dropOldest 37 = .ok (.aload_n 0, 1) := by decide +kernel
theorem dX0_dropOldest_38 : decode cX0_dropOldest 38 = .ok (.getfield 11, 3) := by decide +kernel
theorem dX0_dropOldest_41 : decode cX0_dropOldest 41 = .ok (.arraylength, 1) := by decide +kernel
theorem dX0_dropOldest_42 : decode cX0_dropOldest 42 = .ok (.ifCond .le 16, 3) := by decide +kernel
theorem dX0_dropOldest_45 : decode cX0_dropOldest 45 = .ok (.aload_n 0, 1) := by decide +kernel
theorem dX0_dropOldest_46 : decode cX0_dropOldest 46 = .ok (.getfield 11, 3) := by decide +kernel
theorem dX0_dropOldest_49 : decode cX0_dropOldest 49 = .ok (.aload_n 0, 1) := by decide +kernel
theorem dX0_dropOldest_50 : decode cX0_dropOldest 50 = .ok (.getfield 11, 3) := by decide +kernel
theorem dX0_dropOldest_53 : decode cX0_dropOldest 53 = .ok (.arraylength, 1) := by decide +kernel
theorem dX0_dropOldest_54 : decode cX0_dropOldest 54 = .ok (.iconst 1, 1) := by decide +kernel
theorem dX0_dropOldest_55 : decode cX0_dropOldest 55 = .ok (.isub, 1) := by decide +kernel
theorem dX0_dropOldest_56 : decode cX0_dropOldest 56 = .ok (.aload_n 1, 1) := by decide +kernel
theorem dX0_dropOldest_57 : decode cX0_dropOldest 57 = .ok (.aastore, 1) := by decide +kernel
theorem dX0_dropOldest_58 : decode cX0_dropOldest 58 = .ok (.aload_n 0, 1) := by decide +kernel
theorem dX0_dropOldest_59 : decode cX0_dropOldest 59 = .ok (.iconst 3, 1) := by decide +kernel
theorem dX0_dropOldest_60 : decode cX0_dropOldest 60 = .ok (.putfield 20, 3) := by decide +kernel
theorem dX0_dropOldest_63 : decode cX0_dropOldest 63 = .ok (.return_, 1) := by decide +kernel
set_option maxRecDepth 20000 in
theorem ggX0_restore_X0_stateAt : GoodIn wsX0_restore wsX0_stateAt := goodIn_r _ [6, 7, 38, 39] (by decide +kernel) (by decide +kernel)
set_option maxRecDepth 20000 in
theorem gX0_restore_X0_stateAt : GoodIn wsX0_restore (wsV RX0 27 RX0 yX0_stateAt wsX0_stateAt) := goodIn_app (goodIn_of _ (by decide +kernel)) ggX0_restore_X0_stateAt
set_option maxRecDepth 20000 in
theorem ggX0_restore_X3_copy : GoodIn wsX0_restore wsX3_copy := goodIn_r _ [12, 13, 14, 15, 16, 17, 18, 19, 20, 21, 22, 23, 24, 25, 26, 27, 28, 29, 30, 31, 32, 33, 34, 35, 36, 37, 40, 41, 42, 43, 44, 45, 46, 47, 48, 49, 50, 51, 52, 53, 54] (by decide +kernel) (by decide +kernel)
set_option maxRecDepth 20000 in
theorem gX0_restore_X3_copy : GoodIn wsX0_restore (wsV RX0 31 RX3 yX3_copy wsX3_copy) := goodIn_app (goodIn_of _ (by decide +kernel)) ggX0_restore_X3_copy
theorem dX0_restore_0 : decode cX0_restore 0 = .ok (.aload_n 0, 1) := by decide +kernel
theorem dX0_restore_1 : decode cX0_restore 1 = .ok (.aload_n 0, 1) := by decide +kernel
theorem dX0_restore_2 : decode cX0_restore 2 = .ok (.getfield 20, 3) := by decide +kernel
theorem dX0_restore_5 : decode cX0_restore 5 = .ok (.iconst 1, 1) := by decide +kernel
theorem dX0_restore_6 : decode cX0_restore 6 = .ok (.isub, 1) := by decide +kernel
theorem dX0_restore_7 : decode cX0_restore 7 = .ok (.invokevirtual 27, 3) := by decide +kernel
theorem dX0_restore_10 : decode cX0_restore 10 = .ok (.astore_n 2, 1) := by decide +kernel
theorem dX0_restore_11 : decode cX0_restore 11 = .ok (.aload_n 2, 1) := by decide +kernel
theorem dX0_restore_12 : decode cX0_restore 12 = .ok (.ifnull 18, 3) := by decide +kernel
theorem dX0_restore_15 : decode cX0_restore 15 = .ok (.aload_n 1, 1) := by decide +kernel
theorem dX0_restore_16 : decode cX0_restore 16 = .ok (.aload_n 2, 1) := by decide +kernel
theorem dX0_restore_17 : decode cX0_restore 17 = .ok (.invokevirtual 31, 3) := by decide +kernel
theorem dX0_restore_20 : decode cX0_restore 20 = .ok (.aload_n 0, 1) := by decide +kernel
theorem dX0_restore_21 : decode cX0_restore 21 = .ok (.dup, 1) := by decide +kernel
theorem dX0_restore_22 : decode cX0_restore 22 = .ok (.getfield 20, 3) := by decide +kernel
theorem dX0_restore_25 : decode cX0_restore 25 = .ok (.iconst 1, 1) := by decide +kernel
theorem dX0_restore_26 : decode cX0_restore 26 = .ok (.isub, 1) := by decide +kernel
theorem dX0_restore_27 : decode cX0_restore 27 = .ok (.putfield 20, 3) := by decide +kernel
theorem dX0_restore_30 : decode cX0_restore 30 = .ok (.return_, 1) := by decide +kernel
theorem dX0_stateAt_0 : decode cX0_stateAt 0 = .ok (.iload_n 1, 1) := by decide +kernel
theorem dX0_stateAt_1 : decode cX0_stateAt 1 = .ok (.ifCond .lt 21, 3) := by decide +kernel
theorem dX0_stateAt_4 : decode cX0_stateAt 4 = .ok (.iload_n 1, 1) := by decide +kernel
theorem dX0_stateAt_5 : decode cX0_stateAt 5 = .ok (.aload_n 0, 1) := by decide +kernel
theorem dX0_stateAt_6 : decode cX0_stateAt 6 = .ok (.getfield 11, 3) := by decide +kernel
theorem dX0_stateAt_9 : decode cX0_stateAt 9 = .ok (.arraylength, 1) := by decide +kernel
theorem dX0_stateAt_10 : decode cX0_stateAt 10 = .ok (.if_icmp .ge 12, 3) := by decide +kernel
theorem dX0_stateAt_13 : decode cX0_stateAt 13 = .ok (.aload_n 0, 1) := by decide +kernel
theorem dX0_stateAt_14 : decode cX0_stateAt 14 = .ok (.getfield 11, 3) := by decide +kernel
theorem dX0_stateAt_17 : decode cX0_stateAt 17 = .ok (.iload_n 1, 1) := by decide +kernel
theorem dX0_stateAt_18 : decode cX0_stateAt 18 = .ok (.aaload, 1) := by decide +kernel
theorem dX0_stateAt_19 : decode cX0_stateAt 19 = .ok (.goto 4, 3) := by decide +kernel
theorem dX0_stateAt_22 : decode cX0_stateAt 22 = .ok (.aconst_null, 1) := by decide +kernel
theorem dX0_stateAt_23 : decode cX0_stateAt 23 = .ok (.areturn, 1) := by decide +kernel
theorem dX1_init_0 : decode cX1_init 0 = .ok (.aload_n 0, 1) := by decide +kernel
theorem dX1_init_1 : decode cX1_init 1 = .ok (.invokespecial 3, 3) := by decide +kernel
theorem dX1_init_4 : decode cX1_init 4 = .ok (.aload_n 0, 1) := by decide +kernel
theorem dX1_init_5 : decode cX1_init 5 = .ok (.bipush 60, 2) := by decide +kernel
theorem dX1_init_7 : decode cX1_init 7 = .ok (.newarray .int, 2) := by decide +kernel
theorem dX1_init_9 : decode cX1_init 9 = .ok (.putfield 9, 3) := by decide +kernel
theorem dX1_init_12 : decode cX1_init 12 = .ok (.return_, 1) := by decide +kernel
theorem dX2_init_0 : decode cX2_init 0 = .ok (.aload_n 0, 1) := by decide +kernel
theorem dX2_init_1 : decode cX2_init 1 = .ok (.invokespecial 3, 3) := by decide +kernel
theorem dX2_init_4 : decode cX2_init 4 = .ok (.aload_n 0, 1) := by decide +kernel
theorem dX2_init_5 : decode cX2_init 5 = .ok (.sipush 150, 3) := by decide +kernel
theorem dX2_init_8 : decode cX2_init 8 = .ok (.newarray .int, 2) := by decide +kernel
theorem dX2_init_10 : decode cX2_init 10 = .ok (.putfield 9, 3) := by decide +kernel
theorem dX2_init_13 : decode cX2_init 13 = .ok (.aload_n 0, 1) := by decide +kernel
theorem dX2_init_14 : decode cX2_init 14 = .ok (.sipush 150, 3) := by decide +kernel
theorem dX2_init_17 : decode cX2_init 17 = .ok (.newarray .int, 2) := by decide +kernel
theorem dX2_init_19 : decode cX2_init 19 = .ok (.putfield 15, 3) := by decide +kernel
theorem dX2_init_22 : decode cX2_init 22 = .ok (.aload_n 0, 1) := by decide +kernel
theorem dX2_init_23 : decode cX2_init 23 = .ok (.sipush 150, 3) := by decide +kernel
theorem dX2_init_26 : decode cX2_init 26 = .ok (.newarray .int, 2) := by decide +kernel
theorem dX2_init_28 : decode cX2_init 28 = .ok (.putfield 18, 3) := by decide +kernel
theorem dX2_init_31 : decode cX2_init 31 = .ok (.return_, 1) := by decide +kernel
theorem dX2_has_0 : decode cX2_has 0 = .ok (.iload_n 1, 1) := by decide +kernel
theorem dX2_has_1 : decode cX2_has 1 = .ok (.ifCond .lt 15, 3) := by decide +kernel
theorem dX2_has_4 : decode cX2_has 4 = .ok (.iload_n 1, 1) := by decide +kernel
theorem dX2_has_5 : decode cX2_has 5 = .ok (.aload_n 0, 1) := by decide +kernel
theorem dX2_has_6 : decode cX2_has 6 = .ok (.getfield 21, 3) := by decide +kernel
theorem dX2_has_9 : decode cX2_has 9 = .ok (.if_icmp .ge 7, 3) := by decide +kernel
theorem dX2_has_12 : decode cX2_has 12 = .ok (.iconst 1, 1) := by decide +kernel
theorem dX2_has_13 : decode cX2_has 13 = .ok (.goto 4, 3) := by decide +kernel
theorem dX2_has_16 : decode cX2_has 16 = .ok (.iconst 0, 1) := by decide +kernel
theorem dX2_has_17 : decode cX2_has 17 = .ok (.ireturn, 1) := by decide +kernel
theorem dX2_clear_0 : decode cX2_clear 0 = .ok (.aload_n 0, 1) := by decide +kernel
theorem dX2_clear_1 : decode cX2_clear 1 = .ok (.iconst 0, 1) := by decide +kernel
theorem dX2_clear_2 : decode cX2_clear 2 = .ok (.putfield 21, 3) := by decide +kernel
theorem dX2_clear_5 : decode cX2_clear 5 = .ok (.return_, 1) := by decide +kernel
set_option maxRecDepth 20000 in
theorem ggX2_add_X5_put : GoodIn wsX2_add wsX5_put := goodIn_r _ [7] (by decide +kernel) (by decide +kernel)
set_option maxRecDepth 20000 in
theorem gX2_add_X5_put_n25 : GoodIn wsX2_add (wsX5_put) := ggX2_add_X5_put
theorem dX2_add_0 : decode cX2_add 0 = .ok (.iload_n 2, 1) := by decide +kernel
theorem dX2_add_1 : decode cX2_add 1 = .ok (.ifCond .eq 25, 3) := by decide +kernel
theorem dX2_add_4 : decode cX2_add 4 = .ok (.aload_n 0, 1) := by decide +kernel
theorem dX2_add_5 : decode cX2_add 5 = .ok (.getfield 9, 3) := by decide +kernel
theorem dX2_add_8 : decode cX2_add 8 = .ok (.aload_n 0, 1) := by decide +kernel
theorem dX2_add_9 : decode cX2_add 9 = .ok (.getfield 21, 3) := by decide +kernel
theorem dX2_add_12 : decode cX2_add 12 = .ok (.iload_n 1, 1) := by decide +kernel
theorem dX2_add_13 : decode cX2_add 13 = .ok (.invokestatic 25, 3) := by decide +kernel
theorem dX2_add_16 : decode cX2_add 16 = .ok (.aload_n 0, 1) := by decide +kernel
theorem dX2_add_17 : decode cX2_add 17 = .ok (.dup, 1) := by decide +kernel
theorem dX2_add_18 : decode cX2_add 18 = .ok (.getfield 21, 3) := by decide +kernel
theorem dX2_add_21 : decode cX2_add 21 = .ok (.iconst 1, 1) := by decide +kernel
theorem dX2_add_22 : decode cX2_add 22 = .ok (.iadd, 1) := by decide +kernel
theorem dX2_add_23 : decode cX2_add 23 = .ok (.putfield 21, 3) := by decide +kernel
theorem dX2_add_26 : decode cX2_add 26 = .ok (.aload_n 0, 1) := by decide +kernel
theorem dX2_add_27 : decode cX2_add 27 = .ok (.getfield 15, 3) := by decide +kernel
theorem dX2_add_30 : decode cX2_add 30 = .ok (.aload_n 0, 1) := by decide +kernel
theorem dX2_add_31 : decode cX2_add 31 = .ok (.getfield 21, 3) := by decide +kernel
theorem dX2_add_34 : decode cX2_add 34 = .ok (.iconst 1, 1) := by decide +kernel
theorem dX2_add_35 : decode cX2_add 35 = .ok (.isub, 1) := by decide +kernel
theorem dX2_add_36 : decode cX2_add 36 = .ok (.iload_n 1, 1) := by decide +kernel
theorem dX2_add_37 : decode cX2_add 37 = .ok (.invokestatic 25, 3) := by decide +kernel
theorem dX2_add_40 : decode cX2_add 40 = .ok (.aload_n 0, 1) := by decide +kernel
theorem dX2_add_41 : decode cX2_add 41 = .ok (.getfield 18, 3) := by decide +kernel
theorem dX2_add_44 : decode cX2_add 44 = .ok (.iload_n 1, 1) := by decide +kernel
theorem dX2_add_45 : decode cX2_add 45 = .ok (.aload_n 0, 1) := by decide +kernel
theorem dX2_add_46 : decode cX2_add 46 = .ok (.getfield 21, 3) := by decide +kernel
theorem dX2_add_49 : decode cX2_add 49 = .ok (.iconst 1, 1) := by decide +kernel
theorem dX2_add_50 : decode cX2_add 50 = .ok (.isub, 1) := by decide +kernel
theorem dX2_add_51 : decode cX2_add 51 = .ok (.invokestatic 25, 3) := by decide +kernel
theorem dX2_add_54 : decode cX2_add 54 = .ok (.return_, 1) := by decide +kernel
set_option maxRecDepth 20000 in
theorem ggX3_init_X5_fill : GoodIn wsX3_init wsX5_fill := goodIn_r _ [21] (by decide +kernel) (by decide +kernel)
set_option maxRecDepth 20000 in
theorem gX3_init_X5_fill_n42 : GoodIn wsX3_init (wsX5_fill) := ggX3_init_X5_fill
theorem dX3_init_0 : decode cX3_init 0 = .ok (.aload_n 0, 1) := by decide +kernel
theorem dX3_init_1 : decode cX3_init 1 = .ok (.invokespecial 3, 3) := by decide +kernel
theorem dX3_init_4 : decode cX3_init 4 = .ok (.aload_n 0, 1) := by decide +kernel
theorem dX3_init_5 : decode cX3_init 5 = .ok (.aload_n 1, 1) := by decide +kernel
theorem dX3_init_6 : decode cX3_init 6 = .ok (.putfield 9, 3) := by decide +kernel
theorem dX3_init_9 : decode cX3_init 9 = .ok (.aload_n 0, 1) := by decide +kernel
theorem dX3_init_10 : decode cX3_init 10 = .ok (.sipush 300, 3) := by decide +kernel
theorem dX3_init_13 : decode cX3_init 13 = .ok (.newarray .int, 2) := by decide +kernel
theorem dX3_init_15 : decode cX3_init 15 = .ok (.putfield 15, 3) := by decide +kernel
theorem dX3_init_18 : decode cX3_init 18 = .ok (.aload_n 0, 1) := by decide +kernel
theorem dX3_init_19 : decode cX3_init 19 = .ok (.getstatic 19, 3) := by decide +kernel
theorem dX3_init_22 : decode cX3_init 22 = .ok (.invokevirtual 22, 3) := by decide +kernel
theorem dX3_init_25 : decode cX3_init 25 = .ok (.checkcast 23, 3) := by decide +kernel
theorem dX3_init_28 : decode cX3_init 28 = .ok (.putfield 27, 3) := by decide +kernel
theorem dX3_init_31 : decode cX3_init 31 = .ok (.aload_n 0, 1) := by decide +kernel
theorem dX3_init_32 : decode cX3_init 32 = .ok (.iconst 3, 1) := by decide +kernel
theorem dX3_init_33 : decode cX3_init 33 = .ok (.newarray .int, 2) := by decide +kernel
theorem dX3_init_35 : decode cX3_init 35 = .ok (.putfield 30, 3) := by decide +kernel
theorem dX3_init_38 : decode cX3_init 38 = .ok (.aload_n 0, 1) := by decide +kernel
theorem dX3_init_39 : decode cX3_init 39 = .ok (.sipush 150, 3) := by decide +kernel
theorem dX3_init_42 : decode cX3_init 42 = .ok (.newarray .int, 2) := by decide +kernel
theorem dX3_init_44 : decode cX3_init 44 = .ok (.putfield 33, 3) := by decide +kernel
theorem dX3_init_47 : decode cX3_init 47 = .ok (.aload_n 0, 1) := by decide +kernel
theorem dX3_init_48 : decode cX3_init 48 = .ok (.iconst 5, 1) := by decide +kernel
theorem dX3_init_49 : decode cX3_init 49 = .ok (.newarray .int, 2) := by decide +kernel
theorem dX3_init_51 : decode cX3_init 51 = .ok (.putfield 36, 3) := by decide +kernel
theorem dX3_init_54 : decode cX3_init 54 = .ok (.aload_n 0, 1) := by decide +kernel
theorem dX3_init_55 : decode cX3_init 55 = .ok (.iconst 3, 1) := by decide +kernel
theorem dX3_init_56 : decode cX3_init 56 = .ok (.newarray .int, 2) := by decide +kernel
theorem dX3_init_58 : decode cX3_init 58 = .ok (.putfield 39, 3) := by decide +kernel
theorem dX3_init_61 : decode cX3_init 61 = .ok (.aload_n 0, 1) := by decide +kernel
theorem dX3_init_62 : decode cX3_init 62 = .ok (.getfield 30, 3) := by decide +kernel
theorem dX3_init_65 : decode cX3_init 65 = .ok (.bipush 100, 2) := by decide +kernel
theorem dX3_init_67 : decode cX3_init 67 = .ok (.invokestatic 42, 3) := by decide +kernel
theorem dX3_init_70 : decode cX3_init 70 = .ok (.aload_n 0, 1) := by decide +kernel
theorem dX3_init_71 : decode cX3_init 71 = .ok (.getfield 39, 3) := by decide +kernel
theorem dX3_init_74 : decode cX3_init 74 = .ok (.iconst (-1), 1) := by decide +kernel
theorem dX3_init_75 : decode cX3_init 75 = .ok (.invokestatic 42, 3) := by decide +kernel
theorem dX3_init_78 : decode cX3_init 78 = .ok (.aload_n 0, 1) := by decide +kernel
theorem dX3_init_79 : decode cX3_init 79 = .ok (.iconst (-1), 1) := by decide +kernel
theorem dX3_init_80 : decode cX3_init 80 = .ok (.putfield 46, 3) := by decide +kernel
theorem dX3_init_83 : decode cX3_init 83 = .ok (.return_, 1) := by decide +kernel
set_option maxRecDepth 20000 in
theorem ggX3_copy_X5_copyRow : GoodIn wsX3_copy wsX5_copyRow := goodIn_r _ [17, 18, 19, 20, 21, 22, 23, 24, 25] (by decide +kernel) (by decide +kernel)
set_option maxRecDepth 20000 in
theorem gX3_copy_X5_copyRow_n50 : GoodIn wsX3_copy (wsX5_copyRow) := ggX3_copy_X5_copyRow
theorem dX3_copy_0 : decode cX3_copy 0 = .ok (.aload_n 1, 1) := by decide +kernel
theorem dX3_copy_1 : decode cX3_copy 1 = .ok (.getfield 15, 3) := by decide +kernel
theorem dX3_copy_4 : decode cX3_copy 4 = .ok (.aload_n 0, 1) := by decide +kernel
theorem dX3_copy_5 : decode cX3_copy 5 = .ok (.getfield 15, 3) := by decide +kernel
theorem dX3_copy_8 : decode cX3_copy 8 = .ok (.invokestatic 50, 3) := by decide +kernel
theorem dX3_copy_11 : decode cX3_copy 11 = .ok (.aload_n 0, 1) := by decide +kernel
theorem dX3_copy_12 : decode cX3_copy 12 = .ok (.aload_n 1, 1) := by decide +kernel
theorem dX3_copy_13 : decode cX3_copy 13 = .ok (.getfield 54, 3) := by decide +kernel
theorem dX3_copy_16 : decode cX3_copy 16 = .ok (.putfield 54, 3) := by decide +kernel
theorem dX3_copy_19 : decode cX3_copy 19 = .ok (.aload_n 1, 1) := by decide +kernel
theorem dX3_copy_20 : decode cX3_copy 20 = .ok (.getfield 27, 3) := by decide +kernel
theorem dX3_copy_23 : decode cX3_copy 23 = .ok (.aload_n 0, 1) := by decide +kernel
theorem dX3_copy_24 : decode cX3_copy 24 = .ok (.getfield 27, 3) := by decide +kernel
theorem dX3_copy_27 : decode cX3_copy 27 = .ok (.invokestatic 50, 3) := by decide +kernel
theorem dX3_copy_30 : decode cX3_copy 30 = .ok (.aload_n 1, 1) := by decide +kernel
theorem dX3_copy_31 : decode cX3_copy 31 = .ok (.getfield 30, 3) := by decide +kernel
theorem dX3_copy_34 : decode cX3_copy 34 = .ok (.aload_n 0, 1) := by decide +kernel
theorem dX3_copy_35 : decode cX3_copy 35 = .ok (.getfield 30, 3) := by decide +kernel
theorem dX3_copy_38 : decode cX3_copy 38 = .ok (.invokestatic 50, 3) := by decide +kernel
theorem dX3_copy_41 : decode cX3_copy 41 = .ok (.aload_n 1, 1) := by decide +kernel
theorem dX3_copy_42 : decode cX3_copy 42 = .ok (.getfield 33, 3) := by decide +kernel
theorem dX3_copy_45 : decode cX3_copy 45 = .ok (.aload_n 0, 1) := by decide +kernel
theorem dX3_copy_46 : decode cX3_copy 46 = .ok (.getfield 33, 3) := by decide +kernel
theorem dX3_copy_49 : decode cX3_copy 49 = .ok (.invokestatic 50, 3) := by decide +kernel
theorem dX3_copy_52 : decode cX3_copy 52 = .ok (.aload_n 0, 1) := by decide +kernel
theorem dX3_copy_53 : decode cX3_copy 53 = .ok (.aload_n 1, 1) := by decide +kernel
theorem dX3_copy_54 : decode cX3_copy 54 = .ok (.getfield 46, 3) := by decide +kernel
theorem dX3_copy_57 : decode cX3_copy 57 = .ok (.putfield 46, 3) := by decide +kernel
theorem dX3_copy_60 : decode cX3_copy 60 = .ok (.aload_n 0, 1) := by decide +kernel
theorem dX3_copy_61 : decode cX3_copy 61 = .ok (.aload_n 1, 1) := by decide +kernel
theorem dX3_copy_62 : decode cX3_copy 62 = .ok (.getfield 57, 3) := by decide +kernel
theorem dX3_copy_65 : decode cX3_copy 65 = .ok (.putfield 57, 3) := by decide +kernel
theorem dX3_copy_68 : decode cX3_copy 68 = .ok (.aload_n 1, 1) := by decide +kernel
theorem dX3_copy_69 : decode cX3_copy 69 = .ok (.getfield 36, 3) := by decide +kernel
theorem dX3_copy_72 : decode cX3_copy 72 = .ok (.aload_n 0, 1) := by decide +kernel
theorem dX3_copy_73 : decode cX3_copy 73 = .ok (.getfield 36, 3) := by decide +kernel
theorem dX3_copy_76 : decode cX3_copy 76 = .ok (.invokestatic 50, 3) := by decide +kernel
theorem dX3_copy_79 : decode cX3_copy 79 = .ok (.aload_n 0, 1) := by decide +kernel
theorem dX3_copy_80 : decode cX3_copy 80 = .ok (.aload_n 1, 1) := by decide +kernel
theorem dX3_copy_81 : decode cX3_copy 81 = .ok (.getfield 60, 3) := by decide +kernel
theorem dX3_copy_84 : decode cX3_copy 84 = .ok (.putfield 60, 3) := by decide +kernel
theorem dX3_copy_87 : decode cX3_copy 87 = .ok (.aload_n 1, 1) := by decide +kernel
theorem dX3_copy_88 : decode cX3_copy 88 = .ok (.getfield 39, 3) := by decide +kernel
theorem dX3_copy_91 : decode cX3_copy 91 = .ok (.aload_n 0, 1) := by decide +kernel
theorem dX3_copy_92 : decode cX3_copy 92 = .ok (.getfield 39, 3) := by decide +kernel
theorem dX3_copy_95 : decode cX3_copy 95 = .ok (.invokestatic 50, 3) := by decide +kernel
theorem dX3_copy_98 : decode cX3_copy 98 = .ok (.aload_n 0, 1) := by decide +kernel
theorem dX3_copy_99 : decode cX3_copy 99 = .ok (.aload_n 1, 1) := by decide +kernel
theorem dX3_copy_100 : decode cX3_copy 100 = .ok (.getfield 63, 3) := by decide +kernel
theorem dX3_copy_103 : decode cX3_copy 103 = .ok (.putfield 63, 3) := by decide +kernel
theorem dX3_copy_106 : decode cX3_copy 106 = .ok (.aload_n 0, 1) := by decide +kernel
theorem dX3_copy_107 : decode cX3_copy 107 = .ok (.aload_n 1, 1) := by decide +kernel
theorem dX3_copy_108 : decode cX3_copy 108 = .ok (.getfield 67, 3) := by decide +kernel
theorem dX3_copy_111 : decode cX3_copy 111 = .ok (.putfield 67, 3) := by decide +kernel
theorem dX3_copy_114 : decode cX3_copy 114 = .ok (.aload_n 0, 1) := by decide +kernel
theorem dX3_copy_115 : decode cX3_copy 115 = .ok (.aload_n 1, 1) := by decide +kernel
theorem dX3_copy_116 : decode cX3_copy 116 = .ok (.getfield 70, 3) := by decide +kernel
theorem dX3_copy_119 : decode cX3_copy 119 = .ok (.putfield 70, 3) := by decide +kernel
theorem dX3_copy_122 : decode cX3_copy 122 = .ok (.aload_n 0, 1) := by decide +kernel
theorem dX3_copy_123 : decode cX3_copy 123 = .ok (.aload_n 1, 1) := by decide +kernel
theorem dX3_copy_124 : decode cX3_copy 124 = .ok (.getfield 73, 3) := by decide +kernel
theorem dX3_copy_127 : decode cX3_copy 127 = .ok (.putfield 73, 3) := by decide +kernel
theorem dX3_copy_130 : decode cX3_copy 130 = .ok (.return_, 1) := by decide +kernel
set_option maxRecDepth 20000 in
theorem ggX3_startAnew_X4_read : GoodIn wsX3_startAnew wsX4_read := goodIn_r _ [12, 13, 14, 15, 16, 17, 18, 19, 11, 20, 21, 22, 23, 24, 25, 26, 27, 28, 29, 30, 31, 32, 33, 34, 35, 36, 37, 38, 39, 40, 41, 42, 43, 44, 45, 46, 47, 48, 49, 50, 51, 52, 53, 54, 55, 56, 57, 58, 59, 60, 127, 128, 129, 130, 131, 132, 133, 134, 135, 136, 137, 138, 139] (by decide +kernel) (by decide +kernel)
set_option maxRecDepth 20000 in
theorem gX3_startAnew_X4_read : GoodIn wsX3_startAnew (wsV RX3 76 RX4 yX4_read wsX4_read) := goodIn_app (goodIn_of _ (by decide +kernel)) ggX3_startAnew_X4_read
set_option maxRecDepth 20000 in
theorem ggX3_startAnew_X5_fill : GoodIn wsX3_startAnew wsX5_fill := goodIn_r _ [62] (by decide +kernel) (by decide +kernel)
set_option maxRecDepth 20000 in
theorem gX3_startAnew_X5_fill_n42 : GoodIn wsX3_startAnew (wsX5_fill) := ggX3_startAnew_X5_fill
set_option maxRecDepth 20000 in
theorem ggX3_startAnew_X4_has : GoodIn wsX3_startAnew wsX4_has := goodIn_r _ [66, 13, 127, 128, 129, 130, 131, 132, 133, 134, 135] (by decide +kernel) (by decide +kernel)
set_option maxRecDepth 20000 in
theorem gX3_startAnew_X4_has : GoodIn wsX3_startAnew (wsV RX3 81 RX4 yX4_has wsX4_has) := goodIn_app (goodIn_of _ (by decide +kernel)) ggX3_startAnew_X4_has
set_option maxRecDepth 20000 in
theorem ggX3_startAnew_X4_isMark : GoodIn wsX3_startAnew wsX4_isMark := goodIn_r _ [70, 24, 14, 15, 16, 127, 128, 129, 130, 131, 132, 133, 134, 135] (by decide +kernel) (by decide +kernel)
set_option maxRecDepth 20000 in
theorem gX3_startAnew_X4_isMark : GoodIn wsX3_startAnew (wsV RX3 85 RX4 yX4_isMark wsX4_isMark) := goodIn_app (goodIn_of _ (by decide +kernel)) ggX3_startAnew_X4_isMark
set_option maxRecDepth 20000 in
theorem ggX3_startAnew_X4_shownBehind : GoodIn wsX3_startAnew wsX4_shownBehind := goodIn_r _ [74, 13, 75, 68, 69, 11, 70, 24, 14, 15, 16, 127, 128, 129, 130, 131, 132, 133, 134, 135] (by decide +kernel) (by decide +kernel)
set_option maxRecDepth 20000 in
theorem gX3_startAnew_X4_shownBehind : GoodIn wsX3_startAnew (wsV RX3 88 RX4 yX4_shownBehind wsX4_shownBehind) := goodIn_app (goodIn_of _ (by decide +kernel)) ggX3_startAnew_X4_shownBehind
set_option maxRecDepth 20000 in
theorem ggX3_startAnew_X3_becomePresent : GoodIn wsX3_startAnew wsX3_becomePresent := goodIn_r _ [80, 2, 81, 82, 6, 63, 64, 65, 11, 66, 13, 83, 84, 85, 79, 86, 87, 88, 89, 90, 91, 23, 14, 15, 16, 92, 93, 94, 95, 96, 67, 68, 69, 70, 24, 97, 98, 99, 100, 101, 102, 103, 104, 105, 106, 107, 108, 109, 110, 111, 34, 35, 112, 113, 114, 115, 116, 117, 118, 119, 120, 121, 122, 123, 124, 125, 126, 127, 128, 129, 130, 131, 132, 133, 134, 135] (by decide +kernel) (by decide +kernel)
set_option maxRecDepth 20000 in
theorem gX3_startAnew_X3_becomePresent : GoodIn wsX3_startAnew (wsV RX3 92 RX3 yX3_becomePresent wsX3_becomePresent) := goodIn_app (goodIn_of _ (by decide +kernel)) ggX3_startAnew_X3_becomePresent
theorem dX3_startAnew_0 : decode cX3_startAnew 0 = .ok (.aload_n 0, 1) := by decide +kernel
theorem dX3_startAnew_1 : decode cX3_startAnew 1 = .ok (.iload_n 1, 1) := by decide +kernel
theorem dX3_startAnew_2 : decode cX3_startAnew 2 = .ok (.putfield 54, 3) := by decide +kernel
theorem dX3_startAnew_5 : decode cX3_startAnew 5 = .ok (.aload_n 0, 1) := by decide +kernel
theorem dX3_startAnew_6 : decode cX3_startAnew 6 = .ok (.getfield 9, 3) := by decide +kernel
theorem dX3_startAnew_9 : decode cX3_startAnew 9 = .ok (.aload_n 0, 1) := by decide +kernel
theorem dX3_startAnew_10 : decode cX3_startAnew 10 = .ok (.getfield 15, 3) := by decide +kernel
theorem dX3_startAnew_13 : decode cX3_startAnew 13 = .ok (.aload_n 0, 1) := by decide +kernel
theorem dX3_startAnew_14 : decode cX3_startAnew 14 = .ok (.getfield 54, 3) := by decide +kernel
theorem dX3_startAnew_17 : decode cX3_startAnew 17 = .ok (.invokevirtual 76, 3) := by decide +kernel
theorem dX3_startAnew_20 : decode cX3_startAnew 20 = .ok (.aload_n 0, 1) := by decide +kernel
theorem dX3_startAnew_21 : decode cX3_startAnew 21 = .ok (.iconst 0, 1) := by decide +kernel
theorem dX3_startAnew_22 : decode cX3_startAnew 22 = .ok (.putfield 60, 3) := by decide +kernel
theorem dX3_startAnew_25 : decode cX3_startAnew 25 = .ok (.aload_n 0, 1) := by decide +kernel
theorem dX3_startAnew_26 : decode cX3_startAnew 26 = .ok (.iconst 0, 1) := by decide +kernel
theorem dX3_startAnew_27 : decode cX3_startAnew 27 = .ok (.putfield 63, 3) := by decide +kernel
theorem dX3_startAnew_30 : decode cX3_startAnew 30 = .ok (.aload_n 0, 1) := by decide +kernel
theorem dX3_startAnew_31 : decode cX3_startAnew 31 = .ok (.getfield 39, 3) := by decide +kernel
theorem dX3_startAnew_34 : decode cX3_startAnew 34 = .ok (.iconst (-1), 1) := by decide +kernel
theorem dX3_startAnew_35 : decode cX3_startAnew 35 = .ok (.invokestatic 42, 3) := by decide +kernel
theorem dX3_startAnew_38 : decode cX3_startAnew 38 = .ok (.iconst 0, 1) := by decide +kernel
theorem dX3_startAnew_39 : decode cX3_startAnew 39 = .ok (.istore_n 2, 1) := by decide +kernel
theorem dX3_startAnew_40 : decode cX3_startAnew 40 = .ok (.iload_n 2, 1) := by decide +kernel
theorem dX3_startAnew_41 : decode cX3_startAnew 41 = .ok (.aload_n 0, 1) := by decide +kernel
theorem dX3_startAnew_42 : decode cX3_startAnew 42 = .ok (.getfield 33, 3) := by decide +kernel
theorem dX3_startAnew_45 : decode cX3_startAnew 45 = .ok (.arraylength, 1) := by decide +kernel
theorem dX3_startAnew_46 : decode cX3_startAnew 46 = .ok (.if_icmp .ge 38, 3) := by decide +kernel
theorem dX3_startAnew_49 : decode cX3_startAnew 49 = .ok (.aload_n 0, 1) := by decide +kernel
theorem dX3_startAnew_50 : decode cX3_startAnew 50 = .ok (.getfield 9, 3) := by decide +kernel
theorem dX3_startAnew_53 : decode cX3_startAnew 53 = .ok (.iload_n 2, 1) := by decide +kernel
theorem dX3_startAnew_54 : decode cX3_startAnew 54 = .ok (.invokevirtual 81, 3) := by decide +kernel
theorem dX3_startAnew_57 : decode cX3_startAnew 57 = .ok (.ifCond .eq 14, 3) := by decide +kernel
theorem dX3_startAnew_60 : decode cX3_startAnew 60 = .ok (.aload_n 0, 1) := by decide +kernel
theorem dX3_startAnew_61 : decode cX3_startAnew 61 = .ok (.getfield 9, 3) := by decide +kernel
theorem dX3_startAnew_64 : decode cX3_startAnew 64 = .ok (.iload_n 2, 1) := by decide +kernel
theorem dX3_startAnew_65 : decode cX3_startAnew 65 = .ok (.invokevirtual 85, 3) := by decide +kernel
theorem dX3_startAnew_68 : decode cX3_startAnew 68 = .ok (.ifCond .eq 10, 3) := by decide +kernel
theorem dX3_startAnew_71 : decode cX3_startAnew 71 = .ok (.aload_n 0, 1) := by decide +kernel
theorem dX3_startAnew_72 : decode cX3_startAnew 72 = .ok (.getfield 33, 3) := by decide +kernel
theorem dX3_startAnew_75 : decode cX3_startAnew 75 = .ok (.iload_n 2, 1) := by decide +kernel
theorem dX3_startAnew_76 : decode cX3_startAnew 76 = .ok (.iconst 0, 1) := by decide +kernel
theorem dX3_startAnew_77 : decode cX3_startAnew 77 = .ok (.iastore, 1) := by decide +kernel
theorem dX3_startAnew_78 : decode cX3_startAnew 78 = .ok (.iinc 2 1, 3) := by decide +kernel
theorem dX3_startAnew_81 : decode cX3_startAnew 81 = .ok (.goto (-41), 3) := by decide +kernel
theorem dX3_startAnew_84 : decode cX3_startAnew 84 = .ok (.aload_n 0, 1) := by decide +kernel
theorem dX3_startAnew_85 : decode cX3_startAnew 85 = .ok (.aload_n 0, 1) := by decide +kernel
theorem dX3_startAnew_86 : decode cX3_startAnew 86 = .ok (.getfield 9, 3) := by decide +kernel
theorem dX3_startAnew_89 : decode cX3_startAnew 89 = .ok (.iconst (-1), 1) := by decide +kernel
theorem dX3_startAnew_90 : decode cX3_startAnew 90 = .ok (.invokevirtual 88, 3) := by decide +kernel
theorem dX3_startAnew_93 : decode cX3_startAnew 93 = .ok (.invokevirtual 92, 3) := by decide +kernel
theorem dX3_startAnew_96 : decode cX3_startAnew 96 = .ok (.return_, 1) := by decide +kernel
set_option maxRecDepth 20000 in
theorem ggX3_measureOf_X5_at : GoodIn wsX3_measureOf wsX5_at := goodIn_r _ [10] (by decide +kernel) (by decide +kernel)
set_option maxRecDepth 20000 in
theorem gX3_measureOf_X5_at_n99 : GoodIn wsX3_measureOf (wsX5_at) := ggX3_measureOf_X5_at
theorem dX3_measureOf_0 : decode cX3_measureOf 0 = .ok (.aload_n 0, 1) := by decide +kernel
theorem dX3_measureOf_1 : decode cX3_measureOf 1 = .ok (.getfield 9, 3) := by decide +kernel
theorem dX3_measureOf_4 : decode cX3_measureOf 4 = .ok (.getfield 96, 3) := by decide +kernel
theorem dX3_measureOf_7 : decode cX3_measureOf 7 = .ok (.iload_n 1, 1) := by decide +kernel
theorem dX3_measureOf_8 : decode cX3_measureOf 8 = .ok (.invokestatic 99, 3) := by decide +kernel
theorem dX3_measureOf_11 : decode cX3_measureOf 11 = .ok (.istore_n 2, 1) := by decide +kernel
theorem dX3_measureOf_12 : decode cX3_measureOf 12 = .ok (.iload_n 2, 1) := by decide +kernel
theorem dX3_measureOf_13 : decode cX3_measureOf 13 = .ok (.bipush 10, 2) := by decide +kernel
theorem dX3_measureOf_15 : decode cX3_measureOf 15 = .ok (.if_icmp .le 14, 3) := by decide +kernel
theorem dX3_measureOf_18 : decode cX3_measureOf 18 = .ok (.iload_n 2, 1) := by decide +kernel
theorem dX3_measureOf_19 : decode cX3_measureOf 19 = .ok (.iload_n 2, 1) := by decide +kernel
theorem dX3_measureOf_20 : decode cX3_measureOf 20 = .ok (.bipush 10, 2) := by decide +kernel
theorem dX3_measureOf_22 : decode cX3_measureOf 22 = .ok (.isub, 1) := by decide +kernel
theorem dX3_measureOf_23 : decode cX3_measureOf 23 = .ok (.iconst 1, 1) := by decide +kernel
theorem dX3_measureOf_24 : decode cX3_measureOf 24 = .ok (.iadd, 1) := by decide +kernel
theorem dX3_measureOf_25 : decode cX3_measureOf 25 = .ok (.iconst 2, 1) := by decide +kernel
theorem dX3_measureOf_26 : decode cX3_measureOf 26 = .ok (.idiv, 1) := by decide +kernel
theorem dX3_measureOf_27 : decode cX3_measureOf 27 = .ok (.isub, 1) := by decide +kernel
theorem dX3_measureOf_28 : decode cX3_measureOf 28 = .ok (.istore_n 2, 1) := by decide +kernel
theorem dX3_measureOf_29 : decode cX3_measureOf 29 = .ok (.iload_n 2, 1) := by decide +kernel
theorem dX3_measureOf_30 : decode cX3_measureOf 30 = .ok (.aload_n 0, 1) := by decide +kernel
theorem dX3_measureOf_31 : decode cX3_measureOf 31 = .ok (.getfield 27, 3) := by decide +kernel
theorem dX3_measureOf_34 : decode cX3_measureOf 34 = .ok (.iconst 1, 1) := by decide +kernel
theorem dX3_measureOf_35 : decode cX3_measureOf 35 = .ok (.invokestatic 99, 3) := by decide +kernel
theorem dX3_measureOf_38 : decode cX3_measureOf 38 = .ok (.invokestatic 103, 3) := by decide +kernel
theorem dX3_measureOf_41 : decode cX3_measureOf 41 = .ok (.ireturn, 1) := by decide +kernel
set_option maxRecDepth 20000 in
theorem ggX3_percentOf_X5_at : GoodIn wsX3_percentOf wsX5_at := goodIn_r _ [7] (by decide +kernel) (by decide +kernel)
set_option maxRecDepth 20000 in
theorem gX3_percentOf_X5_at_n99 : GoodIn wsX3_percentOf (wsX5_at) := ggX3_percentOf_X5_at
theorem dX3_percentOf_0 : decode cX3_percentOf 0 = .ok (.aload_n 0, 1) := by decide +kernel
theorem dX3_percentOf_1 : decode cX3_percentOf 1 = .ok (.getfield 9, 3) := by decide +kernel
theorem dX3_percentOf_4 : decode cX3_percentOf 4 = .ok (.getfield 109, 3) := by decide +kernel
theorem dX3_percentOf_7 : decode cX3_percentOf 7 = .ok (.iload_n 1, 1) := by decide +kernel
theorem dX3_percentOf_8 : decode cX3_percentOf 8 = .ok (.invokestatic 99, 3) := by decide +kernel
theorem dX3_percentOf_11 : decode cX3_percentOf 11 = .ok (.istore_n 2, 1) := by decide +kernel
theorem dX3_percentOf_12 : decode cX3_percentOf 12 = .ok (.bipush 100, 2) := by decide +kernel
theorem dX3_percentOf_14 : decode cX3_percentOf 14 = .ok (.istore_n 3, 1) := by decide +kernel
theorem dX3_percentOf_15 : decode cX3_percentOf 15 = .ok (.iload_n 2, 1) := by decide +kernel
theorem dX3_percentOf_16 : decode cX3_percentOf 16 = .ok (.iconst 1, 1) := by decide +kernel
theorem dX3_percentOf_17 : decode cX3_percentOf 17 = .ok (.if_icmp .ne 15, 3) := by decide +kernel
theorem dX3_percentOf_20 : decode cX3_percentOf 20 = .ok (.aload_n 0, 1) := by decide +kernel
theorem dX3_percentOf_21 : decode cX3_percentOf 21 = .ok (.getfield 27, 3) := by decide +kernel
theorem dX3_percentOf_24 : decode cX3_percentOf 24 = .ok (.iconst 2, 1) := by decide +kernel
theorem dX3_percentOf_25 : decode cX3_percentOf 25 = .ok (.invokestatic 99, 3) := by decide +kernel
theorem dX3_percentOf_28 : decode cX3_percentOf 28 = .ok (.istore_n 3, 1) := by decide +kernel
theorem dX3_percentOf_29 : decode cX3_percentOf 29 = .ok (.goto 17, 3) := by decide +kernel
theorem dX3_percentOf_32 : decode cX3_percentOf 32 = .ok (.iload_n 2, 1) := by decide +kernel
theorem dX3_percentOf_33 : decode cX3_percentOf 33 = .ok (.iconst 2, 1) := by decide +kernel
theorem dX3_percentOf_34 : decode cX3_percentOf 34 = .ok (.if_icmp .ne 12, 3) := by decide +kernel
theorem dX3_percentOf_37 : decode cX3_percentOf 37 = .ok (.aload_n 0, 1) := by decide +kernel
theorem dX3_percentOf_38 : decode cX3_percentOf 38 = .ok (.getfield 27, 3) := by decide +kernel
theorem dX3_percentOf_41 : decode cX3_percentOf 41 = .ok (.iconst 3, 1) := by decide +kernel
theorem dX3_percentOf_42 : decode cX3_percentOf 42 = .ok (.invokestatic 99, 3) := by decide +kernel
theorem dX3_percentOf_45 : decode cX3_percentOf 45 = .ok (.istore_n 3, 1) := by decide +kernel
theorem dX3_percentOf_46 : decode cX3_percentOf 46 = .ok (.aload_n 0, 1) := by decide +kernel
theorem dX3_percentOf_47 : decode cX3_percentOf 47 = .ok (.getfield 9, 3) := by decide +kernel
theorem dX3_percentOf_50 : decode cX3_percentOf 50 = .ok (.getfield 112, 3) := by decide +kernel
theorem dX3_percentOf_53 : decode cX3_percentOf 53 = .ok (.iload_n 1, 1) := by decide +kernel
theorem dX3_percentOf_54 : decode cX3_percentOf 54 = .ok (.invokestatic 99, 3) := by decide +kernel
theorem dX3_percentOf_57 : decode cX3_percentOf 57 = .ok (.iconst 1, 1) := by decide +kernel
theorem dX3_percentOf_58 : decode cX3_percentOf 58 = .ok (.if_icmp .ne 17, 3) := by decide +kernel
theorem dX3_percentOf_61 : decode cX3_percentOf 61 = .ok (.iload_n 3, 1) := by decide +kernel
theorem dX3_percentOf_62 : decode cX3_percentOf 62 = .ok (.aload_n 0, 1) := by decide +kernel
theorem dX3_percentOf_63 : decode cX3_percentOf 63 = .ok (.getfield 27, 3) := by decide +kernel
theorem dX3_percentOf_66 : decode cX3_percentOf 66 = .ok (.iconst 4, 1) := by decide +kernel
theorem dX3_percentOf_67 : decode cX3_percentOf 67 = .ok (.invokestatic 99, 3) := by decide +kernel
theorem dX3_percentOf_70 : decode cX3_percentOf 70 = .ok (.imul, 1) := by decide +kernel
theorem dX3_percentOf_71 : decode cX3_percentOf 71 = .ok (.bipush 100, 2) := by decide +kernel
theorem dX3_percentOf_73 : decode cX3_percentOf 73 = .ok (.idiv, 1) := by decide +kernel
theorem dX3_percentOf_74 : decode cX3_percentOf 74 = .ok (.istore_n 3, 1) := by decide +kernel
theorem dX3_percentOf_75 : decode cX3_percentOf 75 = .ok (.iload_n 3, 1) := by decide +kernel
theorem dX3_percentOf_76 : decode cX3_percentOf 76 = .ok (.ireturn, 1) := by decide +kernel
set_option maxRecDepth 20000 in
theorem ggX3_timeWith_X4_isMark : GoodIn wsX3_timeWith wsX4_isMark := goodIn_r _ [7, 8, 9, 10, 11, 43, 44, 45, 46, 47, 48, 49, 50, 51] (by decide +kernel) (by decide +kernel)
set_option maxRecDepth 20000 in
theorem gX3_timeWith_X4_isMark : GoodIn wsX3_timeWith (wsV RX3 85 RX4 yX4_isMark wsX4_isMark) := goodIn_app (goodIn_of _ (by decide +kernel)) ggX3_timeWith_X4_isMark
set_option maxRecDepth 20000 in
theorem ggX3_timeWith_X3_measureOf : GoodIn wsX3_timeWith wsX3_measureOf := goodIn_r _ [16, 1, 17, 2, 18, 19, 20, 21, 9, 10, 11, 28, 29, 30, 31, 32, 33, 34, 35, 36, 37, 38, 39, 40, 41, 42, 43, 44, 45, 46, 47, 48, 49, 50, 51] (by decide +kernel) (by decide +kernel)
set_option maxRecDepth 20000 in
theorem gX3_timeWith_X3_measureOf : GoodIn wsX3_timeWith (wsV RX3 115 RX3 yX3_measureOf wsX3_measureOf) := goodIn_app (goodIn_of _ (by decide +kernel)) ggX3_timeWith_X3_measureOf
set_option maxRecDepth 20000 in
theorem ggX3_timeWith_X5_at : GoodIn wsX3_timeWith wsX5_at := goodIn_r _ [11] (by decide +kernel) (by decide +kernel)
set_option maxRecDepth 20000 in
theorem gX3_timeWith_X5_at_n99 : GoodIn wsX3_timeWith (wsX5_at) := ggX3_timeWith_X5_at
set_option maxRecDepth 20000 in
theorem ggX3_timeWith_X3_percentOf : GoodIn wsX3_timeWith wsX3_percentOf := goodIn_r _ [25, 1, 26, 2, 27, 9, 10, 11, 28, 29, 30, 31, 32, 33, 34, 35, 36, 37, 38, 39, 40, 41, 42, 43, 44, 45, 46, 47, 48, 49, 50, 51] (by decide +kernel) (by decide +kernel)
set_option maxRecDepth 20000 in
theorem gX3_timeWith_X3_percentOf : GoodIn wsX3_timeWith (wsV RX3 118 RX3 yX3_percentOf wsX3_percentOf) := goodIn_app (goodIn_of _ (by decide +kernel)) ggX3_timeWith_X3_percentOf
theorem dX3_timeWith_0 : decode cX3_timeWith 0 = .ok (.iload_n 2, 1) := by decide +kernel
theorem dX3_timeWith_1 : decode cX3_timeWith 1 = .ok (.ifCond .le 14, 3) := by decide +kernel
theorem dX3_timeWith_4 : decode cX3_timeWith 4 = .ok (.aload_n 0, 1) := by decide +kernel
theorem dX3_timeWith_5 : decode cX3_timeWith 5 = .ok (.getfield 9, 3) := by decide +kernel
theorem dX3_timeWith_8 : decode cX3_timeWith 8 = .ok (.iload_n 1, 1) := by decide +kernel
theorem dX3_timeWith_9 : decode cX3_timeWith 9 = .ok (.invokevirtual 85, 3) := by decide +kernel
theorem dX3_timeWith_12 : decode cX3_timeWith 12 = .ok (.ifCond .eq 5, 3) := by decide +kernel
theorem dX3_timeWith_15 : decode cX3_timeWith 15 = .ok (.iconst 0, 1) := by decide +kernel
theorem dX3_timeWith_16 : decode cX3_timeWith 16 = .ok (.ireturn, 1) := by decide +kernel
theorem dX3_timeWith_17 : decode cX3_timeWith 17 = .ok (.aload_n 0, 1) := by decide +kernel
theorem dX3_timeWith_18 : decode cX3_timeWith 18 = .ok (.iload_n 1, 1) := by decide +kernel
theorem dX3_timeWith_19 : decode cX3_timeWith 19 = .ok (.invokevirtual 115, 3) := by decide +kernel
theorem dX3_timeWith_22 : decode cX3_timeWith 22 = .ok (.aload_n 0, 1) := by decide +kernel
theorem dX3_timeWith_23 : decode cX3_timeWith 23 = .ok (.getfield 27, 3) := by decide +kernel
theorem dX3_timeWith_26 : decode cX3_timeWith 26 = .ok (.iconst 0, 1) := by decide +kernel
theorem dX3_timeWith_27 : decode cX3_timeWith 27 = .ok (.invokestatic 99, 3) := by decide +kernel
theorem dX3_timeWith_30 : decode cX3_timeWith 30 = .ok (.imul, 1) := by decide +kernel
theorem dX3_timeWith_31 : decode cX3_timeWith 31 = .ok (.aload_n 0, 1) := by decide +kernel
theorem dX3_timeWith_32 : decode cX3_timeWith 32 = .ok (.iload_n 1, 1) := by decide +kernel
theorem dX3_timeWith_33 : decode cX3_timeWith 33 = .ok (.invokevirtual 118, 3) := by decide +kernel
theorem dX3_timeWith_36 : decode cX3_timeWith 36 = .ok (.imul, 1) := by decide +kernel
theorem dX3_timeWith_37 : decode cX3_timeWith 37 = .ok (.istore_n 3, 1) := by decide +kernel
theorem dX3_timeWith_38 : decode cX3_timeWith 38 = .ok (.iload_n 3, 1) := by decide +kernel
theorem dX3_timeWith_39 : decode cX3_timeWith 39 = .ok (.iload_n 2, 1) := by decide +kernel
theorem dX3_timeWith_40 : decode cX3_timeWith 40 = .ok (.iadd, 1) := by decide +kernel
theorem dX3_timeWith_41 : decode cX3_timeWith 41 = .ok (.iconst 1, 1) := by decide +kernel
theorem dX3_timeWith_42 : decode cX3_timeWith 42 = .ok (.isub, 1) := by decide +kernel
theorem dX3_timeWith_43 : decode cX3_timeWith 43 = .ok (.iload_n 2, 1) := by decide +kernel
theorem dX3_timeWith_44 : decode cX3_timeWith 44 = .ok (.idiv, 1) := by decide +kernel
theorem dX3_timeWith_45 : decode cX3_timeWith 45 = .ok (.ireturn, 1) := by decide +kernel
set_option maxRecDepth 20000 in
theorem ggX3_timeOf_X3_speedOf : GoodIn wsX3_timeOf wsX3_speedOf := goodIn_r _ [5, 6, 7, 8, 9, 10, 11, 12, 13, 14, 15, 16, 42, 43, 44, 45, 46, 47, 48, 49, 50, 51, 52, 53, 54, 55, 56, 57, 58, 59, 60, 61, 62, 63, 64, 65] (by decide +kernel) (by decide +kernel)
set_option maxRecDepth 20000 in
theorem gX3_timeOf_X3_speedOf : GoodIn wsX3_timeOf (wsV RX3 121 RX3 yX3_speedOf wsX3_speedOf) := goodIn_app (goodIn_of _ (by decide +kernel)) ggX3_timeOf_X3_speedOf
set_option maxRecDepth 20000 in
theorem ggX3_timeOf_X3_timeWith : GoodIn wsX3_timeOf wsX3_timeWith := goodIn_r _ [20, 7, 21, 22, 23, 24, 11, 25, 26, 14, 15, 16, 27, 28, 29, 4, 30, 31, 32, 33, 34, 35, 36, 37, 38, 39, 40, 41, 42, 43, 44, 45, 46, 47, 48, 49, 50, 51, 52, 53, 54, 55, 56, 57, 58, 59, 60, 61, 62, 63, 64, 65] (by decide +kernel) (by decide +kernel)
set_option maxRecDepth 20000 in
theorem gX3_timeOf_X3_timeWith : GoodIn wsX3_timeOf (wsV RX3 124 RX3 yX3_timeWith wsX3_timeWith) := goodIn_app (goodIn_of _ (by decide +kernel)) ggX3_timeOf_X3_timeWith
theorem dX3_timeOf_0 : decode cX3_timeOf 0 = .ok (.aload_n 0, 1) := by decide +kernel
theorem dX3_timeOf_1 : decode cX3_timeOf 1 = .ok (.iload_n 1, 1) := by decide +kernel
theorem dX3_timeOf_2 : decode cX3_timeOf 2 = .ok (.aload_n 0, 1) := by decide +kernel
theorem dX3_timeOf_3 : decode cX3_timeOf 3 = .ok (.iload_n 1, 1) := by decide +kernel
theorem dX3_timeOf_4 : decode cX3_timeOf 4 = .ok (.invokevirtual 121, 3) := by decide +kernel
theorem dX3_timeOf_7 : decode cX3_timeOf 7 = .ok (.invokevirtual 124, 3) := by decide +kernel
theorem dX3_timeOf_10 : decode cX3_timeOf 10 = .ok (.ireturn, 1) := by decide +kernel
set_option maxRecDepth 20000 in
theorem ggX3_speedOf_X4_classOf : GoodIn wsX3_speedOf wsX4_classOf := goodIn_r _ [7, 8, 9, 10, 11, 27, 28, 29, 30, 31, 32, 33, 34, 35] (by decide +kernel) (by decide +kernel)
set_option maxRecDepth 20000 in
theorem gX3_speedOf_X4_classOf : GoodIn wsX3_speedOf (wsV RX3 127 RX4 yX4_classOf wsX4_classOf) := goodIn_app (goodIn_of _ (by decide +kernel)) ggX3_speedOf_X4_classOf
set_option maxRecDepth 20000 in
theorem ggX3_speedOf_X5_at : GoodIn wsX3_speedOf wsX5_at := goodIn_r _ [11] (by decide +kernel) (by decide +kernel)
set_option maxRecDepth 20000 in
theorem gX3_speedOf_X5_at_n99 : GoodIn wsX3_speedOf (wsX5_at) := ggX3_speedOf_X5_at
theorem dX3_speedOf_0 : decode cX3_speedOf 0 = .ok (.aload_n 0, 1) := by decide +kernel
theorem dX3_speedOf_1 : decode cX3_speedOf 1 = .ok (.getfield 30, 3) := by decide +kernel
theorem dX3_speedOf_4 : decode cX3_speedOf 4 = .ok (.aload_n 0, 1) := by decide +kernel
theorem dX3_speedOf_5 : decode cX3_speedOf 5 = .ok (.getfield 9, 3) := by decide +kernel
theorem dX3_speedOf_8 : decode cX3_speedOf 8 = .ok (.iload_n 1, 1) := by decide +kernel
theorem dX3_speedOf_9 : decode cX3_speedOf 9 = .ok (.invokevirtual 127, 3) := by decide +kernel
theorem dX3_speedOf_12 : decode cX3_speedOf 12 = .ok (.invokestatic 99, 3) := by decide +kernel
theorem dX3_speedOf_15 : decode cX3_speedOf 15 = .ok (.ireturn, 1) := by decide +kernel
set_option maxRecDepth 20000 in
theorem ggX3_timeOfAll_X3_timeOf : GoodIn wsX3_timeOfAll wsX3_timeOf := goodIn_r _ [5, 6, 7, 8, 4, 9, 10, 11, 12, 13, 14, 15, 16, 17, 18, 19, 20, 21, 22, 23, 24, 25, 26, 27, 28, 29, 30, 31, 32, 33, 34, 35, 36, 37, 38, 39, 40, 41, 42, 43, 44, 45, 46, 47, 48, 49, 50, 51, 52, 53, 54, 55, 56, 57, 58, 59, 60, 61, 62, 63, 64, 65, 66, 67, 68, 69] (by decide +kernel) (by decide +kernel)
set_option maxRecDepth 20000 in
theorem gX3_timeOfAll_X3_timeOf : GoodIn wsX3_timeOfAll (wsV RX3 130 RX3 yX3_timeOf wsX3_timeOf) := goodIn_app (goodIn_of _ (by decide +kernel)) ggX3_timeOfAll_X3_timeOf
theorem dX3_timeOfAll_0 : decode cX3_timeOfAll 0 = .ok (.iconst 0, 1) := by decide +kernel
theorem dX3_timeOfAll_1 : decode cX3_timeOfAll 1 = .ok (.istore_n 3, 1) := by decide +kernel
theorem dX3_timeOfAll_2 : decode cX3_timeOfAll 2 = .ok (.iload_n 1, 1) := by decide +kernel
theorem dX3_timeOfAll_3 : decode cX3_timeOfAll 3 = .ok (.istore 4, 2) := by decide +kernel
theorem dX3_timeOfAll_5 : decode cX3_timeOfAll 5 = .ok (.iload 4, 2) := by decide +kernel
theorem dX3_timeOfAll_7 : decode cX3_timeOfAll 7 = .ok (.iload_n 2, 1) := by decide +kernel
theorem dX3_timeOfAll_8 : decode cX3_timeOfAll 8 = .ok (.if_icmp .gt 18, 3) := by decide +kernel
theorem dX3_timeOfAll_11 : decode cX3_timeOfAll 11 = .ok (.iload_n 3, 1) := by decide +kernel
theorem dX3_timeOfAll_12 : decode cX3_timeOfAll 12 = .ok (.aload_n 0, 1) := by decide +kernel
theorem dX3_timeOfAll_13 : decode cX3_timeOfAll 13 = .ok (.iload 4, 2) := by decide +kernel
theorem dX3_timeOfAll_15 : decode cX3_timeOfAll 15 = .ok (.invokevirtual 130, 3) := by decide +kernel
theorem dX3_timeOfAll_18 : decode cX3_timeOfAll 18 = .ok (.iadd, 1) := by decide +kernel
theorem dX3_timeOfAll_19 : decode cX3_timeOfAll 19 = .ok (.istore_n 3, 1) := by decide +kernel
theorem dX3_timeOfAll_20 : decode cX3_timeOfAll 20 = .ok (.iinc 4 1, 3) := by decide +kernel
theorem dX3_timeOfAll_23 : decode cX3_timeOfAll 23 = .ok (.goto (-18), 3) := by decide +kernel
theorem dX3_timeOfAll_26 : decode cX3_timeOfAll 26 = .ok (.iload_n 3, 1) := by decide +kernel
theorem dX3_timeOfAll_27 : decode cX3_timeOfAll 27 = .ok (.ireturn, 1) := by decide +kernel
set_option maxRecDepth 20000 in
theorem ggX3_becomePresent_X4_has : GoodIn wsX3_becomePresent wsX4_has := goodIn_r _ [9, 10, 67, 68, 69, 70, 71, 72, 73, 74, 75] (by decide +kernel) (by decide +kernel)
set_option maxRecDepth 20000 in
theorem gX3_becomePresent_X4_has : GoodIn wsX3_becomePresent (wsV RX3 81 RX4 yX4_has wsX4_has) := goodIn_app (goodIn_of _ (by decide +kernel)) ggX3_becomePresent_X4_has
set_option maxRecDepth 20000 in
theorem ggX3_becomePresent_X3_speedOf : GoodIn wsX3_becomePresent wsX3_speedOf := goodIn_r _ [15, 16, 1, 17, 18, 19, 8, 20, 21, 22, 23, 24, 52, 53, 54, 55, 56, 57, 58, 59, 60, 61, 62, 63, 64, 65, 66, 67, 68, 69, 70, 71, 72, 73, 74, 75] (by decide +kernel) (by decide +kernel)
set_option maxRecDepth 20000 in
theorem gX3_becomePresent_X3_speedOf : GoodIn wsX3_becomePresent (wsV RX3 121 RX3 yX3_speedOf wsX3_speedOf) := goodIn_app (goodIn_of _ (by decide +kernel)) ggX3_becomePresent_X3_speedOf
set_option maxRecDepth 20000 in
theorem ggX3_becomePresent_X3_timeWith : GoodIn wsX3_becomePresent wsX3_timeWith := goodIn_r _ [28, 1, 29, 30, 31, 32, 8, 33, 34, 22, 23, 24, 35, 36, 37, 14, 38, 39, 40, 41, 42, 43, 44, 45, 46, 47, 48, 49, 52, 53, 54, 55, 56, 57, 58, 59, 60, 61, 62, 63, 64, 65, 66, 67, 68, 69, 70, 71, 72, 73, 74, 75] (by decide +kernel) (by decide +kernel)
set_option maxRecDepth 20000 in
theorem gX3_becomePresent_X3_timeWith : GoodIn wsX3_becomePresent (wsV RX3 124 RX3 yX3_timeWith wsX3_timeWith) := goodIn_app (goodIn_of _ (by decide +kernel)) ggX3_becomePresent_X3_timeWith
set_option maxRecDepth 20000 in
theorem ggX3_becomePresent_X5_put : GoodIn wsX3_becomePresent wsX5_put := goodIn_r _ [51] (by decide +kernel) (by decide +kernel)
set_option maxRecDepth 20000 in
theorem gX3_becomePresent_X5_put_n133 : GoodIn wsX3_becomePresent (wsX5_put) := ggX3_becomePresent_X5_put
theorem dX3_becomePresent_0 : decode cX3_becomePresent 0 = .ok (.aload_n 0, 1) := by decide +kernel
theorem dX3_becomePresent_1 : decode cX3_becomePresent 1 = .ok (.getfield 9, 3) := by decide +kernel
theorem dX3_becomePresent_4 : decode cX3_becomePresent 4 = .ok (.iload_n 1, 1) := by decide +kernel
theorem dX3_becomePresent_5 : decode cX3_becomePresent 5 = .ok (.invokevirtual 81, 3) := by decide +kernel
theorem dX3_becomePresent_8 : decode cX3_becomePresent 8 = .ok (.ifCond .ne 14, 3) := by decide +kernel
theorem dX3_becomePresent_11 : decode cX3_becomePresent 11 = .ok (.aload_n 0, 1) := by decide +kernel
theorem dX3_becomePresent_12 : decode cX3_becomePresent 12 = .ok (.iconst (-1), 1) := by decide +kernel
theorem dX3_becomePresent_13 : decode cX3_becomePresent 13 = .ok (.putfield 46, 3) := by decide +kernel
theorem dX3_becomePresent_16 : decode cX3_becomePresent 16 = .ok (.aload_n 0, 1) := by decide +kernel
theorem dX3_becomePresent_17 : decode cX3_becomePresent 17 = .ok (.iconst 0, 1) := by decide +kernel
theorem dX3_becomePresent_18 : decode cX3_becomePresent 18 = .ok (.putfield 57, 3) := by decide +kernel
theorem dX3_becomePresent_21 : decode cX3_becomePresent 21 = .ok (.return_, 1) := by decide +kernel
theorem dX3_becomePresent_22 : decode cX3_becomePresent 22 = .ok (.aload_n 0, 1) := by decide +kernel
theorem dX3_becomePresent_23 : decode cX3_becomePresent 23 = .ok (.iload_n 1, 1) := by decide +kernel
theorem dX3_becomePresent_24 : decode cX3_becomePresent 24 = .ok (.putfield 46, 3) := by decide +kernel
theorem dX3_becomePresent_27 : decode cX3_becomePresent 27 = .ok (.aload_n 0, 1) := by decide +kernel
theorem dX3_becomePresent_28 : decode cX3_becomePresent 28 = .ok (.aload_n 0, 1) := by decide +kernel
theorem dX3_becomePresent_29 : decode cX3_becomePresent 29 = .ok (.iload_n 1, 1) := by decide +kernel
theorem dX3_becomePresent_30 : decode cX3_becomePresent 30 = .ok (.aload_n 0, 1) := by decide +kernel
theorem dX3_becomePresent_31 : decode cX3_becomePresent 31 = .ok (.iload_n 1, 1) := by decide +kernel
theorem dX3_becomePresent_32 : decode cX3_becomePresent 32 = .ok (.invokevirtual 121, 3) := by decide +kernel
theorem dX3_becomePresent_35 : decode cX3_becomePresent 35 = .ok (.invokevirtual 124, 3) := by decide +kernel
theorem dX3_becomePresent_38 : decode cX3_becomePresent 38 = .ok (.putfield 57, 3) := by decide +kernel
theorem dX3_becomePresent_41 : decode cX3_becomePresent 41 = .ok (.aload_n 0, 1) := by decide +kernel
theorem dX3_becomePresent_42 : decode cX3_becomePresent 42 = .ok (.getfield 39, 3) := by decide +kernel
theorem dX3_becomePresent_45 : decode cX3_becomePresent 45 = .ok (.arraylength, 1) := by decide +kernel
theorem dX3_becomePresent_46 : decode cX3_becomePresent 46 = .ok (.iconst 1, 1) := by decide +kernel
theorem dX3_becomePresent_47 : decode cX3_becomePresent 47 = .ok (.isub, 1) := by decide +kernel
theorem dX3_becomePresent_48 : decode cX3_becomePresent 48 = .ok (.istore_n 2, 1) := by decide +kernel
theorem dX3_becomePresent_49 : decode cX3_becomePresent 49 = .ok (.iload_n 2, 1) := by decide +kernel
theorem dX3_becomePresent_50 : decode cX3_becomePresent 50 = .ok (.ifCond .le 23, 3) := by decide +kernel
theorem dX3_becomePresent_53 : decode cX3_becomePresent 53 = .ok (.aload_n 0, 1) := by decide +kernel
theorem dX3_becomePresent_54 : decode cX3_becomePresent 54 = .ok (.getfield 39, 3) := by decide +kernel
theorem dX3_becomePresent_57 : decode cX3_becomePresent 57 = .ok (.iload_n 2, 1) := by decide +kernel
theorem dX3_becomePresent_58 : decode cX3_becomePresent 58 = .ok (.aload_n 0, 1) := by decide +kernel
theorem dX3_becomePresent_59 : decode cX3_becomePresent 59 = .ok (.getfield 39, 3) := by decide +kernel
theorem dX3_becomePresent_62 : decode cX3_becomePresent 62 = .ok (.iload_n 2, 1) := by decide +kernel
theorem dX3_becomePresent_63 : decode cX3_becomePresent 63 = .ok (.iconst 1, 1) := by decide +kernel
theorem dX3_becomePresent_64 : decode cX3_becomePresent 64 = .ok (.isub, 1) := by decide +kernel
theorem dX3_becomePresent_65 : decode cX3_becomePresent 65 = .ok (.iaload, 1) := by decide +kernel
theorem dX3_becomePresent_66 : decode cX3_becomePresent 66 = .ok (.iastore, 1) := by decide +kernel
theorem dX3_becomePresent_67 : decode cX3_becomePresent 67 = .ok (.iinc 2 (-1), 3) := by decide +kernel
theorem dX3_becomePresent_70 : decode cX3_becomePresent 70 = .ok (.goto (-21), 3) := by decide +kernel
theorem dX3_becomePresent_73 : decode cX3_becomePresent 73 = .ok (.aload_n 0, 1) := by decide +kernel
theorem dX3_becomePresent_74 : decode cX3_becomePresent 74 = .ok (.getfield 39, 3) := by decide +kernel
theorem dX3_becomePresent_77 : decode cX3_becomePresent 77 = .ok (.iconst 0, 1) := by decide +kernel
theorem dX3_becomePresent_78 : decode cX3_becomePresent 78 = .ok (.iload_n 1, 1) := by decide +kernel
theorem dX3_becomePresent_79 : decode cX3_becomePresent 79 = .ok (.invokestatic 133, 3) := by decide +kernel
theorem dX3_becomePresent_82 : decode cX3_becomePresent 82 = .ok (.return_, 1) := by decide +kernel
theorem dX3_passError_0 : decode cX3_passError 0 = .ok (.iload_n 1, 1) := by decide +kernel
theorem dX3_passError_1 : decode cX3_passError 1 = .ok (.iconst 1, 1) := by decide +kernel
theorem dX3_passError_2 : decode cX3_passError 2 = .ok (.if_icmp .lt 10, 3) := by decide +kernel
theorem dX3_passError_5 : decode cX3_passError 5 = .ok (.iload_n 1, 1) := by decide +kernel
theorem dX3_passError_6 : decode cX3_passError 6 = .ok (.sipush 9999, 3) := by decide +kernel
theorem dX3_passError_9 : decode cX3_passError 9 = .ok (.if_icmp .le 5, 3) := by decide +kernel
theorem dX3_passError_12 : decode cX3_passError 12 = .ok (.iconst (-1), 1) := by decide +kernel
theorem dX3_passError_13 : decode cX3_passError 13 = .ok (.ireturn, 1) := by decide +kernel
theorem dX3_passError_14 : decode cX3_passError 14 = .ok (.aload_n 0, 1) := by decide +kernel
theorem dX3_passError_15 : decode cX3_passError 15 = .ok (.getfield 46, 3) := by decide +kernel
theorem dX3_passError_18 : decode cX3_passError 18 = .ok (.iconst (-1), 1) := by decide +kernel
theorem dX3_passError_19 : decode cX3_passError 19 = .ok (.if_icmp .ne 8, 3) := by decide +kernel
theorem dX3_passError_22 : decode cX3_passError 22 = .ok (.bipush (-2), 2) := by decide +kernel
theorem dX3_passError_24 : decode cX3_passError 24 = .ok (.goto 4, 3) := by decide +kernel
theorem dX3_passError_27 : decode cX3_passError 27 = .ok (.iconst 0, 1) := by decide +kernel
theorem dX3_passError_28 : decode cX3_passError 28 = .ok (.ireturn, 1) := by decide +kernel
set_option maxRecDepth 20000 in
theorem ggX3_letPass_X4_shownBehind : GoodIn wsX3_letPass wsX4_shownBehind := goodIn_r _ [10, 11, 12, 13, 14, 9, 15, 16, 17, 18, 19, 100, 101, 102, 103, 104, 105, 106, 107, 108] (by decide +kernel) (by decide +kernel)
set_option maxRecDepth 20000 in
theorem gX3_letPass_X4_shownBehind : GoodIn wsX3_letPass (wsV RX3 88 RX4 yX4_shownBehind wsX4_shownBehind) := goodIn_app (goodIn_of _ (by decide +kernel)) ggX3_letPass_X4_shownBehind
set_option maxRecDepth 20000 in
theorem ggX3_letPass_X4_endsAheadOf : GoodIn wsX3_letPass wsX4_endsAheadOf := goodIn_r _ [23, 24, 25, 17, 18, 19, 100, 101, 102, 103, 104, 105, 106, 107, 108, 109, 110, 111, 112] (by decide +kernel) (by decide +kernel)
set_option maxRecDepth 20000 in
theorem gX3_letPass_X4_endsAheadOf : GoodIn wsX3_letPass (wsV RX3 137 RX4 yX4_endsAheadOf wsX4_endsAheadOf) := goodIn_app (goodIn_of _ (by decide +kernel)) ggX3_letPass_X4_endsAheadOf
set_option maxRecDepth 20000 in
theorem ggX3_letPass_X3_endSentenceOf : GoodIn wsX3_letPass wsX3_endSentenceOf := goodIn_r _ [30, 4, 31, 32, 33, 34, 35, 36, 37, 38, 39, 40, 17, 18, 19, 41, 42, 43, 9, 44, 12, 13, 14, 15, 16, 45, 46, 47, 48, 49, 50, 51, 85, 86, 87, 88, 89, 90, 91, 92, 93, 94, 95, 96, 97, 98, 99, 100, 101, 102, 103, 104, 105, 106, 107, 108, 109, 110, 111, 112] (by decide +kernel) (by decide +kernel)
set_option maxRecDepth 20000 in
theorem gX3_letPass_X3_endSentenceOf : GoodIn wsX3_letPass (wsV RX3 141 RX3 yX3_endSentenceOf wsX3_endSentenceOf) := goodIn_app (goodIn_of _ (by decide +kernel)) ggX3_letPass_X3_endSentenceOf
set_option maxRecDepth 20000 in
theorem ggX3_letPass_X3_becomePresent : GoodIn wsX3_letPass wsX3_becomePresent := goodIn_r _ [55, 4, 1, 2, 56, 57, 58, 59, 9, 60, 11, 61, 62, 63, 29, 64, 35, 65, 46, 47, 48, 49, 17, 18, 19, 66, 67, 68, 69, 36, 70, 13, 14, 15, 16, 71, 72, 73, 74, 75, 76, 77, 39, 78, 79, 80, 81, 82, 83, 84, 50, 51, 85, 86, 87, 88, 89, 90, 91, 92, 93, 94, 95, 96, 97, 98, 99, 100, 101, 102, 103, 104, 105, 106, 107, 108] (by decide +kernel) (by decide +kernel)
set_option maxRecDepth 20000 in
theorem gX3_letPass_X3_becomePresent : GoodIn wsX3_letPass (wsV RX3 92 RX3 yX3_becomePresent wsX3_becomePresent) := goodIn_app (goodIn_of _ (by decide +kernel)) ggX3_letPass_X3_becomePresent
theorem dX3_letPass_0 : decode cX3_letPass 0 = .ok (.iload_n 1, 1) := by decide +kernel
theorem dX3_letPass_1 : decode cX3_letPass 1 = .ok (.istore_n 2, 1) := by decide +kernel
theorem dX3_letPass_2 : decode cX3_letPass 2 = .ok (.iconst 0, 1) := by decide +kernel
theorem dX3_letPass_3 : decode cX3_letPass 3 = .ok (.istore_n 3, 1) := by decide +kernel
theorem dX3_letPass_4 : decode cX3_letPass 4 = .ok (.iload_n 3, 1) := by decide +kernel
theorem dX3_letPass_5 : decode cX3_letPass 5 = .ok (.sipush 150, 3) := by decide +kernel
theorem dX3_letPass_8 : decode cX3_letPass 8 = .ok (.if_icmp .ge 88, 3) := by decide +kernel
theorem dX3_letPass_11 : decode cX3_letPass 11 = .ok (.aload_n 0, 1) := by decide +kernel
theorem dX3_letPass_12 : decode cX3_letPass 12 = .ok (.getfield 46, 3) := by decide +kernel
theorem dX3_letPass_15 : decode cX3_letPass 15 = .ok (.iconst (-1), 1) := by decide +kernel
theorem dX3_letPass_16 : decode cX3_letPass 16 = .ok (.if_icmp .eq 80, 3) := by decide +kernel
theorem dX3_letPass_19 : decode cX3_letPass 19 = .ok (.iload_n 2, 1) := by decide +kernel
theorem dX3_letPass_20 : decode cX3_letPass 20 = .ok (.aload_n 0, 1) := by decide +kernel
theorem dX3_letPass_21 : decode cX3_letPass 21 = .ok (.getfield 57, 3) := by decide +kernel
theorem dX3_letPass_24 : decode cX3_letPass 24 = .ok (.if_icmp .lt 72, 3) := by decide +kernel
theorem dX3_letPass_27 : decode cX3_letPass 27 = .ok (.iload_n 2, 1) := by decide +kernel
theorem dX3_letPass_28 : decode cX3_letPass 28 = .ok (.aload_n 0, 1) := by decide +kernel
theorem dX3_letPass_29 : decode cX3_letPass 29 = .ok (.getfield 57, 3) := by decide +kernel
theorem dX3_letPass_32 : decode cX3_letPass 32 = .ok (.isub, 1) := by decide +kernel
theorem dX3_letPass_33 : decode cX3_letPass 33 = .ok (.istore_n 2, 1) := by decide +kernel
theorem dX3_letPass_34 : decode cX3_letPass 34 = .ok (.aload_n 0, 1) := by decide +kernel
theorem dX3_letPass_35 : decode cX3_letPass 35 = .ok (.dup, 1) := by decide +kernel
theorem dX3_letPass_36 : decode cX3_letPass 36 = .ok (.getfield 67, 3) := by decide +kernel
theorem dX3_letPass_39 : decode cX3_letPass 39 = .ok (.aload_n 0, 1) := by decide +kernel
theorem dX3_letPass_40 : decode cX3_letPass 40 = .ok (.getfield 57, 3) := by decide +kernel
theorem dX3_letPass_43 : decode cX3_letPass 43 = .ok (.iadd, 1) := by decide +kernel
theorem dX3_letPass_44 : decode cX3_letPass 44 = .ok (.putfield 67, 3) := by decide +kernel
theorem dX3_letPass_47 : decode cX3_letPass 47 = .ok (.iinc 3 1, 3) := by decide +kernel
theorem dX3_letPass_50 : decode cX3_letPass 50 = .ok (.aload_n 0, 1) := by decide +kernel
theorem dX3_letPass_51 : decode cX3_letPass 51 = .ok (.getfield 9, 3) := by decide +kernel
theorem dX3_letPass_54 : decode cX3_letPass 54 = .ok (.aload_n 0, 1) := by decide +kernel
theorem dX3_letPass_55 : decode cX3_letPass 55 = .ok (.getfield 46, 3) := by decide +kernel
theorem dX3_letPass_58 : decode cX3_letPass 58 = .ok (.invokevirtual 88, 3) := by decide +kernel
theorem dX3_letPass_61 : decode cX3_letPass 61 = .ok (.istore 4, 2) := by decide +kernel
theorem dX3_letPass_63 : decode cX3_letPass 63 = .ok (.aload_n 0, 1) := by decide +kernel
theorem dX3_letPass_64 : decode cX3_letPass 64 = .ok (.getfield 9, 3) := by decide +kernel
theorem dX3_letPass_67 : decode cX3_letPass 67 = .ok (.iload 4, 2) := by decide +kernel
theorem dX3_letPass_69 : decode cX3_letPass 69 = .ok (.aload_n 0, 1) := by decide +kernel
theorem dX3_letPass_70 : decode cX3_letPass 70 = .ok (.getfield 46, 3) := by decide +kernel
theorem dX3_letPass_73 : decode cX3_letPass 73 = .ok (.invokevirtual 137, 3) := by decide +kernel
theorem dX3_letPass_76 : decode cX3_letPass 76 = .ok (.ifCond .eq 11, 3) := by decide +kernel
theorem dX3_letPass_79 : decode cX3_letPass 79 = .ok (.aload_n 0, 1) := by decide +kernel
theorem dX3_letPass_80 : decode cX3_letPass 80 = .ok (.aload_n 0, 1) := by decide +kernel
theorem dX3_letPass_81 : decode cX3_letPass 81 = .ok (.getfield 46, 3) := by decide +kernel
theorem dX3_letPass_84 : decode cX3_letPass 84 = .ok (.invokevirtual 141, 3) := by decide +kernel
theorem dX3_letPass_87 : decode cX3_letPass 87 = .ok (.aload_n 0, 1) := by decide +kernel
theorem dX3_letPass_88 : decode cX3_letPass 88 = .ok (.iload 4, 2) := by decide +kernel
theorem dX3_letPass_90 : decode cX3_letPass 90 = .ok (.invokevirtual 92, 3) := by decide +kernel
theorem dX3_letPass_93 : decode cX3_letPass 93 = .ok (.goto (-89), 3) := by decide +kernel
theorem dX3_letPass_96 : decode cX3_letPass 96 = .ok (.aload_n 0, 1) := by decide +kernel
theorem dX3_letPass_97 : decode cX3_letPass 97 = .ok (.getfield 46, 3) := by decide +kernel
theorem dX3_letPass_100 : decode cX3_letPass 100 = .ok (.iconst (-1), 1) := by decide +kernel
theorem dX3_letPass_101 : decode cX3_letPass 101 = .ok (.if_icmp .eq 23, 3) := by decide +kernel
theorem dX3_letPass_104 : decode cX3_letPass 104 = .ok (.aload_n 0, 1) := by decide +kernel
theorem dX3_letPass_105 : decode cX3_letPass 105 = .ok (.dup, 1) := by decide +kernel
theorem dX3_letPass_106 : decode cX3_letPass 106 = .ok (.getfield 57, 3) := by decide +kernel
theorem dX3_letPass_109 : decode cX3_letPass 109 = .ok (.iload_n 2, 1) := by decide +kernel
theorem dX3_letPass_110 : decode cX3_letPass 110 = .ok (.isub, 1) := by decide +kernel
theorem dX3_letPass_111 : decode cX3_letPass 111 = .ok (.putfield 57, 3) := by decide +kernel
theorem dX3_letPass_114 : decode cX3_letPass 114 = .ok (.aload_n 0, 1) := by decide +kernel
theorem dX3_letPass_115 : decode cX3_letPass 115 = .ok (.dup, 1) := by decide +kernel
theorem dX3_letPass_116 : decode cX3_letPass 116 = .ok (.getfield 67, 3) := by decide +kernel
theorem dX3_letPass_119 : decode cX3_letPass 119 = .ok (.iload_n 2, 1) := by decide +kernel
theorem dX3_letPass_120 : decode cX3_letPass 120 = .ok (.iadd, 1) := by decide +kernel
theorem dX3_letPass_121 : decode cX3_letPass 121 = .ok (.putfield 67, 3) := by decide +kernel
theorem dX3_letPass_124 : decode cX3_letPass 124 = .ok (.aload_n 0, 1) := by decide +kernel
theorem dX3_letPass_125 : decode cX3_letPass 125 = .ok (.dup, 1) := by decide +kernel
theorem dX3_letPass_126 : decode cX3_letPass 126 = .ok (.getfield 70, 3) := by decide +kernel
theorem dX3_letPass_129 : decode cX3_letPass 129 = .ok (.iload_n 3, 1) := by decide +kernel
theorem dX3_letPass_130 : decode cX3_letPass 130 = .ok (.iadd, 1) := by decide +kernel
theorem dX3_letPass_131 : decode cX3_letPass 131 = .ok (.putfield 70, 3) := by decide +kernel
theorem dX3_letPass_134 : decode cX3_letPass 134 = .ok (.iload_n 3, 1) := by decide +kernel
theorem dX3_letPass_135 : decode cX3_letPass 135 = .ok (.ireturn, 1) := by decide +kernel
set_option maxRecDepth 20000 in
theorem ggX3_endSentenceOf_X5_at : GoodIn wsX3_endSentenceOf wsX5_at := goodIn_r _ [14] (by decide +kernel) (by decide +kernel)
set_option maxRecDepth 20000 in
theorem gX3_endSentenceOf_X5_at_n99 : GoodIn wsX3_endSentenceOf (wsX5_at) := ggX3_endSentenceOf_X5_at
set_option maxRecDepth 20000 in
theorem ggX3_endSentenceOf_X4_hasClassAmong : GoodIn wsX3_endSentenceOf wsX4_hasClassAmong := goodIn_r _ [19, 20, 21, 22, 18, 23, 24, 12, 13, 14, 25, 26, 27, 28, 29, 47, 48, 49, 50, 51, 52, 53, 54, 55] (by decide +kernel) (by decide +kernel)
set_option maxRecDepth 20000 in
theorem gX3_endSentenceOf_X4_hasClassAmong : GoodIn wsX3_endSentenceOf (wsV RX3 156 RX4 yX4_hasClassAmong wsX4_hasClassAmong) := goodIn_app (goodIn_of _ (by decide +kernel)) ggX3_endSentenceOf_X4_hasClassAmong
set_option maxRecDepth 20000 in
theorem ggX3_endSentenceOf_X5_put : GoodIn wsX3_endSentenceOf wsX5_put := goodIn_r _ [31] (by decide +kernel) (by decide +kernel)
set_option maxRecDepth 20000 in
theorem gX3_endSentenceOf_X5_put_n133 : GoodIn wsX3_endSentenceOf (wsX5_put) := ggX3_endSentenceOf_X5_put
theorem dX3_endSentenceOf_0 : decode cX3_endSentenceOf 0 = .ok (.aload_n 0, 1) := by decide +kernel
theorem dX3_endSentenceOf_1 : decode cX3_endSentenceOf 1 = .ok (.getfield 9, 3) := by decide +kernel
theorem dX3_endSentenceOf_4 : decode cX3_endSentenceOf 4 = .ok (.getfield 144, 3) := by decide +kernel
theorem dX3_endSentenceOf_7 : decode cX3_endSentenceOf 7 = .ok (.getfield 148, 3) := by decide +kernel
theorem dX3_endSentenceOf_10 : decode cX3_endSentenceOf 10 = .ok (.iload_n 1, 1) := by decide +kernel
theorem dX3_endSentenceOf_11 : decode cX3_endSentenceOf 11 = .ok (.invokestatic 99, 3) := by decide +kernel
theorem dX3_endSentenceOf_14 : decode cX3_endSentenceOf 14 = .ok (.istore_n 2, 1) := by decide +kernel
theorem dX3_endSentenceOf_15 : decode cX3_endSentenceOf 15 = .ok (.aload_n 0, 1) := by decide +kernel
theorem dX3_endSentenceOf_16 : decode cX3_endSentenceOf 16 = .ok (.getfield 9, 3) := by decide +kernel
theorem dX3_endSentenceOf_19 : decode cX3_endSentenceOf 19 = .ok (.getfield 144, 3) := by decide +kernel
theorem dX3_endSentenceOf_22 : decode cX3_endSentenceOf 22 = .ok (.getfield 153, 3) := by decide +kernel
theorem dX3_endSentenceOf_25 : decode cX3_endSentenceOf 25 = .ok (.iload_n 2, 1) := by decide +kernel
theorem dX3_endSentenceOf_26 : decode cX3_endSentenceOf 26 = .ok (.invokestatic 99, 3) := by decide +kernel
theorem dX3_endSentenceOf_29 : decode cX3_endSentenceOf 29 = .ok (.istore_n 3, 1) := by decide +kernel
theorem dX3_endSentenceOf_30 : decode cX3_endSentenceOf 30 = .ok (.iconst 0, 1) := by decide +kernel
theorem dX3_endSentenceOf_31 : decode cX3_endSentenceOf 31 = .ok (.istore 4, 2) := by decide +kernel
theorem dX3_endSentenceOf_33 : decode cX3_endSentenceOf 33 = .ok (.iload 4, 2) := by decide +kernel
theorem dX3_endSentenceOf_35 : decode cX3_endSentenceOf 35 = .ok (.iconst 3, 1) := by decide +kernel
theorem dX3_endSentenceOf_36 : decode cX3_endSentenceOf 36 = .ok (.if_icmp .ge 64, 3) := by decide +kernel
theorem dX3_endSentenceOf_39 : decode cX3_endSentenceOf 39 = .ok (.aload_n 0, 1) := by decide +kernel
theorem dX3_endSentenceOf_40 : decode cX3_endSentenceOf 40 = .ok (.getfield 63, 3) := by decide +kernel
theorem dX3_endSentenceOf_43 : decode cX3_endSentenceOf 43 = .ok (.ifCond .ne 57, 3) := by decide +kernel
theorem dX3_endSentenceOf_46 : decode cX3_endSentenceOf 46 = .ok (.aload_n 0, 1) := by decide +kernel
theorem dX3_endSentenceOf_47 : decode cX3_endSentenceOf 47 = .ok (.getfield 9, 3) := by decide +kernel
theorem dX3_endSentenceOf_50 : decode cX3_endSentenceOf 50 = .ok (.iload 4, 2) := by decide +kernel
theorem dX3_endSentenceOf_52 : decode cX3_endSentenceOf 52 = .ok (.iload_n 3, 1) := by decide +kernel
theorem dX3_endSentenceOf_53 : decode cX3_endSentenceOf 53 = .ok (.iload_n 1, 1) := by decide +kernel
theorem dX3_endSentenceOf_54 : decode cX3_endSentenceOf 54 = .ok (.invokevirtual 156, 3) := by decide +kernel
theorem dX3_endSentenceOf_57 : decode cX3_endSentenceOf 57 = .ok (.ifCond .eq 37, 3) := by decide +kernel
theorem dX3_endSentenceOf_60 : decode cX3_endSentenceOf 60 = .ok (.aload_n 0, 1) := by decide +kernel
theorem dX3_endSentenceOf_61 : decode cX3_endSentenceOf 61 = .ok (.getfield 30, 3) := by decide +kernel
theorem dX3_endSentenceOf_64 : decode cX3_endSentenceOf 64 = .ok (.iload 4, 2) := by decide +kernel
theorem dX3_endSentenceOf_66 : decode cX3_endSentenceOf 66 = .ok (.sipush 400, 3) := by decide +kernel
theorem dX3_endSentenceOf_69 : decode cX3_endSentenceOf 69 = .ok (.aload_n 0, 1) := by decide +kernel
theorem dX3_endSentenceOf_70 : decode cX3_endSentenceOf 70 = .ok (.getfield 30, 3) := by decide +kernel
theorem dX3_endSentenceOf_73 : decode cX3_endSentenceOf 73 = .ok (.iload 4, 2) := by decide +kernel
theorem dX3_endSentenceOf_75 : decode cX3_endSentenceOf 75 = .ok (.invokestatic 99, 3) := by decide +kernel
theorem dX3_endSentenceOf_78 : decode cX3_endSentenceOf 78 = .ok (.aload_n 0, 1) := by decide +kernel
theorem dX3_endSentenceOf_79 : decode cX3_endSentenceOf 79 = .ok (.getfield 27, 3) := by decide +kernel
theorem dX3_endSentenceOf_82 : decode cX3_endSentenceOf 82 = .ok (.bipush 6, 2) := by decide +kernel
theorem dX3_endSentenceOf_84 : decode cX3_endSentenceOf 84 = .ok (.invokestatic 99, 3) := by decide +kernel
theorem dX3_endSentenceOf_87 : decode cX3_endSentenceOf 87 = .ok (.iadd, 1) := by decide +kernel
theorem dX3_endSentenceOf_88 : decode cX3_endSentenceOf 88 = .ok (.invokestatic 160, 3) := by decide +kernel
theorem dX3_endSentenceOf_91 : decode cX3_endSentenceOf 91 = .ok (.invokestatic 133, 3) := by decide +kernel
theorem dX3_endSentenceOf_94 : decode cX3_endSentenceOf 94 = .ok (.iinc 4 1, 3) := by decide +kernel
theorem dX3_endSentenceOf_97 : decode cX3_endSentenceOf 97 = .ok (.goto (-64), 3) := by decide +kernel
theorem dX3_endSentenceOf_100 : decode cX3_endSentenceOf 100 = .ok (.aload_n 0, 1) := by decide +kernel
theorem dX3_endSentenceOf_101 : decode cX3_endSentenceOf 101 = .ok (.iconst 0, 1) := by decide +kernel
theorem dX3_endSentenceOf_102 : decode cX3_endSentenceOf 102 = .ok (.putfield 63, 3) := by decide +kernel
theorem dX3_endSentenceOf_105 : decode cX3_endSentenceOf 105 = .ok (.return_, 1) := by decide +kernel
set_option maxRecDepth 20000 in
theorem ggX3_askError_X4_shownBehind : GoodIn wsX3_askError wsX4_shownBehind := goodIn_r _ [6, 7, 8, 9, 10, 5, 11, 12, 13, 14, 15, 31, 32, 33, 34, 35, 36, 37, 38, 39] (by decide +kernel) (by decide +kernel)
set_option maxRecDepth 20000 in
theorem gX3_askError_X4_shownBehind : GoodIn wsX3_askError (wsV RX3 88 RX4 yX4_shownBehind wsX4_shownBehind) := goodIn_app (goodIn_of _ (by decide +kernel)) ggX3_askError_X4_shownBehind
theorem dX3_askError_0 : decode cX3_askError 0 = .ok (.aload_n 0, 1) := by decide +kernel
theorem dX3_askError_1 : decode cX3_askError 1 = .ok (.getfield 9, 3) := by decide +kernel
theorem dX3_askError_4 : decode cX3_askError 4 = .ok (.iconst (-1), 1) := by decide +kernel
theorem dX3_askError_5 : decode cX3_askError 5 = .ok (.invokevirtual 88, 3) := by decide +kernel
theorem dX3_askError_8 : decode cX3_askError 8 = .ok (.iconst (-1), 1) := by decide +kernel
theorem dX3_askError_9 : decode cX3_askError 9 = .ok (.if_icmp .ne 8, 3) := by decide +kernel
theorem dX3_askError_12 : decode cX3_askError 12 = .ok (.bipush (-2), 2) := by decide +kernel
theorem dX3_askError_14 : decode cX3_askError 14 = .ok (.goto 4, 3) := by decide +kernel
theorem dX3_askError_17 : decode cX3_askError 17 = .ok (.iconst 0, 1) := by decide +kernel
theorem dX3_askError_18 : decode cX3_askError 18 = .ok (.ireturn, 1) := by decide +kernel
set_option maxRecDepth 20000 in
theorem ggX3_askBack_X3_isClassOfLatest : GoodIn wsX3_askBack wsX3_isClassOfLatest := goodIn_r _ [13, 14, 15, 16, 17, 18, 19, 20, 21, 22, 23, 24, 77, 78, 79, 80, 81, 82, 83, 84, 85, 86, 87, 88, 89, 90, 91, 92, 93, 94, 95, 96, 97, 98, 99, 100] (by decide +kernel) (by decide +kernel)
set_option maxRecDepth 20000 in
theorem gX3_askBack_X3_isClassOfLatest : GoodIn wsX3_askBack (wsV RX3 163 RX3 yX3_isClassOfLatest wsX3_isClassOfLatest) := goodIn_app (goodIn_of _ (by decide +kernel)) ggX3_askBack_X3_isClassOfLatest
set_option maxRecDepth 20000 in
theorem ggX3_askBack_X5_at : GoodIn wsX3_askBack wsX5_at := goodIn_r _ [24] (by decide +kernel) (by decide +kernel)
set_option maxRecDepth 20000 in
theorem gX3_askBack_X5_at_n99 : GoodIn wsX3_askBack (wsX5_at) := ggX3_askBack_X5_at
set_option maxRecDepth 20000 in
theorem ggX3_askBack_X5_put : GoodIn wsX3_askBack wsX5_put := goodIn_r _ [26] (by decide +kernel) (by decide +kernel)
set_option maxRecDepth 20000 in
theorem gX3_askBack_X5_put_n133 : GoodIn wsX3_askBack (wsX5_put) := ggX3_askBack_X5_put
set_option maxRecDepth 20000 in
theorem ggX3_askBack_X3_wordAskedFor : GoodIn wsX3_askBack wsX3_wordAskedFor := goodIn_r _ [30, 31, 15, 32, 33, 34, 35, 36, 37, 38, 19, 39, 40, 41, 22, 23, 24, 42, 43, 44, 45, 46, 77, 78, 79, 80, 81, 82, 83, 84, 85, 86, 87, 88, 89, 90, 91, 92, 93, 94, 95, 96, 97, 98, 99, 100, 101, 102, 103, 104] (by decide +kernel) (by decide +kernel)
set_option maxRecDepth 20000 in
theorem gX3_askBack_X3_wordAskedFor : GoodIn wsX3_askBack (wsV RX3 166 RX3 yX3_wordAskedFor wsX3_wordAskedFor) := goodIn_app (goodIn_of _ (by decide +kernel)) ggX3_askBack_X3_wordAskedFor
set_option maxRecDepth 20000 in
theorem ggX3_askBack_X3_becomePresent : GoodIn wsX3_askBack wsX3_becomePresent := goodIn_r _ [50, 15, 31, 51, 14, 52, 53, 54, 19, 55, 56, 57, 58, 59, 12, 60, 1, 16, 17, 18, 20, 21, 22, 23, 24, 61, 62, 63, 64, 2, 65, 43, 44, 45, 46, 66, 67, 68, 69, 70, 3, 4, 5, 6, 71, 72, 73, 74, 75, 76, 25, 26, 77, 78, 79, 80, 81, 82, 83, 84, 85, 86, 87, 88, 89, 90, 91, 92, 93, 94, 95, 96, 97, 98, 99, 100] (by decide +kernel) (by decide +kernel)
set_option maxRecDepth 20000 in
theorem gX3_askBack_X3_becomePresent : GoodIn wsX3_askBack (wsV RX3 92 RX3 yX3_becomePresent wsX3_becomePresent) := goodIn_app (goodIn_of _ (by decide +kernel)) ggX3_askBack_X3_becomePresent
theorem dX3_askBack_0 : decode cX3_askBack 0 = .ok (.iconst 0, 1) := by decide +kernel
theorem dX3_askBack_1 : decode cX3_askBack 1 = .ok (.istore_n 1, 1) := by decide +kernel
theorem dX3_askBack_2 : decode cX3_askBack 2 = .ok (.iload_n 1, 1) := by decide +kernel
theorem dX3_askBack_3 : decode cX3_askBack 3 = .ok (.iconst 3, 1) := by decide +kernel
theorem dX3_askBack_4 : decode cX3_askBack 4 = .ok (.if_icmp .ge 47, 3) := by decide +kernel
theorem dX3_askBack_7 : decode cX3_askBack 7 = .ok (.aload_n 0, 1) := by decide +kernel
theorem dX3_askBack_8 : decode cX3_askBack 8 = .ok (.iload_n 1, 1) := by decide +kernel
theorem dX3_askBack_9 : decode cX3_askBack 9 = .ok (.invokevirtual 163, 3) := by decide +kernel
theorem dX3_askBack_12 : decode cX3_askBack 12 = .ok (.ifCond .eq 33, 3) := by decide +kernel
theorem dX3_askBack_15 : decode cX3_askBack 15 = .ok (.aload_n 0, 1) := by decide +kernel
theorem dX3_askBack_16 : decode cX3_askBack 16 = .ok (.getfield 30, 3) := by decide +kernel
theorem dX3_askBack_19 : decode cX3_askBack 19 = .ok (.iload_n 1, 1) := by decide +kernel
theorem dX3_askBack_20 : decode cX3_askBack 20 = .ok (.bipush 50, 2) := by decide +kernel
theorem dX3_askBack_22 : decode cX3_askBack 22 = .ok (.aload_n 0, 1) := by decide +kernel
theorem dX3_askBack_23 : decode cX3_askBack 23 = .ok (.getfield 30, 3) := by decide +kernel
theorem dX3_askBack_26 : decode cX3_askBack 26 = .ok (.iload_n 1, 1) := by decide +kernel
theorem dX3_askBack_27 : decode cX3_askBack 27 = .ok (.invokestatic 99, 3) := by decide +kernel
theorem dX3_askBack_30 : decode cX3_askBack 30 = .ok (.aload_n 0, 1) := by decide +kernel
theorem dX3_askBack_31 : decode cX3_askBack 31 = .ok (.getfield 27, 3) := by decide +kernel
theorem dX3_askBack_34 : decode cX3_askBack 34 = .ok (.iconst 5, 1) := by decide +kernel
theorem dX3_askBack_35 : decode cX3_askBack 35 = .ok (.invokestatic 99, 3) := by decide +kernel
theorem dX3_askBack_38 : decode cX3_askBack 38 = .ok (.isub, 1) := by decide +kernel
theorem dX3_askBack_39 : decode cX3_askBack 39 = .ok (.invokestatic 103, 3) := by decide +kernel
theorem dX3_askBack_42 : decode cX3_askBack 42 = .ok (.invokestatic 133, 3) := by decide +kernel
theorem dX3_askBack_45 : decode cX3_askBack 45 = .ok (.iinc 1 1, 3) := by decide +kernel
theorem dX3_askBack_48 : decode cX3_askBack 48 = .ok (.goto (-46), 3) := by decide +kernel
theorem dX3_askBack_51 : decode cX3_askBack 51 = .ok (.aload_n 0, 1) := by decide +kernel
theorem dX3_askBack_52 : decode cX3_askBack 52 = .ok (.iconst 1, 1) := by decide +kernel
theorem dX3_askBack_53 : decode cX3_askBack 53 = .ok (.putfield 63, 3) := by decide +kernel
theorem dX3_askBack_56 : decode cX3_askBack 56 = .ok (.aload_n 0, 1) := by decide +kernel
theorem dX3_askBack_57 : decode cX3_askBack 57 = .ok (.dup, 1) := by decide +kernel
theorem dX3_askBack_58 : decode cX3_askBack 58 = .ok (.getfield 73, 3) := by decide +kernel
theorem dX3_askBack_61 : decode cX3_askBack 61 = .ok (.iconst 1, 1) := by decide +kernel
theorem dX3_askBack_62 : decode cX3_askBack 62 = .ok (.iadd, 1) := by decide +kernel
theorem dX3_askBack_63 : decode cX3_askBack 63 = .ok (.putfield 73, 3) := by decide +kernel
theorem dX3_askBack_66 : decode cX3_askBack 66 = .ok (.aload_n 0, 1) := by decide +kernel
theorem dX3_askBack_67 : decode cX3_askBack 67 = .ok (.aload_n 0, 1) := by decide +kernel
theorem dX3_askBack_68 : decode cX3_askBack 68 = .ok (.invokevirtual 166, 3) := by decide +kernel
theorem dX3_askBack_71 : decode cX3_askBack 71 = .ok (.invokevirtual 92, 3) := by decide +kernel
theorem dX3_askBack_74 : decode cX3_askBack 74 = .ok (.return_, 1) := by decide +kernel
set_option maxRecDepth 20000 in
theorem ggX3_isClassOfLatest_X4_classOf : GoodIn wsX3_isClassOfLatest wsX4_classOf := goodIn_r _ [7, 8, 9, 10, 11, 27, 28, 29, 30, 31, 32, 33, 34, 35] (by decide +kernel) (by decide +kernel)
set_option maxRecDepth 20000 in
theorem gX3_isClassOfLatest_X4_classOf : GoodIn wsX3_isClassOfLatest (wsV RX3 127 RX4 yX4_classOf wsX4_classOf) := goodIn_app (goodIn_of _ (by decide +kernel)) ggX3_isClassOfLatest_X4_classOf
theorem dX3_isClassOfLatest_0 : decode cX3_isClassOfLatest 0 = .ok (.iconst 0, 1) := by decide +kernel
theorem dX3_isClassOfLatest_1 : decode cX3_isClassOfLatest 1 = .ok (.istore_n 2, 1) := by decide +kernel
theorem dX3_isClassOfLatest_2 : decode cX3_isClassOfLatest 2 = .ok (.iload_n 2, 1) := by decide +kernel
theorem dX3_isClassOfLatest_3 : decode cX3_isClassOfLatest 3 = .ok (.aload_n 0, 1) := by decide +kernel
theorem dX3_isClassOfLatest_4 : decode cX3_isClassOfLatest 4 = .ok (.getfield 39, 3) := by decide +kernel
theorem dX3_isClassOfLatest_7 : decode cX3_isClassOfLatest 7 = .ok (.arraylength, 1) := by decide +kernel
theorem dX3_isClassOfLatest_8 : decode cX3_isClassOfLatest 8 = .ok (.if_icmp .ge 38, 3) := by decide +kernel
theorem dX3_isClassOfLatest_11 : decode cX3_isClassOfLatest 11 = .ok (.aload_n 0, 1) := by decide +kernel
theorem dX3_isClassOfLatest_12 : decode cX3_isClassOfLatest 12 = .ok (.getfield 39, 3) := by decide +kernel
theorem dX3_isClassOfLatest_15 : decode cX3_isClassOfLatest 15 = .ok (.iload_n 2, 1) := by decide +kernel
theorem dX3_isClassOfLatest_16 : decode cX3_isClassOfLatest 16 = .ok (.iaload, 1) := by decide +kernel
theorem dX3_isClassOfLatest_17 : decode cX3_isClassOfLatest 17 = .ok (.iconst (-1), 1) := by decide +kernel
theorem dX3_isClassOfLatest_18 : decode cX3_isClassOfLatest 18 = .ok (.if_icmp .eq 22, 3) := by decide +kernel
theorem dX3_isClassOfLatest_21 : decode cX3_isClassOfLatest 21 = .ok (.aload_n 0, 1) := by decide +kernel
theorem dX3_isClassOfLatest_22 : decode cX3_isClassOfLatest 22 = .ok (.getfield 9, 3) := by decide +kernel
theorem dX3_isClassOfLatest_25 : decode cX3_isClassOfLatest 25 = .ok (.aload_n 0, 1) := by decide +kernel
theorem dX3_isClassOfLatest_26 : decode cX3_isClassOfLatest 26 = .ok (.getfield 39, 3) := by decide +kernel
theorem dX3_isClassOfLatest_29 : decode cX3_isClassOfLatest 29 = .ok (.iload_n 2, 1) := by decide +kernel
theorem dX3_isClassOfLatest_30 : decode cX3_isClassOfLatest 30 = .ok (.iaload, 1) := by decide +kernel
theorem dX3_isClassOfLatest_31 : decode cX3_isClassOfLatest 31 = .ok (.invokevirtual 127, 3) := by decide +kernel
theorem dX3_isClassOfLatest_34 : decode cX3_isClassOfLatest 34 = .ok (.iload_n 1, 1) := by decide +kernel
theorem dX3_isClassOfLatest_35 : decode cX3_isClassOfLatest 35 = .ok (.if_icmp .ne 5, 3) := by decide +kernel
theorem dX3_isClassOfLatest_38 : decode cX3_isClassOfLatest 38 = .ok (.iconst 1, 1) := by decide +kernel
theorem dX3_isClassOfLatest_39 : decode cX3_isClassOfLatest 39 = .ok (.ireturn, 1) := by decide +kernel
theorem dX3_isClassOfLatest_40 : decode cX3_isClassOfLatest 40 = .ok (.iinc 2 1, 3) := by decide +kernel
theorem dX3_isClassOfLatest_43 : decode cX3_isClassOfLatest 43 = .ok (.goto (-41), 3) := by decide +kernel
theorem dX3_isClassOfLatest_46 : decode cX3_isClassOfLatest 46 = .ok (.iconst 0, 1) := by decide +kernel
theorem dX3_isClassOfLatest_47 : decode cX3_isClassOfLatest 47 = .ok (.ireturn, 1) := by decide +kernel
set_option maxRecDepth 20000 in
theorem ggX3_wordAskedFor_X4_firstBeforeSentence : GoodIn wsX3_wordAskedFor wsX4_firstBeforeSentence := goodIn_r _ [11, 12, 13, 14, 15, 16, 17, 18, 19, 10, 20, 21, 37, 38, 39, 40, 41, 42, 43, 44, 45, 46, 47, 48, 49] (by decide +kernel) (by decide +kernel)
set_option maxRecDepth 20000 in
theorem gX3_wordAskedFor_X4_firstBeforeSentence : GoodIn wsX3_wordAskedFor (wsV RX3 173 RX4 yX4_firstBeforeSentence wsX4_firstBeforeSentence) := goodIn_app (goodIn_of _ (by decide +kernel)) ggX3_wordAskedFor_X4_firstBeforeSentence
set_option maxRecDepth 20000 in
theorem ggX3_wordAskedFor_X5_at : GoodIn wsX3_wordAskedFor wsX5_at := goodIn_r _ [16] (by decide +kernel) (by decide +kernel)
set_option maxRecDepth 20000 in
theorem gX3_wordAskedFor_X5_at_n99 : GoodIn wsX3_wordAskedFor (wsX5_at) := ggX3_wordAskedFor_X5_at
theorem dX3_wordAskedFor_0 : decode cX3_wordAskedFor 0 = .ok (.aload_n 0, 1) := by decide +kernel
theorem dX3_wordAskedFor_1 : decode cX3_wordAskedFor 1 = .ok (.getfield 46, 3) := by decide +kernel
theorem dX3_wordAskedFor_4 : decode cX3_wordAskedFor 4 = .ok (.iconst (-1), 1) := by decide +kernel
theorem dX3_wordAskedFor_5 : decode cX3_wordAskedFor 5 = .ok (.if_icmp .ne 21, 3) := by decide +kernel
theorem dX3_wordAskedFor_8 : decode cX3_wordAskedFor 8 = .ok (.aload_n 0, 1) := by decide +kernel
theorem dX3_wordAskedFor_9 : decode cX3_wordAskedFor 9 = .ok (.getfield 9, 3) := by decide +kernel
theorem dX3_wordAskedFor_12 : decode cX3_wordAskedFor 12 = .ok (.aload_n 0, 1) := by decide +kernel
theorem dX3_wordAskedFor_13 : decode cX3_wordAskedFor 13 = .ok (.getfield 9, 3) := by decide +kernel
theorem dX3_wordAskedFor_16 : decode cX3_wordAskedFor 16 = .ok (.getfield 144, 3) := by decide +kernel
theorem dX3_wordAskedFor_19 : decode cX3_wordAskedFor 19 = .ok (.getfield 170, 3) := by decide +kernel
theorem dX3_wordAskedFor_22 : decode cX3_wordAskedFor 22 = .ok (.invokevirtual 173, 3) := by decide +kernel
theorem dX3_wordAskedFor_25 : decode cX3_wordAskedFor 25 = .ok (.ireturn, 1) := by decide +kernel
theorem dX3_wordAskedFor_26 : decode cX3_wordAskedFor 26 = .ok (.aload_n 0, 1) := by decide +kernel
theorem dX3_wordAskedFor_27 : decode cX3_wordAskedFor 27 = .ok (.getfield 9, 3) := by decide +kernel
theorem dX3_wordAskedFor_30 : decode cX3_wordAskedFor 30 = .ok (.getfield 144, 3) := by decide +kernel
theorem dX3_wordAskedFor_33 : decode cX3_wordAskedFor 33 = .ok (.getfield 148, 3) := by decide +kernel
theorem dX3_wordAskedFor_36 : decode cX3_wordAskedFor 36 = .ok (.aload_n 0, 1) := by decide +kernel
theorem dX3_wordAskedFor_37 : decode cX3_wordAskedFor 37 = .ok (.getfield 46, 3) := by decide +kernel
theorem dX3_wordAskedFor_40 : decode cX3_wordAskedFor 40 = .ok (.invokestatic 99, 3) := by decide +kernel
theorem dX3_wordAskedFor_43 : decode cX3_wordAskedFor 43 = .ok (.istore_n 1, 1) := by decide +kernel
theorem dX3_wordAskedFor_44 : decode cX3_wordAskedFor 44 = .ok (.aload_n 0, 1) := by decide +kernel
theorem dX3_wordAskedFor_45 : decode cX3_wordAskedFor 45 = .ok (.getfield 9, 3) := by decide +kernel
theorem dX3_wordAskedFor_48 : decode cX3_wordAskedFor 48 = .ok (.getfield 144, 3) := by decide +kernel
theorem dX3_wordAskedFor_51 : decode cX3_wordAskedFor 51 = .ok (.getfield 153, 3) := by decide +kernel
theorem dX3_wordAskedFor_54 : decode cX3_wordAskedFor 54 = .ok (.iload_n 1, 1) := by decide +kernel
theorem dX3_wordAskedFor_55 : decode cX3_wordAskedFor 55 = .ok (.invokestatic 99, 3) := by decide +kernel
theorem dX3_wordAskedFor_58 : decode cX3_wordAskedFor 58 = .ok (.istore_n 2, 1) := by decide +kernel
theorem dX3_wordAskedFor_59 : decode cX3_wordAskedFor 59 = .ok (.aload_n 0, 1) := by decide +kernel
theorem dX3_wordAskedFor_60 : decode cX3_wordAskedFor 60 = .ok (.getfield 46, 3) := by decide +kernel
theorem dX3_wordAskedFor_63 : decode cX3_wordAskedFor 63 = .ok (.iload_n 2, 1) := by decide +kernel
theorem dX3_wordAskedFor_64 : decode cX3_wordAskedFor 64 = .ok (.if_icmp .eq 5, 3) := by decide +kernel
theorem dX3_wordAskedFor_67 : decode cX3_wordAskedFor 67 = .ok (.iload_n 2, 1) := by decide +kernel
theorem dX3_wordAskedFor_68 : decode cX3_wordAskedFor 68 = .ok (.ireturn, 1) := by decide +kernel
theorem dX3_wordAskedFor_69 : decode cX3_wordAskedFor 69 = .ok (.aload_n 0, 1) := by decide +kernel
theorem dX3_wordAskedFor_70 : decode cX3_wordAskedFor 70 = .ok (.getfield 9, 3) := by decide +kernel
theorem dX3_wordAskedFor_73 : decode cX3_wordAskedFor 73 = .ok (.iload_n 1, 1) := by decide +kernel
theorem dX3_wordAskedFor_74 : decode cX3_wordAskedFor 74 = .ok (.invokevirtual 173, 3) := by decide +kernel
theorem dX3_wordAskedFor_77 : decode cX3_wordAskedFor 77 = .ok (.istore_n 3, 1) := by decide +kernel
theorem dX3_wordAskedFor_78 : decode cX3_wordAskedFor 78 = .ok (.iload_n 3, 1) := by decide +kernel
theorem dX3_wordAskedFor_79 : decode cX3_wordAskedFor 79 = .ok (.iconst (-1), 1) := by decide +kernel
theorem dX3_wordAskedFor_80 : decode cX3_wordAskedFor 80 = .ok (.if_icmp .ne 10, 3) := by decide +kernel
theorem dX3_wordAskedFor_83 : decode cX3_wordAskedFor 83 = .ok (.aload_n 0, 1) := by decide +kernel
theorem dX3_wordAskedFor_84 : decode cX3_wordAskedFor 84 = .ok (.getfield 46, 3) := by decide +kernel
theorem dX3_wordAskedFor_87 : decode cX3_wordAskedFor 87 = .ok (.goto 4, 3) := by decide +kernel
theorem dX3_wordAskedFor_90 : decode cX3_wordAskedFor 90 = .ok (.iload_n 3, 1) := by decide +kernel
theorem dX3_wordAskedFor_91 : decode cX3_wordAskedFor 91 = .ok (.ireturn, 1) := by decide +kernel
set_option maxRecDepth 20000 in
theorem ggX3_leapError_X2_has : GoodIn wsX3_leapError wsX2_has := goodIn_r _ [9, 10, 44, 45, 46, 47] (by decide +kernel) (by decide +kernel)
set_option maxRecDepth 20000 in
theorem gX3_leapError_X2_has : GoodIn wsX3_leapError (wsV RX3 176 RX2 yX2_has wsX2_has) := goodIn_app (goodIn_of _ (by decide +kernel)) ggX3_leapError_X2_has
set_option maxRecDepth 20000 in
theorem ggX3_leapError_X5_at : GoodIn wsX3_leapError wsX5_at := goodIn_r _ [13] (by decide +kernel) (by decide +kernel)
set_option maxRecDepth 20000 in
theorem gX3_leapError_X5_at_n99 : GoodIn wsX3_leapError (wsX5_at) := ggX3_leapError_X5_at
set_option maxRecDepth 20000 in
theorem ggX3_leapError_X4_isMark : GoodIn wsX3_leapError wsX4_isMark := goodIn_r _ [18, 19, 11, 12, 13, 35, 36, 37, 38, 39, 40, 41, 42, 43] (by decide +kernel) (by decide +kernel)
set_option maxRecDepth 20000 in
theorem gX3_leapError_X4_isMark : GoodIn wsX3_leapError (wsV RX3 85 RX4 yX4_isMark wsX4_isMark) := goodIn_app (goodIn_of _ (by decide +kernel)) ggX3_leapError_X4_isMark
theorem dX3_leapError_0 : decode cX3_leapError 0 = .ok (.aload_n 0, 1) := by decide +kernel
theorem dX3_leapError_1 : decode cX3_leapError 1 = .ok (.getfield 9, 3) := by decide +kernel
theorem dX3_leapError_4 : decode cX3_leapError 4 = .ok (.getfield 144, 3) := by decide +kernel
theorem dX3_leapError_7 : decode cX3_leapError 7 = .ok (.iload_n 1, 1) := by decide +kernel
theorem dX3_leapError_8 : decode cX3_leapError 8 = .ok (.invokevirtual 176, 3) := by decide +kernel
theorem dX3_leapError_11 : decode cX3_leapError 11 = .ok (.ifCond .ne 5, 3) := by decide +kernel
theorem dX3_leapError_14 : decode cX3_leapError 14 = .ok (.iconst (-1), 1) := by decide +kernel
theorem dX3_leapError_15 : decode cX3_leapError 15 = .ok (.ireturn, 1) := by decide +kernel
theorem dX3_leapError_16 : decode cX3_leapError 16 = .ok (.aload_n 0, 1) := by decide +kernel
theorem dX3_leapError_17 : decode cX3_leapError 17 = .ok (.getfield 46, 3) := by decide +kernel
theorem dX3_leapError_20 : decode cX3_leapError 20 = .ok (.iconst (-1), 1) := by decide +kernel
theorem dX3_leapError_21 : decode cX3_leapError 21 = .ok (.if_icmp .eq 27, 3) := by decide +kernel
theorem dX3_leapError_24 : decode cX3_leapError 24 = .ok (.aload_n 0, 1) := by decide +kernel
theorem dX3_leapError_25 : decode cX3_leapError 25 = .ok (.getfield 9, 3) := by decide +kernel
theorem dX3_leapError_28 : decode cX3_leapError 28 = .ok (.aload_n 0, 1) := by decide +kernel
theorem dX3_leapError_29 : decode cX3_leapError 29 = .ok (.getfield 9, 3) := by decide +kernel
theorem dX3_leapError_32 : decode cX3_leapError 32 = .ok (.getfield 144, 3) := by decide +kernel
theorem dX3_leapError_35 : decode cX3_leapError 35 = .ok (.getfield 153, 3) := by decide +kernel
theorem dX3_leapError_38 : decode cX3_leapError 38 = .ok (.iload_n 1, 1) := by decide +kernel
theorem dX3_leapError_39 : decode cX3_leapError 39 = .ok (.invokestatic 99, 3) := by decide +kernel
theorem dX3_leapError_42 : decode cX3_leapError 42 = .ok (.invokevirtual 85, 3) := by decide +kernel
theorem dX3_leapError_45 : decode cX3_leapError 45 = .ok (.ifCond .eq 6, 3) := by decide +kernel
theorem dX3_leapError_48 : decode cX3_leapError 48 = .ok (.bipush (-2), 2) := by decide +kernel
theorem dX3_leapError_50 : decode cX3_leapError 50 = .ok (.ireturn, 1) := by decide +kernel
theorem dX3_leapError_51 : decode cX3_leapError 51 = .ok (.iconst 0, 1) := by decide +kernel
theorem dX3_leapError_52 : decode cX3_leapError 52 = .ok (.ireturn, 1) := by decide +kernel
set_option maxRecDepth 20000 in
theorem ggX3_leapTo_X5_put : GoodIn wsX3_leapTo wsX5_put := goodIn_r _ [10] (by decide +kernel) (by decide +kernel)
set_option maxRecDepth 20000 in
theorem gX3_leapTo_X5_put_n133 : GoodIn wsX3_leapTo (wsX5_put) := ggX3_leapTo_X5_put
set_option maxRecDepth 20000 in
theorem ggX3_leapTo_X5_at : GoodIn wsX3_leapTo wsX5_at := goodIn_r _ [12] (by decide +kernel) (by decide +kernel)
set_option maxRecDepth 20000 in
theorem gX3_leapTo_X5_at_n99 : GoodIn wsX3_leapTo (wsX5_at) := ggX3_leapTo_X5_at
set_option maxRecDepth 20000 in
theorem ggX3_leapTo_X3_becomePresent : GoodIn wsX3_leapTo wsX3_becomePresent := goodIn_r _ [17, 5, 3, 18, 19, 20, 21, 22, 23, 24, 25, 26, 27, 28, 16, 29, 30, 31, 32, 33, 34, 35, 11, 9, 12, 36, 37, 38, 39, 40, 41, 42, 43, 44, 45, 46, 47, 48, 49, 50, 51, 52, 53, 54, 55, 56, 57, 58, 59, 60, 8, 10, 61, 62, 63, 64, 65, 66, 67, 68, 69, 70, 71, 72, 73, 74, 75, 76, 77, 78, 79, 80, 81, 82, 83, 84] (by decide +kernel) (by decide +kernel)
set_option maxRecDepth 20000 in
theorem gX3_leapTo_X3_becomePresent : GoodIn wsX3_leapTo (wsV RX3 92 RX3 yX3_becomePresent wsX3_becomePresent) := goodIn_app (goodIn_of _ (by decide +kernel)) ggX3_leapTo_X3_becomePresent
theorem dX3_leapTo_0 : decode cX3_leapTo 0 = .ok (.aload_n 0, 1) := by decide +kernel
theorem dX3_leapTo_1 : decode cX3_leapTo 1 = .ok (.getfield 60, 3) := by decide +kernel
theorem dX3_leapTo_4 : decode cX3_leapTo 4 = .ok (.iconst 5, 1) := by decide +kernel
theorem dX3_leapTo_5 : decode cX3_leapTo 5 = .ok (.if_icmp .lt 39, 3) := by decide +kernel
theorem dX3_leapTo_8 : decode cX3_leapTo 8 = .ok (.iconst 1, 1) := by decide +kernel
theorem dX3_leapTo_9 : decode cX3_leapTo 9 = .ok (.istore_n 2, 1) := by decide +kernel
theorem dX3_leapTo_10 : decode cX3_leapTo 10 = .ok (.iload_n 2, 1) := by decide +kernel
theorem dX3_leapTo_11 : decode cX3_leapTo 11 = .ok (.aload_n 0, 1) := by decide +kernel
theorem dX3_leapTo_12 : decode cX3_leapTo 12 = .ok (.getfield 36, 3) := by decide +kernel
theorem dX3_leapTo_15 : decode cX3_leapTo 15 = .ok (.arraylength, 1) := by decide +kernel
theorem dX3_leapTo_16 : decode cX3_leapTo 16 = .ok (.if_icmp .ge 23, 3) := by decide +kernel
theorem dX3_leapTo_19 : decode cX3_leapTo 19 = .ok (.aload_n 0, 1) := by decide +kernel
theorem dX3_leapTo_20 : decode cX3_leapTo 20 = .ok (.getfield 36, 3) := by decide +kernel
theorem dX3_leapTo_23 : decode cX3_leapTo 23 = .ok (.iload_n 2, 1) := by decide +kernel
theorem dX3_leapTo_24 : decode cX3_leapTo 24 = .ok (.iconst 1, 1) := by decide +kernel
theorem dX3_leapTo_25 : decode cX3_leapTo 25 = .ok (.isub, 1) := by decide +kernel
theorem dX3_leapTo_26 : decode cX3_leapTo 26 = .ok (.aload_n 0, 1) := by decide +kernel
theorem dX3_leapTo_27 : decode cX3_leapTo 27 = .ok (.getfield 36, 3) := by decide +kernel
theorem dX3_leapTo_30 : decode cX3_leapTo 30 = .ok (.iload_n 2, 1) := by decide +kernel
theorem dX3_leapTo_31 : decode cX3_leapTo 31 = .ok (.iaload, 1) := by decide +kernel
theorem dX3_leapTo_32 : decode cX3_leapTo 32 = .ok (.iastore, 1) := by decide +kernel
theorem dX3_leapTo_33 : decode cX3_leapTo 33 = .ok (.iinc 2 1, 3) := by decide +kernel
theorem dX3_leapTo_36 : decode cX3_leapTo 36 = .ok (.goto (-26), 3) := by decide +kernel
theorem dX3_leapTo_39 : decode cX3_leapTo 39 = .ok (.aload_n 0, 1) := by decide +kernel
theorem dX3_leapTo_40 : decode cX3_leapTo 40 = .ok (.iconst 4, 1) := by decide +kernel
theorem dX3_leapTo_41 : decode cX3_leapTo 41 = .ok (.putfield 60, 3) := by decide +kernel
theorem dX3_leapTo_44 : decode cX3_leapTo 44 = .ok (.aload_n 0, 1) := by decide +kernel
theorem dX3_leapTo_45 : decode cX3_leapTo 45 = .ok (.getfield 36, 3) := by decide +kernel
theorem dX3_leapTo_48 : decode cX3_leapTo 48 = .ok (.aload_n 0, 1) := by decide +kernel
theorem dX3_leapTo_49 : decode cX3_leapTo 49 = .ok (.getfield 60, 3) := by decide +kernel
theorem dX3_leapTo_52 : decode cX3_leapTo 52 = .ok (.aload_n 0, 1) := by decide +kernel
theorem dX3_leapTo_53 : decode cX3_leapTo 53 = .ok (.getfield 46, 3) := by decide +kernel
theorem dX3_leapTo_56 : decode cX3_leapTo 56 = .ok (.invokestatic 133, 3) := by decide +kernel
theorem dX3_leapTo_59 : decode cX3_leapTo 59 = .ok (.aload_n 0, 1) := by decide +kernel
theorem dX3_leapTo_60 : decode cX3_leapTo 60 = .ok (.dup, 1) := by decide +kernel
theorem dX3_leapTo_61 : decode cX3_leapTo 61 = .ok (.getfield 60, 3) := by decide +kernel
theorem dX3_leapTo_64 : decode cX3_leapTo 64 = .ok (.iconst 1, 1) := by decide +kernel
theorem dX3_leapTo_65 : decode cX3_leapTo 65 = .ok (.iadd, 1) := by decide +kernel
theorem dX3_leapTo_66 : decode cX3_leapTo 66 = .ok (.putfield 60, 3) := by decide +kernel
theorem dX3_leapTo_69 : decode cX3_leapTo 69 = .ok (.aload_n 0, 1) := by decide +kernel
theorem dX3_leapTo_70 : decode cX3_leapTo 70 = .ok (.iconst 0, 1) := by decide +kernel
theorem dX3_leapTo_71 : decode cX3_leapTo 71 = .ok (.putfield 63, 3) := by decide +kernel
theorem dX3_leapTo_74 : decode cX3_leapTo 74 = .ok (.aload_n 0, 1) := by decide +kernel
theorem dX3_leapTo_75 : decode cX3_leapTo 75 = .ok (.aload_n 0, 1) := by decide +kernel
theorem dX3_leapTo_76 : decode cX3_leapTo 76 = .ok (.getfield 9, 3) := by decide +kernel
theorem dX3_leapTo_79 : decode cX3_leapTo 79 = .ok (.getfield 144, 3) := by decide +kernel
theorem dX3_leapTo_82 : decode cX3_leapTo 82 = .ok (.getfield 153, 3) := by decide +kernel
theorem dX3_leapTo_85 : decode cX3_leapTo 85 = .ok (.iload_n 1, 1) := by decide +kernel
theorem dX3_leapTo_86 : decode cX3_leapTo 86 = .ok (.invokestatic 99, 3) := by decide +kernel
theorem dX3_leapTo_89 : decode cX3_leapTo 89 = .ok (.invokevirtual 92, 3) := by decide +kernel
theorem dX3_leapTo_92 : decode cX3_leapTo 92 = .ok (.return_, 1) := by decide +kernel
theorem dX3_returnError_0 : decode cX3_returnError 0 = .ok (.aload_n 0, 1) := by decide +kernel
theorem dX3_returnError_1 : decode cX3_returnError 1 = .ok (.getfield 60, 3) := by decide +kernel
theorem dX3_returnError_4 : decode cX3_returnError 4 = .ok (.ifCond .ne 8, 3) := by decide +kernel
theorem dX3_returnError_7 : decode cX3_returnError 7 = .ok (.bipush (-2), 2) := by decide +kernel
theorem dX3_returnError_9 : decode cX3_returnError 9 = .ok (.goto 4, 3) := by decide +kernel
theorem dX3_returnError_12 : decode cX3_returnError 12 = .ok (.iconst 0, 1) := by decide +kernel
theorem dX3_returnError_13 : decode cX3_returnError 13 = .ok (.ireturn, 1) := by decide +kernel
set_option maxRecDepth 20000 in
theorem ggX3_returnToPlace_X5_at : GoodIn wsX3_returnToPlace wsX5_at := goodIn_r _ [6] (by decide +kernel) (by decide +kernel)
set_option maxRecDepth 20000 in
theorem gX3_returnToPlace_X5_at_n99 : GoodIn wsX3_returnToPlace (wsX5_at) := ggX3_returnToPlace_X5_at
set_option maxRecDepth 20000 in
theorem ggX3_returnToPlace_X3_becomePresent : GoodIn wsX3_returnToPlace wsX3_becomePresent := goodIn_r _ [11, 12, 13, 14, 15, 16, 17, 18, 19, 20, 21, 22, 23, 24, 10, 25, 26, 27, 28, 29, 30, 31, 4, 5, 6, 32, 33, 34, 35, 36, 37, 38, 39, 40, 41, 42, 43, 44, 45, 46, 47, 48, 49, 50, 51, 52, 53, 54, 55, 56, 57, 58, 59, 60, 61, 62, 63, 64, 65, 66, 67, 68, 69, 70, 71, 72, 73, 74, 75, 76, 77, 78, 79, 80, 81, 82] (by decide +kernel) (by decide +kernel)
set_option maxRecDepth 20000 in
theorem gX3_returnToPlace_X3_becomePresent : GoodIn wsX3_returnToPlace (wsV RX3 92 RX3 yX3_becomePresent wsX3_becomePresent) := goodIn_app (goodIn_of _ (by decide +kernel)) ggX3_returnToPlace_X3_becomePresent
theorem dX3_returnToPlace_0 : decode cX3_returnToPlace 0 = .ok (.aload_n 0, 1) := by decide +kernel
theorem dX3_returnToPlace_1 : decode cX3_returnToPlace 1 = .ok (.dup, 1) := by decide +kernel
theorem dX3_returnToPlace_2 : decode cX3_returnToPlace 2 = .ok (.getfield 60, 3) := by decide +kernel
theorem dX3_returnToPlace_5 : decode cX3_returnToPlace 5 = .ok (.iconst 1, 1) := by decide +kernel
theorem dX3_returnToPlace_6 : decode cX3_returnToPlace 6 = .ok (.isub, 1) := by decide +kernel
theorem dX3_returnToPlace_7 : decode cX3_returnToPlace 7 = .ok (.putfield 60, 3) := by decide +kernel
theorem dX3_returnToPlace_10 : decode cX3_returnToPlace 10 = .ok (.aload_n 0, 1) := by decide +kernel
theorem dX3_returnToPlace_11 : decode cX3_returnToPlace 11 = .ok (.iconst 0, 1) := by decide +kernel
theorem dX3_returnToPlace_12 : decode cX3_returnToPlace 12 = .ok (.putfield 63, 3) := by decide +kernel
theorem dX3_returnToPlace_15 : decode cX3_returnToPlace 15 = .ok (.aload_n 0, 1) := by decide +kernel
theorem dX3_returnToPlace_16 : decode cX3_returnToPlace 16 = .ok (.aload_n 0, 1) := by decide +kernel
theorem dX3_returnToPlace_17 : decode cX3_returnToPlace 17 = .ok (.getfield 36, 3) := by decide +kernel
theorem dX3_returnToPlace_20 : decode cX3_returnToPlace 20 = .ok (.aload_n 0, 1) := by decide +kernel
theorem dX3_returnToPlace_21 : decode cX3_returnToPlace 21 = .ok (.getfield 60, 3) := by decide +kernel
theorem dX3_returnToPlace_24 : decode cX3_returnToPlace 24 = .ok (.invokestatic 99, 3) := by decide +kernel
theorem dX3_returnToPlace_27 : decode cX3_returnToPlace 27 = .ok (.invokevirtual 92, 3) := by decide +kernel
theorem dX3_returnToPlace_30 : decode cX3_returnToPlace 30 = .ok (.return_, 1) := by decide +kernel
theorem dX3_countNotes_0 : decode cX3_countNotes 0 = .ok (.iconst 0, 1) := by decide +kernel
theorem dX3_countNotes_1 : decode cX3_countNotes 1 = .ok (.istore_n 1, 1) := by decide +kernel
theorem dX3_countNotes_2 : decode cX3_countNotes 2 = .ok (.iconst 0, 1) := by decide +kernel
theorem dX3_countNotes_3 : decode cX3_countNotes 3 = .ok (.istore_n 2, 1) := by decide +kernel
theorem dX3_countNotes_4 : decode cX3_countNotes 4 = .ok (.iload_n 2, 1) := by decide +kernel
theorem dX3_countNotes_5 : decode cX3_countNotes 5 = .ok (.aload_n 0, 1) := by decide +kernel
theorem dX3_countNotes_6 : decode cX3_countNotes 6 = .ok (.getfield 33, 3) := by decide +kernel
theorem dX3_countNotes_9 : decode cX3_countNotes 9 = .ok (.arraylength, 1) := by decide +kernel
theorem dX3_countNotes_10 : decode cX3_countNotes 10 = .ok (.if_icmp .ge 21, 3) := by decide +kernel
theorem dX3_countNotes_13 : decode cX3_countNotes 13 = .ok (.aload_n 0, 1) := by decide +kernel
theorem dX3_countNotes_14 : decode cX3_countNotes 14 = .ok (.getfield 33, 3) := by decide +kernel
theorem dX3_countNotes_17 : decode cX3_countNotes 17 = .ok (.iload_n 2, 1) := by decide +kernel
theorem dX3_countNotes_18 : decode cX3_countNotes 18 = .ok (.iaload, 1) := by decide +kernel
theorem dX3_countNotes_19 : decode cX3_countNotes 19 = .ok (.ifCond .eq 6, 3) := by decide +kernel
theorem dX3_countNotes_22 : decode cX3_countNotes 22 = .ok (.iinc 1 1, 3) := by decide +kernel
theorem dX3_countNotes_25 : decode cX3_countNotes 25 = .ok (.iinc 2 1, 3) := by decide +kernel
theorem dX3_countNotes_28 : decode cX3_countNotes 28 = .ok (.goto (-24), 3) := by decide +kernel
theorem dX3_countNotes_31 : decode cX3_countNotes 31 = .ok (.iload_n 1, 1) := by decide +kernel
theorem dX3_countNotes_32 : decode cX3_countNotes 32 = .ok (.ireturn, 1) := by decide +kernel
set_option maxRecDepth 20000 in
theorem ggX4_init_X2_init : GoodIn wsX4_init wsX2_init := goodIn_r _ [18, 19, 2, 3, 4, 20, 21, 22, 32, 33, 34, 35] (by decide +kernel) (by decide +kernel)
set_option maxRecDepth 20000 in
theorem gX4_init_X2_init : GoodIn wsX4_init (wsX2_init) := ggX4_init_X2_init
theorem dX4_init_0 : decode cX4_init 0 = .ok (.aload_n 0, 1) := by decide +kernel
theorem dX4_init_1 : decode cX4_init 1 = .ok (.invokespecial 3, 3) := by decide +kernel
theorem dX4_init_4 : decode cX4_init 4 = .ok (.aload_n 0, 1) := by decide +kernel
theorem dX4_init_5 : decode cX4_init 5 = .ok (.sipush 150, 3) := by decide +kernel
theorem dX4_init_8 : decode cX4_init 8 = .ok (.newarray .int, 2) := by decide +kernel
theorem dX4_init_10 : decode cX4_init 10 = .ok (.putfield 9, 3) := by decide +kernel
theorem dX4_init_13 : decode cX4_init 13 = .ok (.aload_n 0, 1) := by decide +kernel
theorem dX4_init_14 : decode cX4_init 14 = .ok (.sipush 150, 3) := by decide +kernel
theorem dX4_init_17 : decode cX4_init 17 = .ok (.newarray .int, 2) := by decide +kernel
theorem dX4_init_19 : decode cX4_init 19 = .ok (.putfield 15, 3) := by decide +kernel
theorem dX4_init_22 : decode cX4_init 22 = .ok (.aload_n 0, 1) := by decide +kernel
theorem dX4_init_23 : decode cX4_init 23 = .ok (.sipush 150, 3) := by decide +kernel
theorem dX4_init_26 : decode cX4_init 26 = .ok (.newarray .int, 2) := by decide +kernel
theorem dX4_init_28 : decode cX4_init 28 = .ok (.putfield 18, 3) := by decide +kernel
theorem dX4_init_31 : decode cX4_init 31 = .ok (.aload_n 0, 1) := by decide +kernel
theorem dX4_init_32 : decode cX4_init 32 = .ok (.sipush 150, 3) := by decide +kernel
theorem dX4_init_35 : decode cX4_init 35 = .ok (.newarray .int, 2) := by decide +kernel
theorem dX4_init_37 : decode cX4_init 37 = .ok (.putfield 21, 3) := by decide +kernel
theorem dX4_init_40 : decode cX4_init 40 = .ok (.aload_n 0, 1) := by decide +kernel
theorem dX4_init_41 : decode cX4_init 41 = .ok (.sipush 150, 3) := by decide +kernel
theorem dX4_init_44 : decode cX4_init 44 = .ok (.newarray .int, 2) := by decide +kernel
theorem dX4_init_46 : decode cX4_init 46 = .ok (.putfield 24, 3) := by decide +kernel
theorem dX4_init_49 : decode cX4_init 49 = .ok (.aload_n 0, 1) := by decide +kernel
theorem dX4_init_50 : decode cX4_init 50 = .ok (.sipush 150, 3) := by decide +kernel
theorem dX4_init_53 : decode cX4_init 53 = .ok (.newarray .int, 2) := by decide +kernel
theorem dX4_init_55 : decode cX4_init 55 = .ok (.putfield 27, 3) := by decide +kernel
theorem dX4_init_58 : decode cX4_init 58 = .ok (.aload_n 0, 1) := by decide +kernel
theorem dX4_init_59 : decode cX4_init 59 = .ok (.new 30, 3) := by decide +kernel
theorem dX4_init_62 : decode cX4_init 62 = .ok (.dup, 1) := by decide +kernel
theorem dX4_init_63 : decode cX4_init 63 = .ok (.invokespecial 32, 3) := by decide +kernel
theorem dX4_init_66 : decode cX4_init 66 = .ok (.putfield 33, 3) := by decide +kernel
theorem dX4_init_69 : decode cX4_init 69 = .ok (.aload_n 0, 1) := by decide +kernel
theorem dX4_init_70 : decode cX4_init 70 = .ok (.new 30, 3) := by decide +kernel
theorem dX4_init_73 : decode cX4_init 73 = .ok (.dup, 1) := by decide +kernel
theorem dX4_init_74 : decode cX4_init 74 = .ok (.invokespecial 32, 3) := by decide +kernel
theorem dX4_init_77 : decode cX4_init 77 = .ok (.putfield 37, 3) := by decide +kernel
theorem dX4_init_80 : decode cX4_init 80 = .ok (.return_, 1) := by decide +kernel
set_option maxRecDepth 20000 in
theorem ggX4_read_X5_at : GoodIn wsX4_read wsX5_at := goodIn_r _ [4] (by decide +kernel) (by decide +kernel)
set_option maxRecDepth 20000 in
theorem gX4_read_X5_at_n44 : GoodIn wsX4_read (wsX5_at) := ggX4_read_X5_at
set_option maxRecDepth 20000 in
theorem ggX4_read_X4_add : GoodIn wsX4_read wsX4_add := goodIn_r _ [9, 10, 1, 11, 12, 13, 14, 15, 2, 3, 4, 16, 17, 18, 19, 20, 21, 22, 23, 24, 25, 26, 27, 28, 29, 8, 30, 50, 51, 52, 53, 54, 55, 56, 57, 58] (by decide +kernel) (by decide +kernel)
set_option maxRecDepth 20000 in
theorem gX4_read_X4_add : GoodIn wsX4_read (wsV RX4 48 RX4 yX4_add wsX4_add) := goodIn_app (goodIn_of _ (by decide +kernel)) ggX4_read_X4_add
set_option maxRecDepth 20000 in
theorem ggX4_read_X4_number : GoodIn wsX4_read wsX4_number := goodIn_r _ [34, 35, 36, 1, 13, 37, 38, 39, 40, 41, 42, 43, 44, 45, 46, 47, 48, 49, 23, 3, 24, 2, 4, 50, 51, 52, 53, 54, 55, 56, 57, 58, 59, 60, 61, 62] (by decide +kernel) (by decide +kernel)
set_option maxRecDepth 20000 in
theorem gX4_read_X4_number : GoodIn wsX4_read (wsV RX4 52 RX4 yX4_number wsX4_number) := goodIn_app (goodIn_of _ (by decide +kernel)) ggX4_read_X4_number
theorem dX4_read_0 : decode cX4_read 0 = .ok (.aload_n 0, 1) := by decide +kernel
theorem dX4_read_1 : decode cX4_read 1 = .ok (.iconst 0, 1) := by decide +kernel
theorem dX4_read_2 : decode cX4_read 2 = .ok (.putfield 40, 3) := by decide +kernel
theorem dX4_read_5 : decode cX4_read 5 = .ok (.iconst 0, 1) := by decide +kernel
theorem dX4_read_6 : decode cX4_read 6 = .ok (.istore_n 3, 1) := by decide +kernel
theorem dX4_read_7 : decode cX4_read 7 = .ok (.iconst 0, 1) := by decide +kernel
theorem dX4_read_8 : decode cX4_read 8 = .ok (.istore 4, 2) := by decide +kernel
theorem dX4_read_10 : decode cX4_read 10 = .ok (.iload 4, 2) := by decide +kernel
theorem dX4_read_12 : decode cX4_read 12 = .ok (.iload_n 2, 1) := by decide +kernel
theorem dX4_read_13 : decode cX4_read 13 = .ok (.if_icmp .gt 45, 3) := by decide +kernel
theorem dX4_read_16 : decode cX4_read 16 = .ok (.iload 4, 2) := by decide +kernel
theorem dX4_read_18 : decode cX4_read 18 = .ok (.iload_n 2, 1) := by decide +kernel
theorem dX4_read_19 : decode cX4_read 19 = .ok (.if_icmp .eq 14, 3) := by decide +kernel
theorem dX4_read_22 : decode cX4_read 22 = .ok (.aload_n 1, 1) := by decide +kernel
theorem dX4_read_23 : decode cX4_read 23 = .ok (.iload 4, 2) := by decide +kernel
theorem dX4_read_25 : decode cX4_read 25 = .ok (.invokestatic 44, 3) := by decide +kernel
theorem dX4_read_28 : decode cX4_read 28 = .ok (.bipush 32, 2) := by decide +kernel
theorem dX4_read_30 : decode cX4_read 30 = .ok (.if_icmp .ne 22, 3) := by decide +kernel
theorem dX4_read_33 : decode cX4_read 33 = .ok (.iload 4, 2) := by decide +kernel
theorem dX4_read_35 : decode cX4_read 35 = .ok (.iload_n 3, 1) := by decide +kernel
theorem dX4_read_36 : decode cX4_read 36 = .ok (.if_icmp .le 11, 3) := by decide +kernel
theorem dX4_read_39 : decode cX4_read 39 = .ok (.aload_n 0, 1) := by decide +kernel
theorem dX4_read_40 : decode cX4_read 40 = .ok (.aload_n 1, 1) := by decide +kernel
theorem dX4_read_41 : decode cX4_read 41 = .ok (.iload_n 3, 1) := by decide +kernel
theorem dX4_read_42 : decode cX4_read 42 = .ok (.iload 4, 2) := by decide +kernel
theorem dX4_read_44 : decode cX4_read 44 = .ok (.invokevirtual 48, 3) := by decide +kernel
theorem dX4_read_47 : decode cX4_read 47 = .ok (.iload 4, 2) := by decide +kernel
theorem dX4_read_49 : decode cX4_read 49 = .ok (.iconst 1, 1) := by decide +kernel
theorem dX4_read_50 : decode cX4_read 50 = .ok (.iadd, 1) := by decide +kernel
theorem dX4_read_51 : decode cX4_read 51 = .ok (.istore_n 3, 1) := by decide +kernel
theorem dX4_read_52 : decode cX4_read 52 = .ok (.iinc 4 1, 3) := by decide +kernel
theorem dX4_read_55 : decode cX4_read 55 = .ok (.goto (-45), 3) := by decide +kernel
theorem dX4_read_58 : decode cX4_read 58 = .ok (.aload_n 0, 1) := by decide +kernel
theorem dX4_read_59 : decode cX4_read 59 = .ok (.invokevirtual 52, 3) := by decide +kernel
theorem dX4_read_62 : decode cX4_read 62 = .ok (.return_, 1) := by decide +kernel
set_option maxRecDepth 20000 in
theorem ggX4_add_X5_at : GoodIn wsX4_add wsX5_at := goodIn_r _ [10] (by decide +kernel) (by decide +kernel)
set_option maxRecDepth 20000 in
theorem gX4_add_X5_at_n44 : GoodIn wsX4_add (wsX5_at) := ggX4_add_X5_at
set_option maxRecDepth 20000 in
theorem ggX4_add_X5_isLetter : GoodIn wsX4_add wsX5_isLetter := goodIn_r _ [12, 13, 14, 9, 15] (by decide +kernel) (by decide +kernel)
set_option maxRecDepth 20000 in
theorem gX4_add_X5_isLetter_n55 : GoodIn wsX4_add (wsX5_isLetter) := ggX4_add_X5_isLetter
set_option maxRecDepth 20000 in
theorem ggX4_add_X5_isFigure : GoodIn wsX4_add wsX5_isFigure := goodIn_r _ [15] (by decide +kernel) (by decide +kernel)
set_option maxRecDepth 20000 in
theorem gX4_add_X5_isFigure_n59 : GoodIn wsX4_add (wsX5_isFigure) := ggX4_add_X5_isFigure
set_option maxRecDepth 20000 in
theorem ggX4_add_X5_isTrailing : GoodIn wsX4_add wsX5_isTrailing := goodIn_r _ [17] (by decide +kernel) (by decide +kernel)
set_option maxRecDepth 20000 in
theorem gX4_add_X5_isTrailing_n62 : GoodIn wsX4_add (wsX5_isTrailing) := ggX4_add_X5_isTrailing
set_option maxRecDepth 20000 in
theorem ggX4_add_X5_put : GoodIn wsX4_add wsX5_put := goodIn_r _ [19] (by decide +kernel) (by decide +kernel)
set_option maxRecDepth 20000 in
theorem gX4_add_X5_put_n65 : GoodIn wsX4_add (wsX5_put) := ggX4_add_X5_put
set_option maxRecDepth 20000 in
theorem ggX4_add_X5_closingBy : GoodIn wsX4_add wsX5_closingBy := goodIn_r _ [21] (by decide +kernel) (by decide +kernel)
set_option maxRecDepth 20000 in
theorem gX4_add_X5_closingBy_n68 : GoodIn wsX4_add (wsX5_closingBy) := ggX4_add_X5_closingBy
set_option maxRecDepth 20000 in
theorem ggX4_add_X4_letterIn : GoodIn wsX4_add wsX4_letterIn := goodIn_r _ [26, 8, 9, 10, 11, 12, 13, 14, 15] (by decide +kernel) (by decide +kernel)
set_option maxRecDepth 20000 in
theorem gX4_add_X4_letterIn : GoodIn wsX4_add (wsV RX4 72 RX4 yX4_letterIn wsX4_letterIn) := goodIn_app (goodIn_of _ (by decide +kernel)) ggX4_add_X4_letterIn
theorem dX4_add_0 : decode cX4_add 0 = .ok (.iconst 0, 1) := by decide +kernel
theorem dX4_add_1 : decode cX4_add 1 = .ok (.istore 4, 2) := by decide +kernel
theorem dX4_add_3 : decode cX4_add 3 = .ok (.iconst 0, 1) := by decide +kernel
theorem dX4_add_4 : decode cX4_add 4 = .ok (.istore 5, 2) := by decide +kernel
theorem dX4_add_6 : decode cX4_add 6 = .ok (.iconst (-1), 1) := by decide +kernel
theorem dX4_add_7 : decode cX4_add 7 = .ok (.istore 6, 2) := by decide +kernel
theorem dX4_add_9 : decode cX4_add 9 = .ok (.iload_n 2, 1) := by decide +kernel
theorem dX4_add_10 : decode cX4_add 10 = .ok (.istore 7, 2) := by decide +kernel
theorem dX4_add_12 : decode cX4_add 12 = .ok (.iload 7, 2) := by decide +kernel
theorem dX4_add_14 : decode cX4_add 14 = .ok (.iload_n 3, 1) := by decide +kernel
theorem dX4_add_15 : decode cX4_add 15 = .ok (.if_icmp .ge 51, 3) := by decide +kernel
theorem dX4_add_18 : decode cX4_add 18 = .ok (.aload_n 1, 1) := by decide +kernel
theorem dX4_add_19 : decode cX4_add 19 = .ok (.iload 7, 2) := by decide +kernel
theorem dX4_add_21 : decode cX4_add 21 = .ok (.invokestatic 44, 3) := by decide +kernel
theorem dX4_add_24 : decode cX4_add 24 = .ok (.istore 8, 2) := by decide +kernel
theorem dX4_add_26 : decode cX4_add 26 = .ok (.iload 8, 2) := by decide +kernel
theorem dX4_add_28 : decode cX4_add 28 = .ok (.invokestatic 55, 3) := by decide +kernel
theorem dX4_add_31 : decode cX4_add 31 = .ok (.ifCond .eq 6, 3) := by decide +kernel
theorem dX4_add_34 : decode cX4_add 34 = .ok (.iinc 4 1, 3) := by decide +kernel
theorem dX4_add_37 : decode cX4_add 37 = .ok (.iload 8, 2) := by decide +kernel
theorem dX4_add_39 : decode cX4_add 39 = .ok (.invokestatic 59, 3) := by decide +kernel
theorem dX4_add_42 : decode cX4_add 42 = .ok (.ifCond .eq 6, 3) := by decide +kernel
theorem dX4_add_45 : decode cX4_add 45 = .ok (.iconst 1, 1) := by decide +kernel
theorem dX4_add_46 : decode cX4_add 46 = .ok (.istore 5, 2) := by decide +kernel
theorem dX4_add_48 : decode cX4_add 48 = .ok (.iload 8, 2) := by decide +kernel
theorem dX4_add_50 : decode cX4_add 50 = .ok (.invokestatic 62, 3) := by decide +kernel
theorem dX4_add_53 : decode cX4_add 53 = .ok (.ifCond .ne 7, 3) := by decide +kernel
theorem dX4_add_56 : decode cX4_add 56 = .ok (.iload 8, 2) := by decide +kernel
theorem dX4_add_58 : decode cX4_add 58 = .ok (.istore 6, 2) := by decide +kernel
theorem dX4_add_60 : decode cX4_add 60 = .ok (.iinc 7 1, 3) := by decide +kernel
theorem dX4_add_63 : decode cX4_add 63 = .ok (.goto (-51), 3) := by decide +kernel
theorem dX4_add_66 : decode cX4_add 66 = .ok (.iload_n 3, 1) := by decide +kernel
theorem dX4_add_67 : decode cX4_add 67 = .ok (.iload_n 2, 1) := by decide +kernel
theorem dX4_add_68 : decode cX4_add 68 = .ok (.isub, 1) := by decide +kernel
theorem dX4_add_69 : decode cX4_add 69 = .ok (.iconst 1, 1) := by decide +kernel
theorem dX4_add_70 : decode cX4_add 70 = .ok (.if_icmp .ne 14, 3) := by decide +kernel
theorem dX4_add_73 : decode cX4_add 73 = .ok (.iload 6, 2) := by decide +kernel
theorem dX4_add_75 : decode cX4_add 75 = .ok (.bipush 124, 2) := by decide +kernel
theorem dX4_add_77 : decode cX4_add 77 = .ok (.if_icmp .ne 7, 3) := by decide +kernel
theorem dX4_add_80 : decode cX4_add 80 = .ok (.iconst 1, 1) := by decide +kernel
theorem dX4_add_81 : decode cX4_add 81 = .ok (.goto 4, 3) := by decide +kernel
theorem dX4_add_84 : decode cX4_add 84 = .ok (.iconst 0, 1) := by decide +kernel
theorem dX4_add_85 : decode cX4_add 85 = .ok (.istore 7, 2) := by decide +kernel
theorem dX4_add_87 : decode cX4_add 87 = .ok (.aload_n 0, 1) := by decide +kernel
theorem dX4_add_88 : decode cX4_add 88 = .ok (.getfield 9, 3) := by decide +kernel
theorem dX4_add_91 : decode cX4_add 91 = .ok (.aload_n 0, 1) := by decide +kernel
theorem dX4_add_92 : decode cX4_add 92 = .ok (.getfield 40, 3) := by decide +kernel
theorem dX4_add_95 : decode cX4_add 95 = .ok (.iload_n 2, 1) := by decide +kernel
theorem dX4_add_96 : decode cX4_add 96 = .ok (.invokestatic 65, 3) := by decide +kernel
theorem dX4_add_99 : decode cX4_add 99 = .ok (.aload_n 0, 1) := by decide +kernel
theorem dX4_add_100 : decode cX4_add 100 = .ok (.getfield 15, 3) := by decide +kernel
theorem dX4_add_103 : decode cX4_add 103 = .ok (.aload_n 0, 1) := by decide +kernel
theorem dX4_add_104 : decode cX4_add 104 = .ok (.getfield 40, 3) := by decide +kernel
theorem dX4_add_107 : decode cX4_add 107 = .ok (.iload_n 3, 1) := by decide +kernel
theorem dX4_add_108 : decode cX4_add 108 = .ok (.iload_n 2, 1) := by decide +kernel
theorem dX4_add_109 : decode cX4_add 109 = .ok (.isub, 1) := by decide +kernel
theorem dX4_add_110 : decode cX4_add 110 = .ok (.invokestatic 65, 3) := by decide +kernel
theorem dX4_add_113 : decode cX4_add 113 = .ok (.aload_n 0, 1) := by decide +kernel
theorem dX4_add_114 : decode cX4_add 114 = .ok (.getfield 18, 3) := by decide +kernel
theorem dX4_add_117 : decode cX4_add 117 = .ok (.aload_n 0, 1) := by decide +kernel
theorem dX4_add_118 : decode cX4_add 118 = .ok (.getfield 40, 3) := by decide +kernel
theorem dX4_add_121 : decode cX4_add 121 = .ok (.iload 4, 2) := by decide +kernel
theorem dX4_add_123 : decode cX4_add 123 = .ok (.invokestatic 65, 3) := by decide +kernel
theorem dX4_add_126 : decode cX4_add 126 = .ok (.aload_n 0, 1) := by decide +kernel
theorem dX4_add_127 : decode cX4_add 127 = .ok (.getfield 21, 3) := by decide +kernel
theorem dX4_add_130 : decode cX4_add 130 = .ok (.aload_n 0, 1) := by decide +kernel
theorem dX4_add_131 : decode cX4_add 131 = .ok (.getfield 40, 3) := by decide +kernel
theorem dX4_add_134 : decode cX4_add 134 = .ok (.iload 7, 2) := by decide +kernel
theorem dX4_add_136 : decode cX4_add 136 = .ok (.ifCond .eq 7, 3) := by decide +kernel
theorem dX4_add_139 : decode cX4_add 139 = .ok (.iconst 3, 1) := by decide +kernel
theorem dX4_add_140 : decode cX4_add 140 = .ok (.goto 8, 3) := by decide +kernel
theorem dX4_add_143 : decode cX4_add 143 = .ok (.iload 6, 2) := by decide +kernel
theorem dX4_add_145 : decode cX4_add 145 = .ok (.invokestatic 68, 3) := by decide +kernel
theorem dX4_add_148 : decode cX4_add 148 = .ok (.invokestatic 65, 3) := by decide +kernel
theorem dX4_add_151 : decode cX4_add 151 = .ok (.aload_n 0, 1) := by decide +kernel
theorem dX4_add_152 : decode cX4_add 152 = .ok (.getfield 24, 3) := by decide +kernel
theorem dX4_add_155 : decode cX4_add 155 = .ok (.aload_n 0, 1) := by decide +kernel
theorem dX4_add_156 : decode cX4_add 156 = .ok (.getfield 40, 3) := by decide +kernel
theorem dX4_add_159 : decode cX4_add 159 = .ok (.iload 5, 2) := by decide +kernel
theorem dX4_add_161 : decode cX4_add 161 = .ok (.invokestatic 65, 3) := by decide +kernel
theorem dX4_add_164 : decode cX4_add 164 = .ok (.aload_n 0, 1) := by decide +kernel
theorem dX4_add_165 : decode cX4_add 165 = .ok (.getfield 27, 3) := by decide +kernel
theorem dX4_add_168 : decode cX4_add 168 = .ok (.aload_n 0, 1) := by decide +kernel
theorem dX4_add_169 : decode cX4_add 169 = .ok (.getfield 40, 3) := by decide +kernel
theorem dX4_add_172 : decode cX4_add 172 = .ok (.iload 4, 2) := by decide +kernel
theorem dX4_add_174 : decode cX4_add 174 = .ok (.ifCond .ne 7, 3) := by decide +kernel
theorem dX4_add_177 : decode cX4_add 177 = .ok (.iconst (-1), 1) := by decide +kernel
theorem dX4_add_178 : decode cX4_add 178 = .ok (.goto 16, 3) := by decide +kernel
theorem dX4_add_181 : decode cX4_add 181 = .ok (.aload_n 0, 1) := by decide +kernel
theorem dX4_add_182 : decode cX4_add 182 = .ok (.aload_n 1, 1) := by decide +kernel
theorem dX4_add_183 : decode cX4_add 183 = .ok (.iload_n 2, 1) := by decide +kernel
theorem dX4_add_184 : decode cX4_add 184 = .ok (.iload_n 3, 1) := by decide +kernel
theorem dX4_add_185 : decode cX4_add 185 = .ok (.iload 4, 2) := by decide +kernel
theorem dX4_add_187 : decode cX4_add 187 = .ok (.iconst 1, 1) := by decide +kernel
theorem dX4_add_188 : decode cX4_add 188 = .ok (.isub, 1) := by decide +kernel
theorem dX4_add_189 : decode cX4_add 189 = .ok (.iconst 3, 1) := by decide +kernel
theorem dX4_add_190 : decode cX4_add 190 = .ok (.idiv, 1) := by decide +kernel
theorem dX4_add_191 : decode cX4_add 191 = .ok (.invokevirtual 72, 3) := by decide +kernel
theorem dX4_add_194 : decode cX4_add 194 = .ok (.invokestatic 65, 3) := by decide +kernel
theorem dX4_add_197 : decode cX4_add 197 = .ok (.aload_n 0, 1) := by decide +kernel
theorem dX4_add_198 : decode cX4_add 198 = .ok (.dup, 1) := by decide +kernel
theorem dX4_add_199 : decode cX4_add 199 = .ok (.getfield 40, 3) := by decide +kernel
theorem dX4_add_202 : decode cX4_add 202 = .ok (.iconst 1, 1) := by decide +kernel
theorem dX4_add_203 : decode cX4_add 203 = .ok (.iadd, 1) := by decide +kernel
theorem dX4_add_204 : decode cX4_add 204 = .ok (.putfield 40, 3) := by decide +kernel
theorem dX4_add_207 : decode cX4_add 207 = .ok (.return_, 1) := by decide +kernel
set_option maxRecDepth 20000 in
theorem ggX4_letterIn_X5_at : GoodIn wsX4_letterIn wsX5_at := goodIn_r _ [3] (by decide +kernel) (by decide +kernel)
set_option maxRecDepth 20000 in
theorem gX4_letterIn_X5_at_n44 : GoodIn wsX4_letterIn (wsX5_at) := ggX4_letterIn_X5_at
set_option maxRecDepth 20000 in
theorem ggX4_letterIn_X5_isLetter : GoodIn wsX4_letterIn wsX5_isLetter := goodIn_r _ [5, 6, 7, 2, 8] (by decide +kernel) (by decide +kernel)
set_option maxRecDepth 20000 in
theorem gX4_letterIn_X5_isLetter_n55 : GoodIn wsX4_letterIn (wsX5_isLetter) := ggX4_letterIn_X5_isLetter
theorem dX4_letterIn_0 : decode cX4_letterIn 0 = .ok (.iconst 0, 1) := by decide +kernel
theorem dX4_letterIn_1 : decode cX4_letterIn 1 = .ok (.istore 5, 2) := by decide +kernel
theorem dX4_letterIn_3 : decode cX4_letterIn 3 = .ok (.iload_n 2, 1) := by decide +kernel
theorem dX4_letterIn_4 : decode cX4_letterIn 4 = .ok (.istore 6, 2) := by decide +kernel
theorem dX4_letterIn_6 : decode cX4_letterIn 6 = .ok (.iload 6, 2) := by decide +kernel
theorem dX4_letterIn_8 : decode cX4_letterIn 8 = .ok (.iload_n 3, 1) := by decide +kernel
theorem dX4_letterIn_9 : decode cX4_letterIn 9 = .ok (.if_icmp .ge 36, 3) := by decide +kernel
theorem dX4_letterIn_12 : decode cX4_letterIn 12 = .ok (.aload_n 1, 1) := by decide +kernel
theorem dX4_letterIn_13 : decode cX4_letterIn 13 = .ok (.iload 6, 2) := by decide +kernel
theorem dX4_letterIn_15 : decode cX4_letterIn 15 = .ok (.invokestatic 44, 3) := by decide +kernel
theorem dX4_letterIn_18 : decode cX4_letterIn 18 = .ok (.invokestatic 55, 3) := by decide +kernel
theorem dX4_letterIn_21 : decode cX4_letterIn 21 = .ok (.ifCond .eq 18, 3) := by decide +kernel
theorem dX4_letterIn_24 : decode cX4_letterIn 24 = .ok (.iload 5, 2) := by decide +kernel
theorem dX4_letterIn_26 : decode cX4_letterIn 26 = .ok (.iload 4, 2) := by decide +kernel
theorem dX4_letterIn_28 : decode cX4_letterIn 28 = .ok (.if_icmp .ne 8, 3) := by decide +kernel
theorem dX4_letterIn_31 : decode cX4_letterIn 31 = .ok (.iload 6, 2) := by decide +kernel
theorem dX4_letterIn_33 : decode cX4_letterIn 33 = .ok (.iload_n 2, 1) := by decide +kernel
theorem dX4_letterIn_34 : decode cX4_letterIn 34 = .ok (.isub, 1) := by decide +kernel
theorem dX4_letterIn_35 : decode cX4_letterIn 35 = .ok (.ireturn, 1) := by decide +kernel
theorem dX4_letterIn_36 : decode cX4_letterIn 36 = .ok (.iinc 5 1, 3) := by decide +kernel
theorem dX4_letterIn_39 : decode cX4_letterIn 39 = .ok (.iinc 6 1, 3) := by decide +kernel
theorem dX4_letterIn_42 : decode cX4_letterIn 42 = .ok (.goto (-36), 3) := by decide +kernel
theorem dX4_letterIn_45 : decode cX4_letterIn 45 = .ok (.iconst (-1), 1) := by decide +kernel
theorem dX4_letterIn_46 : decode cX4_letterIn 46 = .ok (.ireturn, 1) := by decide +kernel
set_option maxRecDepth 20000 in
theorem ggX4_number_X2_clear : GoodIn wsX4_number wsX2_clear := goodIn_r _ [9, 10, 32, 33, 34, 35] (by decide +kernel) (by decide +kernel)
set_option maxRecDepth 20000 in
theorem gX4_number_X2_clear : GoodIn wsX4_number (wsV RX4 76 RX2 yX2_clear wsX2_clear) := goodIn_app (goodIn_of _ (by decide +kernel)) ggX4_number_X2_clear
set_option maxRecDepth 20000 in
theorem ggX4_number_X2_add : GoodIn wsX4_number wsX2_add := goodIn_r _ [14, 15, 10, 16, 17, 18, 19, 20, 32, 33, 34, 35] (by decide +kernel) (by decide +kernel)
set_option maxRecDepth 20000 in
theorem gX4_number_X2_add : GoodIn wsX4_number (wsV RX4 79 RX2 yX2_add wsX2_add) := goodIn_app (goodIn_of _ (by decide +kernel)) ggX4_number_X2_add
set_option maxRecDepth 20000 in
theorem ggX4_number_X5_at : GoodIn wsX4_number wsX5_at := goodIn_r _ [22] (by decide +kernel) (by decide +kernel)
set_option maxRecDepth 20000 in
theorem gX4_number_X5_at_n44 : GoodIn wsX4_number (wsX5_at) := ggX4_number_X5_at
theorem dX4_number_0 : decode cX4_number 0 = .ok (.aload_n 0, 1) := by decide +kernel
theorem dX4_number_1 : decode cX4_number 1 = .ok (.getfield 33, 3) := by decide +kernel
theorem dX4_number_4 : decode cX4_number 4 = .ok (.invokevirtual 76, 3) := by decide +kernel
theorem dX4_number_7 : decode cX4_number 7 = .ok (.aload_n 0, 1) := by decide +kernel
theorem dX4_number_8 : decode cX4_number 8 = .ok (.getfield 37, 3) := by decide +kernel
theorem dX4_number_11 : decode cX4_number 11 = .ok (.invokevirtual 76, 3) := by decide +kernel
theorem dX4_number_14 : decode cX4_number 14 = .ok (.iconst 3, 1) := by decide +kernel
theorem dX4_number_15 : decode cX4_number 15 = .ok (.istore_n 1, 1) := by decide +kernel
theorem dX4_number_16 : decode cX4_number 16 = .ok (.iconst 0, 1) := by decide +kernel
theorem dX4_number_17 : decode cX4_number 17 = .ok (.istore_n 2, 1) := by decide +kernel
theorem dX4_number_18 : decode cX4_number 18 = .ok (.iload_n 2, 1) := by decide +kernel
theorem dX4_number_19 : decode cX4_number 19 = .ok (.aload_n 0, 1) := by decide +kernel
theorem dX4_number_20 : decode cX4_number 20 = .ok (.getfield 40, 3) := by decide +kernel
theorem dX4_number_23 : decode cX4_number 23 = .ok (.if_icmp .ge 59, 3) := by decide +kernel
theorem dX4_number_26 : decode cX4_number 26 = .ok (.aload_n 0, 1) := by decide +kernel
theorem dX4_number_27 : decode cX4_number 27 = .ok (.getfield 33, 3) := by decide +kernel
theorem dX4_number_30 : decode cX4_number 30 = .ok (.iload_n 2, 1) := by decide +kernel
theorem dX4_number_31 : decode cX4_number 31 = .ok (.iload_n 1, 1) := by decide +kernel
theorem dX4_number_32 : decode cX4_number 32 = .ok (.iconst 2, 1) := by decide +kernel
theorem dX4_number_33 : decode cX4_number 33 = .ok (.if_icmp .eq 8, 3) := by decide +kernel
theorem dX4_number_36 : decode cX4_number 36 = .ok (.iload_n 1, 1) := by decide +kernel
theorem dX4_number_37 : decode cX4_number 37 = .ok (.iconst 3, 1) := by decide +kernel
theorem dX4_number_38 : decode cX4_number 38 = .ok (.if_icmp .ne 7, 3) := by decide +kernel
theorem dX4_number_41 : decode cX4_number 41 = .ok (.iconst 1, 1) := by decide +kernel
theorem dX4_number_42 : decode cX4_number 42 = .ok (.goto 4, 3) := by decide +kernel
theorem dX4_number_45 : decode cX4_number 45 = .ok (.iconst 0, 1) := by decide +kernel
theorem dX4_number_46 : decode cX4_number 46 = .ok (.invokevirtual 79, 3) := by decide +kernel
theorem dX4_number_49 : decode cX4_number 49 = .ok (.aload_n 0, 1) := by decide +kernel
theorem dX4_number_50 : decode cX4_number 50 = .ok (.getfield 37, 3) := by decide +kernel
theorem dX4_number_53 : decode cX4_number 53 = .ok (.iload_n 2, 1) := by decide +kernel
theorem dX4_number_54 : decode cX4_number 54 = .ok (.iload_n 1, 1) := by decide +kernel
theorem dX4_number_55 : decode cX4_number 55 = .ok (.iconst 3, 1) := by decide +kernel
theorem dX4_number_56 : decode cX4_number 56 = .ok (.if_icmp .ne 7, 3) := by decide +kernel
theorem dX4_number_59 : decode cX4_number 59 = .ok (.iconst 1, 1) := by decide +kernel
theorem dX4_number_60 : decode cX4_number 60 = .ok (.goto 4, 3) := by decide +kernel
theorem dX4_number_63 : decode cX4_number 63 = .ok (.iconst 0, 1) := by decide +kernel
theorem dX4_number_64 : decode cX4_number 64 = .ok (.invokevirtual 79, 3) := by decide +kernel
theorem dX4_number_67 : decode cX4_number 67 = .ok (.aload_n 0, 1) := by decide +kernel
theorem dX4_number_68 : decode cX4_number 68 = .ok (.getfield 21, 3) := by decide +kernel
theorem dX4_number_71 : decode cX4_number 71 = .ok (.iload_n 2, 1) := by decide +kernel
theorem dX4_number_72 : decode cX4_number 72 = .ok (.invokestatic 44, 3) := by decide +kernel
theorem dX4_number_75 : decode cX4_number 75 = .ok (.istore_n 1, 1) := by decide +kernel
theorem dX4_number_76 : decode cX4_number 76 = .ok (.iinc 2 1, 3) := by decide +kernel
theorem dX4_number_79 : decode cX4_number 79 = .ok (.goto (-61), 3) := by decide +kernel
theorem dX4_number_82 : decode cX4_number 82 = .ok (.return_, 1) := by decide +kernel
theorem dX4_has_0 : decode cX4_has 0 = .ok (.iload_n 1, 1) := by decide +kernel
theorem dX4_has_1 : decode cX4_has 1 = .ok (.ifCond .lt 15, 3) := by decide +kernel
theorem dX4_has_4 : decode cX4_has 4 = .ok (.iload_n 1, 1) := by decide +kernel
theorem dX4_has_5 : decode cX4_has 5 = .ok (.aload_n 0, 1) := by decide +kernel
theorem dX4_has_6 : decode cX4_has 6 = .ok (.getfield 40, 3) := by decide +kernel
theorem dX4_has_9 : decode cX4_has 9 = .ok (.if_icmp .ge 7, 3) := by decide +kernel
theorem dX4_has_12 : decode cX4_has 12 = .ok (.iconst 1, 1) := by decide +kernel
theorem dX4_has_13 : decode cX4_has 13 = .ok (.goto 4, 3) := by decide +kernel
theorem dX4_has_16 : decode cX4_has 16 = .ok (.iconst 0, 1) := by decide +kernel
theorem dX4_has_17 : decode cX4_has 17 = .ok (.ireturn, 1) := by decide +kernel
set_option maxRecDepth 20000 in
theorem ggX4_isMark_X5_at : GoodIn wsX4_isMark wsX5_at := goodIn_r _ [4] (by decide +kernel) (by decide +kernel)
set_option maxRecDepth 20000 in
theorem gX4_isMark_X5_at_n44 : GoodIn wsX4_isMark (wsX5_at) := ggX4_isMark_X5_at
theorem dX4_isMark_0 : decode cX4_isMark 0 = .ok (.aload_n 0, 1) := by decide +kernel
theorem dX4_isMark_1 : decode cX4_isMark 1 = .ok (.getfield 21, 3) := by decide +kernel
theorem dX4_isMark_4 : decode cX4_isMark 4 = .ok (.iload_n 1, 1) := by decide +kernel
theorem dX4_isMark_5 : decode cX4_isMark 5 = .ok (.invokestatic 44, 3) := by decide +kernel
theorem dX4_isMark_8 : decode cX4_isMark 8 = .ok (.iconst 3, 1) := by decide +kernel
theorem dX4_isMark_9 : decode cX4_isMark 9 = .ok (.if_icmp .ne 7, 3) := by decide +kernel
theorem dX4_isMark_12 : decode cX4_isMark 12 = .ok (.iconst 1, 1) := by decide +kernel
theorem dX4_isMark_13 : decode cX4_isMark 13 = .ok (.goto 4, 3) := by decide +kernel
theorem dX4_isMark_16 : decode cX4_isMark 16 = .ok (.iconst 0, 1) := by decide +kernel
theorem dX4_isMark_17 : decode cX4_isMark 17 = .ok (.ireturn, 1) := by decide +kernel
set_option maxRecDepth 20000 in
theorem ggX4_classOf_X5_at : GoodIn wsX4_classOf wsX5_at := goodIn_r _ [4] (by decide +kernel) (by decide +kernel)
set_option maxRecDepth 20000 in
theorem gX4_classOf_X5_at_n44 : GoodIn wsX4_classOf (wsX5_at) := ggX4_classOf_X5_at
theorem dX4_classOf_0 : decode cX4_classOf 0 = .ok (.aload_n 0, 1) := by decide +kernel
theorem dX4_classOf_1 : decode cX4_classOf 1 = .ok (.getfield 18, 3) := by decide +kernel
theorem dX4_classOf_4 : decode cX4_classOf 4 = .ok (.iload_n 1, 1) := by decide +kernel
theorem dX4_classOf_5 : decode cX4_classOf 5 = .ok (.invokestatic 44, 3) := by decide +kernel
theorem dX4_classOf_8 : decode cX4_classOf 8 = .ok (.istore_n 2, 1) := by decide +kernel
theorem dX4_classOf_9 : decode cX4_classOf 9 = .ok (.iload_n 2, 1) := by decide +kernel
theorem dX4_classOf_10 : decode cX4_classOf 10 = .ok (.iconst 4, 1) := by decide +kernel
theorem dX4_classOf_11 : decode cX4_classOf 11 = .ok (.if_icmp .gt 5, 3) := by decide +kernel
theorem dX4_classOf_14 : decode cX4_classOf 14 = .ok (.iconst 0, 1) := by decide +kernel
theorem dX4_classOf_15 : decode cX4_classOf 15 = .ok (.ireturn, 1) := by decide +kernel
theorem dX4_classOf_16 : decode cX4_classOf 16 = .ok (.iload_n 2, 1) := by decide +kernel
theorem dX4_classOf_17 : decode cX4_classOf 17 = .ok (.bipush 8, 2) := by decide +kernel
theorem dX4_classOf_19 : decode cX4_classOf 19 = .ok (.if_icmp .gt 7, 3) := by decide +kernel
theorem dX4_classOf_22 : decode cX4_classOf 22 = .ok (.iconst 1, 1) := by decide +kernel
theorem dX4_classOf_23 : decode cX4_classOf 23 = .ok (.goto 4, 3) := by decide +kernel
theorem dX4_classOf_26 : decode cX4_classOf 26 = .ok (.iconst 2, 1) := by decide +kernel
theorem dX4_classOf_27 : decode cX4_classOf 27 = .ok (.ireturn, 1) := by decide +kernel
set_option maxRecDepth 20000 in
theorem ggX4_shownAmong_X4_isMark : GoodIn wsX4_shownAmong wsX4_isMark := goodIn_r _ [5, 6, 7, 8, 9, 10, 11, 12, 13, 14, 15, 16, 17, 18] (by decide +kernel) (by decide +kernel)
set_option maxRecDepth 20000 in
theorem gX4_shownAmong_X4_isMark : GoodIn wsX4_shownAmong (wsV RX4 82 RX4 yX4_isMark wsX4_isMark) := goodIn_app (goodIn_of _ (by decide +kernel)) ggX4_shownAmong_X4_isMark
theorem dX4_shownAmong_0 : decode cX4_shownAmong 0 = .ok (.iconst 0, 1) := by decide +kernel
theorem dX4_shownAmong_1 : decode cX4_shownAmong 1 = .ok (.istore_n 3, 1) := by decide +kernel
theorem dX4_shownAmong_2 : decode cX4_shownAmong 2 = .ok (.iload_n 1, 1) := by decide +kernel
theorem dX4_shownAmong_3 : decode cX4_shownAmong 3 = .ok (.istore 4, 2) := by decide +kernel
theorem dX4_shownAmong_5 : decode cX4_shownAmong 5 = .ok (.iload 4, 2) := by decide +kernel
theorem dX4_shownAmong_7 : decode cX4_shownAmong 7 = .ok (.iload_n 2, 1) := by decide +kernel
theorem dX4_shownAmong_8 : decode cX4_shownAmong 8 = .ok (.if_icmp .gt 21, 3) := by decide +kernel
theorem dX4_shownAmong_11 : decode cX4_shownAmong 11 = .ok (.aload_n 0, 1) := by decide +kernel
theorem dX4_shownAmong_12 : decode cX4_shownAmong 12 = .ok (.iload 4, 2) := by decide +kernel
theorem dX4_shownAmong_14 : decode cX4_shownAmong 14 = .ok (.invokevirtual 82, 3) := by decide +kernel
theorem dX4_shownAmong_17 : decode cX4_shownAmong 17 = .ok (.ifCond .ne 6, 3) := by decide +kernel
theorem dX4_shownAmong_20 : decode cX4_shownAmong 20 = .ok (.iinc 3 1, 3) := by decide +kernel
theorem dX4_shownAmong_23 : decode cX4_shownAmong 23 = .ok (.iinc 4 1, 3) := by decide +kernel
theorem dX4_shownAmong_26 : decode cX4_shownAmong 26 = .ok (.goto (-21), 3) := by decide +kernel
theorem dX4_shownAmong_29 : decode cX4_shownAmong 29 = .ok (.iload_n 3, 1) := by decide +kernel
theorem dX4_shownAmong_30 : decode cX4_shownAmong 30 = .ok (.ireturn, 1) := by decide +kernel
set_option maxRecDepth 20000 in
theorem ggX4_sentencesAmong_X5_at : GoodIn wsX4_sentencesAmong wsX5_at := goodIn_r _ [5] (by decide +kernel) (by decide +kernel)
set_option maxRecDepth 20000 in
theorem gX4_sentencesAmong_X5_at_n44 : GoodIn wsX4_sentencesAmong (wsX5_at) := ggX4_sentencesAmong_X5_at
theorem dX4_sentencesAmong_0 : decode cX4_sentencesAmong 0 = .ok (.aload_n 0, 1) := by decide +kernel
theorem dX4_sentencesAmong_1 : decode cX4_sentencesAmong 1 = .ok (.getfield 33, 3) := by decide +kernel
theorem dX4_sentencesAmong_4 : decode cX4_sentencesAmong 4 = .ok (.getfield 85, 3) := by decide +kernel
theorem dX4_sentencesAmong_7 : decode cX4_sentencesAmong 7 = .ok (.iload_n 2, 1) := by decide +kernel
theorem dX4_sentencesAmong_8 : decode cX4_sentencesAmong 8 = .ok (.invokestatic 44, 3) := by decide +kernel
theorem dX4_sentencesAmong_11 : decode cX4_sentencesAmong 11 = .ok (.aload_n 0, 1) := by decide +kernel
theorem dX4_sentencesAmong_12 : decode cX4_sentencesAmong 12 = .ok (.getfield 33, 3) := by decide +kernel
theorem dX4_sentencesAmong_15 : decode cX4_sentencesAmong 15 = .ok (.getfield 85, 3) := by decide +kernel
theorem dX4_sentencesAmong_18 : decode cX4_sentencesAmong 18 = .ok (.iload_n 1, 1) := by decide +kernel
theorem dX4_sentencesAmong_19 : decode cX4_sentencesAmong 19 = .ok (.invokestatic 44, 3) := by decide +kernel
theorem dX4_sentencesAmong_22 : decode cX4_sentencesAmong 22 = .ok (.isub, 1) := by decide +kernel
theorem dX4_sentencesAmong_23 : decode cX4_sentencesAmong 23 = .ok (.iconst 1, 1) := by decide +kernel
theorem dX4_sentencesAmong_24 : decode cX4_sentencesAmong 24 = .ok (.iadd, 1) := by decide +kernel
theorem dX4_sentencesAmong_25 : decode cX4_sentencesAmong 25 = .ok (.ireturn, 1) := by decide +kernel
set_option maxRecDepth 20000 in
theorem ggX4_hasClassAmong_X4_isMark : GoodIn wsX4_hasClassAmong wsX4_isMark := goodIn_r _ [5, 6, 7, 8, 9, 15, 16, 17, 18, 19, 20, 21, 22, 23] (by decide +kernel) (by decide +kernel)
set_option maxRecDepth 20000 in
theorem gX4_hasClassAmong_X4_isMark : GoodIn wsX4_hasClassAmong (wsV RX4 82 RX4 yX4_isMark wsX4_isMark) := goodIn_app (goodIn_of _ (by decide +kernel)) ggX4_hasClassAmong_X4_isMark
set_option maxRecDepth 20000 in
theorem ggX4_hasClassAmong_X4_classOf : GoodIn wsX4_hasClassAmong wsX4_classOf := goodIn_r _ [13, 14, 7, 8, 9, 15, 16, 17, 18, 19, 20, 21, 22, 23] (by decide +kernel) (by decide +kernel)
set_option maxRecDepth 20000 in
theorem gX4_hasClassAmong_X4_classOf : GoodIn wsX4_hasClassAmong (wsV RX4 88 RX4 yX4_classOf wsX4_classOf) := goodIn_app (goodIn_of _ (by decide +kernel)) ggX4_hasClassAmong_X4_classOf
theorem dX4_hasClassAmong_0 : decode cX4_hasClassAmong 0 = .ok (.iload_n 2, 1) := by decide +kernel
theorem dX4_hasClassAmong_1 : decode cX4_hasClassAmong 1 = .ok (.istore 4, 2) := by decide +kernel
theorem dX4_hasClassAmong_3 : decode cX4_hasClassAmong 3 = .ok (.iload 4, 2) := by decide +kernel
theorem dX4_hasClassAmong_5 : decode cX4_hasClassAmong 5 = .ok (.iload_n 3, 1) := by decide +kernel
theorem dX4_hasClassAmong_6 : decode cX4_hasClassAmong 6 = .ok (.if_icmp .gt 30, 3) := by decide +kernel
theorem dX4_hasClassAmong_9 : decode cX4_hasClassAmong 9 = .ok (.aload_n 0, 1) := by decide +kernel
theorem dX4_hasClassAmong_10 : decode cX4_hasClassAmong 10 = .ok (.iload 4, 2) := by decide +kernel
theorem dX4_hasClassAmong_12 : decode cX4_hasClassAmong 12 = .ok (.invokevirtual 82, 3) := by decide +kernel
theorem dX4_hasClassAmong_15 : decode cX4_hasClassAmong 15 = .ok (.ifCond .ne 15, 3) := by decide +kernel
theorem dX4_hasClassAmong_18 : decode cX4_hasClassAmong 18 = .ok (.aload_n 0, 1) := by decide +kernel
theorem dX4_hasClassAmong_19 : decode cX4_hasClassAmong 19 = .ok (.iload 4, 2) := by decide +kernel
theorem dX4_hasClassAmong_21 : decode cX4_hasClassAmong 21 = .ok (.invokevirtual 88, 3) := by decide +kernel
theorem dX4_hasClassAmong_24 : decode cX4_hasClassAmong 24 = .ok (.iload_n 1, 1) := by decide +kernel
theorem dX4_hasClassAmong_25 : decode cX4_hasClassAmong 25 = .ok (.if_icmp .ne 5, 3) := by decide +kernel
theorem dX4_hasClassAmong_28 : decode cX4_hasClassAmong 28 = .ok (.iconst 1, 1) := by decide +kernel
theorem dX4_hasClassAmong_29 : decode cX4_hasClassAmong 29 = .ok (.ireturn, 1) := by decide +kernel
theorem dX4_hasClassAmong_30 : decode cX4_hasClassAmong 30 = .ok (.iinc 4 1, 3) := by decide +kernel
theorem dX4_hasClassAmong_33 : decode cX4_hasClassAmong 33 = .ok (.goto (-30), 3) := by decide +kernel
theorem dX4_hasClassAmong_36 : decode cX4_hasClassAmong 36 = .ok (.iconst 0, 1) := by decide +kernel
theorem dX4_hasClassAmong_37 : decode cX4_hasClassAmong 37 = .ok (.ireturn, 1) := by decide +kernel
set_option maxRecDepth 20000 in
theorem ggX4_shownBehind_X4_isMark : GoodIn wsX4_shownBehind wsX4_isMark := goodIn_r _ [6, 7, 8, 9, 10, 11, 12, 13, 14, 15, 16, 17, 18, 19] (by decide +kernel) (by decide +kernel)
set_option maxRecDepth 20000 in
theorem gX4_shownBehind_X4_isMark : GoodIn wsX4_shownBehind (wsV RX4 82 RX4 yX4_isMark wsX4_isMark) := goodIn_app (goodIn_of _ (by decide +kernel)) ggX4_shownBehind_X4_isMark
theorem dX4_shownBehind_0 : decode cX4_shownBehind 0 = .ok (.iload_n 1, 1) := by decide +kernel
theorem dX4_shownBehind_1 : decode cX4_shownBehind 1 = .ok (.iconst 1, 1) := by decide +kernel
theorem dX4_shownBehind_2 : decode cX4_shownBehind 2 = .ok (.iadd, 1) := by decide +kernel
theorem dX4_shownBehind_3 : decode cX4_shownBehind 3 = .ok (.istore_n 2, 1) := by decide +kernel
theorem dX4_shownBehind_4 : decode cX4_shownBehind 4 = .ok (.iload_n 2, 1) := by decide +kernel
theorem dX4_shownBehind_5 : decode cX4_shownBehind 5 = .ok (.aload_n 0, 1) := by decide +kernel
theorem dX4_shownBehind_6 : decode cX4_shownBehind 6 = .ok (.getfield 40, 3) := by decide +kernel
theorem dX4_shownBehind_9 : decode cX4_shownBehind 9 = .ok (.if_icmp .ge 19, 3) := by decide +kernel
theorem dX4_shownBehind_12 : decode cX4_shownBehind 12 = .ok (.aload_n 0, 1) := by decide +kernel
theorem dX4_shownBehind_13 : decode cX4_shownBehind 13 = .ok (.iload_n 2, 1) := by decide +kernel
theorem dX4_shownBehind_14 : decode cX4_shownBehind 14 = .ok (.invokevirtual 82, 3) := by decide +kernel
theorem dX4_shownBehind_17 : decode cX4_shownBehind 17 = .ok (.ifCond .ne 5, 3) := by decide +kernel
theorem dX4_shownBehind_20 : decode cX4_shownBehind 20 = .ok (.iload_n 2, 1) := by decide +kernel
theorem dX4_shownBehind_21 : decode cX4_shownBehind 21 = .ok (.ireturn, 1) := by decide +kernel
theorem dX4_shownBehind_22 : decode cX4_shownBehind 22 = .ok (.iinc 2 1, 3) := by decide +kernel
theorem dX4_shownBehind_25 : decode cX4_shownBehind 25 = .ok (.goto (-21), 3) := by decide +kernel
theorem dX4_shownBehind_28 : decode cX4_shownBehind 28 = .ok (.iconst (-1), 1) := by decide +kernel
theorem dX4_shownBehind_29 : decode cX4_shownBehind 29 = .ok (.ireturn, 1) := by decide +kernel
set_option maxRecDepth 20000 in
theorem ggX4_endsAheadOf_X5_at : GoodIn wsX4_endsAheadOf wsX5_at := goodIn_r _ [5] (by decide +kernel) (by decide +kernel)
set_option maxRecDepth 20000 in
theorem gX4_endsAheadOf_X5_at_n44 : GoodIn wsX4_endsAheadOf (wsX5_at) := ggX4_endsAheadOf_X5_at
theorem dX4_endsAheadOf_0 : decode cX4_endsAheadOf 0 = .ok (.iload_n 1, 1) := by decide +kernel
theorem dX4_endsAheadOf_1 : decode cX4_endsAheadOf 1 = .ok (.iconst (-1), 1) := by decide +kernel
theorem dX4_endsAheadOf_2 : decode cX4_endsAheadOf 2 = .ok (.if_icmp .eq 28, 3) := by decide +kernel
theorem dX4_endsAheadOf_5 : decode cX4_endsAheadOf 5 = .ok (.aload_n 0, 1) := by decide +kernel
theorem dX4_endsAheadOf_6 : decode cX4_endsAheadOf 6 = .ok (.getfield 33, 3) := by decide +kernel
theorem dX4_endsAheadOf_9 : decode cX4_endsAheadOf 9 = .ok (.getfield 85, 3) := by decide +kernel
theorem dX4_endsAheadOf_12 : decode cX4_endsAheadOf 12 = .ok (.iload_n 1, 1) := by decide +kernel
theorem dX4_endsAheadOf_13 : decode cX4_endsAheadOf 13 = .ok (.invokestatic 44, 3) := by decide +kernel
theorem dX4_endsAheadOf_16 : decode cX4_endsAheadOf 16 = .ok (.aload_n 0, 1) := by decide +kernel
theorem dX4_endsAheadOf_17 : decode cX4_endsAheadOf 17 = .ok (.getfield 33, 3) := by decide +kernel
theorem dX4_endsAheadOf_20 : decode cX4_endsAheadOf 20 = .ok (.getfield 85, 3) := by decide +kernel
theorem dX4_endsAheadOf_23 : decode cX4_endsAheadOf 23 = .ok (.iload_n 2, 1) := by decide +kernel
theorem dX4_endsAheadOf_24 : decode cX4_endsAheadOf 24 = .ok (.invokestatic 44, 3) := by decide +kernel
theorem dX4_endsAheadOf_27 : decode cX4_endsAheadOf 27 = .ok (.if_icmp .eq 7, 3) := by decide +kernel
theorem dX4_endsAheadOf_30 : decode cX4_endsAheadOf 30 = .ok (.iconst 1, 1) := by decide +kernel
theorem dX4_endsAheadOf_31 : decode cX4_endsAheadOf 31 = .ok (.goto 4, 3) := by decide +kernel
theorem dX4_endsAheadOf_34 : decode cX4_endsAheadOf 34 = .ok (.iconst 0, 1) := by decide +kernel
theorem dX4_endsAheadOf_35 : decode cX4_endsAheadOf 35 = .ok (.ireturn, 1) := by decide +kernel
set_option maxRecDepth 20000 in
theorem ggX4_firstBeforeSentence_X5_at : GoodIn wsX4_firstBeforeSentence wsX5_at := goodIn_r _ [5] (by decide +kernel) (by decide +kernel)
set_option maxRecDepth 20000 in
theorem gX4_firstBeforeSentence_X5_at_n44 : GoodIn wsX4_firstBeforeSentence (wsX5_at) := ggX4_firstBeforeSentence_X5_at
set_option maxRecDepth 20000 in
theorem ggX4_firstBeforeSentence_X4_isMark : GoodIn wsX4_firstBeforeSentence wsX4_isMark := goodIn_r _ [10, 11, 3, 4, 5, 12, 13, 14, 15, 16, 17, 18, 19, 20] (by decide +kernel) (by decide +kernel)
set_option maxRecDepth 20000 in
theorem gX4_firstBeforeSentence_X4_isMark : GoodIn wsX4_firstBeforeSentence (wsV RX4 82 RX4 yX4_isMark wsX4_isMark) := goodIn_app (goodIn_of _ (by decide +kernel)) ggX4_firstBeforeSentence_X4_isMark
theorem dX4_firstBeforeSentence_0 : decode cX4_firstBeforeSentence 0 = .ok (.iload_n 1, 1) := by decide +kernel
theorem dX4_firstBeforeSentence_1 : decode cX4_firstBeforeSentence 1 = .ok (.iconst 1, 1) := by decide +kernel
theorem dX4_firstBeforeSentence_2 : decode cX4_firstBeforeSentence 2 = .ok (.isub, 1) := by decide +kernel
theorem dX4_firstBeforeSentence_3 : decode cX4_firstBeforeSentence 3 = .ok (.istore_n 2, 1) := by decide +kernel
theorem dX4_firstBeforeSentence_4 : decode cX4_firstBeforeSentence 4 = .ok (.iload_n 2, 1) := by decide +kernel
theorem dX4_firstBeforeSentence_5 : decode cX4_firstBeforeSentence 5 = .ok (.ifCond .lt 31, 3) := by decide +kernel
theorem dX4_firstBeforeSentence_8 : decode cX4_firstBeforeSentence 8 = .ok (.aload_n 0, 1) := by decide +kernel
theorem dX4_firstBeforeSentence_9 : decode cX4_firstBeforeSentence 9 = .ok (.getfield 33, 3) := by decide +kernel
theorem dX4_firstBeforeSentence_12 : decode cX4_firstBeforeSentence 12 = .ok (.getfield 91, 3) := by decide +kernel
theorem dX4_firstBeforeSentence_15 : decode cX4_firstBeforeSentence 15 = .ok (.iload_n 2, 1) := by decide +kernel
theorem dX4_firstBeforeSentence_16 : decode cX4_firstBeforeSentence 16 = .ok (.invokestatic 44, 3) := by decide +kernel
theorem dX4_firstBeforeSentence_19 : decode cX4_firstBeforeSentence 19 = .ok (.istore_n 3, 1) := by decide +kernel
theorem dX4_firstBeforeSentence_20 : decode cX4_firstBeforeSentence 20 = .ok (.aload_n 0, 1) := by decide +kernel
theorem dX4_firstBeforeSentence_21 : decode cX4_firstBeforeSentence 21 = .ok (.iload_n 3, 1) := by decide +kernel
theorem dX4_firstBeforeSentence_22 : decode cX4_firstBeforeSentence 22 = .ok (.invokevirtual 82, 3) := by decide +kernel
theorem dX4_firstBeforeSentence_25 : decode cX4_firstBeforeSentence 25 = .ok (.ifCond .ne 5, 3) := by decide +kernel
theorem dX4_firstBeforeSentence_28 : decode cX4_firstBeforeSentence 28 = .ok (.iload_n 3, 1) := by decide +kernel
theorem dX4_firstBeforeSentence_29 : decode cX4_firstBeforeSentence 29 = .ok (.ireturn, 1) := by decide +kernel
theorem dX4_firstBeforeSentence_30 : decode cX4_firstBeforeSentence 30 = .ok (.iinc 2 (-1), 3) := by decide +kernel
theorem dX4_firstBeforeSentence_33 : decode cX4_firstBeforeSentence 33 = .ok (.goto (-29), 3) := by decide +kernel
theorem dX4_firstBeforeSentence_36 : decode cX4_firstBeforeSentence 36 = .ok (.iconst (-1), 1) := by decide +kernel
theorem dX4_firstBeforeSentence_37 : decode cX4_firstBeforeSentence 37 = .ok (.ireturn, 1) := by decide +kernel
theorem dJ9_max_7cf53_0 : decode cJ9_max_7cf53 0 = .ok (.iload_n 0, 1) := by decide +kernel
theorem dJ9_max_7cf53_1 : decode cJ9_max_7cf53 1 = .ok (.iload_n 1, 1) := by decide +kernel
theorem dJ9_max_7cf53_2 : decode cJ9_max_7cf53 2 = .ok (.if_icmp .lt 7, 3) := by decide +kernel
theorem dJ9_max_7cf53_5 : decode cJ9_max_7cf53 5 = .ok (.iload_n 0, 1) := by decide +kernel
theorem dJ9_max_7cf53_6 : decode cJ9_max_7cf53 6 = .ok (.goto 4, 3) := by decide +kernel
theorem dJ9_max_7cf53_9 : decode cJ9_max_7cf53 9 = .ok (.iload_n 1, 1) := by decide +kernel
theorem dJ9_max_7cf53_10 : decode cJ9_max_7cf53 10 = .ok (.ireturn, 1) := by decide +kernel
theorem dJ9_min_7cf53_0 : decode cJ9_min_7cf53 0 = .ok (.iload_n 0, 1) := by decide +kernel
theorem dJ9_min_7cf53_1 : decode cJ9_min_7cf53 1 = .ok (.iload_n 1, 1) := by decide +kernel
theorem dJ9_min_7cf53_2 : decode cJ9_min_7cf53 2 = .ok (.if_icmp .gt 7, 3) := by decide +kernel
theorem dJ9_min_7cf53_5 : decode cJ9_min_7cf53 5 = .ok (.iload_n 0, 1) := by decide +kernel
theorem dJ9_min_7cf53_6 : decode cJ9_min_7cf53 6 = .ok (.goto 4, 3) := by decide +kernel
theorem dJ9_min_7cf53_9 : decode cJ9_min_7cf53 9 = .ok (.iload_n 1, 1) := by decide +kernel
theorem dJ9_min_7cf53_10 : decode cJ9_min_7cf53 10 = .ok (.ireturn, 1) := by decide +kernel
