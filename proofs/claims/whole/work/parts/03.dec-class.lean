set_option maxRecDepth 20000 in
theorem ggX0_init_X1_init : GoodIn wsX0_init wsX1_init := goodIn_r _ [10, 11, 2, 3, 12, 13, 14, 15, 16, 17, 18, 19, 20, 21, 22, 23, 24, 25, 26, 27, 28, 29, 30, 31, 32, 35, 36, 37, 38, 39, 40, 41, 42, 43, 44, 45, 46, 47, 48, 49, 50, 51, 52] rfl (by decide +kernel)
set_option maxRecDepth 20000 in
theorem gX0_init_X1_init : GoodIn wsX0_init (wsX1_init) := ggX0_init_X1_init
theorem dX0_init_0 : decode cX0_init 0 = .ok (.aload_n 0, 1) := by decide +kernel
theorem dX0_init_1 : decode cX0_init 1 = .ok (.invokespecial 3, 3) := by decide +kernel
theorem dX0_init_4 : decode cX0_init 4 = .ok (.aload_n 0, 1) := by decide +kernel
theorem dX0_init_5 : decode cX0_init 5 = .ok (.iconst 5, 1) := by decide +kernel
theorem dX0_init_6 : decode cX0_init 6 = .ok (.anewarray 9, 3) := by decide +kernel
theorem dX0_init_9 : decode cX0_init 9 = .ok (.putfield 11, 3) := by decide +kernel
theorem dX0_init_12 : decode cX0_init 12 = .ok (.iconst 0, 1) := by decide +kernel
theorem dX0_init_13 : decode cX0_init 13 = .ok (.istore_n 1, 1) := by decide +kernel
theorem dX0_init_14 : decode cX0_init 14 = .ok (.iload_n 1, 1) := by decide +kernel
theorem dX0_init_15 : decode cX0_init 15 = .ok (.iconst 4, 1) := by decide +kernel
theorem dX0_init_16 : decode cX0_init 16 = .ok (.if_icmp .gt 22, 3) := by decide +kernel
theorem dX0_init_19 : decode cX0_init 19 = .ok (.aload_n 0, 1) := by decide +kernel
theorem dX0_init_20 : decode cX0_init 20 = .ok (.getfield 11, 3) := by decide +kernel
theorem dX0_init_23 : decode cX0_init 23 = .ok (.iload_n 1, 1) := by decide +kernel
theorem dX0_init_24 : decode cX0_init 24 = .ok (.new 9, 3) := by decide +kernel
theorem dX0_init_27 : decode cX0_init 27 = .ok (.dup, 1) := by decide +kernel
theorem dX0_init_28 : decode cX0_init 28 = .ok (.invokespecial 17, 3) := by decide +kernel
theorem dX0_init_31 : decode cX0_init 31 = .ok (.aastore, 1) := by decide +kernel
theorem dX0_init_32 : decode cX0_init 32 = .ok (.iinc 1 1, 3) := by decide +kernel
theorem dX0_init_35 : decode cX0_init 35 = .ok (.goto (-21), 3) := by decide +kernel
theorem dX0_init_38 : decode cX0_init 38 = .ok (.return_, 1) := by decide +kernel
set_option maxRecDepth 20000 in
theorem ggX0_prepare_X0_copyInto : GoodIn wsX0_prepare wsX0_copyInto := goodIn_r _ [6, 7, 8, 9, 10, 11, 12, 13, 14, 15, 16, 17, 18, 19, 20, 21, 22, 23, 24, 25, 26, 27, 28, 29, 30, 31, 32, 33, 34, 35, 36, 37, 38, 39, 40, 41, 42, 43, 44, 45, 46, 47, 48, 49, 50, 51, 52, 53, 54, 55, 56, 57, 58, 59, 60] rfl (by decide +kernel)
set_option maxRecDepth 20000 in
theorem gX0_prepare_X0_copyInto : GoodIn wsX0_prepare (wsV RX0 22 RX0 yX0_copyInto wsX0_copyInto) := goodIn_app (goodIn_of _ (by decide +kernel)) ggX0_prepare_X0_copyInto
theorem dX0_prepare_0 : decode cX0_prepare 0 = .ok (.aload_n 0, 1) := by decide +kernel
theorem dX0_prepare_1 : decode cX0_prepare 1 = .ok (.aload_n 0, 1) := by decide +kernel
theorem dX0_prepare_2 : decode cX0_prepare 2 = .ok (.getfield 18, 3) := by decide +kernel
theorem dX0_prepare_5 : decode cX0_prepare 5 = .ok (.aload_n 1, 1) := by decide +kernel
theorem dX0_prepare_6 : decode cX0_prepare 6 = .ok (.invokevirtual 22, 3) := by decide +kernel
theorem dX0_prepare_9 : decode cX0_prepare 9 = .ok (.return_, 1) := by decide +kernel
set_option maxRecDepth 20000 in
theorem ggX0_keepPrepared_X0_dropOldest : GoodIn wsX0_keepPrepared wsX0_dropOldest := goodIn_r _ [6, 7, 1, 8, 9, 10, 5, 11, 12, 13, 14, 15, 16, 17, 18, 19, 20, 21, 22, 23, 24, 25, 26, 27, 28, 29, 30, 31, 32, 33, 34, 35, 36, 37, 38, 39, 40, 41, 42, 43, 44, 45, 46, 47, 48, 49, 50, 51, 52, 53, 54, 55, 56, 57, 58, 59, 60, 61, 62, 63, 64] rfl (by decide +kernel)
set_option maxRecDepth 20000 in
theorem gX0_keepPrepared_X0_dropOldest : GoodIn wsX0_keepPrepared (wsV RX0 26 RX0 yX0_dropOldest wsX0_dropOldest) := goodIn_app (goodIn_of _ (by decide +kernel)) ggX0_keepPrepared_X0_dropOldest
theorem dX0_keepPrepared_0 : decode cX0_keepPrepared 0 = .ok (.aload_n 0, 1) := by decide +kernel
theorem dX0_keepPrepared_1 : decode cX0_keepPrepared 1 = .ok (.dup, 1) := by decide +kernel
theorem dX0_keepPrepared_2 : decode cX0_keepPrepared 2 = .ok (.getfield 18, 3) := by decide +kernel
theorem dX0_keepPrepared_5 : decode cX0_keepPrepared 5 = .ok (.iconst 1, 1) := by decide +kernel
theorem dX0_keepPrepared_6 : decode cX0_keepPrepared 6 = .ok (.iadd, 1) := by decide +kernel
theorem dX0_keepPrepared_7 : decode cX0_keepPrepared 7 = .ok (.putfield 18, 3) := by decide +kernel
theorem dX0_keepPrepared_10 : decode cX0_keepPrepared 10 = .ok (.aload_n 0, 1) := by decide +kernel
theorem dX0_keepPrepared_11 : decode cX0_keepPrepared 11 = .ok (.getfield 18, 3) := by decide +kernel
theorem dX0_keepPrepared_14 : decode cX0_keepPrepared 14 = .ok (.iconst 4, 1) := by decide +kernel
theorem dX0_keepPrepared_15 : decode cX0_keepPrepared 15 = .ok (.if_icmp .le 7, 3) := by decide +kernel
theorem dX0_keepPrepared_18 : decode cX0_keepPrepared 18 = .ok (.aload_n 0, 1) := by decide +kernel
theorem dX0_keepPrepared_19 : decode cX0_keepPrepared 19 = .ok (.invokevirtual 26, 3) := by decide +kernel
theorem dX0_keepPrepared_22 : decode cX0_keepPrepared 22 = .ok (.return_, 1) := by decide +kernel
set_option maxRecDepth 20000 in
theorem ggX0_dropOldest_X0_copyInto : GoodIn wsX0_dropOldest wsX0_copyInto := goodIn_r _ [7, 1, 8, 9, 10, 11, 12, 13, 14, 15, 16, 17, 18, 19, 20, 21, 22, 23, 24, 25, 26, 27, 28, 29, 30, 31, 32, 33, 34, 35, 36, 37, 38, 39, 40, 41, 42, 43, 44, 45, 46, 47, 48, 49, 50, 51, 52, 53, 54, 55, 56, 57, 58, 59, 60] rfl (by decide +kernel)
set_option maxRecDepth 20000 in
theorem gX0_dropOldest_X0_copyInto : GoodIn wsX0_dropOldest (wsV RX0 22 RX0 yX0_copyInto wsX0_copyInto) := goodIn_app (goodIn_of _ (by decide +kernel)) ggX0_dropOldest_X0_copyInto
theorem dX0_dropOldest_0 : decode cX0_dropOldest 0 = .ok (.iconst 1, 1) := by decide +kernel
theorem dX0_dropOldest_1 : decode cX0_dropOldest 1 = .ok (.istore_n 1, 1) := by decide +kernel
theorem dX0_dropOldest_2 : decode cX0_dropOldest 2 = .ok (.iload_n 1, 1) := by decide +kernel
theorem dX0_dropOldest_3 : decode cX0_dropOldest 3 = .ok (.iconst 4, 1) := by decide +kernel
theorem dX0_dropOldest_4 : decode cX0_dropOldest 4 = .ok (.if_icmp .gt 22, 3) := by decide +kernel
theorem dX0_dropOldest_7 : decode cX0_dropOldest 7 = .ok (.aload_n 0, 1) := by decide +kernel
theorem dX0_dropOldest_8 : decode cX0_dropOldest 8 = .ok (.iload_n 1, 1) := by decide +kernel
theorem dX0_dropOldest_9 : decode cX0_dropOldest 9 = .ok (.iconst 1, 1) := by decide +kernel
theorem dX0_dropOldest_10 : decode cX0_dropOldest 10 = .ok (.isub, 1) := by decide +kernel
theorem dX0_dropOldest_11 : decode cX0_dropOldest 11 = .ok (.aload_n 0, 1) := by decide +kernel
theorem dX0_dropOldest_12 : decode cX0_dropOldest 12 = .ok (.getfield 11, 3) := by decide +kernel
theorem dX0_dropOldest_15 : decode cX0_dropOldest 15 = .ok (.iload_n 1, 1) := by decide +kernel
theorem dX0_dropOldest_16 : decode cX0_dropOldest 16 = .ok (.aaload, 1) := by decide +kernel
theorem dX0_dropOldest_17 : decode cX0_dropOldest 17 = .ok (.invokevirtual 22, 3) := by decide +kernel
theorem dX0_dropOldest_20 : decode cX0_dropOldest 20 = .ok (.iinc 1 1, 3) := by decide +kernel
theorem dX0_dropOldest_23 : decode cX0_dropOldest 23 = .ok (.goto (-21), 3) := by decide +kernel
theorem dX0_dropOldest_26 : decode cX0_dropOldest 26 = .ok (.aload_n 0, 1) := by decide +kernel
theorem dX0_dropOldest_27 : decode cX0_dropOldest 27 = .ok (.iconst 4, 1) := by decide +kernel
theorem dX0_dropOldest_28 : decode cX0_dropOldest 28 = .ok (.putfield 18, 3) := by decide +kernel
theorem dX0_dropOldest_31 : decode cX0_dropOldest 31 = .ok (.return_, 1) := by decide +kernel
set_option maxRecDepth 20000 in
theorem ggX0_copyInto_X1_copyFrom : GoodIn wsX0_copyInto wsX1_copyFrom := goodIn_r _ [6, 7, 8, 9, 10, 11, 12, 13, 14, 15, 16, 17, 18, 19, 20, 21, 22, 23, 24, 25, 26, 27, 28, 29, 30, 31, 32, 33, 34, 37, 38, 39, 40, 41, 42, 43, 44, 45, 46, 47, 48, 49, 50, 51, 52, 53, 54] rfl (by decide +kernel)
set_option maxRecDepth 20000 in
theorem gX0_copyInto_X1_copyFrom : GoodIn wsX0_copyInto (wsV RX0 29 RX1 yX1_copyFrom wsX1_copyFrom) := goodIn_app (goodIn_of _ (by decide +kernel)) ggX0_copyInto_X1_copyFrom
theorem dX0_copyInto_0 : decode cX0_copyInto 0 = .ok (.iload_n 1, 1) := by decide +kernel
theorem dX0_copyInto_1 : decode cX0_copyInto 1 = .ok (.ifCond .lt 31, 3) := by decide +kernel
theorem dX0_copyInto_4 : decode cX0_copyInto 4 = .ok (.iload_n 1, 1) := by decide +kernel
theorem dX0_copyInto_5 : decode cX0_copyInto 5 = .ok (.iconst 4, 1) := by decide +kernel
theorem dX0_copyInto_6 : decode cX0_copyInto 6 = .ok (.if_icmp .gt 26, 3) := by decide +kernel
theorem dX0_copyInto_9 : decode cX0_copyInto 9 = .ok (.aload_n 0, 1) := by decide +kernel
theorem dX0_copyInto_10 : decode cX0_copyInto 10 = .ok (.getfield 11, 3) := by decide +kernel
theorem dX0_copyInto_13 : decode cX0_copyInto 13 = .ok (.iload_n 1, 1) := by decide +kernel
theorem dX0_copyInto_14 : decode cX0_copyInto 14 = .ok (.aaload, 1) := by decide +kernel
theorem dX0_copyInto_15 : decode cX0_copyInto 15 = .ok (.ifnull 17, 3) := by decide +kernel
theorem dX0_copyInto_18 : decode cX0_copyInto 18 = .ok (.aload_n 2, 1) := by decide +kernel
theorem dX0_copyInto_19 : decode cX0_copyInto 19 = .ok (.ifnull 13, 3) := by decide +kernel
theorem dX0_copyInto_22 : decode cX0_copyInto 22 = .ok (.aload_n 0, 1) := by decide +kernel
theorem dX0_copyInto_23 : decode cX0_copyInto 23 = .ok (.getfield 11, 3) := by decide +kernel
theorem dX0_copyInto_26 : decode cX0_copyInto 26 = .ok (.iload_n 1, 1) := by decide +kernel
theorem dX0_copyInto_27 : decode cX0_copyInto 27 = .ok (.aaload, 1) := by decide +kernel
theorem dX0_copyInto_28 : decode cX0_copyInto 28 = .ok (.aload_n 2, 1) := by decide +kernel
theorem dX0_copyInto_29 : decode cX0_copyInto 29 = .ok (.invokevirtual 29, 3) := by decide +kernel
theorem dX0_copyInto_32 : decode cX0_copyInto 32 = .ok (.return_, 1) := by decide +kernel
set_option maxRecDepth 20000 in
theorem ggX0_restore_X1_copyFrom : GoodIn wsX0_restore wsX1_copyFrom := goodIn_r _ [7, 8, 9, 10, 11, 12, 13, 14, 15, 16, 17, 18, 19, 20, 21, 22, 23, 24, 25, 26, 27, 28, 29, 30, 31, 32, 33, 34, 35, 38, 39, 40, 41, 42, 43, 44, 45, 46, 47, 48, 49, 50, 51, 52, 53, 54, 55] rfl (by decide +kernel)
set_option maxRecDepth 20000 in
theorem gX0_restore_X1_copyFrom : GoodIn wsX0_restore (wsV RX0 29 RX1 yX1_copyFrom wsX1_copyFrom) := goodIn_app (goodIn_of _ (by decide +kernel)) ggX0_restore_X1_copyFrom
theorem dX0_restore_0 : decode cX0_restore 0 = .ok (.aload_n 0, 1) := by decide +kernel
theorem dX0_restore_1 : decode cX0_restore 1 = .ok (.getfield 18, 3) := by decide +kernel
theorem dX0_restore_4 : decode cX0_restore 4 = .ok (.iconst 1, 1) := by decide +kernel
theorem dX0_restore_5 : decode cX0_restore 5 = .ok (.if_icmp .lt 25, 3) := by decide +kernel
theorem dX0_restore_8 : decode cX0_restore 8 = .ok (.aload_n 0, 1) := by decide +kernel
theorem dX0_restore_9 : decode cX0_restore 9 = .ok (.getfield 18, 3) := by decide +kernel
theorem dX0_restore_12 : decode cX0_restore 12 = .ok (.iconst 4, 1) := by decide +kernel
theorem dX0_restore_13 : decode cX0_restore 13 = .ok (.if_icmp .gt 17, 3) := by decide +kernel
theorem dX0_restore_16 : decode cX0_restore 16 = .ok (.aload_n 0, 1) := by decide +kernel
theorem dX0_restore_17 : decode cX0_restore 17 = .ok (.getfield 11, 3) := by decide +kernel
theorem dX0_restore_20 : decode cX0_restore 20 = .ok (.aload_n 0, 1) := by decide +kernel
theorem dX0_restore_21 : decode cX0_restore 21 = .ok (.getfield 18, 3) := by decide +kernel
theorem dX0_restore_24 : decode cX0_restore 24 = .ok (.iconst 1, 1) := by decide +kernel
theorem dX0_restore_25 : decode cX0_restore 25 = .ok (.isub, 1) := by decide +kernel
theorem dX0_restore_26 : decode cX0_restore 26 = .ok (.aaload, 1) := by decide +kernel
theorem dX0_restore_27 : decode cX0_restore 27 = .ok (.ifnonnull 5, 3) := by decide +kernel
theorem dX0_restore_30 : decode cX0_restore 30 = .ok (.iconst 0, 1) := by decide +kernel
theorem dX0_restore_31 : decode cX0_restore 31 = .ok (.ireturn, 1) := by decide +kernel
theorem dX0_restore_32 : decode cX0_restore 32 = .ok (.aload_n 0, 1) := by decide +kernel
theorem dX0_restore_33 : decode cX0_restore 33 = .ok (.dup, 1) := by decide +kernel
theorem dX0_restore_34 : decode cX0_restore 34 = .ok (.getfield 18, 3) := by decide +kernel
theorem dX0_restore_37 : decode cX0_restore 37 = .ok (.iconst 1, 1) := by decide +kernel
theorem dX0_restore_38 : decode cX0_restore 38 = .ok (.isub, 1) := by decide +kernel
theorem dX0_restore_39 : decode cX0_restore 39 = .ok (.putfield 18, 3) := by decide +kernel
theorem dX0_restore_42 : decode cX0_restore 42 = .ok (.aload_n 1, 1) := by decide +kernel
theorem dX0_restore_43 : decode cX0_restore 43 = .ok (.aload_n 0, 1) := by decide +kernel
theorem dX0_restore_44 : decode cX0_restore 44 = .ok (.getfield 11, 3) := by decide +kernel
theorem dX0_restore_47 : decode cX0_restore 47 = .ok (.aload_n 0, 1) := by decide +kernel
theorem dX0_restore_48 : decode cX0_restore 48 = .ok (.getfield 18, 3) := by decide +kernel
theorem dX0_restore_51 : decode cX0_restore 51 = .ok (.aaload, 1) := by decide +kernel
theorem dX0_restore_52 : decode cX0_restore 52 = .ok (.invokevirtual 29, 3) := by decide +kernel
theorem dX0_restore_55 : decode cX0_restore 55 = .ok (.iconst 1, 1) := by decide +kernel
theorem dX0_restore_56 : decode cX0_restore 56 = .ok (.ireturn, 1) := by decide +kernel
set_option maxRecDepth 20000 in
theorem ggX1_init_X4_init : GoodIn wsX1_init wsX4_init := goodIn_r _ [20, 21, 2, 3, 4, 22, 23, 24, 39, 40, 41, 42] rfl (by decide +kernel)
set_option maxRecDepth 20000 in
theorem gX1_init_X4_init_n44 : GoodIn wsX1_init (wsX4_init) := ggX1_init_X4_init
theorem dX1_init_0 : decode cX1_init 0 = .ok (.aload_n 0, 1) := by decide +kernel
theorem dX1_init_1 : decode cX1_init 1 = .ok (.invokespecial 3, 3) := by decide +kernel
theorem dX1_init_4 : decode cX1_init 4 = .ok (.aload_n 0, 1) := by decide +kernel
theorem dX1_init_5 : decode cX1_init 5 = .ok (.bipush 8, 2) := by decide +kernel
theorem dX1_init_7 : decode cX1_init 7 = .ok (.newarray .int, 2) := by decide +kernel
theorem dX1_init_9 : decode cX1_init 9 = .ok (.putfield 9, 3) := by decide +kernel
theorem dX1_init_12 : decode cX1_init 12 = .ok (.aload_n 0, 1) := by decide +kernel
theorem dX1_init_13 : decode cX1_init 13 = .ok (.bipush 8, 2) := by decide +kernel
theorem dX1_init_15 : decode cX1_init 15 = .ok (.newarray .int, 2) := by decide +kernel
theorem dX1_init_17 : decode cX1_init 17 = .ok (.putfield 15, 3) := by decide +kernel
theorem dX1_init_20 : decode cX1_init 20 = .ok (.aload_n 0, 1) := by decide +kernel
theorem dX1_init_21 : decode cX1_init 21 = .ok (.bipush 8, 2) := by decide +kernel
theorem dX1_init_23 : decode cX1_init 23 = .ok (.newarray .int, 2) := by decide +kernel
theorem dX1_init_25 : decode cX1_init 25 = .ok (.putfield 18, 3) := by decide +kernel
theorem dX1_init_28 : decode cX1_init 28 = .ok (.aload_n 0, 1) := by decide +kernel
theorem dX1_init_29 : decode cX1_init 29 = .ok (.bipush 8, 2) := by decide +kernel
theorem dX1_init_31 : decode cX1_init 31 = .ok (.newarray .int, 2) := by decide +kernel
theorem dX1_init_33 : decode cX1_init 33 = .ok (.putfield 21, 3) := by decide +kernel
theorem dX1_init_36 : decode cX1_init 36 = .ok (.aload_n 0, 1) := by decide +kernel
theorem dX1_init_37 : decode cX1_init 37 = .ok (.bipush 8, 2) := by decide +kernel
theorem dX1_init_39 : decode cX1_init 39 = .ok (.newarray .int, 2) := by decide +kernel
theorem dX1_init_41 : decode cX1_init 41 = .ok (.putfield 24, 3) := by decide +kernel
theorem dX1_init_44 : decode cX1_init 44 = .ok (.aload_n 0, 1) := by decide +kernel
theorem dX1_init_45 : decode cX1_init 45 = .ok (.bipush 8, 2) := by decide +kernel
theorem dX1_init_47 : decode cX1_init 47 = .ok (.newarray .int, 2) := by decide +kernel
theorem dX1_init_49 : decode cX1_init 49 = .ok (.putfield 27, 3) := by decide +kernel
theorem dX1_init_52 : decode cX1_init 52 = .ok (.aload_n 0, 1) := by decide +kernel
theorem dX1_init_53 : decode cX1_init 53 = .ok (.sipush 320, 3) := by decide +kernel
theorem dX1_init_56 : decode cX1_init 56 = .ok (.newarray .int, 2) := by decide +kernel
theorem dX1_init_58 : decode cX1_init 58 = .ok (.putfield 30, 3) := by decide +kernel
theorem dX1_init_61 : decode cX1_init 61 = .ok (.aload_n 0, 1) := by decide +kernel
theorem dX1_init_62 : decode cX1_init 62 = .ok (.bipush 30, 2) := by decide +kernel
theorem dX1_init_64 : decode cX1_init 64 = .ok (.newarray .int, 2) := by decide +kernel
theorem dX1_init_66 : decode cX1_init 66 = .ok (.putfield 33, 3) := by decide +kernel
theorem dX1_init_69 : decode cX1_init 69 = .ok (.aload_n 0, 1) := by decide +kernel
theorem dX1_init_70 : decode cX1_init 70 = .ok (.bipush 30, 2) := by decide +kernel
theorem dX1_init_72 : decode cX1_init 72 = .ok (.newarray .int, 2) := by decide +kernel
theorem dX1_init_74 : decode cX1_init 74 = .ok (.putfield 36, 3) := by decide +kernel
theorem dX1_init_77 : decode cX1_init 77 = .ok (.aload_n 0, 1) := by decide +kernel
theorem dX1_init_78 : decode cX1_init 78 = .ok (.iconst 3, 1) := by decide +kernel
theorem dX1_init_79 : decode cX1_init 79 = .ok (.newarray .int, 2) := by decide +kernel
theorem dX1_init_81 : decode cX1_init 81 = .ok (.putfield 39, 3) := by decide +kernel
theorem dX1_init_84 : decode cX1_init 84 = .ok (.aload_n 0, 1) := by decide +kernel
theorem dX1_init_85 : decode cX1_init 85 = .ok (.new 42, 3) := by decide +kernel
theorem dX1_init_88 : decode cX1_init 88 = .ok (.dup, 1) := by decide +kernel
theorem dX1_init_89 : decode cX1_init 89 = .ok (.invokespecial 44, 3) := by decide +kernel
theorem dX1_init_92 : decode cX1_init 92 = .ok (.putfield 45, 3) := by decide +kernel
theorem dX1_init_95 : decode cX1_init 95 = .ok (.aload_n 0, 1) := by decide +kernel
theorem dX1_init_96 : decode cX1_init 96 = .ok (.getfield 39, 3) := by decide +kernel
theorem dX1_init_99 : decode cX1_init 99 = .ok (.iconst 0, 1) := by decide +kernel
theorem dX1_init_100 : decode cX1_init 100 = .ok (.bipush 10, 2) := by decide +kernel
theorem dX1_init_102 : decode cX1_init 102 = .ok (.iastore, 1) := by decide +kernel
theorem dX1_init_103 : decode cX1_init 103 = .ok (.aload_n 0, 1) := by decide +kernel
theorem dX1_init_104 : decode cX1_init 104 = .ok (.getfield 39, 3) := by decide +kernel
theorem dX1_init_107 : decode cX1_init 107 = .ok (.iconst 1, 1) := by decide +kernel
theorem dX1_init_108 : decode cX1_init 108 = .ok (.iconst 4, 1) := by decide +kernel
theorem dX1_init_109 : decode cX1_init 109 = .ok (.iastore, 1) := by decide +kernel
theorem dX1_init_110 : decode cX1_init 110 = .ok (.aload_n 0, 1) := by decide +kernel
theorem dX1_init_111 : decode cX1_init 111 = .ok (.getfield 39, 3) := by decide +kernel
theorem dX1_init_114 : decode cX1_init 114 = .ok (.iconst 2, 1) := by decide +kernel
theorem dX1_init_115 : decode cX1_init 115 = .ok (.bipush 40, 2) := by decide +kernel
theorem dX1_init_117 : decode cX1_init 117 = .ok (.iastore, 1) := by decide +kernel
theorem dX1_init_118 : decode cX1_init 118 = .ok (.iconst 0, 1) := by decide +kernel
theorem dX1_init_119 : decode cX1_init 119 = .ok (.istore_n 1, 1) := by decide +kernel
theorem dX1_init_120 : decode cX1_init 120 = .ok (.iload_n 1, 1) := by decide +kernel
theorem dX1_init_121 : decode cX1_init 121 = .ok (.bipush 8, 2) := by decide +kernel
theorem dX1_init_123 : decode cX1_init 123 = .ok (.if_icmp .ge 16, 3) := by decide +kernel
theorem dX1_init_126 : decode cX1_init 126 = .ok (.aload_n 0, 1) := by decide +kernel
theorem dX1_init_127 : decode cX1_init 127 = .ok (.getfield 21, 3) := by decide +kernel
theorem dX1_init_130 : decode cX1_init 130 = .ok (.iload_n 1, 1) := by decide +kernel
theorem dX1_init_131 : decode cX1_init 131 = .ok (.iconst (-1), 1) := by decide +kernel
theorem dX1_init_132 : decode cX1_init 132 = .ok (.iastore, 1) := by decide +kernel
theorem dX1_init_133 : decode cX1_init 133 = .ok (.iinc 1 1, 3) := by decide +kernel
theorem dX1_init_136 : decode cX1_init 136 = .ok (.goto (-16), 3) := by decide +kernel
theorem dX1_init_139 : decode cX1_init 139 = .ok (.iconst 0, 1) := by decide +kernel
theorem dX1_init_140 : decode cX1_init 140 = .ok (.istore_n 1, 1) := by decide +kernel
theorem dX1_init_141 : decode cX1_init 141 = .ok (.iload_n 1, 1) := by decide +kernel
theorem dX1_init_142 : decode cX1_init 142 = .ok (.sipush 320, 3) := by decide +kernel
theorem dX1_init_145 : decode cX1_init 145 = .ok (.if_icmp .ge 16, 3) := by decide +kernel
theorem dX1_init_148 : decode cX1_init 148 = .ok (.aload_n 0, 1) := by decide +kernel
theorem dX1_init_149 : decode cX1_init 149 = .ok (.getfield 30, 3) := by decide +kernel
theorem dX1_init_152 : decode cX1_init 152 = .ok (.iload_n 1, 1) := by decide +kernel
theorem dX1_init_153 : decode cX1_init 153 = .ok (.iconst (-1), 1) := by decide +kernel
theorem dX1_init_154 : decode cX1_init 154 = .ok (.iastore, 1) := by decide +kernel
theorem dX1_init_155 : decode cX1_init 155 = .ok (.iinc 1 1, 3) := by decide +kernel
theorem dX1_init_158 : decode cX1_init 158 = .ok (.goto (-17), 3) := by decide +kernel
theorem dX1_init_161 : decode cX1_init 161 = .ok (.return_, 1) := by decide +kernel
set_option maxRecDepth 20000 in
theorem ggX1_copyFrom_X4_copyFrom : GoodIn wsX1_copyFrom wsX4_copyFrom := goodIn_r _ [23, 24, 25, 3, 4, 5, 26, 27, 28, 43, 44, 45, 46] rfl (by decide +kernel)
set_option maxRecDepth 20000 in
theorem gX1_copyFrom_X4_copyFrom : GoodIn wsX1_copyFrom (wsV RX1 55 RX4 yX4_copyFrom wsX4_copyFrom) := goodIn_app (goodIn_of _ (by decide +kernel)) ggX1_copyFrom_X4_copyFrom
theorem dX1_copyFrom_0 : decode cX1_copyFrom 0 = .ok (.aload_n 1, 1) := by decide +kernel
theorem dX1_copyFrom_1 : decode cX1_copyFrom 1 = .ok (.getfield 9, 3) := by decide +kernel
theorem dX1_copyFrom_4 : decode cX1_copyFrom 4 = .ok (.iconst 0, 1) := by decide +kernel
theorem dX1_copyFrom_5 : decode cX1_copyFrom 5 = .ok (.aload_n 0, 1) := by decide +kernel
theorem dX1_copyFrom_6 : decode cX1_copyFrom 6 = .ok (.getfield 9, 3) := by decide +kernel
theorem dX1_copyFrom_9 : decode cX1_copyFrom 9 = .ok (.iconst 0, 1) := by decide +kernel
theorem dX1_copyFrom_10 : decode cX1_copyFrom 10 = .ok (.bipush 8, 2) := by decide +kernel
theorem dX1_copyFrom_12 : decode cX1_copyFrom 12 = .ok (.invokestatic 49, 3) := by decide +kernel
theorem dX1_copyFrom_15 : decode cX1_copyFrom 15 = .ok (.aload_n 1, 1) := by decide +kernel
theorem dX1_copyFrom_16 : decode cX1_copyFrom 16 = .ok (.getfield 15, 3) := by decide +kernel
theorem dX1_copyFrom_19 : decode cX1_copyFrom 19 = .ok (.iconst 0, 1) := by decide +kernel
theorem dX1_copyFrom_20 : decode cX1_copyFrom 20 = .ok (.aload_n 0, 1) := by decide +kernel
theorem dX1_copyFrom_21 : decode cX1_copyFrom 21 = .ok (.getfield 15, 3) := by decide +kernel
theorem dX1_copyFrom_24 : decode cX1_copyFrom 24 = .ok (.iconst 0, 1) := by decide +kernel
theorem dX1_copyFrom_25 : decode cX1_copyFrom 25 = .ok (.bipush 8, 2) := by decide +kernel
theorem dX1_copyFrom_27 : decode cX1_copyFrom 27 = .ok (.invokestatic 49, 3) := by decide +kernel
theorem dX1_copyFrom_30 : decode cX1_copyFrom 30 = .ok (.aload_n 1, 1) := by decide +kernel
theorem dX1_copyFrom_31 : decode cX1_copyFrom 31 = .ok (.getfield 18, 3) := by decide +kernel
theorem dX1_copyFrom_34 : decode cX1_copyFrom 34 = .ok (.iconst 0, 1) := by decide +kernel
theorem dX1_copyFrom_35 : decode cX1_copyFrom 35 = .ok (.aload_n 0, 1) := by decide +kernel
theorem dX1_copyFrom_36 : decode cX1_copyFrom 36 = .ok (.getfield 18, 3) := by decide +kernel
theorem dX1_copyFrom_39 : decode cX1_copyFrom 39 = .ok (.iconst 0, 1) := by decide +kernel
theorem dX1_copyFrom_40 : decode cX1_copyFrom 40 = .ok (.bipush 8, 2) := by decide +kernel
theorem dX1_copyFrom_42 : decode cX1_copyFrom 42 = .ok (.invokestatic 49, 3) := by decide +kernel
theorem dX1_copyFrom_45 : decode cX1_copyFrom 45 = .ok (.aload_n 1, 1) := by decide +kernel
theorem dX1_copyFrom_46 : decode cX1_copyFrom 46 = .ok (.getfield 21, 3) := by decide +kernel
theorem dX1_copyFrom_49 : decode cX1_copyFrom 49 = .ok (.iconst 0, 1) := by decide +kernel
theorem dX1_copyFrom_50 : decode cX1_copyFrom 50 = .ok (.aload_n 0, 1) := by decide +kernel
theorem dX1_copyFrom_51 : decode cX1_copyFrom 51 = .ok (.getfield 21, 3) := by decide +kernel
theorem dX1_copyFrom_54 : decode cX1_copyFrom 54 = .ok (.iconst 0, 1) := by decide +kernel
theorem dX1_copyFrom_55 : decode cX1_copyFrom 55 = .ok (.bipush 8, 2) := by decide +kernel
theorem dX1_copyFrom_57 : decode cX1_copyFrom 57 = .ok (.invokestatic 49, 3) := by decide +kernel
theorem dX1_copyFrom_60 : decode cX1_copyFrom 60 = .ok (.aload_n 1, 1) := by decide +kernel
theorem dX1_copyFrom_61 : decode cX1_copyFrom 61 = .ok (.getfield 24, 3) := by decide +kernel
theorem dX1_copyFrom_64 : decode cX1_copyFrom 64 = .ok (.iconst 0, 1) := by decide +kernel
theorem dX1_copyFrom_65 : decode cX1_copyFrom 65 = .ok (.aload_n 0, 1) := by decide +kernel
theorem dX1_copyFrom_66 : decode cX1_copyFrom 66 = .ok (.getfield 24, 3) := by decide +kernel
theorem dX1_copyFrom_69 : decode cX1_copyFrom 69 = .ok (.iconst 0, 1) := by decide +kernel
theorem dX1_copyFrom_70 : decode cX1_copyFrom 70 = .ok (.bipush 8, 2) := by decide +kernel
theorem dX1_copyFrom_72 : decode cX1_copyFrom 72 = .ok (.invokestatic 49, 3) := by decide +kernel
theorem dX1_copyFrom_75 : decode cX1_copyFrom 75 = .ok (.aload_n 1, 1) := by decide +kernel
theorem dX1_copyFrom_76 : decode cX1_copyFrom 76 = .ok (.getfield 27, 3) := by decide +kernel
theorem dX1_copyFrom_79 : decode cX1_copyFrom 79 = .ok (.iconst 0, 1) := by decide +kernel
theorem dX1_copyFrom_80 : decode cX1_copyFrom 80 = .ok (.aload_n 0, 1) := by decide +kernel
theorem dX1_copyFrom_81 : decode cX1_copyFrom 81 = .ok (.getfield 27, 3) := by decide +kernel
theorem dX1_copyFrom_84 : decode cX1_copyFrom 84 = .ok (.iconst 0, 1) := by decide +kernel
theorem dX1_copyFrom_85 : decode cX1_copyFrom 85 = .ok (.bipush 8, 2) := by decide +kernel
theorem dX1_copyFrom_87 : decode cX1_copyFrom 87 = .ok (.invokestatic 49, 3) := by decide +kernel
theorem dX1_copyFrom_90 : decode cX1_copyFrom 90 = .ok (.aload_n 1, 1) := by decide +kernel
theorem dX1_copyFrom_91 : decode cX1_copyFrom 91 = .ok (.getfield 30, 3) := by decide +kernel
theorem dX1_copyFrom_94 : decode cX1_copyFrom 94 = .ok (.iconst 0, 1) := by decide +kernel
theorem dX1_copyFrom_95 : decode cX1_copyFrom 95 = .ok (.aload_n 0, 1) := by decide +kernel
theorem dX1_copyFrom_96 : decode cX1_copyFrom 96 = .ok (.getfield 30, 3) := by decide +kernel
theorem dX1_copyFrom_99 : decode cX1_copyFrom 99 = .ok (.iconst 0, 1) := by decide +kernel
theorem dX1_copyFrom_100 : decode cX1_copyFrom 100 = .ok (.sipush 320, 3) := by decide +kernel
theorem dX1_copyFrom_103 : decode cX1_copyFrom 103 = .ok (.invokestatic 49, 3) := by decide +kernel
theorem dX1_copyFrom_106 : decode cX1_copyFrom 106 = .ok (.aload_n 1, 1) := by decide +kernel
theorem dX1_copyFrom_107 : decode cX1_copyFrom 107 = .ok (.getfield 33, 3) := by decide +kernel
theorem dX1_copyFrom_110 : decode cX1_copyFrom 110 = .ok (.iconst 0, 1) := by decide +kernel
theorem dX1_copyFrom_111 : decode cX1_copyFrom 111 = .ok (.aload_n 0, 1) := by decide +kernel
theorem dX1_copyFrom_112 : decode cX1_copyFrom 112 = .ok (.getfield 33, 3) := by decide +kernel
theorem dX1_copyFrom_115 : decode cX1_copyFrom 115 = .ok (.iconst 0, 1) := by decide +kernel
theorem dX1_copyFrom_116 : decode cX1_copyFrom 116 = .ok (.bipush 30, 2) := by decide +kernel
theorem dX1_copyFrom_118 : decode cX1_copyFrom 118 = .ok (.invokestatic 49, 3) := by decide +kernel
theorem dX1_copyFrom_121 : decode cX1_copyFrom 121 = .ok (.aload_n 1, 1) := by decide +kernel
theorem dX1_copyFrom_122 : decode cX1_copyFrom 122 = .ok (.getfield 36, 3) := by decide +kernel
theorem dX1_copyFrom_125 : decode cX1_copyFrom 125 = .ok (.iconst 0, 1) := by decide +kernel
theorem dX1_copyFrom_126 : decode cX1_copyFrom 126 = .ok (.aload_n 0, 1) := by decide +kernel
theorem dX1_copyFrom_127 : decode cX1_copyFrom 127 = .ok (.getfield 36, 3) := by decide +kernel
theorem dX1_copyFrom_130 : decode cX1_copyFrom 130 = .ok (.iconst 0, 1) := by decide +kernel
theorem dX1_copyFrom_131 : decode cX1_copyFrom 131 = .ok (.bipush 30, 2) := by decide +kernel
theorem dX1_copyFrom_133 : decode cX1_copyFrom 133 = .ok (.invokestatic 49, 3) := by decide +kernel
theorem dX1_copyFrom_136 : decode cX1_copyFrom 136 = .ok (.aload_n 1, 1) := by decide +kernel
theorem dX1_copyFrom_137 : decode cX1_copyFrom 137 = .ok (.getfield 39, 3) := by decide +kernel
theorem dX1_copyFrom_140 : decode cX1_copyFrom 140 = .ok (.iconst 0, 1) := by decide +kernel
theorem dX1_copyFrom_141 : decode cX1_copyFrom 141 = .ok (.aload_n 0, 1) := by decide +kernel
theorem dX1_copyFrom_142 : decode cX1_copyFrom 142 = .ok (.getfield 39, 3) := by decide +kernel
theorem dX1_copyFrom_145 : decode cX1_copyFrom 145 = .ok (.iconst 0, 1) := by decide +kernel
theorem dX1_copyFrom_146 : decode cX1_copyFrom 146 = .ok (.iconst 3, 1) := by decide +kernel
theorem dX1_copyFrom_147 : decode cX1_copyFrom 147 = .ok (.invokestatic 49, 3) := by decide +kernel
theorem dX1_copyFrom_150 : decode cX1_copyFrom 150 = .ok (.aload_n 0, 1) := by decide +kernel
theorem dX1_copyFrom_151 : decode cX1_copyFrom 151 = .ok (.getfield 45, 3) := by decide +kernel
theorem dX1_copyFrom_154 : decode cX1_copyFrom 154 = .ok (.aload_n 1, 1) := by decide +kernel
theorem dX1_copyFrom_155 : decode cX1_copyFrom 155 = .ok (.getfield 45, 3) := by decide +kernel
theorem dX1_copyFrom_158 : decode cX1_copyFrom 158 = .ok (.invokevirtual 55, 3) := by decide +kernel
theorem dX1_copyFrom_161 : decode cX1_copyFrom 161 = .ok (.aload_n 0, 1) := by decide +kernel
theorem dX1_copyFrom_162 : decode cX1_copyFrom 162 = .ok (.aload_n 1, 1) := by decide +kernel
theorem dX1_copyFrom_163 : decode cX1_copyFrom 163 = .ok (.getfield 59, 3) := by decide +kernel
theorem dX1_copyFrom_166 : decode cX1_copyFrom 166 = .ok (.putfield 59, 3) := by decide +kernel
theorem dX1_copyFrom_169 : decode cX1_copyFrom 169 = .ok (.aload_n 0, 1) := by decide +kernel
theorem dX1_copyFrom_170 : decode cX1_copyFrom 170 = .ok (.aload_n 1, 1) := by decide +kernel
theorem dX1_copyFrom_171 : decode cX1_copyFrom 171 = .ok (.getfield 63, 3) := by decide +kernel
theorem dX1_copyFrom_174 : decode cX1_copyFrom 174 = .ok (.putfield 63, 3) := by decide +kernel
theorem dX1_copyFrom_177 : decode cX1_copyFrom 177 = .ok (.aload_n 0, 1) := by decide +kernel
theorem dX1_copyFrom_178 : decode cX1_copyFrom 178 = .ok (.aload_n 1, 1) := by decide +kernel
theorem dX1_copyFrom_179 : decode cX1_copyFrom 179 = .ok (.getfield 66, 3) := by decide +kernel
theorem dX1_copyFrom_182 : decode cX1_copyFrom 182 = .ok (.putfield 66, 3) := by decide +kernel
theorem dX1_copyFrom_185 : decode cX1_copyFrom 185 = .ok (.return_, 1) := by decide +kernel
theorem dX1_lives_0 : decode cX1_lives 0 = .ok (.iload_n 1, 1) := by decide +kernel
theorem dX1_lives_1 : decode cX1_lives 1 = .ok (.ifCond .lt 22, 3) := by decide +kernel
theorem dX1_lives_4 : decode cX1_lives 4 = .ok (.iload_n 1, 1) := by decide +kernel
theorem dX1_lives_5 : decode cX1_lives 5 = .ok (.bipush 8, 2) := by decide +kernel
theorem dX1_lives_7 : decode cX1_lives 7 = .ok (.if_icmp .ge 16, 3) := by decide +kernel
theorem dX1_lives_10 : decode cX1_lives 10 = .ok (.aload_n 0, 1) := by decide +kernel
theorem dX1_lives_11 : decode cX1_lives 11 = .ok (.getfield 9, 3) := by decide +kernel
theorem dX1_lives_14 : decode cX1_lives 14 = .ok (.iload_n 1, 1) := by decide +kernel
theorem dX1_lives_15 : decode cX1_lives 15 = .ok (.iaload, 1) := by decide +kernel
theorem dX1_lives_16 : decode cX1_lives 16 = .ok (.ifCond .le 7, 3) := by decide +kernel
theorem dX1_lives_19 : decode cX1_lives 19 = .ok (.iconst 1, 1) := by decide +kernel
theorem dX1_lives_20 : decode cX1_lives 20 = .ok (.goto 4, 3) := by decide +kernel
theorem dX1_lives_23 : decode cX1_lives 23 = .ok (.iconst 0, 1) := by decide +kernel
theorem dX1_lives_24 : decode cX1_lives 24 = .ok (.ireturn, 1) := by decide +kernel
set_option maxRecDepth 20000 in
theorem ggX1_hasPlace_X1_lives : GoodIn wsX1_hasPlace wsX1_lives := goodIn_r _ [6, 1, 7, 8, 9, 10, 11, 12, 13, 14, 15, 16, 17, 18, 19, 20] rfl (by decide +kernel)
set_option maxRecDepth 20000 in
theorem gX1_hasPlace_X1_lives : GoodIn wsX1_hasPlace (wsV RX1 69 RX1 yX1_lives wsX1_lives) := goodIn_app (goodIn_of _ (by decide +kernel)) ggX1_hasPlace_X1_lives
theorem dX1_hasPlace_0 : decode cX1_hasPlace 0 = .ok (.aload_n 0, 1) := by decide +kernel
theorem dX1_hasPlace_1 : decode cX1_hasPlace 1 = .ok (.iload_n 1, 1) := by decide +kernel
theorem dX1_hasPlace_2 : decode cX1_hasPlace 2 = .ok (.invokevirtual 69, 3) := by decide +kernel
theorem dX1_hasPlace_5 : decode cX1_hasPlace 5 = .ok (.ifCond .eq 27, 3) := by decide +kernel
theorem dX1_hasPlace_8 : decode cX1_hasPlace 8 = .ok (.iload_n 2, 1) := by decide +kernel
theorem dX1_hasPlace_9 : decode cX1_hasPlace 9 = .ok (.ifCond .lt 23, 3) := by decide +kernel
theorem dX1_hasPlace_12 : decode cX1_hasPlace 12 = .ok (.iload_n 2, 1) := by decide +kernel
theorem dX1_hasPlace_13 : decode cX1_hasPlace 13 = .ok (.aload_n 0, 1) := by decide +kernel
theorem dX1_hasPlace_14 : decode cX1_hasPlace 14 = .ok (.getfield 9, 3) := by decide +kernel
theorem dX1_hasPlace_17 : decode cX1_hasPlace 17 = .ok (.iload_n 1, 1) := by decide +kernel
theorem dX1_hasPlace_18 : decode cX1_hasPlace 18 = .ok (.iaload, 1) := by decide +kernel
theorem dX1_hasPlace_19 : decode cX1_hasPlace 19 = .ok (.if_icmp .ge 13, 3) := by decide +kernel
theorem dX1_hasPlace_22 : decode cX1_hasPlace 22 = .ok (.iload_n 2, 1) := by decide +kernel
theorem dX1_hasPlace_23 : decode cX1_hasPlace 23 = .ok (.bipush 40, 2) := by decide +kernel
theorem dX1_hasPlace_25 : decode cX1_hasPlace 25 = .ok (.if_icmp .ge 7, 3) := by decide +kernel
theorem dX1_hasPlace_28 : decode cX1_hasPlace 28 = .ok (.iconst 1, 1) := by decide +kernel
theorem dX1_hasPlace_29 : decode cX1_hasPlace 29 = .ok (.goto 4, 3) := by decide +kernel
theorem dX1_hasPlace_32 : decode cX1_hasPlace 32 = .ok (.iconst 0, 1) := by decide +kernel
theorem dX1_hasPlace_33 : decode cX1_hasPlace 33 = .ok (.ireturn, 1) := by decide +kernel
theorem dX1_isPiece_0 : decode cX1_isPiece 0 = .ok (.iload_n 1, 1) := by decide +kernel
theorem dX1_isPiece_1 : decode cX1_isPiece 1 = .ok (.ifCond .lt 13, 3) := by decide +kernel
theorem dX1_isPiece_4 : decode cX1_isPiece 4 = .ok (.iload_n 1, 1) := by decide +kernel
theorem dX1_isPiece_5 : decode cX1_isPiece 5 = .ok (.bipush 30, 2) := by decide +kernel
theorem dX1_isPiece_7 : decode cX1_isPiece 7 = .ok (.if_icmp .ge 7, 3) := by decide +kernel
theorem dX1_isPiece_10 : decode cX1_isPiece 10 = .ok (.iconst 1, 1) := by decide +kernel
theorem dX1_isPiece_11 : decode cX1_isPiece 11 = .ok (.goto 4, 3) := by decide +kernel
theorem dX1_isPiece_14 : decode cX1_isPiece 14 = .ok (.iconst 0, 1) := by decide +kernel
theorem dX1_isPiece_15 : decode cX1_isPiece 15 = .ok (.ireturn, 1) := by decide +kernel
set_option maxRecDepth 20000 in
theorem ggX1_pieceAt_X1_hasPlace : GoodIn wsX1_pieceAt wsX1_hasPlace := goodIn_r _ [6, 7, 8, 9, 10, 5, 11, 12, 13, 14, 15, 16, 17, 18, 19, 20, 21, 22, 23, 24, 25] rfl (by decide +kernel)
set_option maxRecDepth 20000 in
theorem gX1_pieceAt_X1_hasPlace : GoodIn wsX1_pieceAt (wsV RX1 73 RX1 yX1_hasPlace wsX1_hasPlace) := goodIn_app (goodIn_of _ (by decide +kernel)) ggX1_pieceAt_X1_hasPlace
theorem dX1_pieceAt_0 : decode cX1_pieceAt 0 = .ok (.aload_n 0, 1) := by decide +kernel
theorem dX1_pieceAt_1 : decode cX1_pieceAt 1 = .ok (.iload_n 1, 1) := by decide +kernel
theorem dX1_pieceAt_2 : decode cX1_pieceAt 2 = .ok (.iload_n 2, 1) := by decide +kernel
theorem dX1_pieceAt_3 : decode cX1_pieceAt 3 = .ok (.invokevirtual 73, 3) := by decide +kernel
theorem dX1_pieceAt_6 : decode cX1_pieceAt 6 = .ok (.ifCond .eq 17, 3) := by decide +kernel
theorem dX1_pieceAt_9 : decode cX1_pieceAt 9 = .ok (.aload_n 0, 1) := by decide +kernel
theorem dX1_pieceAt_10 : decode cX1_pieceAt 10 = .ok (.getfield 30, 3) := by decide +kernel
theorem dX1_pieceAt_13 : decode cX1_pieceAt 13 = .ok (.iload_n 1, 1) := by decide +kernel
theorem dX1_pieceAt_14 : decode cX1_pieceAt 14 = .ok (.bipush 40, 2) := by decide +kernel
theorem dX1_pieceAt_16 : decode cX1_pieceAt 16 = .ok (.imul, 1) := by decide +kernel
theorem dX1_pieceAt_17 : decode cX1_pieceAt 17 = .ok (.iload_n 2, 1) := by decide +kernel
theorem dX1_pieceAt_18 : decode cX1_pieceAt 18 = .ok (.iadd, 1) := by decide +kernel
theorem dX1_pieceAt_19 : decode cX1_pieceAt 19 = .ok (.iaload, 1) := by decide +kernel
theorem dX1_pieceAt_20 : decode cX1_pieceAt 20 = .ok (.goto 4, 3) := by decide +kernel
theorem dX1_pieceAt_23 : decode cX1_pieceAt 23 = .ok (.iconst (-1), 1) := by decide +kernel
theorem dX1_pieceAt_24 : decode cX1_pieceAt 24 = .ok (.ireturn, 1) := by decide +kernel
set_option maxRecDepth 20000 in
theorem ggX1_valueOf_X1_isPiece : GoodIn wsX1_valueOf wsX1_isPiece := goodIn_r _ [6] rfl (by decide +kernel)
set_option maxRecDepth 20000 in
theorem gX1_valueOf_X1_isPiece : GoodIn wsX1_valueOf (wsV RX1 77 RX1 yX1_isPiece wsX1_isPiece) := goodIn_app (goodIn_of _ (by decide +kernel)) ggX1_valueOf_X1_isPiece
theorem dX1_valueOf_0 : decode cX1_valueOf 0 = .ok (.aload_n 0, 1) := by decide +kernel
theorem dX1_valueOf_1 : decode cX1_valueOf 1 = .ok (.iload_n 1, 1) := by decide +kernel
theorem dX1_valueOf_2 : decode cX1_valueOf 2 = .ok (.invokevirtual 77, 3) := by decide +kernel
theorem dX1_valueOf_5 : decode cX1_valueOf 5 = .ok (.ifCond .eq 12, 3) := by decide +kernel
theorem dX1_valueOf_8 : decode cX1_valueOf 8 = .ok (.aload_n 0, 1) := by decide +kernel
theorem dX1_valueOf_9 : decode cX1_valueOf 9 = .ok (.getfield 33, 3) := by decide +kernel
theorem dX1_valueOf_12 : decode cX1_valueOf 12 = .ok (.iload_n 1, 1) := by decide +kernel
theorem dX1_valueOf_13 : decode cX1_valueOf 13 = .ok (.iaload, 1) := by decide +kernel
theorem dX1_valueOf_14 : decode cX1_valueOf 14 = .ok (.goto 4, 3) := by decide +kernel
theorem dX1_valueOf_17 : decode cX1_valueOf 17 = .ok (.iconst 0, 1) := by decide +kernel
theorem dX1_valueOf_18 : decode cX1_valueOf 18 = .ok (.ireturn, 1) := by decide +kernel
set_option maxRecDepth 20000 in
theorem ggX1_volumesThatLive_X1_lives : GoodIn wsX1_volumesThatLive wsX1_lives := goodIn_r _ [5, 6, 7, 8, 9, 10, 11, 12, 13, 14, 15, 16, 17, 18, 19, 20] rfl (by decide +kernel)
set_option maxRecDepth 20000 in
theorem gX1_volumesThatLive_X1_lives : GoodIn wsX1_volumesThatLive (wsV RX1 69 RX1 yX1_lives wsX1_lives) := goodIn_app (goodIn_of _ (by decide +kernel)) ggX1_volumesThatLive_X1_lives
theorem dX1_volumesThatLive_0 : decode cX1_volumesThatLive 0 = .ok (.iconst 0, 1) := by decide +kernel
theorem dX1_volumesThatLive_1 : decode cX1_volumesThatLive 1 = .ok (.istore_n 1, 1) := by decide +kernel
theorem dX1_volumesThatLive_2 : decode cX1_volumesThatLive 2 = .ok (.iconst 0, 1) := by decide +kernel
theorem dX1_volumesThatLive_3 : decode cX1_volumesThatLive 3 = .ok (.istore_n 2, 1) := by decide +kernel
theorem dX1_volumesThatLive_4 : decode cX1_volumesThatLive 4 = .ok (.iload_n 2, 1) := by decide +kernel
theorem dX1_volumesThatLive_5 : decode cX1_volumesThatLive 5 = .ok (.bipush 8, 2) := by decide +kernel
theorem dX1_volumesThatLive_7 : decode cX1_volumesThatLive 7 = .ok (.if_icmp .ge 20, 3) := by decide +kernel
theorem dX1_volumesThatLive_10 : decode cX1_volumesThatLive 10 = .ok (.aload_n 0, 1) := by decide +kernel
theorem dX1_volumesThatLive_11 : decode cX1_volumesThatLive 11 = .ok (.iload_n 2, 1) := by decide +kernel
theorem dX1_volumesThatLive_12 : decode cX1_volumesThatLive 12 = .ok (.invokevirtual 69, 3) := by decide +kernel
theorem dX1_volumesThatLive_15 : decode cX1_volumesThatLive 15 = .ok (.ifCond .eq 6, 3) := by decide +kernel
theorem dX1_volumesThatLive_18 : decode cX1_volumesThatLive 18 = .ok (.iinc 1 1, 3) := by decide +kernel
theorem dX1_volumesThatLive_21 : decode cX1_volumesThatLive 21 = .ok (.iinc 2 1, 3) := by decide +kernel
theorem dX1_volumesThatLive_24 : decode cX1_volumesThatLive 24 = .ok (.goto (-20), 3) := by decide +kernel
theorem dX1_volumesThatLive_27 : decode cX1_volumesThatLive 27 = .ok (.iload_n 1, 1) := by decide +kernel
theorem dX1_volumesThatLive_28 : decode cX1_volumesThatLive 28 = .ok (.ireturn, 1) := by decide +kernel
theorem dX1_allSizes_0 : decode cX1_allSizes 0 = .ok (.iconst 0, 1) := by decide +kernel
theorem dX1_allSizes_1 : decode cX1_allSizes 1 = .ok (.istore_n 1, 1) := by decide +kernel
theorem dX1_allSizes_2 : decode cX1_allSizes 2 = .ok (.iconst 0, 1) := by decide +kernel
theorem dX1_allSizes_3 : decode cX1_allSizes 3 = .ok (.istore_n 2, 1) := by decide +kernel
theorem dX1_allSizes_4 : decode cX1_allSizes 4 = .ok (.iload_n 2, 1) := by decide +kernel
theorem dX1_allSizes_5 : decode cX1_allSizes 5 = .ok (.bipush 8, 2) := by decide +kernel
theorem dX1_allSizes_7 : decode cX1_allSizes 7 = .ok (.if_icmp .ge 18, 3) := by decide +kernel
theorem dX1_allSizes_10 : decode cX1_allSizes 10 = .ok (.iload_n 1, 1) := by decide +kernel
theorem dX1_allSizes_11 : decode cX1_allSizes 11 = .ok (.aload_n 0, 1) := by decide +kernel
theorem dX1_allSizes_12 : decode cX1_allSizes 12 = .ok (.getfield 9, 3) := by decide +kernel
theorem dX1_allSizes_15 : decode cX1_allSizes 15 = .ok (.iload_n 2, 1) := by decide +kernel
theorem dX1_allSizes_16 : decode cX1_allSizes 16 = .ok (.iaload, 1) := by decide +kernel
theorem dX1_allSizes_17 : decode cX1_allSizes 17 = .ok (.iadd, 1) := by decide +kernel
theorem dX1_allSizes_18 : decode cX1_allSizes 18 = .ok (.istore_n 1, 1) := by decide +kernel
theorem dX1_allSizes_19 : decode cX1_allSizes 19 = .ok (.iinc 2 1, 3) := by decide +kernel
theorem dX1_allSizes_22 : decode cX1_allSizes 22 = .ok (.goto (-18), 3) := by decide +kernel
theorem dX1_allSizes_25 : decode cX1_allSizes 25 = .ok (.iload_n 1, 1) := by decide +kernel
theorem dX1_allSizes_26 : decode cX1_allSizes 26 = .ok (.ireturn, 1) := by decide +kernel
theorem dX1_allPromises_0 : decode cX1_allPromises 0 = .ok (.iconst 0, 1) := by decide +kernel
theorem dX1_allPromises_1 : decode cX1_allPromises 1 = .ok (.istore_n 1, 1) := by decide +kernel
theorem dX1_allPromises_2 : decode cX1_allPromises 2 = .ok (.iconst 0, 1) := by decide +kernel
theorem dX1_allPromises_3 : decode cX1_allPromises 3 = .ok (.istore_n 2, 1) := by decide +kernel
theorem dX1_allPromises_4 : decode cX1_allPromises 4 = .ok (.iload_n 2, 1) := by decide +kernel
theorem dX1_allPromises_5 : decode cX1_allPromises 5 = .ok (.bipush 8, 2) := by decide +kernel
theorem dX1_allPromises_7 : decode cX1_allPromises 7 = .ok (.if_icmp .ge 18, 3) := by decide +kernel
theorem dX1_allPromises_10 : decode cX1_allPromises 10 = .ok (.iload_n 1, 1) := by decide +kernel
theorem dX1_allPromises_11 : decode cX1_allPromises 11 = .ok (.aload_n 0, 1) := by decide +kernel
theorem dX1_allPromises_12 : decode cX1_allPromises 12 = .ok (.getfield 18, 3) := by decide +kernel
theorem dX1_allPromises_15 : decode cX1_allPromises 15 = .ok (.iload_n 2, 1) := by decide +kernel
theorem dX1_allPromises_16 : decode cX1_allPromises 16 = .ok (.iaload, 1) := by decide +kernel
theorem dX1_allPromises_17 : decode cX1_allPromises 17 = .ok (.iadd, 1) := by decide +kernel
theorem dX1_allPromises_18 : decode cX1_allPromises 18 = .ok (.istore_n 1, 1) := by decide +kernel
theorem dX1_allPromises_19 : decode cX1_allPromises 19 = .ok (.iinc 2 1, 3) := by decide +kernel
theorem dX1_allPromises_22 : decode cX1_allPromises 22 = .ok (.goto (-18), 3) := by decide +kernel
theorem dX1_allPromises_25 : decode cX1_allPromises 25 = .ok (.iload_n 1, 1) := by decide +kernel
theorem dX1_allPromises_26 : decode cX1_allPromises 26 = .ok (.ireturn, 1) := by decide +kernel
theorem dX1_allOwners_0 : decode cX1_allOwners 0 = .ok (.iconst 0, 1) := by decide +kernel
theorem dX1_allOwners_1 : decode cX1_allOwners 1 = .ok (.istore_n 1, 1) := by decide +kernel
theorem dX1_allOwners_2 : decode cX1_allOwners 2 = .ok (.iconst 0, 1) := by decide +kernel
theorem dX1_allOwners_3 : decode cX1_allOwners 3 = .ok (.istore_n 2, 1) := by decide +kernel
theorem dX1_allOwners_4 : decode cX1_allOwners 4 = .ok (.iload_n 2, 1) := by decide +kernel
theorem dX1_allOwners_5 : decode cX1_allOwners 5 = .ok (.bipush 30, 2) := by decide +kernel
theorem dX1_allOwners_7 : decode cX1_allOwners 7 = .ok (.if_icmp .ge 18, 3) := by decide +kernel
theorem dX1_allOwners_10 : decode cX1_allOwners 10 = .ok (.iload_n 1, 1) := by decide +kernel
theorem dX1_allOwners_11 : decode cX1_allOwners 11 = .ok (.aload_n 0, 1) := by decide +kernel
theorem dX1_allOwners_12 : decode cX1_allOwners 12 = .ok (.getfield 36, 3) := by decide +kernel
theorem dX1_allOwners_15 : decode cX1_allOwners 15 = .ok (.iload_n 2, 1) := by decide +kernel
theorem dX1_allOwners_16 : decode cX1_allOwners 16 = .ok (.iaload, 1) := by decide +kernel
theorem dX1_allOwners_17 : decode cX1_allOwners 17 = .ok (.iadd, 1) := by decide +kernel
theorem dX1_allOwners_18 : decode cX1_allOwners 18 = .ok (.istore_n 1, 1) := by decide +kernel
theorem dX1_allOwners_19 : decode cX1_allOwners 19 = .ok (.iinc 2 1, 3) := by decide +kernel
theorem dX1_allOwners_22 : decode cX1_allOwners 22 = .ok (.goto (-18), 3) := by decide +kernel
theorem dX1_allOwners_25 : decode cX1_allOwners 25 = .ok (.iload_n 1, 1) := by decide +kernel
theorem dX1_allOwners_26 : decode cX1_allOwners 26 = .ok (.ireturn, 1) := by decide +kernel
theorem dX1_freePieces_0 : decode cX1_freePieces 0 = .ok (.iconst 0, 1) := by decide +kernel
theorem dX1_freePieces_1 : decode cX1_freePieces 1 = .ok (.istore_n 1, 1) := by decide +kernel
theorem dX1_freePieces_2 : decode cX1_freePieces 2 = .ok (.iconst 0, 1) := by decide +kernel
theorem dX1_freePieces_3 : decode cX1_freePieces 3 = .ok (.istore_n 2, 1) := by decide +kernel
theorem dX1_freePieces_4 : decode cX1_freePieces 4 = .ok (.iload_n 2, 1) := by decide +kernel
theorem dX1_freePieces_5 : decode cX1_freePieces 5 = .ok (.bipush 30, 2) := by decide +kernel
theorem dX1_freePieces_7 : decode cX1_freePieces 7 = .ok (.if_icmp .ge 21, 3) := by decide +kernel
theorem dX1_freePieces_10 : decode cX1_freePieces 10 = .ok (.aload_n 0, 1) := by decide +kernel
theorem dX1_freePieces_11 : decode cX1_freePieces 11 = .ok (.getfield 36, 3) := by decide +kernel
theorem dX1_freePieces_14 : decode cX1_freePieces 14 = .ok (.iload_n 2, 1) := by decide +kernel
theorem dX1_freePieces_15 : decode cX1_freePieces 15 = .ok (.iaload, 1) := by decide +kernel
theorem dX1_freePieces_16 : decode cX1_freePieces 16 = .ok (.ifCond .ne 6, 3) := by decide +kernel
theorem dX1_freePieces_19 : decode cX1_freePieces 19 = .ok (.iinc 1 1, 3) := by decide +kernel
theorem dX1_freePieces_22 : decode cX1_freePieces 22 = .ok (.iinc 2 1, 3) := by decide +kernel
theorem dX1_freePieces_25 : decode cX1_freePieces 25 = .ok (.goto (-21), 3) := by decide +kernel
theorem dX1_freePieces_28 : decode cX1_freePieces 28 = .ok (.iload_n 1, 1) := by decide +kernel
theorem dX1_freePieces_29 : decode cX1_freePieces 29 = .ok (.ireturn, 1) := by decide +kernel
theorem dX1_sharedPieces_0 : decode cX1_sharedPieces 0 = .ok (.iconst 0, 1) := by decide +kernel
theorem dX1_sharedPieces_1 : decode cX1_sharedPieces 1 = .ok (.istore_n 1, 1) := by decide +kernel
theorem dX1_sharedPieces_2 : decode cX1_sharedPieces 2 = .ok (.iconst 0, 1) := by decide +kernel
theorem dX1_sharedPieces_3 : decode cX1_sharedPieces 3 = .ok (.istore_n 2, 1) := by decide +kernel
theorem dX1_sharedPieces_4 : decode cX1_sharedPieces 4 = .ok (.iload_n 2, 1) := by decide +kernel
theorem dX1_sharedPieces_5 : decode cX1_sharedPieces 5 = .ok (.bipush 30, 2) := by decide +kernel
theorem dX1_sharedPieces_7 : decode cX1_sharedPieces 7 = .ok (.if_icmp .ge 22, 3) := by decide +kernel
theorem dX1_sharedPieces_10 : decode cX1_sharedPieces 10 = .ok (.aload_n 0, 1) := by decide +kernel
theorem dX1_sharedPieces_11 : decode cX1_sharedPieces 11 = .ok (.getfield 36, 3) := by decide +kernel
theorem dX1_sharedPieces_14 : decode cX1_sharedPieces 14 = .ok (.iload_n 2, 1) := by decide +kernel
theorem dX1_sharedPieces_15 : decode cX1_sharedPieces 15 = .ok (.iaload, 1) := by decide +kernel
theorem dX1_sharedPieces_16 : decode cX1_sharedPieces 16 = .ok (.iconst 1, 1) := by decide +kernel
theorem dX1_sharedPieces_17 : decode cX1_sharedPieces 17 = .ok (.if_icmp .le 6, 3) := by decide +kernel
theorem dX1_sharedPieces_20 : decode cX1_sharedPieces 20 = .ok (.iinc 1 1, 3) := by decide +kernel
theorem dX1_sharedPieces_23 : decode cX1_sharedPieces 23 = .ok (.iinc 2 1, 3) := by decide +kernel
theorem dX1_sharedPieces_26 : decode cX1_sharedPieces 26 = .ok (.goto (-22), 3) := by decide +kernel
theorem dX1_sharedPieces_29 : decode cX1_sharedPieces 29 = .ok (.iload_n 1, 1) := by decide +kernel
theorem dX1_sharedPieces_30 : decode cX1_sharedPieces 30 = .ok (.ireturn, 1) := by decide +kernel
set_option maxRecDepth 20000 in
theorem ggX1_placesWithPieces_X1_pieceAt : GoodIn wsX1_placesWithPieces wsX1_pieceAt := goodIn_r _ [5, 6, 7, 8, 9, 4, 10, 11, 12, 13, 14, 15, 16, 17, 18, 19, 20, 21, 22, 23, 24, 25, 26, 27, 28, 29] rfl (by decide +kernel)
set_option maxRecDepth 20000 in
theorem gX1_placesWithPieces_X1_pieceAt : GoodIn wsX1_placesWithPieces (wsV RX1 80 RX1 yX1_pieceAt wsX1_pieceAt) := goodIn_app (goodIn_of _ (by decide +kernel)) ggX1_placesWithPieces_X1_pieceAt
theorem dX1_placesWithPieces_0 : decode cX1_placesWithPieces 0 = .ok (.iconst 0, 1) := by decide +kernel
theorem dX1_placesWithPieces_1 : decode cX1_placesWithPieces 1 = .ok (.istore_n 2, 1) := by decide +kernel
theorem dX1_placesWithPieces_2 : decode cX1_placesWithPieces 2 = .ok (.iconst 0, 1) := by decide +kernel
theorem dX1_placesWithPieces_3 : decode cX1_placesWithPieces 3 = .ok (.istore_n 3, 1) := by decide +kernel
theorem dX1_placesWithPieces_4 : decode cX1_placesWithPieces 4 = .ok (.iload_n 3, 1) := by decide +kernel
theorem dX1_placesWithPieces_5 : decode cX1_placesWithPieces 5 = .ok (.bipush 40, 2) := by decide +kernel
theorem dX1_placesWithPieces_7 : decode cX1_placesWithPieces 7 = .ok (.if_icmp .ge 22, 3) := by decide +kernel
theorem dX1_placesWithPieces_10 : decode cX1_placesWithPieces 10 = .ok (.aload_n 0, 1) := by decide +kernel
theorem dX1_placesWithPieces_11 : decode cX1_placesWithPieces 11 = .ok (.iload_n 1, 1) := by decide +kernel
theorem dX1_placesWithPieces_12 : decode cX1_placesWithPieces 12 = .ok (.iload_n 3, 1) := by decide +kernel
theorem dX1_placesWithPieces_13 : decode cX1_placesWithPieces 13 = .ok (.invokevirtual 80, 3) := by decide +kernel
theorem dX1_placesWithPieces_16 : decode cX1_placesWithPieces 16 = .ok (.iconst (-1), 1) := by decide +kernel
theorem dX1_placesWithPieces_17 : decode cX1_placesWithPieces 17 = .ok (.if_icmp .eq 6, 3) := by decide +kernel
theorem dX1_placesWithPieces_20 : decode cX1_placesWithPieces 20 = .ok (.iinc 2 1, 3) := by decide +kernel
theorem dX1_placesWithPieces_23 : decode cX1_placesWithPieces 23 = .ok (.iinc 3 1, 3) := by decide +kernel
theorem dX1_placesWithPieces_26 : decode cX1_placesWithPieces 26 = .ok (.goto (-22), 3) := by decide +kernel
theorem dX1_placesWithPieces_29 : decode cX1_placesWithPieces 29 = .ok (.iload_n 2, 1) := by decide +kernel
theorem dX1_placesWithPieces_30 : decode cX1_placesWithPieces 30 = .ok (.ireturn, 1) := by decide +kernel
set_option maxRecDepth 20000 in
theorem ggX1_volumesThatOwn_X1_pieceAt : GoodIn wsX1_volumesThatOwn wsX1_pieceAt := goodIn_r _ [5, 6, 7, 8, 9, 4, 10, 11, 12, 13, 14, 15, 16, 17, 18, 19, 20, 21, 22, 23, 24, 25, 26, 27, 28, 29] rfl (by decide +kernel)
set_option maxRecDepth 20000 in
theorem gX1_volumesThatOwn_X1_pieceAt : GoodIn wsX1_volumesThatOwn (wsV RX1 80 RX1 yX1_pieceAt wsX1_pieceAt) := goodIn_app (goodIn_of _ (by decide +kernel)) ggX1_volumesThatOwn_X1_pieceAt
theorem dX1_volumesThatOwn_0 : decode cX1_volumesThatOwn 0 = .ok (.iconst 0, 1) := by decide +kernel
theorem dX1_volumesThatOwn_1 : decode cX1_volumesThatOwn 1 = .ok (.istore_n 2, 1) := by decide +kernel
theorem dX1_volumesThatOwn_2 : decode cX1_volumesThatOwn 2 = .ok (.iconst 0, 1) := by decide +kernel
theorem dX1_volumesThatOwn_3 : decode cX1_volumesThatOwn 3 = .ok (.istore_n 3, 1) := by decide +kernel
theorem dX1_volumesThatOwn_4 : decode cX1_volumesThatOwn 4 = .ok (.iload_n 3, 1) := by decide +kernel
theorem dX1_volumesThatOwn_5 : decode cX1_volumesThatOwn 5 = .ok (.bipush 8, 2) := by decide +kernel
theorem dX1_volumesThatOwn_7 : decode cX1_volumesThatOwn 7 = .ok (.if_icmp .ge 42, 3) := by decide +kernel
theorem dX1_volumesThatOwn_10 : decode cX1_volumesThatOwn 10 = .ok (.iconst 0, 1) := by decide +kernel
theorem dX1_volumesThatOwn_11 : decode cX1_volumesThatOwn 11 = .ok (.istore 4, 2) := by decide +kernel
theorem dX1_volumesThatOwn_13 : decode cX1_volumesThatOwn 13 = .ok (.iload 4, 2) := by decide +kernel
theorem dX1_volumesThatOwn_15 : decode cX1_volumesThatOwn 15 = .ok (.bipush 40, 2) := by decide +kernel
theorem dX1_volumesThatOwn_17 : decode cX1_volumesThatOwn 17 = .ok (.if_icmp .ge 26, 3) := by decide +kernel
theorem dX1_volumesThatOwn_20 : decode cX1_volumesThatOwn 20 = .ok (.aload_n 0, 1) := by decide +kernel
theorem dX1_volumesThatOwn_21 : decode cX1_volumesThatOwn 21 = .ok (.iload_n 3, 1) := by decide +kernel
theorem dX1_volumesThatOwn_22 : decode cX1_volumesThatOwn 22 = .ok (.iload 4, 2) := by decide +kernel
theorem dX1_volumesThatOwn_24 : decode cX1_volumesThatOwn 24 = .ok (.invokevirtual 80, 3) := by decide +kernel
theorem dX1_volumesThatOwn_27 : decode cX1_volumesThatOwn 27 = .ok (.iload_n 1, 1) := by decide +kernel
theorem dX1_volumesThatOwn_28 : decode cX1_volumesThatOwn 28 = .ok (.if_icmp .ne 9, 3) := by decide +kernel
theorem dX1_volumesThatOwn_31 : decode cX1_volumesThatOwn 31 = .ok (.iload_n 2, 1) := by decide +kernel
theorem dX1_volumesThatOwn_32 : decode cX1_volumesThatOwn 32 = .ok (.iconst 1, 1) := by decide +kernel
theorem dX1_volumesThatOwn_33 : decode cX1_volumesThatOwn 33 = .ok (.iload_n 3, 1) := by decide +kernel
theorem dX1_volumesThatOwn_34 : decode cX1_volumesThatOwn 34 = .ok (.ishl, 1) := by decide +kernel
theorem dX1_volumesThatOwn_35 : decode cX1_volumesThatOwn 35 = .ok (.ior, 1) := by decide +kernel
theorem dX1_volumesThatOwn_36 : decode cX1_volumesThatOwn 36 = .ok (.istore_n 2, 1) := by decide +kernel
theorem dX1_volumesThatOwn_37 : decode cX1_volumesThatOwn 37 = .ok (.iinc 4 1, 3) := by decide +kernel
theorem dX1_volumesThatOwn_40 : decode cX1_volumesThatOwn 40 = .ok (.goto (-27), 3) := by decide +kernel
theorem dX1_volumesThatOwn_43 : decode cX1_volumesThatOwn 43 = .ok (.iinc 3 1, 3) := by decide +kernel
theorem dX1_volumesThatOwn_46 : decode cX1_volumesThatOwn 46 = .ok (.goto (-42), 3) := by decide +kernel
theorem dX1_volumesThatOwn_49 : decode cX1_volumesThatOwn 49 = .ok (.iload_n 2, 1) := by decide +kernel
theorem dX1_volumesThatOwn_50 : decode cX1_volumesThatOwn 50 = .ok (.ireturn, 1) := by decide +kernel
set_option maxRecDepth 20000 in
theorem ggX1_piecesOwnedOnlyBy_X1_volumesThatOwn : GoodIn wsX1_piecesOwnedOnlyBy wsX1_volumesThatOwn := goodIn_r _ [6, 7, 8, 9, 5, 10, 11, 12, 13, 14, 15, 16, 17, 18, 19, 20, 21, 22, 23, 24, 25, 26, 27, 28, 29, 30, 31, 32, 33, 34] rfl (by decide +kernel)
set_option maxRecDepth 20000 in
theorem gX1_piecesOwnedOnlyBy_X1_volumesThatOwn : GoodIn wsX1_piecesOwnedOnlyBy (wsV RX1 84 RX1 yX1_volumesThatOwn wsX1_volumesThatOwn) := goodIn_app (goodIn_of _ (by decide +kernel)) ggX1_piecesOwnedOnlyBy_X1_volumesThatOwn
theorem dX1_piecesOwnedOnlyBy_0 : decode cX1_piecesOwnedOnlyBy 0 = .ok (.iconst 0, 1) := by decide +kernel
theorem dX1_piecesOwnedOnlyBy_1 : decode cX1_piecesOwnedOnlyBy 1 = .ok (.istore_n 2, 1) := by decide +kernel
theorem dX1_piecesOwnedOnlyBy_2 : decode cX1_piecesOwnedOnlyBy 2 = .ok (.iconst 0, 1) := by decide +kernel
theorem dX1_piecesOwnedOnlyBy_3 : decode cX1_piecesOwnedOnlyBy 3 = .ok (.istore_n 3, 1) := by decide +kernel
theorem dX1_piecesOwnedOnlyBy_4 : decode cX1_piecesOwnedOnlyBy 4 = .ok (.iload_n 3, 1) := by decide +kernel
theorem dX1_piecesOwnedOnlyBy_5 : decode cX1_piecesOwnedOnlyBy 5 = .ok (.bipush 30, 2) := by decide +kernel
theorem dX1_piecesOwnedOnlyBy_7 : decode cX1_piecesOwnedOnlyBy 7 = .ok (.if_icmp .ge 33, 3) := by decide +kernel
theorem dX1_piecesOwnedOnlyBy_10 : decode cX1_piecesOwnedOnlyBy 10 = .ok (.aload_n 0, 1) := by decide +kernel
theorem dX1_piecesOwnedOnlyBy_11 : decode cX1_piecesOwnedOnlyBy 11 = .ok (.getfield 36, 3) := by decide +kernel
theorem dX1_piecesOwnedOnlyBy_14 : decode cX1_piecesOwnedOnlyBy 14 = .ok (.iload_n 3, 1) := by decide +kernel
theorem dX1_piecesOwnedOnlyBy_15 : decode cX1_piecesOwnedOnlyBy 15 = .ok (.iaload, 1) := by decide +kernel
theorem dX1_piecesOwnedOnlyBy_16 : decode cX1_piecesOwnedOnlyBy 16 = .ok (.ifCond .le 18, 3) := by decide +kernel
theorem dX1_piecesOwnedOnlyBy_19 : decode cX1_piecesOwnedOnlyBy 19 = .ok (.aload_n 0, 1) := by decide +kernel
theorem dX1_piecesOwnedOnlyBy_20 : decode cX1_piecesOwnedOnlyBy 20 = .ok (.iload_n 3, 1) := by decide +kernel
theorem dX1_piecesOwnedOnlyBy_21 : decode cX1_piecesOwnedOnlyBy 21 = .ok (.invokevirtual 84, 3) := by decide +kernel
theorem dX1_piecesOwnedOnlyBy_24 : decode cX1_piecesOwnedOnlyBy 24 = .ok (.iload_n 1, 1) := by decide +kernel
theorem dX1_piecesOwnedOnlyBy_25 : decode cX1_piecesOwnedOnlyBy 25 = .ok (.iconst (-1), 1) := by decide +kernel
theorem dX1_piecesOwnedOnlyBy_26 : decode cX1_piecesOwnedOnlyBy 26 = .ok (.ixor, 1) := by decide +kernel
theorem dX1_piecesOwnedOnlyBy_27 : decode cX1_piecesOwnedOnlyBy 27 = .ok (.iand, 1) := by decide +kernel
theorem dX1_piecesOwnedOnlyBy_28 : decode cX1_piecesOwnedOnlyBy 28 = .ok (.ifCond .ne 6, 3) := by decide +kernel
theorem dX1_piecesOwnedOnlyBy_31 : decode cX1_piecesOwnedOnlyBy 31 = .ok (.iinc 2 1, 3) := by decide +kernel
theorem dX1_piecesOwnedOnlyBy_34 : decode cX1_piecesOwnedOnlyBy 34 = .ok (.iinc 3 1, 3) := by decide +kernel
theorem dX1_piecesOwnedOnlyBy_37 : decode cX1_piecesOwnedOnlyBy 37 = .ok (.goto (-33), 3) := by decide +kernel
theorem dX1_piecesOwnedOnlyBy_40 : decode cX1_piecesOwnedOnlyBy 40 = .ok (.iload_n 2, 1) := by decide +kernel
theorem dX1_piecesOwnedOnlyBy_41 : decode cX1_piecesOwnedOnlyBy 41 = .ok (.ireturn, 1) := by decide +kernel
set_option maxRecDepth 20000 in
theorem ggX1_clonesOf_X1_lives : GoodIn wsX1_clonesOf wsX1_lives := goodIn_r _ [6, 7, 8, 9, 10, 11, 12, 13, 14, 15, 16, 17, 18, 19, 20, 21] rfl (by decide +kernel)
set_option maxRecDepth 20000 in
theorem gX1_clonesOf_X1_lives : GoodIn wsX1_clonesOf (wsV RX1 69 RX1 yX1_lives wsX1_lives) := goodIn_app (goodIn_of _ (by decide +kernel)) ggX1_clonesOf_X1_lives
theorem dX1_clonesOf_0 : decode cX1_clonesOf 0 = .ok (.iconst 0, 1) := by decide +kernel
theorem dX1_clonesOf_1 : decode cX1_clonesOf 1 = .ok (.istore_n 2, 1) := by decide +kernel
theorem dX1_clonesOf_2 : decode cX1_clonesOf 2 = .ok (.iconst 0, 1) := by decide +kernel
theorem dX1_clonesOf_3 : decode cX1_clonesOf 3 = .ok (.istore_n 3, 1) := by decide +kernel
theorem dX1_clonesOf_4 : decode cX1_clonesOf 4 = .ok (.iload_n 3, 1) := by decide +kernel
theorem dX1_clonesOf_5 : decode cX1_clonesOf 5 = .ok (.bipush 8, 2) := by decide +kernel
theorem dX1_clonesOf_7 : decode cX1_clonesOf 7 = .ok (.if_icmp .ge 33, 3) := by decide +kernel
theorem dX1_clonesOf_10 : decode cX1_clonesOf 10 = .ok (.aload_n 0, 1) := by decide +kernel
theorem dX1_clonesOf_11 : decode cX1_clonesOf 11 = .ok (.iload_n 3, 1) := by decide +kernel
theorem dX1_clonesOf_12 : decode cX1_clonesOf 12 = .ok (.invokevirtual 69, 3) := by decide +kernel
theorem dX1_clonesOf_15 : decode cX1_clonesOf 15 = .ok (.ifCond .eq 19, 3) := by decide +kernel
theorem dX1_clonesOf_18 : decode cX1_clonesOf 18 = .ok (.aload_n 0, 1) := by decide +kernel
theorem dX1_clonesOf_19 : decode cX1_clonesOf 19 = .ok (.getfield 21, 3) := by decide +kernel
theorem dX1_clonesOf_22 : decode cX1_clonesOf 22 = .ok (.iload_n 3, 1) := by decide +kernel
theorem dX1_clonesOf_23 : decode cX1_clonesOf 23 = .ok (.iaload, 1) := by decide +kernel
theorem dX1_clonesOf_24 : decode cX1_clonesOf 24 = .ok (.iload_n 1, 1) := by decide +kernel
theorem dX1_clonesOf_25 : decode cX1_clonesOf 25 = .ok (.if_icmp .ne 9, 3) := by decide +kernel
theorem dX1_clonesOf_28 : decode cX1_clonesOf 28 = .ok (.iload_n 2, 1) := by decide +kernel
theorem dX1_clonesOf_29 : decode cX1_clonesOf 29 = .ok (.iconst 1, 1) := by decide +kernel
theorem dX1_clonesOf_30 : decode cX1_clonesOf 30 = .ok (.iload_n 3, 1) := by decide +kernel
theorem dX1_clonesOf_31 : decode cX1_clonesOf 31 = .ok (.ishl, 1) := by decide +kernel
theorem dX1_clonesOf_32 : decode cX1_clonesOf 32 = .ok (.ior, 1) := by decide +kernel
theorem dX1_clonesOf_33 : decode cX1_clonesOf 33 = .ok (.istore_n 2, 1) := by decide +kernel
theorem dX1_clonesOf_34 : decode cX1_clonesOf 34 = .ok (.iinc 3 1, 3) := by decide +kernel
theorem dX1_clonesOf_37 : decode cX1_clonesOf 37 = .ok (.goto (-33), 3) := by decide +kernel
theorem dX1_clonesOf_40 : decode cX1_clonesOf 40 = .ok (.iload_n 2, 1) := by decide +kernel
theorem dX1_clonesOf_41 : decode cX1_clonesOf 41 = .ok (.ireturn, 1) := by decide +kernel
set_option maxRecDepth 20000 in
theorem ggX1_stepsUp_X1_lives : GoodIn wsX1_stepsUp wsX1_lives := goodIn_r _ [6, 7, 8, 9, 10, 11, 12, 13, 14, 15, 16, 17, 18, 19, 20, 21] rfl (by decide +kernel)
set_option maxRecDepth 20000 in
theorem gX1_stepsUp_X1_lives : GoodIn wsX1_stepsUp (wsV RX1 69 RX1 yX1_lives wsX1_lives) := goodIn_app (goodIn_of _ (by decide +kernel)) ggX1_stepsUp_X1_lives
theorem dX1_stepsUp_0 : decode cX1_stepsUp 0 = .ok (.iload_n 1, 1) := by decide +kernel
theorem dX1_stepsUp_1 : decode cX1_stepsUp 1 = .ok (.istore_n 3, 1) := by decide +kernel
theorem dX1_stepsUp_2 : decode cX1_stepsUp 2 = .ok (.iconst 0, 1) := by decide +kernel
theorem dX1_stepsUp_3 : decode cX1_stepsUp 3 = .ok (.istore 4, 2) := by decide +kernel
theorem dX1_stepsUp_5 : decode cX1_stepsUp 5 = .ok (.iload 4, 2) := by decide +kernel
theorem dX1_stepsUp_7 : decode cX1_stepsUp 7 = .ok (.bipush 8, 2) := by decide +kernel
theorem dX1_stepsUp_9 : decode cX1_stepsUp 9 = .ok (.if_icmp .ge 34, 3) := by decide +kernel
theorem dX1_stepsUp_12 : decode cX1_stepsUp 12 = .ok (.aload_n 0, 1) := by decide +kernel
theorem dX1_stepsUp_13 : decode cX1_stepsUp 13 = .ok (.iload_n 3, 1) := by decide +kernel
theorem dX1_stepsUp_14 : decode cX1_stepsUp 14 = .ok (.invokevirtual 69, 3) := by decide +kernel
theorem dX1_stepsUp_17 : decode cX1_stepsUp 17 = .ok (.ifCond .ne 5, 3) := by decide +kernel
theorem dX1_stepsUp_20 : decode cX1_stepsUp 20 = .ok (.iconst (-1), 1) := by decide +kernel
theorem dX1_stepsUp_21 : decode cX1_stepsUp 21 = .ok (.ireturn, 1) := by decide +kernel
theorem dX1_stepsUp_22 : decode cX1_stepsUp 22 = .ok (.iload_n 3, 1) := by decide +kernel
theorem dX1_stepsUp_23 : decode cX1_stepsUp 23 = .ok (.iload_n 2, 1) := by decide +kernel
theorem dX1_stepsUp_24 : decode cX1_stepsUp 24 = .ok (.if_icmp .ne 6, 3) := by decide +kernel
theorem dX1_stepsUp_27 : decode cX1_stepsUp 27 = .ok (.iload 4, 2) := by decide +kernel
theorem dX1_stepsUp_29 : decode cX1_stepsUp 29 = .ok (.ireturn, 1) := by decide +kernel
theorem dX1_stepsUp_30 : decode cX1_stepsUp 30 = .ok (.aload_n 0, 1) := by decide +kernel
theorem dX1_stepsUp_31 : decode cX1_stepsUp 31 = .ok (.getfield 21, 3) := by decide +kernel
theorem dX1_stepsUp_34 : decode cX1_stepsUp 34 = .ok (.iload_n 3, 1) := by decide +kernel
theorem dX1_stepsUp_35 : decode cX1_stepsUp 35 = .ok (.iaload, 1) := by decide +kernel
theorem dX1_stepsUp_36 : decode cX1_stepsUp 36 = .ok (.istore_n 3, 1) := by decide +kernel
theorem dX1_stepsUp_37 : decode cX1_stepsUp 37 = .ok (.iinc 4 1, 3) := by decide +kernel
theorem dX1_stepsUp_40 : decode cX1_stepsUp 40 = .ok (.goto (-35), 3) := by decide +kernel
theorem dX1_stepsUp_43 : decode cX1_stepsUp 43 = .ok (.iconst (-1), 1) := by decide +kernel
theorem dX1_stepsUp_44 : decode cX1_stepsUp 44 = .ok (.ireturn, 1) := by decide +kernel
set_option maxRecDepth 20000 in
theorem ggX1_familyOf_X1_stepsUp : GoodIn wsX1_familyOf wsX1_stepsUp := goodIn_r _ [5, 6, 7, 8, 9, 4, 10, 11, 12, 13, 14, 15, 16, 17, 18, 19, 20, 21, 22, 23, 24, 25] rfl (by decide +kernel)
set_option maxRecDepth 20000 in
theorem gX1_familyOf_X1_stepsUp : GoodIn wsX1_familyOf (wsV RX1 88 RX1 yX1_stepsUp wsX1_stepsUp) := goodIn_app (goodIn_of _ (by decide +kernel)) ggX1_familyOf_X1_stepsUp
theorem dX1_familyOf_0 : decode cX1_familyOf 0 = .ok (.iconst 0, 1) := by decide +kernel
theorem dX1_familyOf_1 : decode cX1_familyOf 1 = .ok (.istore_n 2, 1) := by decide +kernel
theorem dX1_familyOf_2 : decode cX1_familyOf 2 = .ok (.iconst 0, 1) := by decide +kernel
theorem dX1_familyOf_3 : decode cX1_familyOf 3 = .ok (.istore_n 3, 1) := by decide +kernel
theorem dX1_familyOf_4 : decode cX1_familyOf 4 = .ok (.iload_n 3, 1) := by decide +kernel
theorem dX1_familyOf_5 : decode cX1_familyOf 5 = .ok (.bipush 8, 2) := by decide +kernel
theorem dX1_familyOf_7 : decode cX1_familyOf 7 = .ok (.if_icmp .ge 25, 3) := by decide +kernel
theorem dX1_familyOf_10 : decode cX1_familyOf 10 = .ok (.aload_n 0, 1) := by decide +kernel
theorem dX1_familyOf_11 : decode cX1_familyOf 11 = .ok (.iload_n 3, 1) := by decide +kernel
theorem dX1_familyOf_12 : decode cX1_familyOf 12 = .ok (.iload_n 1, 1) := by decide +kernel
theorem dX1_familyOf_13 : decode cX1_familyOf 13 = .ok (.invokevirtual 88, 3) := by decide +kernel
theorem dX1_familyOf_16 : decode cX1_familyOf 16 = .ok (.iconst (-1), 1) := by decide +kernel
theorem dX1_familyOf_17 : decode cX1_familyOf 17 = .ok (.if_icmp .eq 9, 3) := by decide +kernel
theorem dX1_familyOf_20 : decode cX1_familyOf 20 = .ok (.iload_n 2, 1) := by decide +kernel
theorem dX1_familyOf_21 : decode cX1_familyOf 21 = .ok (.iconst 1, 1) := by decide +kernel
theorem dX1_familyOf_22 : decode cX1_familyOf 22 = .ok (.iload_n 3, 1) := by decide +kernel
theorem dX1_familyOf_23 : decode cX1_familyOf 23 = .ok (.ishl, 1) := by decide +kernel
theorem dX1_familyOf_24 : decode cX1_familyOf 24 = .ok (.ior, 1) := by decide +kernel
theorem dX1_familyOf_25 : decode cX1_familyOf 25 = .ok (.istore_n 2, 1) := by decide +kernel
theorem dX1_familyOf_26 : decode cX1_familyOf 26 = .ok (.iinc 3 1, 3) := by decide +kernel
theorem dX1_familyOf_29 : decode cX1_familyOf 29 = .ok (.goto (-25), 3) := by decide +kernel
theorem dX1_familyOf_32 : decode cX1_familyOf 32 = .ok (.iload_n 2, 1) := by decide +kernel
theorem dX1_familyOf_33 : decode cX1_familyOf 33 = .ok (.ireturn, 1) := by decide +kernel
set_option maxRecDepth 20000 in
theorem ggX1_longestLineFrom_X1_stepsUp : GoodIn wsX1_longestLineFrom wsX1_stepsUp := goodIn_r _ [9, 10, 11, 12, 13, 8, 14, 15, 16, 17, 18, 19, 20, 21, 22, 23, 24, 25, 26, 27, 28, 29] rfl (by decide +kernel)
set_option maxRecDepth 20000 in
theorem gX1_longestLineFrom_X1_stepsUp : GoodIn wsX1_longestLineFrom (wsV RX1 88 RX1 yX1_stepsUp wsX1_stepsUp) := goodIn_app (goodIn_of _ (by decide +kernel)) ggX1_longestLineFrom_X1_stepsUp
theorem dX1_longestLineFrom_0 : decode cX1_longestLineFrom 0 = .ok (.iconst 0, 1) := by decide +kernel
theorem dX1_longestLineFrom_1 : decode cX1_longestLineFrom 1 = .ok (.istore_n 2, 1) := by decide +kernel
theorem dX1_longestLineFrom_2 : decode cX1_longestLineFrom 2 = .ok (.iconst 0, 1) := by decide +kernel
theorem dX1_longestLineFrom_3 : decode cX1_longestLineFrom 3 = .ok (.istore_n 3, 1) := by decide +kernel
theorem dX1_longestLineFrom_4 : decode cX1_longestLineFrom 4 = .ok (.iload_n 3, 1) := by decide +kernel
theorem dX1_longestLineFrom_5 : decode cX1_longestLineFrom 5 = .ok (.bipush 8, 2) := by decide +kernel
theorem dX1_longestLineFrom_7 : decode cX1_longestLineFrom 7 = .ok (.if_icmp .ge 20, 3) := by decide +kernel
theorem dX1_longestLineFrom_10 : decode cX1_longestLineFrom 10 = .ok (.iload_n 2, 1) := by decide +kernel
theorem dX1_longestLineFrom_11 : decode cX1_longestLineFrom 11 = .ok (.aload_n 0, 1) := by decide +kernel
theorem dX1_longestLineFrom_12 : decode cX1_longestLineFrom 12 = .ok (.iload_n 3, 1) := by decide +kernel
theorem dX1_longestLineFrom_13 : decode cX1_longestLineFrom 13 = .ok (.iload_n 1, 1) := by decide +kernel
theorem dX1_longestLineFrom_14 : decode cX1_longestLineFrom 14 = .ok (.invokevirtual 88, 3) := by decide +kernel
theorem dX1_longestLineFrom_17 : decode cX1_longestLineFrom 17 = .ok (.invokestatic 91, 3) := by decide +kernel
theorem dX1_longestLineFrom_20 : decode cX1_longestLineFrom 20 = .ok (.istore_n 2, 1) := by decide +kernel
theorem dX1_longestLineFrom_21 : decode cX1_longestLineFrom 21 = .ok (.iinc 3 1, 3) := by decide +kernel
theorem dX1_longestLineFrom_24 : decode cX1_longestLineFrom 24 = .ok (.goto (-20), 3) := by decide +kernel
theorem dX1_longestLineFrom_27 : decode cX1_longestLineFrom 27 = .ok (.iload_n 2, 1) := by decide +kernel
theorem dX1_longestLineFrom_28 : decode cX1_longestLineFrom 28 = .ok (.ireturn, 1) := by decide +kernel
set_option maxRecDepth 20000 in
theorem ggX1_available_X1_freePieces : GoodIn wsX1_available wsX1_freePieces := goodIn_r _ [5, 6, 12, 13, 14, 15, 16, 17, 18, 19, 20, 21, 22, 23, 24, 25] rfl (by decide +kernel)
set_option maxRecDepth 20000 in
theorem gX1_available_X1_freePieces : GoodIn wsX1_available (wsV RX1 96 RX1 yX1_freePieces wsX1_freePieces) := goodIn_app (goodIn_of _ (by decide +kernel)) ggX1_available_X1_freePieces
set_option maxRecDepth 20000 in
theorem ggX1_available_X1_allPromises : GoodIn wsX1_available wsX1_allPromises := goodIn_r _ [10, 11, 12, 13, 14, 15, 16, 17, 18, 19, 20, 21, 22, 23, 24, 25] rfl (by decide +kernel)
set_option maxRecDepth 20000 in
theorem gX1_available_X1_allPromises : GoodIn wsX1_available (wsV RX1 100 RX1 yX1_allPromises wsX1_allPromises) := goodIn_app (goodIn_of _ (by decide +kernel)) ggX1_available_X1_allPromises
theorem dX1_available_0 : decode cX1_available 0 = .ok (.aload_n 0, 1) := by decide +kernel
theorem dX1_available_1 : decode cX1_available 1 = .ok (.invokevirtual 96, 3) := by decide +kernel
theorem dX1_available_4 : decode cX1_available 4 = .ok (.aload_n 0, 1) := by decide +kernel
theorem dX1_available_5 : decode cX1_available 5 = .ok (.invokevirtual 100, 3) := by decide +kernel
theorem dX1_available_8 : decode cX1_available 8 = .ok (.isub, 1) := by decide +kernel
theorem dX1_available_9 : decode cX1_available 9 = .ok (.ireturn, 1) := by decide +kernel
set_option maxRecDepth 20000 in
theorem ggX1_level_X1_available : GoodIn wsX1_level wsX1_available := goodIn_r _ [5, 6, 7, 8, 4, 9, 10, 11, 12, 13, 14, 15, 21, 22, 23, 24, 25, 26, 27, 28, 29, 30, 31, 32, 33, 34] rfl (by decide +kernel)
set_option maxRecDepth 20000 in
theorem gX1_level_X1_available : GoodIn wsX1_level (wsV RX1 103 RX1 yX1_available wsX1_available) := goodIn_app (goodIn_of _ (by decide +kernel)) ggX1_level_X1_available
set_option maxRecDepth 20000 in
theorem ggX1_level_X1_levelWith : GoodIn wsX1_level wsX1_levelWith := goodIn_r _ [19, 20, 21, 22, 23, 24, 25, 26, 27, 28, 29, 30, 31, 32, 33, 34] rfl (by decide +kernel)
set_option maxRecDepth 20000 in
theorem gX1_level_X1_levelWith : GoodIn wsX1_level (wsV RX1 106 RX1 yX1_levelWith wsX1_levelWith) := goodIn_app (goodIn_of _ (by decide +kernel)) ggX1_level_X1_levelWith
theorem dX1_level_0 : decode cX1_level 0 = .ok (.aload_n 0, 1) := by decide +kernel
theorem dX1_level_1 : decode cX1_level 1 = .ok (.aload_n 0, 1) := by decide +kernel
theorem dX1_level_2 : decode cX1_level 2 = .ok (.invokevirtual 103, 3) := by decide +kernel
theorem dX1_level_5 : decode cX1_level 5 = .ok (.invokevirtual 106, 3) := by decide +kernel
theorem dX1_level_8 : decode cX1_level 8 = .ok (.ireturn, 1) := by decide +kernel
theorem dX1_levelWith_0 : decode cX1_levelWith 0 = .ok (.iload_n 1, 1) := by decide +kernel
theorem dX1_levelWith_1 : decode cX1_levelWith 1 = .ok (.aload_n 0, 1) := by decide +kernel
theorem dX1_levelWith_2 : decode cX1_levelWith 2 = .ok (.getfield 39, 3) := by decide +kernel
theorem dX1_levelWith_5 : decode cX1_levelWith 5 = .ok (.iconst 1, 1) := by decide +kernel
theorem dX1_levelWith_6 : decode cX1_levelWith 6 = .ok (.iaload, 1) := by decide +kernel
theorem dX1_levelWith_7 : decode cX1_levelWith 7 = .ok (.if_icmp .gt 5, 3) := by decide +kernel
theorem dX1_levelWith_10 : decode cX1_levelWith 10 = .ok (.iconst 2, 1) := by decide +kernel
theorem dX1_levelWith_11 : decode cX1_levelWith 11 = .ok (.ireturn, 1) := by decide +kernel
theorem dX1_levelWith_12 : decode cX1_levelWith 12 = .ok (.iload_n 1, 1) := by decide +kernel
theorem dX1_levelWith_13 : decode cX1_levelWith 13 = .ok (.aload_n 0, 1) := by decide +kernel
theorem dX1_levelWith_14 : decode cX1_levelWith 14 = .ok (.getfield 39, 3) := by decide +kernel
theorem dX1_levelWith_17 : decode cX1_levelWith 17 = .ok (.iconst 0, 1) := by decide +kernel
theorem dX1_levelWith_18 : decode cX1_levelWith 18 = .ok (.iaload, 1) := by decide +kernel
theorem dX1_levelWith_19 : decode cX1_levelWith 19 = .ok (.if_icmp .gt 7, 3) := by decide +kernel
theorem dX1_levelWith_22 : decode cX1_levelWith 22 = .ok (.iconst 1, 1) := by decide +kernel
theorem dX1_levelWith_23 : decode cX1_levelWith 23 = .ok (.goto 4, 3) := by decide +kernel
theorem dX1_levelWith_26 : decode cX1_levelWith 26 = .ok (.iconst 0, 1) := by decide +kernel
theorem dX1_levelWith_27 : decode cX1_levelWith 27 = .ok (.ireturn, 1) := by decide +kernel
set_option maxRecDepth 20000 in
theorem ggX1_rankWith_X1_lives : GoodIn wsX1_rankWith wsX1_lives := goodIn_r _ [6, 7, 8, 9, 10, 11, 12, 13, 14, 15, 16, 17, 18, 19, 20, 21] rfl (by decide +kernel)
set_option maxRecDepth 20000 in
theorem gX1_rankWith_X1_lives : GoodIn wsX1_rankWith (wsV RX1 69 RX1 yX1_lives wsX1_lives) := goodIn_app (goodIn_of _ (by decide +kernel)) ggX1_rankWith_X1_lives
theorem dX1_rankWith_0 : decode cX1_rankWith 0 = .ok (.iconst 0, 1) := by decide +kernel
theorem dX1_rankWith_1 : decode cX1_rankWith 1 = .ok (.istore_n 3, 1) := by decide +kernel
theorem dX1_rankWith_2 : decode cX1_rankWith 2 = .ok (.iconst 0, 1) := by decide +kernel
theorem dX1_rankWith_3 : decode cX1_rankWith 3 = .ok (.istore 4, 2) := by decide +kernel
theorem dX1_rankWith_5 : decode cX1_rankWith 5 = .ok (.iload 4, 2) := by decide +kernel
theorem dX1_rankWith_7 : decode cX1_rankWith 7 = .ok (.bipush 8, 2) := by decide +kernel
theorem dX1_rankWith_9 : decode cX1_rankWith 9 = .ok (.if_icmp .ge 67, 3) := by decide +kernel
theorem dX1_rankWith_12 : decode cX1_rankWith 12 = .ok (.aload_n 0, 1) := by decide +kernel
theorem dX1_rankWith_13 : decode cX1_rankWith 13 = .ok (.getfield 15, 3) := by decide +kernel
theorem dX1_rankWith_16 : decode cX1_rankWith 16 = .ok (.iload 4, 2) := by decide +kernel
theorem dX1_rankWith_18 : decode cX1_rankWith 18 = .ok (.iaload, 1) := by decide +kernel
theorem dX1_rankWith_19 : decode cX1_rankWith 19 = .ok (.iload_n 2, 1) := by decide +kernel
theorem dX1_rankWith_20 : decode cX1_rankWith 20 = .ok (.if_icmp .gt 20, 3) := by decide +kernel
theorem dX1_rankWith_23 : decode cX1_rankWith 23 = .ok (.aload_n 0, 1) := by decide +kernel
theorem dX1_rankWith_24 : decode cX1_rankWith 24 = .ok (.getfield 15, 3) := by decide +kernel
theorem dX1_rankWith_27 : decode cX1_rankWith 27 = .ok (.iload 4, 2) := by decide +kernel
theorem dX1_rankWith_29 : decode cX1_rankWith 29 = .ok (.iaload, 1) := by decide +kernel
theorem dX1_rankWith_30 : decode cX1_rankWith 30 = .ok (.iload_n 2, 1) := by decide +kernel
theorem dX1_rankWith_31 : decode cX1_rankWith 31 = .ok (.if_icmp .ne 13, 3) := by decide +kernel
theorem dX1_rankWith_34 : decode cX1_rankWith 34 = .ok (.iload 4, 2) := by decide +kernel
theorem dX1_rankWith_36 : decode cX1_rankWith 36 = .ok (.iload_n 1, 1) := by decide +kernel
theorem dX1_rankWith_37 : decode cX1_rankWith 37 = .ok (.if_icmp .ge 7, 3) := by decide +kernel
theorem dX1_rankWith_40 : decode cX1_rankWith 40 = .ok (.iconst 1, 1) := by decide +kernel
theorem dX1_rankWith_41 : decode cX1_rankWith 41 = .ok (.goto 4, 3) := by decide +kernel
theorem dX1_rankWith_44 : decode cX1_rankWith 44 = .ok (.iconst 0, 1) := by decide +kernel
theorem dX1_rankWith_45 : decode cX1_rankWith 45 = .ok (.istore 5, 2) := by decide +kernel
theorem dX1_rankWith_47 : decode cX1_rankWith 47 = .ok (.iload 4, 2) := by decide +kernel
theorem dX1_rankWith_49 : decode cX1_rankWith 49 = .ok (.iload_n 1, 1) := by decide +kernel
theorem dX1_rankWith_50 : decode cX1_rankWith 50 = .ok (.if_icmp .eq 20, 3) := by decide +kernel
theorem dX1_rankWith_53 : decode cX1_rankWith 53 = .ok (.aload_n 0, 1) := by decide +kernel
theorem dX1_rankWith_54 : decode cX1_rankWith 54 = .ok (.iload 4, 2) := by decide +kernel
theorem dX1_rankWith_56 : decode cX1_rankWith 56 = .ok (.invokevirtual 69, 3) := by decide +kernel
theorem dX1_rankWith_59 : decode cX1_rankWith 59 = .ok (.ifCond .eq 11, 3) := by decide +kernel
theorem dX1_rankWith_62 : decode cX1_rankWith 62 = .ok (.iload 5, 2) := by decide +kernel
theorem dX1_rankWith_64 : decode cX1_rankWith 64 = .ok (.ifCond .eq 6, 3) := by decide +kernel
theorem dX1_rankWith_67 : decode cX1_rankWith 67 = .ok (.iinc 3 1, 3) := by decide +kernel
theorem dX1_rankWith_70 : decode cX1_rankWith 70 = .ok (.iinc 4 1, 3) := by decide +kernel
theorem dX1_rankWith_73 : decode cX1_rankWith 73 = .ok (.goto (-68), 3) := by decide +kernel
theorem dX1_rankWith_76 : decode cX1_rankWith 76 = .ok (.iload_n 3, 1) := by decide +kernel
theorem dX1_rankWith_77 : decode cX1_rankWith 77 = .ok (.ireturn, 1) := by decide +kernel
set_option maxRecDepth 20000 in
theorem ggX1_volumeWithRank_X1_lives : GoodIn wsX1_volumeWithRank wsX1_lives := goodIn_r _ [7, 8, 13, 14, 15, 16, 17, 18, 19, 20, 21, 22, 23, 24, 25, 26] rfl (by decide +kernel)
set_option maxRecDepth 20000 in
theorem gX1_volumeWithRank_X1_lives : GoodIn wsX1_volumeWithRank (wsV RX1 69 RX1 yX1_lives wsX1_lives) := goodIn_app (goodIn_of _ (by decide +kernel)) ggX1_volumeWithRank_X1_lives
set_option maxRecDepth 20000 in
theorem ggX1_volumeWithRank_X1_rankWith : GoodIn wsX1_volumeWithRank wsX1_rankWith := goodIn_r _ [12, 1, 3, 4, 5, 6, 7, 8, 13, 14, 15, 16, 17, 18, 19, 20, 21, 22, 23, 24, 25, 26] rfl (by decide +kernel)
set_option maxRecDepth 20000 in
theorem gX1_volumeWithRank_X1_rankWith : GoodIn wsX1_volumeWithRank (wsV RX1 109 RX1 yX1_rankWith wsX1_rankWith) := goodIn_app (goodIn_of _ (by decide +kernel)) ggX1_volumeWithRank_X1_rankWith
theorem dX1_volumeWithRank_0 : decode cX1_volumeWithRank 0 = .ok (.iconst 0, 1) := by decide +kernel
theorem dX1_volumeWithRank_1 : decode cX1_volumeWithRank 1 = .ok (.istore_n 2, 1) := by decide +kernel
theorem dX1_volumeWithRank_2 : decode cX1_volumeWithRank 2 = .ok (.iload_n 2, 1) := by decide +kernel
theorem dX1_volumeWithRank_3 : decode cX1_volumeWithRank 3 = .ok (.bipush 8, 2) := by decide +kernel
theorem dX1_volumeWithRank_5 : decode cX1_volumeWithRank 5 = .ok (.if_icmp .ge 34, 3) := by decide +kernel
theorem dX1_volumeWithRank_8 : decode cX1_volumeWithRank 8 = .ok (.aload_n 0, 1) := by decide +kernel
theorem dX1_volumeWithRank_9 : decode cX1_volumeWithRank 9 = .ok (.iload_n 2, 1) := by decide +kernel
theorem dX1_volumeWithRank_10 : decode cX1_volumeWithRank 10 = .ok (.invokevirtual 69, 3) := by decide +kernel
theorem dX1_volumeWithRank_13 : decode cX1_volumeWithRank 13 = .ok (.ifCond .eq 20, 3) := by decide +kernel
theorem dX1_volumeWithRank_16 : decode cX1_volumeWithRank 16 = .ok (.aload_n 0, 1) := by decide +kernel
theorem dX1_volumeWithRank_17 : decode cX1_volumeWithRank 17 = .ok (.iload_n 2, 1) := by decide +kernel
theorem dX1_volumeWithRank_18 : decode cX1_volumeWithRank 18 = .ok (.aload_n 0, 1) := by decide +kernel
theorem dX1_volumeWithRank_19 : decode cX1_volumeWithRank 19 = .ok (.getfield 15, 3) := by decide +kernel
theorem dX1_volumeWithRank_22 : decode cX1_volumeWithRank 22 = .ok (.iload_n 2, 1) := by decide +kernel
theorem dX1_volumeWithRank_23 : decode cX1_volumeWithRank 23 = .ok (.iaload, 1) := by decide +kernel
theorem dX1_volumeWithRank_24 : decode cX1_volumeWithRank 24 = .ok (.invokevirtual 109, 3) := by decide +kernel
theorem dX1_volumeWithRank_27 : decode cX1_volumeWithRank 27 = .ok (.iload_n 1, 1) := by decide +kernel
theorem dX1_volumeWithRank_28 : decode cX1_volumeWithRank 28 = .ok (.if_icmp .ne 5, 3) := by decide +kernel
theorem dX1_volumeWithRank_31 : decode cX1_volumeWithRank 31 = .ok (.iload_n 2, 1) := by decide +kernel
theorem dX1_volumeWithRank_32 : decode cX1_volumeWithRank 32 = .ok (.ireturn, 1) := by decide +kernel
theorem dX1_volumeWithRank_33 : decode cX1_volumeWithRank 33 = .ok (.iinc 2 1, 3) := by decide +kernel
theorem dX1_volumeWithRank_36 : decode cX1_volumeWithRank 36 = .ok (.goto (-34), 3) := by decide +kernel
theorem dX1_volumeWithRank_39 : decode cX1_volumeWithRank 39 = .ok (.ldc 112, 2) := by decide +kernel
theorem dX1_volumeWithRank_41 : decode cX1_volumeWithRank 41 = .ok (.ireturn, 1) := by decide +kernel
set_option maxRecDepth 20000 in
theorem ggX1_wouldGetUnpromised_X1_levelWith : GoodIn wsX1_wouldGetUnpromised wsX1_levelWith := goodIn_r _ [6, 1, 17, 18, 19, 20, 21, 22, 23, 24, 25, 26, 27, 28, 29, 30] rfl (by decide +kernel)
set_option maxRecDepth 20000 in
theorem gX1_wouldGetUnpromised_X1_levelWith : GoodIn wsX1_wouldGetUnpromised (wsV RX1 106 RX1 yX1_levelWith wsX1_levelWith) := goodIn_app (goodIn_of _ (by decide +kernel)) ggX1_wouldGetUnpromised_X1_levelWith
set_option maxRecDepth 20000 in
theorem ggX1_wouldGetUnpromised_X1_rankWith : GoodIn wsX1_wouldGetUnpromised wsX1_rankWith := goodIn_r _ [10, 11, 12, 13, 14, 5, 15, 16, 17, 18, 19, 20, 21, 22, 23, 24, 25, 26, 27, 28, 29, 30] rfl (by decide +kernel)
set_option maxRecDepth 20000 in
theorem gX1_wouldGetUnpromised_X1_rankWith : GoodIn wsX1_wouldGetUnpromised (wsV RX1 109 RX1 yX1_rankWith wsX1_rankWith) := goodIn_app (goodIn_of _ (by decide +kernel)) ggX1_wouldGetUnpromised_X1_rankWith
theorem dX1_wouldGetUnpromised_0 : decode cX1_wouldGetUnpromised 0 = .ok (.iload_n 3, 1) := by decide +kernel
theorem dX1_wouldGetUnpromised_1 : decode cX1_wouldGetUnpromised 1 = .ok (.ifCond .gt 5, 3) := by decide +kernel
theorem dX1_wouldGetUnpromised_4 : decode cX1_wouldGetUnpromised 4 = .ok (.iconst 0, 1) := by decide +kernel
theorem dX1_wouldGetUnpromised_5 : decode cX1_wouldGetUnpromised 5 = .ok (.ireturn, 1) := by decide +kernel
theorem dX1_wouldGetUnpromised_6 : decode cX1_wouldGetUnpromised 6 = .ok (.aload_n 0, 1) := by decide +kernel
theorem dX1_wouldGetUnpromised_7 : decode cX1_wouldGetUnpromised 7 = .ok (.iload_n 3, 1) := by decide +kernel
theorem dX1_wouldGetUnpromised_8 : decode cX1_wouldGetUnpromised 8 = .ok (.invokevirtual 106, 3) := by decide +kernel
theorem dX1_wouldGetUnpromised_11 : decode cX1_wouldGetUnpromised 11 = .ok (.istore 4, 2) := by decide +kernel
theorem dX1_wouldGetUnpromised_13 : decode cX1_wouldGetUnpromised 13 = .ok (.iload 4, 2) := by decide +kernel
theorem dX1_wouldGetUnpromised_15 : decode cX1_wouldGetUnpromised 15 = .ok (.iconst 2, 1) := by decide +kernel
theorem dX1_wouldGetUnpromised_16 : decode cX1_wouldGetUnpromised 16 = .ok (.if_icmp .ne 18, 3) := by decide +kernel
theorem dX1_wouldGetUnpromised_19 : decode cX1_wouldGetUnpromised 19 = .ok (.aload_n 0, 1) := by decide +kernel
theorem dX1_wouldGetUnpromised_20 : decode cX1_wouldGetUnpromised 20 = .ok (.iload_n 1, 1) := by decide +kernel
theorem dX1_wouldGetUnpromised_21 : decode cX1_wouldGetUnpromised 21 = .ok (.iload_n 2, 1) := by decide +kernel
theorem dX1_wouldGetUnpromised_22 : decode cX1_wouldGetUnpromised 22 = .ok (.invokevirtual 109, 3) := by decide +kernel
theorem dX1_wouldGetUnpromised_25 : decode cX1_wouldGetUnpromised 25 = .ok (.ifCond .ne 7, 3) := by decide +kernel
theorem dX1_wouldGetUnpromised_28 : decode cX1_wouldGetUnpromised 28 = .ok (.iconst 1, 1) := by decide +kernel
theorem dX1_wouldGetUnpromised_29 : decode cX1_wouldGetUnpromised 29 = .ok (.goto 4, 3) := by decide +kernel
theorem dX1_wouldGetUnpromised_32 : decode cX1_wouldGetUnpromised 32 = .ok (.iconst 0, 1) := by decide +kernel
theorem dX1_wouldGetUnpromised_33 : decode cX1_wouldGetUnpromised 33 = .ok (.ireturn, 1) := by decide +kernel
theorem dX1_wouldGetUnpromised_34 : decode cX1_wouldGetUnpromised 34 = .ok (.iload 4, 2) := by decide +kernel
theorem dX1_wouldGetUnpromised_36 : decode cX1_wouldGetUnpromised 36 = .ok (.ifCond .eq 13, 3) := by decide +kernel
theorem dX1_wouldGetUnpromised_39 : decode cX1_wouldGetUnpromised 39 = .ok (.iload_n 2, 1) := by decide +kernel
theorem dX1_wouldGetUnpromised_40 : decode cX1_wouldGetUnpromised 40 = .ok (.aload_n 0, 1) := by decide +kernel
theorem dX1_wouldGetUnpromised_41 : decode cX1_wouldGetUnpromised 41 = .ok (.getfield 39, 3) := by decide +kernel
theorem dX1_wouldGetUnpromised_44 : decode cX1_wouldGetUnpromised 44 = .ok (.iconst 2, 1) := by decide +kernel
theorem dX1_wouldGetUnpromised_45 : decode cX1_wouldGetUnpromised 45 = .ok (.iaload, 1) := by decide +kernel
theorem dX1_wouldGetUnpromised_46 : decode cX1_wouldGetUnpromised 46 = .ok (.if_icmp .lt 7, 3) := by decide +kernel
theorem dX1_wouldGetUnpromised_49 : decode cX1_wouldGetUnpromised 49 = .ok (.iconst 1, 1) := by decide +kernel
theorem dX1_wouldGetUnpromised_50 : decode cX1_wouldGetUnpromised 50 = .ok (.goto 4, 3) := by decide +kernel
theorem dX1_wouldGetUnpromised_53 : decode cX1_wouldGetUnpromised 53 = .ok (.iconst 0, 1) := by decide +kernel
theorem dX1_wouldGetUnpromised_54 : decode cX1_wouldGetUnpromised 54 = .ok (.ireturn, 1) := by decide +kernel
theorem dX1_mannersBehindUnpromised_0 : decode cX1_mannersBehindUnpromised 0 = .ok (.iload_n 2, 1) := by decide +kernel
theorem dX1_mannersBehindUnpromised_1 : decode cX1_mannersBehindUnpromised 1 = .ok (.ifCond .ne 7, 3) := by decide +kernel
theorem dX1_mannersBehindUnpromised_4 : decode cX1_mannersBehindUnpromised 4 = .ok (.iload_n 1, 1) := by decide +kernel
theorem dX1_mannersBehindUnpromised_5 : decode cX1_mannersBehindUnpromised 5 = .ok (.goto 10, 3) := by decide +kernel
theorem dX1_mannersBehindUnpromised_8 : decode cX1_mannersBehindUnpromised 8 = .ok (.iload_n 1, 1) := by decide +kernel
theorem dX1_mannersBehindUnpromised_9 : decode cX1_mannersBehindUnpromised 9 = .ok (.iconst 3, 1) := by decide +kernel
theorem dX1_mannersBehindUnpromised_10 : decode cX1_mannersBehindUnpromised 10 = .ok (.isub, 1) := by decide +kernel
theorem dX1_mannersBehindUnpromised_11 : decode cX1_mannersBehindUnpromised 11 = .ok (.iconst 0, 1) := by decide +kernel
theorem dX1_mannersBehindUnpromised_12 : decode cX1_mannersBehindUnpromised 12 = .ok (.invokestatic 91, 3) := by decide +kernel
theorem dX1_mannersBehindUnpromised_15 : decode cX1_mannersBehindUnpromised 15 = .ok (.ireturn, 1) := by decide +kernel
set_option maxRecDepth 20000 in
theorem ggX1_piecesInReach_X1_lives : GoodIn wsX1_piecesInReach wsX1_lives := goodIn_r _ [7, 8, 43, 44, 45, 46, 47, 48, 49, 50, 51, 52, 53, 54, 55, 56] rfl (by decide +kernel)
set_option maxRecDepth 20000 in
theorem gX1_piecesInReach_X1_lives : GoodIn wsX1_piecesInReach (wsV RX1 69 RX1 yX1_lives wsX1_lives) := goodIn_app (goodIn_of _ (by decide +kernel)) ggX1_piecesInReach_X1_lives
set_option maxRecDepth 20000 in
theorem ggX1_piecesInReach_X1_available : GoodIn wsX1_piecesInReach wsX1_available := goodIn_r _ [12, 13, 14, 15, 6, 16, 17, 18, 19, 20, 21, 1, 43, 44, 45, 46, 47, 48, 49, 50, 51, 52, 53, 54, 55, 56] rfl (by decide +kernel)
set_option maxRecDepth 20000 in
theorem gX1_piecesInReach_X1_available : GoodIn wsX1_piecesInReach (wsV RX1 103 RX1 yX1_available wsX1_available) := goodIn_app (goodIn_of _ (by decide +kernel)) ggX1_piecesInReach_X1_available
set_option maxRecDepth 20000 in
theorem ggX1_piecesInReach_X1_wouldGetUnpromised : GoodIn wsX1_piecesInReach wsX1_wouldGetUnpromised := goodIn_r _ [25, 26, 27, 28, 29, 6, 30, 31, 32, 33, 34, 2, 3, 4, 5, 7, 8, 43, 44, 45, 46, 47, 48, 49, 50, 51, 52, 53, 54, 55, 56] rfl (by decide +kernel)
set_option maxRecDepth 20000 in
theorem gX1_piecesInReach_X1_wouldGetUnpromised : GoodIn wsX1_piecesInReach (wsV RX1 113 RX1 yX1_wouldGetUnpromised wsX1_wouldGetUnpromised) := goodIn_app (goodIn_of _ (by decide +kernel)) ggX1_piecesInReach_X1_wouldGetUnpromised
set_option maxRecDepth 20000 in
theorem ggX1_piecesInReach_X1_levelWith : GoodIn wsX1_piecesInReach wsX1_levelWith := goodIn_r _ [30, 26, 43, 44, 45, 46, 47, 48, 49, 50, 51, 52, 53, 54, 55, 56] rfl (by decide +kernel)
set_option maxRecDepth 20000 in
theorem gX1_piecesInReach_X1_levelWith : GoodIn wsX1_piecesInReach (wsV RX1 106 RX1 yX1_levelWith wsX1_levelWith) := goodIn_app (goodIn_of _ (by decide +kernel)) ggX1_piecesInReach_X1_levelWith
set_option maxRecDepth 20000 in
theorem ggX1_piecesInReach_X1_mannersBehindUnpromised : GoodIn wsX1_piecesInReach wsX1_mannersBehindUnpromised := goodIn_r _ [38, 39, 40, 41, 42] rfl (by decide +kernel)
set_option maxRecDepth 20000 in
theorem gX1_piecesInReach_X1_mannersBehindUnpromised : GoodIn wsX1_piecesInReach (wsV RX1 117 RX1 yX1_mannersBehindUnpromised wsX1_mannersBehindUnpromised) := goodIn_app (goodIn_of _ (by decide +kernel)) ggX1_piecesInReach_X1_mannersBehindUnpromised
theorem dX1_piecesInReach_0 : decode cX1_piecesInReach 0 = .ok (.aload_n 0, 1) := by decide +kernel
theorem dX1_piecesInReach_1 : decode cX1_piecesInReach 1 = .ok (.iload_n 1, 1) := by decide +kernel
theorem dX1_piecesInReach_2 : decode cX1_piecesInReach 2 = .ok (.invokevirtual 69, 3) := by decide +kernel
theorem dX1_piecesInReach_5 : decode cX1_piecesInReach 5 = .ok (.ifCond .ne 5, 3) := by decide +kernel
theorem dX1_piecesInReach_8 : decode cX1_piecesInReach 8 = .ok (.iconst 0, 1) := by decide +kernel
theorem dX1_piecesInReach_9 : decode cX1_piecesInReach 9 = .ok (.ireturn, 1) := by decide +kernel
theorem dX1_piecesInReach_10 : decode cX1_piecesInReach 10 = .ok (.aload_n 0, 1) := by decide +kernel
theorem dX1_piecesInReach_11 : decode cX1_piecesInReach 11 = .ok (.getfield 18, 3) := by decide +kernel
theorem dX1_piecesInReach_14 : decode cX1_piecesInReach 14 = .ok (.iload_n 1, 1) := by decide +kernel
theorem dX1_piecesInReach_15 : decode cX1_piecesInReach 15 = .ok (.iaload, 1) := by decide +kernel
theorem dX1_piecesInReach_16 : decode cX1_piecesInReach 16 = .ok (.istore_n 2, 1) := by decide +kernel
theorem dX1_piecesInReach_17 : decode cX1_piecesInReach 17 = .ok (.aload_n 0, 1) := by decide +kernel
theorem dX1_piecesInReach_18 : decode cX1_piecesInReach 18 = .ok (.getfield 15, 3) := by decide +kernel
theorem dX1_piecesInReach_21 : decode cX1_piecesInReach 21 = .ok (.iload_n 1, 1) := by decide +kernel
theorem dX1_piecesInReach_22 : decode cX1_piecesInReach 22 = .ok (.iaload, 1) := by decide +kernel
theorem dX1_piecesInReach_23 : decode cX1_piecesInReach 23 = .ok (.istore_n 3, 1) := by decide +kernel
theorem dX1_piecesInReach_24 : decode cX1_piecesInReach 24 = .ok (.aload_n 0, 1) := by decide +kernel
theorem dX1_piecesInReach_25 : decode cX1_piecesInReach 25 = .ok (.invokevirtual 103, 3) := by decide +kernel
theorem dX1_piecesInReach_28 : decode cX1_piecesInReach 28 = .ok (.istore 4, 2) := by decide +kernel
theorem dX1_piecesInReach_30 : decode cX1_piecesInReach 30 = .ok (.iload 4, 2) := by decide +kernel
theorem dX1_piecesInReach_32 : decode cX1_piecesInReach 32 = .ok (.ifCond .le 37, 3) := by decide +kernel
theorem dX1_piecesInReach_35 : decode cX1_piecesInReach 35 = .ok (.aload_n 0, 1) := by decide +kernel
theorem dX1_piecesInReach_36 : decode cX1_piecesInReach 36 = .ok (.iload_n 1, 1) := by decide +kernel
theorem dX1_piecesInReach_37 : decode cX1_piecesInReach 37 = .ok (.iload_n 3, 1) := by decide +kernel
theorem dX1_piecesInReach_38 : decode cX1_piecesInReach 38 = .ok (.iload 4, 2) := by decide +kernel
theorem dX1_piecesInReach_40 : decode cX1_piecesInReach 40 = .ok (.invokevirtual 113, 3) := by decide +kernel
theorem dX1_piecesInReach_43 : decode cX1_piecesInReach 43 = .ok (.ifCond .ne 5, 3) := by decide +kernel
theorem dX1_piecesInReach_46 : decode cX1_piecesInReach 46 = .ok (.iload_n 2, 1) := by decide +kernel
theorem dX1_piecesInReach_47 : decode cX1_piecesInReach 47 = .ok (.ireturn, 1) := by decide +kernel
theorem dX1_piecesInReach_48 : decode cX1_piecesInReach 48 = .ok (.aload_n 0, 1) := by decide +kernel
theorem dX1_piecesInReach_49 : decode cX1_piecesInReach 49 = .ok (.iload_n 3, 1) := by decide +kernel
theorem dX1_piecesInReach_50 : decode cX1_piecesInReach 50 = .ok (.aload_n 0, 1) := by decide +kernel
theorem dX1_piecesInReach_51 : decode cX1_piecesInReach 51 = .ok (.iload 4, 2) := by decide +kernel
theorem dX1_piecesInReach_53 : decode cX1_piecesInReach 53 = .ok (.invokevirtual 106, 3) := by decide +kernel
theorem dX1_piecesInReach_56 : decode cX1_piecesInReach 56 = .ok (.invokevirtual 117, 3) := by decide +kernel
theorem dX1_piecesInReach_59 : decode cX1_piecesInReach 59 = .ok (.istore_n 3, 1) := by decide +kernel
theorem dX1_piecesInReach_60 : decode cX1_piecesInReach 60 = .ok (.iinc 2 1, 3) := by decide +kernel
theorem dX1_piecesInReach_63 : decode cX1_piecesInReach 63 = .ok (.iinc 4 (-1), 3) := by decide +kernel
theorem dX1_piecesInReach_66 : decode cX1_piecesInReach 66 = .ok (.goto (-36), 3) := by decide +kernel
theorem dX1_piecesInReach_69 : decode cX1_piecesInReach 69 = .ok (.iload_n 2, 1) := by decide +kernel
theorem dX1_piecesInReach_70 : decode cX1_piecesInReach 70 = .ok (.ireturn, 1) := by decide +kernel
set_option maxRecDepth 20000 in
theorem ggX1_warnIfLevelRose_X1_available : GoodIn wsX1_warnIfLevelRose wsX1_available := goodIn_r _ [6, 7, 8, 9, 5, 10, 11, 12, 13, 14, 15, 16, 39, 40, 41, 42, 43, 44, 45, 46, 47, 48, 49, 50, 51, 52] rfl (by decide +kernel)
set_option maxRecDepth 20000 in
theorem gX1_warnIfLevelRose_X1_available : GoodIn wsX1_warnIfLevelRose (wsV RX1 103 RX1 yX1_available wsX1_available) := goodIn_app (goodIn_of _ (by decide +kernel)) ggX1_warnIfLevelRose_X1_available
set_option maxRecDepth 20000 in
theorem ggX1_warnIfLevelRose_X1_levelWith : GoodIn wsX1_warnIfLevelRose wsX1_levelWith := goodIn_r _ [20, 21, 39, 40, 41, 42, 43, 44, 45, 46, 47, 48, 49, 50, 51, 52] rfl (by decide +kernel)
set_option maxRecDepth 20000 in
theorem gX1_warnIfLevelRose_X1_levelWith : GoodIn wsX1_warnIfLevelRose (wsV RX1 106 RX1 yX1_levelWith wsX1_levelWith) := goodIn_app (goodIn_of _ (by decide +kernel)) ggX1_warnIfLevelRose_X1_levelWith
set_option maxRecDepth 20000 in
theorem ggX1_warnIfLevelRose_X4_add : GoodIn wsX1_warnIfLevelRose wsX4_add := goodIn_r _ [26, 27, 28, 29, 30, 31, 32, 33, 34, 35, 36, 37, 38, 53, 54, 55, 56] rfl (by decide +kernel)
set_option maxRecDepth 20000 in
theorem gX1_warnIfLevelRose_X4_add : GoodIn wsX1_warnIfLevelRose (wsV RX1 120 RX4 yX4_add wsX4_add) := goodIn_app (goodIn_of _ (by decide +kernel)) ggX1_warnIfLevelRose_X4_add
theorem dX1_warnIfLevelRose_0 : decode cX1_warnIfLevelRose 0 = .ok (.aload_n 0, 1) := by decide +kernel
theorem dX1_warnIfLevelRose_1 : decode cX1_warnIfLevelRose 1 = .ok (.invokevirtual 103, 3) := by decide +kernel
theorem dX1_warnIfLevelRose_4 : decode cX1_warnIfLevelRose 4 = .ok (.istore_n 2, 1) := by decide +kernel
theorem dX1_warnIfLevelRose_5 : decode cX1_warnIfLevelRose 5 = .ok (.aload_n 0, 1) := by decide +kernel
theorem dX1_warnIfLevelRose_6 : decode cX1_warnIfLevelRose 6 = .ok (.iload_n 2, 1) := by decide +kernel
theorem dX1_warnIfLevelRose_7 : decode cX1_warnIfLevelRose 7 = .ok (.invokevirtual 106, 3) := by decide +kernel
theorem dX1_warnIfLevelRose_10 : decode cX1_warnIfLevelRose 10 = .ok (.iload_n 1, 1) := by decide +kernel
theorem dX1_warnIfLevelRose_11 : decode cX1_warnIfLevelRose 11 = .ok (.if_icmp .le 13, 3) := by decide +kernel
theorem dX1_warnIfLevelRose_14 : decode cX1_warnIfLevelRose 14 = .ok (.aload_n 0, 1) := by decide +kernel
theorem dX1_warnIfLevelRose_15 : decode cX1_warnIfLevelRose 15 = .ok (.getfield 45, 3) := by decide +kernel
theorem dX1_warnIfLevelRose_18 : decode cX1_warnIfLevelRose 18 = .ok (.iconst 0, 1) := by decide +kernel
theorem dX1_warnIfLevelRose_19 : decode cX1_warnIfLevelRose 19 = .ok (.iconst (-1), 1) := by decide +kernel
theorem dX1_warnIfLevelRose_20 : decode cX1_warnIfLevelRose 20 = .ok (.iload_n 2, 1) := by decide +kernel
theorem dX1_warnIfLevelRose_21 : decode cX1_warnIfLevelRose 21 = .ok (.invokevirtual 120, 3) := by decide +kernel
theorem dX1_warnIfLevelRose_24 : decode cX1_warnIfLevelRose 24 = .ok (.return_, 1) := by decide +kernel
set_option maxRecDepth 20000 in
theorem ggX1_openVolume_X1_lives : GoodIn wsX1_openVolume wsX1_lives := goodIn_r _ [13, 2, 14, 15, 16, 17, 18, 19, 20, 21, 22, 23, 24, 25, 26, 27] rfl (by decide +kernel)
set_option maxRecDepth 20000 in
theorem gX1_openVolume_X1_lives : GoodIn wsX1_openVolume (wsV RX1 69 RX1 yX1_lives wsX1_lives) := goodIn_app (goodIn_of _ (by decide +kernel)) ggX1_openVolume_X1_lives
theorem dX1_openVolume_0 : decode cX1_openVolume 0 = .ok (.iload_n 1, 1) := by decide +kernel
theorem dX1_openVolume_1 : decode cX1_openVolume 1 = .ok (.iconst 1, 1) := by decide +kernel
theorem dX1_openVolume_2 : decode cX1_openVolume 2 = .ok (.if_icmp .lt 9, 3) := by decide +kernel
theorem dX1_openVolume_5 : decode cX1_openVolume 5 = .ok (.iload_n 1, 1) := by decide +kernel
theorem dX1_openVolume_6 : decode cX1_openVolume 6 = .ok (.bipush 40, 2) := by decide +kernel
theorem dX1_openVolume_8 : decode cX1_openVolume 8 = .ok (.if_icmp .le 6, 3) := by decide +kernel
theorem dX1_openVolume_11 : decode cX1_openVolume 11 = .ok (.ldc 124, 2) := by decide +kernel
theorem dX1_openVolume_13 : decode cX1_openVolume 13 = .ok (.ireturn, 1) := by decide +kernel
theorem dX1_openVolume_14 : decode cX1_openVolume 14 = .ok (.iconst 0, 1) := by decide +kernel
theorem dX1_openVolume_15 : decode cX1_openVolume 15 = .ok (.istore_n 2, 1) := by decide +kernel
theorem dX1_openVolume_16 : decode cX1_openVolume 16 = .ok (.iload_n 2, 1) := by decide +kernel
theorem dX1_openVolume_17 : decode cX1_openVolume 17 = .ok (.bipush 8, 2) := by decide +kernel
theorem dX1_openVolume_19 : decode cX1_openVolume 19 = .ok (.if_icmp .ge 62, 3) := by decide +kernel
theorem dX1_openVolume_22 : decode cX1_openVolume 22 = .ok (.aload_n 0, 1) := by decide +kernel
theorem dX1_openVolume_23 : decode cX1_openVolume 23 = .ok (.iload_n 2, 1) := by decide +kernel
theorem dX1_openVolume_24 : decode cX1_openVolume 24 = .ok (.invokevirtual 69, 3) := by decide +kernel
theorem dX1_openVolume_27 : decode cX1_openVolume 27 = .ok (.ifCond .ne 48, 3) := by decide +kernel
theorem dX1_openVolume_30 : decode cX1_openVolume 30 = .ok (.aload_n 0, 1) := by decide +kernel
theorem dX1_openVolume_31 : decode cX1_openVolume 31 = .ok (.getfield 9, 3) := by decide +kernel
theorem dX1_openVolume_34 : decode cX1_openVolume 34 = .ok (.iload_n 2, 1) := by decide +kernel
theorem dX1_openVolume_35 : decode cX1_openVolume 35 = .ok (.iload_n 1, 1) := by decide +kernel
theorem dX1_openVolume_36 : decode cX1_openVolume 36 = .ok (.iastore, 1) := by decide +kernel
theorem dX1_openVolume_37 : decode cX1_openVolume 37 = .ok (.aload_n 0, 1) := by decide +kernel
theorem dX1_openVolume_38 : decode cX1_openVolume 38 = .ok (.getfield 15, 3) := by decide +kernel
theorem dX1_openVolume_41 : decode cX1_openVolume 41 = .ok (.iload_n 2, 1) := by decide +kernel
theorem dX1_openVolume_42 : decode cX1_openVolume 42 = .ok (.bipush 50, 2) := by decide +kernel
theorem dX1_openVolume_44 : decode cX1_openVolume 44 = .ok (.iastore, 1) := by decide +kernel
theorem dX1_openVolume_45 : decode cX1_openVolume 45 = .ok (.aload_n 0, 1) := by decide +kernel
theorem dX1_openVolume_46 : decode cX1_openVolume 46 = .ok (.getfield 18, 3) := by decide +kernel
theorem dX1_openVolume_49 : decode cX1_openVolume 49 = .ok (.iload_n 2, 1) := by decide +kernel
theorem dX1_openVolume_50 : decode cX1_openVolume 50 = .ok (.iconst 0, 1) := by decide +kernel
theorem dX1_openVolume_51 : decode cX1_openVolume 51 = .ok (.iastore, 1) := by decide +kernel
theorem dX1_openVolume_52 : decode cX1_openVolume 52 = .ok (.aload_n 0, 1) := by decide +kernel
theorem dX1_openVolume_53 : decode cX1_openVolume 53 = .ok (.getfield 21, 3) := by decide +kernel
theorem dX1_openVolume_56 : decode cX1_openVolume 56 = .ok (.iload_n 2, 1) := by decide +kernel
theorem dX1_openVolume_57 : decode cX1_openVolume 57 = .ok (.iconst (-1), 1) := by decide +kernel
theorem dX1_openVolume_58 : decode cX1_openVolume 58 = .ok (.iastore, 1) := by decide +kernel
theorem dX1_openVolume_59 : decode cX1_openVolume 59 = .ok (.aload_n 0, 1) := by decide +kernel
theorem dX1_openVolume_60 : decode cX1_openVolume 60 = .ok (.getfield 24, 3) := by decide +kernel
theorem dX1_openVolume_63 : decode cX1_openVolume 63 = .ok (.iload_n 2, 1) := by decide +kernel
theorem dX1_openVolume_64 : decode cX1_openVolume 64 = .ok (.iconst 0, 1) := by decide +kernel
theorem dX1_openVolume_65 : decode cX1_openVolume 65 = .ok (.iastore, 1) := by decide +kernel
theorem dX1_openVolume_66 : decode cX1_openVolume 66 = .ok (.aload_n 0, 1) := by decide +kernel
theorem dX1_openVolume_67 : decode cX1_openVolume 67 = .ok (.getfield 27, 3) := by decide +kernel
theorem dX1_openVolume_70 : decode cX1_openVolume 70 = .ok (.iload_n 2, 1) := by decide +kernel
theorem dX1_openVolume_71 : decode cX1_openVolume 71 = .ok (.iconst 0, 1) := by decide +kernel
theorem dX1_openVolume_72 : decode cX1_openVolume 72 = .ok (.iastore, 1) := by decide +kernel
theorem dX1_openVolume_73 : decode cX1_openVolume 73 = .ok (.iload_n 2, 1) := by decide +kernel
theorem dX1_openVolume_74 : decode cX1_openVolume 74 = .ok (.ireturn, 1) := by decide +kernel
theorem dX1_openVolume_75 : decode cX1_openVolume 75 = .ok (.iinc 2 1, 3) := by decide +kernel
theorem dX1_openVolume_78 : decode cX1_openVolume 78 = .ok (.goto (-62), 3) := by decide +kernel
theorem dX1_openVolume_81 : decode cX1_openVolume 81 = .ok (.ldc 125, 2) := by decide +kernel
theorem dX1_openVolume_83 : decode cX1_openVolume 83 = .ok (.ireturn, 1) := by decide +kernel
set_option maxRecDepth 20000 in
theorem ggX1_cloneVolume_X1_lives : GoodIn wsX1_cloneVolume wsX1_lives := goodIn_r _ [10, 2, 32, 33, 34, 35, 36, 37, 38, 39, 40, 41, 42, 43, 44, 45] rfl (by decide +kernel)
set_option maxRecDepth 20000 in
theorem gX1_cloneVolume_X1_lives : GoodIn wsX1_cloneVolume (wsV RX1 69 RX1 yX1_lives wsX1_lives) := goodIn_app (goodIn_of _ (by decide +kernel)) ggX1_cloneVolume_X1_lives
set_option maxRecDepth 20000 in
theorem ggX1_cloneVolume_X1_openVolume : GoodIn wsX1_cloneVolume wsX1_openVolume := goodIn_r _ [14, 1, 2, 15, 16, 3, 17, 18, 19, 6, 7, 8, 9, 10, 32, 33, 34, 35, 36, 37, 38, 39, 40, 41, 42, 43, 44, 45] rfl (by decide +kernel)
set_option maxRecDepth 20000 in
theorem gX1_cloneVolume_X1_openVolume : GoodIn wsX1_cloneVolume (wsV RX1 126 RX1 yX1_openVolume wsX1_openVolume) := goodIn_app (goodIn_of _ (by decide +kernel)) ggX1_cloneVolume_X1_openVolume
set_option maxRecDepth 20000 in
theorem ggX1_cloneVolume_X1_pieceAt : GoodIn wsX1_cloneVolume wsX1_pieceAt := goodIn_r _ [23, 4, 24, 25, 26, 9, 27, 2, 6, 7, 8, 10, 32, 33, 34, 35, 36, 37, 38, 39, 40, 41, 42, 43, 44, 45] rfl (by decide +kernel)
set_option maxRecDepth 20000 in
theorem gX1_cloneVolume_X1_pieceAt : GoodIn wsX1_cloneVolume (wsV RX1 80 RX1 yX1_pieceAt wsX1_pieceAt) := goodIn_app (goodIn_of _ (by decide +kernel)) ggX1_cloneVolume_X1_pieceAt
set_option maxRecDepth 20000 in
theorem ggX1_cloneVolume_X1_isPiece : GoodIn wsX1_cloneVolume wsX1_isPiece := goodIn_r _ [31] rfl (by decide +kernel)
set_option maxRecDepth 20000 in
theorem gX1_cloneVolume_X1_isPiece : GoodIn wsX1_cloneVolume (wsV RX1 77 RX1 yX1_isPiece wsX1_isPiece) := goodIn_app (goodIn_of _ (by decide +kernel)) ggX1_cloneVolume_X1_isPiece
theorem dX1_cloneVolume_0 : decode cX1_cloneVolume 0 = .ok (.aload_n 0, 1) := by decide +kernel
theorem dX1_cloneVolume_1 : decode cX1_cloneVolume 1 = .ok (.iload_n 1, 1) := by decide +kernel
theorem dX1_cloneVolume_2 : decode cX1_cloneVolume 2 = .ok (.invokevirtual 69, 3) := by decide +kernel
theorem dX1_cloneVolume_5 : decode cX1_cloneVolume 5 = .ok (.ifCond .ne 6, 3) := by decide +kernel
theorem dX1_cloneVolume_8 : decode cX1_cloneVolume 8 = .ok (.ldc 124, 2) := by decide +kernel
theorem dX1_cloneVolume_10 : decode cX1_cloneVolume 10 = .ok (.ireturn, 1) := by decide +kernel
theorem dX1_cloneVolume_11 : decode cX1_cloneVolume 11 = .ok (.aload_n 0, 1) := by decide +kernel
theorem dX1_cloneVolume_12 : decode cX1_cloneVolume 12 = .ok (.aload_n 0, 1) := by decide +kernel
theorem dX1_cloneVolume_13 : decode cX1_cloneVolume 13 = .ok (.getfield 9, 3) := by decide +kernel
theorem dX1_cloneVolume_16 : decode cX1_cloneVolume 16 = .ok (.iload_n 1, 1) := by decide +kernel
theorem dX1_cloneVolume_17 : decode cX1_cloneVolume 17 = .ok (.iaload, 1) := by decide +kernel
theorem dX1_cloneVolume_18 : decode cX1_cloneVolume 18 = .ok (.invokevirtual 126, 3) := by decide +kernel
theorem dX1_cloneVolume_21 : decode cX1_cloneVolume 21 = .ok (.istore_n 2, 1) := by decide +kernel
theorem dX1_cloneVolume_22 : decode cX1_cloneVolume 22 = .ok (.aload_n 0, 1) := by decide +kernel
theorem dX1_cloneVolume_23 : decode cX1_cloneVolume 23 = .ok (.iload_n 2, 1) := by decide +kernel
theorem dX1_cloneVolume_24 : decode cX1_cloneVolume 24 = .ok (.invokevirtual 69, 3) := by decide +kernel
theorem dX1_cloneVolume_27 : decode cX1_cloneVolume 27 = .ok (.ifCond .ne 5, 3) := by decide +kernel
theorem dX1_cloneVolume_30 : decode cX1_cloneVolume 30 = .ok (.iload_n 2, 1) := by decide +kernel
theorem dX1_cloneVolume_31 : decode cX1_cloneVolume 31 = .ok (.ireturn, 1) := by decide +kernel
theorem dX1_cloneVolume_32 : decode cX1_cloneVolume 32 = .ok (.aload_n 0, 1) := by decide +kernel
theorem dX1_cloneVolume_33 : decode cX1_cloneVolume 33 = .ok (.getfield 21, 3) := by decide +kernel
theorem dX1_cloneVolume_36 : decode cX1_cloneVolume 36 = .ok (.iload_n 2, 1) := by decide +kernel
theorem dX1_cloneVolume_37 : decode cX1_cloneVolume 37 = .ok (.iload_n 1, 1) := by decide +kernel
theorem dX1_cloneVolume_38 : decode cX1_cloneVolume 38 = .ok (.iastore, 1) := by decide +kernel
theorem dX1_cloneVolume_39 : decode cX1_cloneVolume 39 = .ok (.iconst 0, 1) := by decide +kernel
theorem dX1_cloneVolume_40 : decode cX1_cloneVolume 40 = .ok (.istore_n 3, 1) := by decide +kernel
theorem dX1_cloneVolume_41 : decode cX1_cloneVolume 41 = .ok (.iload_n 3, 1) := by decide +kernel
theorem dX1_cloneVolume_42 : decode cX1_cloneVolume 42 = .ok (.bipush 40, 2) := by decide +kernel
theorem dX1_cloneVolume_44 : decode cX1_cloneVolume 44 = .ok (.if_icmp .ge 50, 3) := by decide +kernel
theorem dX1_cloneVolume_47 : decode cX1_cloneVolume 47 = .ok (.aload_n 0, 1) := by decide +kernel
theorem dX1_cloneVolume_48 : decode cX1_cloneVolume 48 = .ok (.iload_n 1, 1) := by decide +kernel
theorem dX1_cloneVolume_49 : decode cX1_cloneVolume 49 = .ok (.iload_n 3, 1) := by decide +kernel
theorem dX1_cloneVolume_50 : decode cX1_cloneVolume 50 = .ok (.invokevirtual 80, 3) := by decide +kernel
theorem dX1_cloneVolume_53 : decode cX1_cloneVolume 53 = .ok (.istore 4, 2) := by decide +kernel
theorem dX1_cloneVolume_55 : decode cX1_cloneVolume 55 = .ok (.aload_n 0, 1) := by decide +kernel
theorem dX1_cloneVolume_56 : decode cX1_cloneVolume 56 = .ok (.iload 4, 2) := by decide +kernel
theorem dX1_cloneVolume_58 : decode cX1_cloneVolume 58 = .ok (.invokevirtual 77, 3) := by decide +kernel
theorem dX1_cloneVolume_61 : decode cX1_cloneVolume 61 = .ok (.ifCond .eq 27, 3) := by decide +kernel
theorem dX1_cloneVolume_64 : decode cX1_cloneVolume 64 = .ok (.aload_n 0, 1) := by decide +kernel
theorem dX1_cloneVolume_65 : decode cX1_cloneVolume 65 = .ok (.getfield 30, 3) := by decide +kernel
theorem dX1_cloneVolume_68 : decode cX1_cloneVolume 68 = .ok (.iload_n 2, 1) := by decide +kernel
theorem dX1_cloneVolume_69 : decode cX1_cloneVolume 69 = .ok (.bipush 40, 2) := by decide +kernel
theorem dX1_cloneVolume_71 : decode cX1_cloneVolume 71 = .ok (.imul, 1) := by decide +kernel
theorem dX1_cloneVolume_72 : decode cX1_cloneVolume 72 = .ok (.iload_n 3, 1) := by decide +kernel
theorem dX1_cloneVolume_73 : decode cX1_cloneVolume 73 = .ok (.iadd, 1) := by decide +kernel
theorem dX1_cloneVolume_74 : decode cX1_cloneVolume 74 = .ok (.iload 4, 2) := by decide +kernel
theorem dX1_cloneVolume_76 : decode cX1_cloneVolume 76 = .ok (.iastore, 1) := by decide +kernel
theorem dX1_cloneVolume_77 : decode cX1_cloneVolume 77 = .ok (.aload_n 0, 1) := by decide +kernel
theorem dX1_cloneVolume_78 : decode cX1_cloneVolume 78 = .ok (.getfield 36, 3) := by decide +kernel
theorem dX1_cloneVolume_81 : decode cX1_cloneVolume 81 = .ok (.iload 4, 2) := by decide +kernel
theorem dX1_cloneVolume_83 : decode cX1_cloneVolume 83 = .ok (.dup2, 1) := by decide +kernel
theorem dX1_cloneVolume_84 : decode cX1_cloneVolume 84 = .ok (.iaload, 1) := by decide +kernel
theorem dX1_cloneVolume_85 : decode cX1_cloneVolume 85 = .ok (.iconst 1, 1) := by decide +kernel
theorem dX1_cloneVolume_86 : decode cX1_cloneVolume 86 = .ok (.iadd, 1) := by decide +kernel
theorem dX1_cloneVolume_87 : decode cX1_cloneVolume 87 = .ok (.iastore, 1) := by decide +kernel
theorem dX1_cloneVolume_88 : decode cX1_cloneVolume 88 = .ok (.iinc 3 1, 3) := by decide +kernel
theorem dX1_cloneVolume_91 : decode cX1_cloneVolume 91 = .ok (.goto (-50), 3) := by decide +kernel
theorem dX1_cloneVolume_94 : decode cX1_cloneVolume 94 = .ok (.iload_n 2, 1) := by decide +kernel
theorem dX1_cloneVolume_95 : decode cX1_cloneVolume 95 = .ok (.ireturn, 1) := by decide +kernel
set_option maxRecDepth 20000 in
theorem ggX1_dropVolume_X1_lives : GoodIn wsX1_dropVolume wsX1_lives := goodIn_r _ [9, 4, 29, 30, 31, 32, 33, 34, 35, 36, 37, 38, 39, 40, 41, 42] rfl (by decide +kernel)
set_option maxRecDepth 20000 in
theorem gX1_dropVolume_X1_lives : GoodIn wsX1_dropVolume (wsV RX1 69 RX1 yX1_lives wsX1_lives) := goodIn_app (goodIn_of _ (by decide +kernel)) ggX1_dropVolume_X1_lives
set_option maxRecDepth 20000 in
theorem ggX1_dropVolume_X1_loosen : GoodIn wsX1_dropVolume wsX1_loosen := goodIn_r _ [13, 14, 15, 16, 17, 18, 19, 8, 20, 21, 22, 23, 24, 4, 5, 6, 7, 9, 25, 26, 27, 28, 29, 30, 31, 32, 33, 34, 35, 36, 37, 38, 39, 40, 41, 42] rfl (by decide +kernel)
set_option maxRecDepth 20000 in
theorem gX1_dropVolume_X1_loosen : GoodIn wsX1_dropVolume (wsV RX1 129 RX1 yX1_loosen wsX1_loosen) := goodIn_app (goodIn_of _ (by decide +kernel)) ggX1_dropVolume_X1_loosen
theorem dX1_dropVolume_0 : decode cX1_dropVolume 0 = .ok (.aload_n 0, 1) := by decide +kernel
theorem dX1_dropVolume_1 : decode cX1_dropVolume 1 = .ok (.iload_n 1, 1) := by decide +kernel
theorem dX1_dropVolume_2 : decode cX1_dropVolume 2 = .ok (.invokevirtual 69, 3) := by decide +kernel
theorem dX1_dropVolume_5 : decode cX1_dropVolume 5 = .ok (.ifCond .ne 6, 3) := by decide +kernel
theorem dX1_dropVolume_8 : decode cX1_dropVolume 8 = .ok (.ldc 124, 2) := by decide +kernel
theorem dX1_dropVolume_10 : decode cX1_dropVolume 10 = .ok (.ireturn, 1) := by decide +kernel
theorem dX1_dropVolume_11 : decode cX1_dropVolume 11 = .ok (.iconst 0, 1) := by decide +kernel
theorem dX1_dropVolume_12 : decode cX1_dropVolume 12 = .ok (.istore_n 2, 1) := by decide +kernel
theorem dX1_dropVolume_13 : decode cX1_dropVolume 13 = .ok (.iconst 0, 1) := by decide +kernel
theorem dX1_dropVolume_14 : decode cX1_dropVolume 14 = .ok (.istore_n 3, 1) := by decide +kernel
theorem dX1_dropVolume_15 : decode cX1_dropVolume 15 = .ok (.iload_n 3, 1) := by decide +kernel
theorem dX1_dropVolume_16 : decode cX1_dropVolume 16 = .ok (.bipush 40, 2) := by decide +kernel
theorem dX1_dropVolume_18 : decode cX1_dropVolume 18 = .ok (.if_icmp .ge 18, 3) := by decide +kernel
theorem dX1_dropVolume_21 : decode cX1_dropVolume 21 = .ok (.iload_n 2, 1) := by decide +kernel
theorem dX1_dropVolume_22 : decode cX1_dropVolume 22 = .ok (.aload_n 0, 1) := by decide +kernel
theorem dX1_dropVolume_23 : decode cX1_dropVolume 23 = .ok (.iload_n 1, 1) := by decide +kernel
theorem dX1_dropVolume_24 : decode cX1_dropVolume 24 = .ok (.iload_n 3, 1) := by decide +kernel
theorem dX1_dropVolume_25 : decode cX1_dropVolume 25 = .ok (.invokevirtual 129, 3) := by decide +kernel
theorem dX1_dropVolume_28 : decode cX1_dropVolume 28 = .ok (.iadd, 1) := by decide +kernel
theorem dX1_dropVolume_29 : decode cX1_dropVolume 29 = .ok (.istore_n 2, 1) := by decide +kernel
theorem dX1_dropVolume_30 : decode cX1_dropVolume 30 = .ok (.iinc 3 1, 3) := by decide +kernel
theorem dX1_dropVolume_33 : decode cX1_dropVolume 33 = .ok (.goto (-18), 3) := by decide +kernel
theorem dX1_dropVolume_36 : decode cX1_dropVolume 36 = .ok (.iconst 0, 1) := by decide +kernel
theorem dX1_dropVolume_37 : decode cX1_dropVolume 37 = .ok (.istore_n 3, 1) := by decide +kernel
theorem dX1_dropVolume_38 : decode cX1_dropVolume 38 = .ok (.iload_n 3, 1) := by decide +kernel
theorem dX1_dropVolume_39 : decode cX1_dropVolume 39 = .ok (.bipush 8, 2) := by decide +kernel
theorem dX1_dropVolume_41 : decode cX1_dropVolume 41 = .ok (.if_icmp .ge 31, 3) := by decide +kernel
theorem dX1_dropVolume_44 : decode cX1_dropVolume 44 = .ok (.aload_n 0, 1) := by decide +kernel
theorem dX1_dropVolume_45 : decode cX1_dropVolume 45 = .ok (.getfield 21, 3) := by decide +kernel
theorem dX1_dropVolume_48 : decode cX1_dropVolume 48 = .ok (.iload_n 3, 1) := by decide +kernel
theorem dX1_dropVolume_49 : decode cX1_dropVolume 49 = .ok (.iaload, 1) := by decide +kernel
theorem dX1_dropVolume_50 : decode cX1_dropVolume 50 = .ok (.iload_n 1, 1) := by decide +kernel
theorem dX1_dropVolume_51 : decode cX1_dropVolume 51 = .ok (.if_icmp .ne 15, 3) := by decide +kernel
theorem dX1_dropVolume_54 : decode cX1_dropVolume 54 = .ok (.aload_n 0, 1) := by decide +kernel
theorem dX1_dropVolume_55 : decode cX1_dropVolume 55 = .ok (.getfield 21, 3) := by decide +kernel
theorem dX1_dropVolume_58 : decode cX1_dropVolume 58 = .ok (.iload_n 3, 1) := by decide +kernel
theorem dX1_dropVolume_59 : decode cX1_dropVolume 59 = .ok (.aload_n 0, 1) := by decide +kernel
theorem dX1_dropVolume_60 : decode cX1_dropVolume 60 = .ok (.getfield 21, 3) := by decide +kernel
theorem dX1_dropVolume_63 : decode cX1_dropVolume 63 = .ok (.iload_n 1, 1) := by decide +kernel
theorem dX1_dropVolume_64 : decode cX1_dropVolume 64 = .ok (.iaload, 1) := by decide +kernel
theorem dX1_dropVolume_65 : decode cX1_dropVolume 65 = .ok (.iastore, 1) := by decide +kernel
theorem dX1_dropVolume_66 : decode cX1_dropVolume 66 = .ok (.iinc 3 1, 3) := by decide +kernel
theorem dX1_dropVolume_69 : decode cX1_dropVolume 69 = .ok (.goto (-31), 3) := by decide +kernel
theorem dX1_dropVolume_72 : decode cX1_dropVolume 72 = .ok (.aload_n 0, 1) := by decide +kernel
theorem dX1_dropVolume_73 : decode cX1_dropVolume 73 = .ok (.getfield 21, 3) := by decide +kernel
theorem dX1_dropVolume_76 : decode cX1_dropVolume 76 = .ok (.iload_n 1, 1) := by decide +kernel
theorem dX1_dropVolume_77 : decode cX1_dropVolume 77 = .ok (.iconst (-1), 1) := by decide +kernel
theorem dX1_dropVolume_78 : decode cX1_dropVolume 78 = .ok (.iastore, 1) := by decide +kernel
theorem dX1_dropVolume_79 : decode cX1_dropVolume 79 = .ok (.aload_n 0, 1) := by decide +kernel
theorem dX1_dropVolume_80 : decode cX1_dropVolume 80 = .ok (.getfield 18, 3) := by decide +kernel
theorem dX1_dropVolume_83 : decode cX1_dropVolume 83 = .ok (.iload_n 1, 1) := by decide +kernel
theorem dX1_dropVolume_84 : decode cX1_dropVolume 84 = .ok (.iconst 0, 1) := by decide +kernel
theorem dX1_dropVolume_85 : decode cX1_dropVolume 85 = .ok (.iastore, 1) := by decide +kernel
theorem dX1_dropVolume_86 : decode cX1_dropVolume 86 = .ok (.aload_n 0, 1) := by decide +kernel
theorem dX1_dropVolume_87 : decode cX1_dropVolume 87 = .ok (.getfield 9, 3) := by decide +kernel
theorem dX1_dropVolume_90 : decode cX1_dropVolume 90 = .ok (.iload_n 1, 1) := by decide +kernel
theorem dX1_dropVolume_91 : decode cX1_dropVolume 91 = .ok (.iconst 0, 1) := by decide +kernel
theorem dX1_dropVolume_92 : decode cX1_dropVolume 92 = .ok (.iastore, 1) := by decide +kernel
theorem dX1_dropVolume_93 : decode cX1_dropVolume 93 = .ok (.iload_n 2, 1) := by decide +kernel
theorem dX1_dropVolume_94 : decode cX1_dropVolume 94 = .ok (.ireturn, 1) := by decide +kernel
set_option maxRecDepth 20000 in
theorem ggX1_changePromise_X1_lives : GoodIn wsX1_changePromise wsX1_lives := goodIn_r _ [8, 9, 54, 55, 56, 57, 58, 59, 60, 61, 62, 63, 64, 65, 66, 67] rfl (by decide +kernel)
set_option maxRecDepth 20000 in
theorem gX1_changePromise_X1_lives : GoodIn wsX1_changePromise (wsV RX1 69 RX1 yX1_lives wsX1_lives) := goodIn_app (goodIn_of _ (by decide +kernel)) ggX1_changePromise_X1_lives
set_option maxRecDepth 20000 in
theorem ggX1_changePromise_X1_allPromises : GoodIn wsX1_changePromise wsX1_allPromises := goodIn_r _ [13, 2, 54, 55, 56, 57, 58, 59, 60, 61, 62, 63, 64, 65, 66, 67] rfl (by decide +kernel)
set_option maxRecDepth 20000 in
theorem gX1_changePromise_X1_allPromises : GoodIn wsX1_changePromise (wsV RX1 100 RX1 yX1_allPromises wsX1_allPromises) := goodIn_app (goodIn_of _ (by decide +kernel)) ggX1_changePromise_X1_allPromises
set_option maxRecDepth 20000 in
theorem ggX1_changePromise_X1_freePieces : GoodIn wsX1_changePromise wsX1_freePieces := goodIn_r _ [17, 18, 54, 55, 56, 57, 58, 59, 60, 61, 62, 63, 64, 65, 66, 67] rfl (by decide +kernel)
set_option maxRecDepth 20000 in
theorem gX1_changePromise_X1_freePieces : GoodIn wsX1_changePromise (wsV RX1 96 RX1 yX1_freePieces wsX1_freePieces) := goodIn_app (goodIn_of _ (by decide +kernel)) ggX1_changePromise_X1_freePieces
set_option maxRecDepth 20000 in
theorem ggX1_changePromise_X1_level : GoodIn wsX1_changePromise wsX1_level := goodIn_r _ [22, 23, 24, 25, 7, 26, 14, 15, 16, 17, 18, 10, 11, 12, 13, 2, 27, 28, 29, 30, 31, 54, 55, 56, 57, 58, 59, 60, 61, 62, 63, 64, 65, 66, 67] rfl (by decide +kernel)
set_option maxRecDepth 20000 in
theorem gX1_changePromise_X1_level : GoodIn wsX1_changePromise (wsV RX1 133 RX1 yX1_level wsX1_level) := goodIn_app (goodIn_of _ (by decide +kernel)) ggX1_changePromise_X1_level
set_option maxRecDepth 20000 in
theorem ggX1_changePromise_X1_warnIfLevelRose : GoodIn wsX1_changePromise wsX1_warnIfLevelRose := goodIn_r _ [35, 36, 23, 24, 25, 7, 26, 14, 15, 16, 17, 18, 10, 11, 12, 13, 2, 27, 28, 29, 30, 31, 37, 38, 39, 40, 41, 42, 43, 44, 45, 46, 47, 48, 49, 50, 51, 52, 53, 54, 55, 56, 57, 58, 59, 60, 61, 62, 63, 64, 65, 66, 67, 68, 69, 70, 71] rfl (by decide +kernel)
set_option maxRecDepth 20000 in
theorem gX1_changePromise_X1_warnIfLevelRose : GoodIn wsX1_changePromise (wsV RX1 136 RX1 yX1_warnIfLevelRose wsX1_warnIfLevelRose) := goodIn_app (goodIn_of _ (by decide +kernel)) ggX1_changePromise_X1_warnIfLevelRose
theorem dX1_changePromise_0 : decode cX1_changePromise 0 = .ok (.aload_n 0, 1) := by decide +kernel
theorem dX1_changePromise_1 : decode cX1_changePromise 1 = .ok (.iload_n 1, 1) := by decide +kernel
theorem dX1_changePromise_2 : decode cX1_changePromise 2 = .ok (.invokevirtual 69, 3) := by decide +kernel
theorem dX1_changePromise_5 : decode cX1_changePromise 5 = .ok (.ifCond .eq 13, 3) := by decide +kernel
theorem dX1_changePromise_8 : decode cX1_changePromise 8 = .ok (.iload_n 2, 1) := by decide +kernel
theorem dX1_changePromise_9 : decode cX1_changePromise 9 = .ok (.ifCond .lt 9, 3) := by decide +kernel
theorem dX1_changePromise_12 : decode cX1_changePromise 12 = .ok (.iload_n 2, 1) := by decide +kernel
theorem dX1_changePromise_13 : decode cX1_changePromise 13 = .ok (.bipush 30, 2) := by decide +kernel
theorem dX1_changePromise_15 : decode cX1_changePromise 15 = .ok (.if_icmp .le 6, 3) := by decide +kernel
theorem dX1_changePromise_18 : decode cX1_changePromise 18 = .ok (.ldc 124, 2) := by decide +kernel
theorem dX1_changePromise_20 : decode cX1_changePromise 20 = .ok (.ireturn, 1) := by decide +kernel
theorem dX1_changePromise_21 : decode cX1_changePromise 21 = .ok (.aload_n 0, 1) := by decide +kernel
theorem dX1_changePromise_22 : decode cX1_changePromise 22 = .ok (.getfield 18, 3) := by decide +kernel
theorem dX1_changePromise_25 : decode cX1_changePromise 25 = .ok (.iload_n 1, 1) := by decide +kernel
theorem dX1_changePromise_26 : decode cX1_changePromise 26 = .ok (.iaload, 1) := by decide +kernel
theorem dX1_changePromise_27 : decode cX1_changePromise 27 = .ok (.istore_n 3, 1) := by decide +kernel
theorem dX1_changePromise_28 : decode cX1_changePromise 28 = .ok (.aload_n 0, 1) := by decide +kernel
theorem dX1_changePromise_29 : decode cX1_changePromise 29 = .ok (.invokevirtual 100, 3) := by decide +kernel
theorem dX1_changePromise_32 : decode cX1_changePromise 32 = .ok (.iload_n 3, 1) := by decide +kernel
theorem dX1_changePromise_33 : decode cX1_changePromise 33 = .ok (.isub, 1) := by decide +kernel
theorem dX1_changePromise_34 : decode cX1_changePromise 34 = .ok (.iload_n 2, 1) := by decide +kernel
theorem dX1_changePromise_35 : decode cX1_changePromise 35 = .ok (.iadd, 1) := by decide +kernel
theorem dX1_changePromise_36 : decode cX1_changePromise 36 = .ok (.aload_n 0, 1) := by decide +kernel
theorem dX1_changePromise_37 : decode cX1_changePromise 37 = .ok (.invokevirtual 96, 3) := by decide +kernel
theorem dX1_changePromise_40 : decode cX1_changePromise 40 = .ok (.if_icmp .le 6, 3) := by decide +kernel
theorem dX1_changePromise_43 : decode cX1_changePromise 43 = .ok (.ldc 132, 2) := by decide +kernel
theorem dX1_changePromise_45 : decode cX1_changePromise 45 = .ok (.ireturn, 1) := by decide +kernel
theorem dX1_changePromise_46 : decode cX1_changePromise 46 = .ok (.aload_n 0, 1) := by decide +kernel
theorem dX1_changePromise_47 : decode cX1_changePromise 47 = .ok (.invokevirtual 133, 3) := by decide +kernel
theorem dX1_changePromise_50 : decode cX1_changePromise 50 = .ok (.istore 4, 2) := by decide +kernel
theorem dX1_changePromise_52 : decode cX1_changePromise 52 = .ok (.aload_n 0, 1) := by decide +kernel
theorem dX1_changePromise_53 : decode cX1_changePromise 53 = .ok (.getfield 18, 3) := by decide +kernel
theorem dX1_changePromise_56 : decode cX1_changePromise 56 = .ok (.iload_n 1, 1) := by decide +kernel
theorem dX1_changePromise_57 : decode cX1_changePromise 57 = .ok (.iload_n 2, 1) := by decide +kernel
theorem dX1_changePromise_58 : decode cX1_changePromise 58 = .ok (.iastore, 1) := by decide +kernel
theorem dX1_changePromise_59 : decode cX1_changePromise 59 = .ok (.aload_n 0, 1) := by decide +kernel
theorem dX1_changePromise_60 : decode cX1_changePromise 60 = .ok (.iload 4, 2) := by decide +kernel
theorem dX1_changePromise_62 : decode cX1_changePromise 62 = .ok (.invokevirtual 136, 3) := by decide +kernel
theorem dX1_changePromise_65 : decode cX1_changePromise 65 = .ok (.iload_n 3, 1) := by decide +kernel
theorem dX1_changePromise_66 : decode cX1_changePromise 66 = .ok (.ireturn, 1) := by decide +kernel
set_option maxRecDepth 20000 in
theorem ggX1_changeSetting_X1_highestSetting : GoodIn wsX1_changeSetting wsX1_highestSetting := goodIn_r _ [7] rfl (by decide +kernel)
set_option maxRecDepth 20000 in
theorem gX1_changeSetting_X1_highestSetting : GoodIn wsX1_changeSetting (wsV RX1 140 RX1 yX1_highestSetting wsX1_highestSetting) := goodIn_app (goodIn_of _ (by decide +kernel)) ggX1_changeSetting_X1_highestSetting
set_option maxRecDepth 20000 in
theorem ggX1_changeSetting_X1_level : GoodIn wsX1_changeSetting wsX1_level := goodIn_r _ [11, 12, 13, 14, 6, 15, 16, 17, 18, 19, 20, 21, 22, 23, 24, 25, 26, 27, 28, 29, 2, 52, 53, 54, 55, 56, 57, 58, 59, 60, 61, 62, 63, 64, 65] rfl (by decide +kernel)
set_option maxRecDepth 20000 in
theorem gX1_changeSetting_X1_level : GoodIn wsX1_changeSetting (wsV RX1 133 RX1 yX1_level wsX1_level) := goodIn_app (goodIn_of _ (by decide +kernel)) ggX1_changeSetting_X1_level
set_option maxRecDepth 20000 in
theorem ggX1_changeSetting_X1_warnIfLevelRose : GoodIn wsX1_changeSetting wsX1_warnIfLevelRose := goodIn_r _ [33, 34, 12, 13, 14, 6, 15, 16, 17, 18, 19, 20, 21, 22, 23, 24, 25, 26, 27, 28, 29, 2, 35, 36, 37, 38, 39, 40, 41, 42, 43, 44, 45, 46, 47, 48, 49, 50, 51, 52, 53, 54, 55, 56, 57, 58, 59, 60, 61, 62, 63, 64, 65, 66, 67, 68, 69] rfl (by decide +kernel)
set_option maxRecDepth 20000 in
theorem gX1_changeSetting_X1_warnIfLevelRose : GoodIn wsX1_changeSetting (wsV RX1 136 RX1 yX1_warnIfLevelRose wsX1_warnIfLevelRose) := goodIn_app (goodIn_of _ (by decide +kernel)) ggX1_changeSetting_X1_warnIfLevelRose
theorem dX1_changeSetting_0 : decode cX1_changeSetting 0 = .ok (.iload_n 1, 1) := by decide +kernel
theorem dX1_changeSetting_1 : decode cX1_changeSetting 1 = .ok (.ifCond .lt 21, 3) := by decide +kernel
theorem dX1_changeSetting_4 : decode cX1_changeSetting 4 = .ok (.iload_n 1, 1) := by decide +kernel
theorem dX1_changeSetting_5 : decode cX1_changeSetting 5 = .ok (.iconst 3, 1) := by decide +kernel
theorem dX1_changeSetting_6 : decode cX1_changeSetting 6 = .ok (.if_icmp .ge 16, 3) := by decide +kernel
theorem dX1_changeSetting_9 : decode cX1_changeSetting 9 = .ok (.iload_n 2, 1) := by decide +kernel
theorem dX1_changeSetting_10 : decode cX1_changeSetting 10 = .ok (.ifCond .lt 12, 3) := by decide +kernel
theorem dX1_changeSetting_13 : decode cX1_changeSetting 13 = .ok (.iload_n 2, 1) := by decide +kernel
theorem dX1_changeSetting_14 : decode cX1_changeSetting 14 = .ok (.aload_n 0, 1) := by decide +kernel
theorem dX1_changeSetting_15 : decode cX1_changeSetting 15 = .ok (.iload_n 1, 1) := by decide +kernel
theorem dX1_changeSetting_16 : decode cX1_changeSetting 16 = .ok (.invokevirtual 140, 3) := by decide +kernel
theorem dX1_changeSetting_19 : decode cX1_changeSetting 19 = .ok (.if_icmp .le 6, 3) := by decide +kernel
theorem dX1_changeSetting_22 : decode cX1_changeSetting 22 = .ok (.ldc 124, 2) := by decide +kernel
theorem dX1_changeSetting_24 : decode cX1_changeSetting 24 = .ok (.ireturn, 1) := by decide +kernel
theorem dX1_changeSetting_25 : decode cX1_changeSetting 25 = .ok (.aload_n 0, 1) := by decide +kernel
theorem dX1_changeSetting_26 : decode cX1_changeSetting 26 = .ok (.getfield 39, 3) := by decide +kernel
theorem dX1_changeSetting_29 : decode cX1_changeSetting 29 = .ok (.iload_n 1, 1) := by decide +kernel
theorem dX1_changeSetting_30 : decode cX1_changeSetting 30 = .ok (.iaload, 1) := by decide +kernel
theorem dX1_changeSetting_31 : decode cX1_changeSetting 31 = .ok (.istore_n 3, 1) := by decide +kernel
theorem dX1_changeSetting_32 : decode cX1_changeSetting 32 = .ok (.aload_n 0, 1) := by decide +kernel
theorem dX1_changeSetting_33 : decode cX1_changeSetting 33 = .ok (.invokevirtual 133, 3) := by decide +kernel
theorem dX1_changeSetting_36 : decode cX1_changeSetting 36 = .ok (.istore 4, 2) := by decide +kernel
theorem dX1_changeSetting_38 : decode cX1_changeSetting 38 = .ok (.aload_n 0, 1) := by decide +kernel
theorem dX1_changeSetting_39 : decode cX1_changeSetting 39 = .ok (.getfield 39, 3) := by decide +kernel
theorem dX1_changeSetting_42 : decode cX1_changeSetting 42 = .ok (.iload_n 1, 1) := by decide +kernel
theorem dX1_changeSetting_43 : decode cX1_changeSetting 43 = .ok (.iload_n 2, 1) := by decide +kernel
theorem dX1_changeSetting_44 : decode cX1_changeSetting 44 = .ok (.iastore, 1) := by decide +kernel
theorem dX1_changeSetting_45 : decode cX1_changeSetting 45 = .ok (.aload_n 0, 1) := by decide +kernel
theorem dX1_changeSetting_46 : decode cX1_changeSetting 46 = .ok (.iload 4, 2) := by decide +kernel
theorem dX1_changeSetting_48 : decode cX1_changeSetting 48 = .ok (.invokevirtual 136, 3) := by decide +kernel
theorem dX1_changeSetting_51 : decode cX1_changeSetting 51 = .ok (.iload_n 3, 1) := by decide +kernel
theorem dX1_changeSetting_52 : decode cX1_changeSetting 52 = .ok (.ireturn, 1) := by decide +kernel
theorem dX1_highestSetting_0 : decode cX1_highestSetting 0 = .ok (.iload_n 1, 1) := by decide +kernel
theorem dX1_highestSetting_1 : decode cX1_highestSetting 1 = .ok (.iconst 2, 1) := by decide +kernel
theorem dX1_highestSetting_2 : decode cX1_highestSetting 2 = .ok (.if_icmp .ne 8, 3) := by decide +kernel
theorem dX1_highestSetting_5 : decode cX1_highestSetting 5 = .ok (.bipush 100, 2) := by decide +kernel
theorem dX1_highestSetting_7 : decode cX1_highestSetting 7 = .ok (.goto 5, 3) := by decide +kernel
theorem dX1_highestSetting_10 : decode cX1_highestSetting 10 = .ok (.bipush 30, 2) := by decide +kernel
theorem dX1_highestSetting_12 : decode cX1_highestSetting 12 = .ok (.ireturn, 1) := by decide +kernel
set_option maxRecDepth 20000 in
theorem ggX1_writePlace_X1_hasPlace : GoodIn wsX1_writePlace wsX1_hasPlace := goodIn_r _ [12, 13, 14, 15, 16, 11, 17, 105, 106, 107, 108, 109, 110, 111, 112, 113, 114, 115, 116, 117, 118] rfl (by decide +kernel)
set_option maxRecDepth 20000 in
theorem gX1_writePlace_X1_hasPlace : GoodIn wsX1_writePlace (wsV RX1 73 RX1 yX1_hasPlace wsX1_hasPlace) := goodIn_app (goodIn_of _ (by decide +kernel)) ggX1_writePlace_X1_hasPlace
set_option maxRecDepth 20000 in
theorem ggX1_writePlace_X1_pieceAt : GoodIn wsX1_writePlace wsX1_pieceAt := goodIn_r _ [21, 7, 8, 9, 10, 11, 12, 13, 14, 15, 16, 17, 105, 106, 107, 108, 109, 110, 111, 112, 113, 114, 115, 116, 117, 118] rfl (by decide +kernel)
set_option maxRecDepth 20000 in
theorem gX1_writePlace_X1_pieceAt : GoodIn wsX1_writePlace (wsV RX1 80 RX1 yX1_pieceAt wsX1_pieceAt) := goodIn_app (goodIn_of _ (by decide +kernel)) ggX1_writePlace_X1_pieceAt
set_option maxRecDepth 20000 in
theorem ggX1_writePlace_X1_isPiece : GoodIn wsX1_writePlace wsX1_isPiece := goodIn_r _ [25] rfl (by decide +kernel)
set_option maxRecDepth 20000 in
theorem gX1_writePlace_X1_isPiece : GoodIn wsX1_writePlace (wsV RX1 77 RX1 yX1_isPiece wsX1_isPiece) := goodIn_app (goodIn_of _ (by decide +kernel)) ggX1_writePlace_X1_isPiece
set_option maxRecDepth 20000 in
theorem ggX1_writePlace_X1_lowestFreePiece : GoodIn wsX1_writePlace wsX1_lowestFreePiece := goodIn_r _ [29, 2, 105, 106, 107, 108, 109, 110, 111, 112, 113, 114, 115, 116, 117, 118] rfl (by decide +kernel)
set_option maxRecDepth 20000 in
theorem gX1_writePlace_X1_lowestFreePiece : GoodIn wsX1_writePlace (wsV RX1 143 RX1 yX1_lowestFreePiece wsX1_lowestFreePiece) := goodIn_app (goodIn_of _ (by decide +kernel)) ggX1_writePlace_X1_lowestFreePiece
set_option maxRecDepth 20000 in
theorem ggX1_writePlace_X1_available : GoodIn wsX1_writePlace wsX1_available := goodIn_r _ [33, 34, 35, 36, 11, 37, 2, 38, 39, 40, 41, 4, 105, 106, 107, 108, 109, 110, 111, 112, 113, 114, 115, 116, 117, 118] rfl (by decide +kernel)
set_option maxRecDepth 20000 in
theorem gX1_writePlace_X1_available : GoodIn wsX1_writePlace (wsV RX1 103 RX1 yX1_available wsX1_available) := goodIn_app (goodIn_of _ (by decide +kernel)) ggX1_writePlace_X1_available
set_option maxRecDepth 20000 in
theorem ggX1_writePlace_X1_wouldGetUnpromised : GoodIn wsX1_writePlace wsX1_wouldGetUnpromised := goodIn_r _ [45, 46, 47, 48, 49, 11, 50, 51, 52, 53, 54, 5, 14, 15, 16, 17, 13, 105, 106, 107, 108, 109, 110, 111, 112, 113, 114, 115, 116, 117, 118] rfl (by decide +kernel)
set_option maxRecDepth 20000 in
theorem gX1_writePlace_X1_wouldGetUnpromised : GoodIn wsX1_writePlace (wsV RX1 113 RX1 yX1_wouldGetUnpromised wsX1_wouldGetUnpromised) := goodIn_app (goodIn_of _ (by decide +kernel)) ggX1_writePlace_X1_wouldGetUnpromised
set_option maxRecDepth 20000 in
theorem ggX1_writePlace_X1_refuse : GoodIn wsX1_writePlace wsX1_refuse := goodIn_r _ [58, 5, 59, 60, 61, 62, 63, 64, 65, 30, 31, 32, 11, 33, 34, 35, 36, 37, 2, 38, 39, 40, 41, 4, 66, 67, 68, 69, 70, 71, 72, 73, 74, 75, 76, 77, 78, 79, 80, 81, 105, 106, 107, 108, 109, 110, 111, 112, 113, 114, 115, 116, 117, 118, 119, 120, 121, 122] rfl (by decide +kernel)
set_option maxRecDepth 20000 in
theorem gX1_writePlace_X1_refuse : GoodIn wsX1_writePlace (wsV RX1 146 RX1 yX1_refuse wsX1_refuse) := goodIn_app (goodIn_of _ (by decide +kernel)) ggX1_writePlace_X1_refuse
set_option maxRecDepth 20000 in
theorem ggX1_writePlace_X1_level : GoodIn wsX1_writePlace wsX1_level := goodIn_r _ [85, 30, 31, 32, 11, 33, 34, 35, 36, 37, 2, 38, 39, 40, 41, 4, 47, 48, 49, 50, 46, 105, 106, 107, 108, 109, 110, 111, 112, 113, 114, 115, 116, 117, 118] rfl (by decide +kernel)
set_option maxRecDepth 20000 in
theorem gX1_writePlace_X1_level : GoodIn wsX1_writePlace (wsV RX1 133 RX1 yX1_level wsX1_level) := goodIn_app (goodIn_of _ (by decide +kernel)) ggX1_writePlace_X1_level
set_option maxRecDepth 20000 in
theorem ggX1_writePlace_X1_loosen : GoodIn wsX1_writePlace wsX1_loosen := goodIn_r _ [89, 7, 2, 90, 18, 19, 20, 11, 21, 8, 9, 10, 12, 13, 14, 15, 16, 17, 22, 23, 24, 25, 105, 106, 107, 108, 109, 110, 111, 112, 113, 114, 115, 116, 117, 118] rfl (by decide +kernel)
set_option maxRecDepth 20000 in
theorem gX1_writePlace_X1_loosen : GoodIn wsX1_writePlace (wsV RX1 129 RX1 yX1_loosen wsX1_loosen) := goodIn_app (goodIn_of _ (by decide +kernel)) ggX1_writePlace_X1_loosen
set_option maxRecDepth 20000 in
theorem ggX1_writePlace_X1_bookPiece : GoodIn wsX1_writePlace wsX1_bookPiece := goodIn_r _ [94, 95, 96, 5, 4, 65, 97, 98, 99, 11, 100, 59, 60, 61, 62, 101, 102, 103, 104, 30, 31, 32, 33, 34, 35, 36, 37, 2, 38, 39, 40, 41, 47, 48, 49, 50, 46, 66, 67, 68, 69, 70, 71, 72, 73, 74, 75, 76, 77, 78, 79, 80, 81, 105, 106, 107, 108, 109, 110, 111, 112, 113, 114, 115, 116, 117, 118, 119, 120, 121, 122] rfl (by decide +kernel)
set_option maxRecDepth 20000 in
theorem gX1_writePlace_X1_bookPiece : GoodIn wsX1_writePlace (wsV RX1 150 RX1 yX1_bookPiece wsX1_bookPiece) := goodIn_app (goodIn_of _ (by decide +kernel)) ggX1_writePlace_X1_bookPiece
theorem dX1_writePlace_0 : decode cX1_writePlace 0 = .ok (.aload_n 0, 1) := by decide +kernel
theorem dX1_writePlace_1 : decode cX1_writePlace 1 = .ok (.iload_n 1, 1) := by decide +kernel
theorem dX1_writePlace_2 : decode cX1_writePlace 2 = .ok (.iload_n 2, 1) := by decide +kernel
theorem dX1_writePlace_3 : decode cX1_writePlace 3 = .ok (.invokevirtual 73, 3) := by decide +kernel
theorem dX1_writePlace_6 : decode cX1_writePlace 6 = .ok (.ifCond .eq 13, 3) := by decide +kernel
theorem dX1_writePlace_9 : decode cX1_writePlace 9 = .ok (.iload_n 3, 1) := by decide +kernel
theorem dX1_writePlace_10 : decode cX1_writePlace 10 = .ok (.ifCond .lt 9, 3) := by decide +kernel
theorem dX1_writePlace_13 : decode cX1_writePlace 13 = .ok (.iload_n 3, 1) := by decide +kernel
theorem dX1_writePlace_14 : decode cX1_writePlace 14 = .ok (.bipush 99, 2) := by decide +kernel
theorem dX1_writePlace_16 : decode cX1_writePlace 16 = .ok (.if_icmp .le 6, 3) := by decide +kernel
theorem dX1_writePlace_19 : decode cX1_writePlace 19 = .ok (.ldc 124, 2) := by decide +kernel
theorem dX1_writePlace_21 : decode cX1_writePlace 21 = .ok (.ireturn, 1) := by decide +kernel
theorem dX1_writePlace_22 : decode cX1_writePlace 22 = .ok (.aload_n 0, 1) := by decide +kernel
theorem dX1_writePlace_23 : decode cX1_writePlace 23 = .ok (.iload_n 1, 1) := by decide +kernel
theorem dX1_writePlace_24 : decode cX1_writePlace 24 = .ok (.iload_n 2, 1) := by decide +kernel
theorem dX1_writePlace_25 : decode cX1_writePlace 25 = .ok (.invokevirtual 80, 3) := by decide +kernel
theorem dX1_writePlace_28 : decode cX1_writePlace 28 = .ok (.istore 4, 2) := by decide +kernel
theorem dX1_writePlace_30 : decode cX1_writePlace 30 = .ok (.aload_n 0, 1) := by decide +kernel
theorem dX1_writePlace_31 : decode cX1_writePlace 31 = .ok (.iload 4, 2) := by decide +kernel
theorem dX1_writePlace_33 : decode cX1_writePlace 33 = .ok (.invokevirtual 77, 3) := by decide +kernel
theorem dX1_writePlace_36 : decode cX1_writePlace 36 = .ok (.ifCond .eq 25, 3) := by decide +kernel
theorem dX1_writePlace_39 : decode cX1_writePlace 39 = .ok (.aload_n 0, 1) := by decide +kernel
theorem dX1_writePlace_40 : decode cX1_writePlace 40 = .ok (.getfield 36, 3) := by decide +kernel
theorem dX1_writePlace_43 : decode cX1_writePlace 43 = .ok (.iload 4, 2) := by decide +kernel
theorem dX1_writePlace_45 : decode cX1_writePlace 45 = .ok (.iaload, 1) := by decide +kernel
theorem dX1_writePlace_46 : decode cX1_writePlace 46 = .ok (.iconst 1, 1) := by decide +kernel
theorem dX1_writePlace_47 : decode cX1_writePlace 47 = .ok (.if_icmp .ne 14, 3) := by decide +kernel
theorem dX1_writePlace_50 : decode cX1_writePlace 50 = .ok (.aload_n 0, 1) := by decide +kernel
theorem dX1_writePlace_51 : decode cX1_writePlace 51 = .ok (.getfield 33, 3) := by decide +kernel
theorem dX1_writePlace_54 : decode cX1_writePlace 54 = .ok (.iload 4, 2) := by decide +kernel
theorem dX1_writePlace_56 : decode cX1_writePlace 56 = .ok (.iload_n 3, 1) := by decide +kernel
theorem dX1_writePlace_57 : decode cX1_writePlace 57 = .ok (.iastore, 1) := by decide +kernel
theorem dX1_writePlace_58 : decode cX1_writePlace 58 = .ok (.iload 4, 2) := by decide +kernel
theorem dX1_writePlace_60 : decode cX1_writePlace 60 = .ok (.ireturn, 1) := by decide +kernel
theorem dX1_writePlace_61 : decode cX1_writePlace 61 = .ok (.aload_n 0, 1) := by decide +kernel
theorem dX1_writePlace_62 : decode cX1_writePlace 62 = .ok (.invokevirtual 143, 3) := by decide +kernel
theorem dX1_writePlace_65 : decode cX1_writePlace 65 = .ok (.istore 5, 2) := by decide +kernel
theorem dX1_writePlace_67 : decode cX1_writePlace 67 = .ok (.aload_n 0, 1) := by decide +kernel
theorem dX1_writePlace_68 : decode cX1_writePlace 68 = .ok (.getfield 18, 3) := by decide +kernel
theorem dX1_writePlace_71 : decode cX1_writePlace 71 = .ok (.iload_n 1, 1) := by decide +kernel
theorem dX1_writePlace_72 : decode cX1_writePlace 72 = .ok (.iaload, 1) := by decide +kernel
theorem dX1_writePlace_73 : decode cX1_writePlace 73 = .ok (.ifCond .le 7, 3) := by decide +kernel
theorem dX1_writePlace_76 : decode cX1_writePlace 76 = .ok (.iconst 1, 1) := by decide +kernel
theorem dX1_writePlace_77 : decode cX1_writePlace 77 = .ok (.goto 4, 3) := by decide +kernel
theorem dX1_writePlace_80 : decode cX1_writePlace 80 = .ok (.iconst 0, 1) := by decide +kernel
theorem dX1_writePlace_81 : decode cX1_writePlace 81 = .ok (.istore 6, 2) := by decide +kernel
theorem dX1_writePlace_83 : decode cX1_writePlace 83 = .ok (.aload_n 0, 1) := by decide +kernel
theorem dX1_writePlace_84 : decode cX1_writePlace 84 = .ok (.iload 5, 2) := by decide +kernel
theorem dX1_writePlace_86 : decode cX1_writePlace 86 = .ok (.invokevirtual 77, 3) := by decide +kernel
theorem dX1_writePlace_89 : decode cX1_writePlace 89 = .ok (.ifCond .eq 26, 3) := by decide +kernel
theorem dX1_writePlace_92 : decode cX1_writePlace 92 = .ok (.iload 6, 2) := by decide +kernel
theorem dX1_writePlace_94 : decode cX1_writePlace 94 = .ok (.ifCond .ne 29, 3) := by decide +kernel
theorem dX1_writePlace_97 : decode cX1_writePlace 97 = .ok (.aload_n 0, 1) := by decide +kernel
theorem dX1_writePlace_98 : decode cX1_writePlace 98 = .ok (.iload_n 1, 1) := by decide +kernel
theorem dX1_writePlace_99 : decode cX1_writePlace 99 = .ok (.aload_n 0, 1) := by decide +kernel
theorem dX1_writePlace_100 : decode cX1_writePlace 100 = .ok (.getfield 15, 3) := by decide +kernel
theorem dX1_writePlace_103 : decode cX1_writePlace 103 = .ok (.iload_n 1, 1) := by decide +kernel
theorem dX1_writePlace_104 : decode cX1_writePlace 104 = .ok (.iaload, 1) := by decide +kernel
theorem dX1_writePlace_105 : decode cX1_writePlace 105 = .ok (.aload_n 0, 1) := by decide +kernel
theorem dX1_writePlace_106 : decode cX1_writePlace 106 = .ok (.invokevirtual 103, 3) := by decide +kernel
theorem dX1_writePlace_109 : decode cX1_writePlace 109 = .ok (.invokevirtual 113, 3) := by decide +kernel
theorem dX1_writePlace_112 : decode cX1_writePlace 112 = .ok (.ifCond .ne 11, 3) := by decide +kernel
theorem dX1_writePlace_115 : decode cX1_writePlace 115 = .ok (.aload_n 0, 1) := by decide +kernel
theorem dX1_writePlace_116 : decode cX1_writePlace 116 = .ok (.iload_n 1, 1) := by decide +kernel
theorem dX1_writePlace_117 : decode cX1_writePlace 117 = .ok (.invokevirtual 146, 3) := by decide +kernel
theorem dX1_writePlace_120 : decode cX1_writePlace 120 = .ok (.ldc 149, 2) := by decide +kernel
theorem dX1_writePlace_122 : decode cX1_writePlace 122 = .ok (.ireturn, 1) := by decide +kernel
theorem dX1_writePlace_123 : decode cX1_writePlace 123 = .ok (.aload_n 0, 1) := by decide +kernel
theorem dX1_writePlace_124 : decode cX1_writePlace 124 = .ok (.invokevirtual 133, 3) := by decide +kernel
theorem dX1_writePlace_127 : decode cX1_writePlace 127 = .ok (.istore 7, 2) := by decide +kernel
theorem dX1_writePlace_129 : decode cX1_writePlace 129 = .ok (.aload_n 0, 1) := by decide +kernel
theorem dX1_writePlace_130 : decode cX1_writePlace 130 = .ok (.iload_n 1, 1) := by decide +kernel
theorem dX1_writePlace_131 : decode cX1_writePlace 131 = .ok (.iload_n 2, 1) := by decide +kernel
theorem dX1_writePlace_132 : decode cX1_writePlace 132 = .ok (.invokevirtual 129, 3) := by decide +kernel
theorem dX1_writePlace_135 : decode cX1_writePlace 135 = .ok (.pop, 1) := by decide +kernel
theorem dX1_writePlace_136 : decode cX1_writePlace 136 = .ok (.aload_n 0, 1) := by decide +kernel
theorem dX1_writePlace_137 : decode cX1_writePlace 137 = .ok (.getfield 30, 3) := by decide +kernel
theorem dX1_writePlace_140 : decode cX1_writePlace 140 = .ok (.iload_n 1, 1) := by decide +kernel
theorem dX1_writePlace_141 : decode cX1_writePlace 141 = .ok (.bipush 40, 2) := by decide +kernel
theorem dX1_writePlace_143 : decode cX1_writePlace 143 = .ok (.imul, 1) := by decide +kernel
theorem dX1_writePlace_144 : decode cX1_writePlace 144 = .ok (.iload_n 2, 1) := by decide +kernel
theorem dX1_writePlace_145 : decode cX1_writePlace 145 = .ok (.iadd, 1) := by decide +kernel
theorem dX1_writePlace_146 : decode cX1_writePlace 146 = .ok (.iload 5, 2) := by decide +kernel
theorem dX1_writePlace_148 : decode cX1_writePlace 148 = .ok (.iastore, 1) := by decide +kernel
theorem dX1_writePlace_149 : decode cX1_writePlace 149 = .ok (.aload_n 0, 1) := by decide +kernel
theorem dX1_writePlace_150 : decode cX1_writePlace 150 = .ok (.getfield 36, 3) := by decide +kernel
theorem dX1_writePlace_153 : decode cX1_writePlace 153 = .ok (.iload 5, 2) := by decide +kernel
theorem dX1_writePlace_155 : decode cX1_writePlace 155 = .ok (.iconst 1, 1) := by decide +kernel
theorem dX1_writePlace_156 : decode cX1_writePlace 156 = .ok (.iastore, 1) := by decide +kernel
theorem dX1_writePlace_157 : decode cX1_writePlace 157 = .ok (.aload_n 0, 1) := by decide +kernel
theorem dX1_writePlace_158 : decode cX1_writePlace 158 = .ok (.getfield 33, 3) := by decide +kernel
theorem dX1_writePlace_161 : decode cX1_writePlace 161 = .ok (.iload 5, 2) := by decide +kernel
theorem dX1_writePlace_163 : decode cX1_writePlace 163 = .ok (.iload_n 3, 1) := by decide +kernel
theorem dX1_writePlace_164 : decode cX1_writePlace 164 = .ok (.iastore, 1) := by decide +kernel
theorem dX1_writePlace_165 : decode cX1_writePlace 165 = .ok (.aload_n 0, 1) := by decide +kernel
theorem dX1_writePlace_166 : decode cX1_writePlace 166 = .ok (.iload_n 1, 1) := by decide +kernel
theorem dX1_writePlace_167 : decode cX1_writePlace 167 = .ok (.iload 6, 2) := by decide +kernel
theorem dX1_writePlace_169 : decode cX1_writePlace 169 = .ok (.iload 7, 2) := by decide +kernel
theorem dX1_writePlace_171 : decode cX1_writePlace 171 = .ok (.invokevirtual 150, 3) := by decide +kernel
theorem dX1_writePlace_174 : decode cX1_writePlace 174 = .ok (.iload 5, 2) := by decide +kernel
theorem dX1_writePlace_176 : decode cX1_writePlace 176 = .ok (.ireturn, 1) := by decide +kernel
theorem dX1_lowestFreePiece_0 : decode cX1_lowestFreePiece 0 = .ok (.iconst 0, 1) := by decide +kernel
theorem dX1_lowestFreePiece_1 : decode cX1_lowestFreePiece 1 = .ok (.istore_n 1, 1) := by decide +kernel
theorem dX1_lowestFreePiece_2 : decode cX1_lowestFreePiece 2 = .ok (.iload_n 1, 1) := by decide +kernel
theorem dX1_lowestFreePiece_3 : decode cX1_lowestFreePiece 3 = .ok (.bipush 30, 2) := by decide +kernel
theorem dX1_lowestFreePiece_5 : decode cX1_lowestFreePiece 5 = .ok (.if_icmp .ge 20, 3) := by decide +kernel
theorem dX1_lowestFreePiece_8 : decode cX1_lowestFreePiece 8 = .ok (.aload_n 0, 1) := by decide +kernel
theorem dX1_lowestFreePiece_9 : decode cX1_lowestFreePiece 9 = .ok (.getfield 36, 3) := by decide +kernel
theorem dX1_lowestFreePiece_12 : decode cX1_lowestFreePiece 12 = .ok (.iload_n 1, 1) := by decide +kernel
theorem dX1_lowestFreePiece_13 : decode cX1_lowestFreePiece 13 = .ok (.iaload, 1) := by decide +kernel
theorem dX1_lowestFreePiece_14 : decode cX1_lowestFreePiece 14 = .ok (.ifCond .ne 5, 3) := by decide +kernel
theorem dX1_lowestFreePiece_17 : decode cX1_lowestFreePiece 17 = .ok (.iload_n 1, 1) := by decide +kernel
theorem dX1_lowestFreePiece_18 : decode cX1_lowestFreePiece 18 = .ok (.ireturn, 1) := by decide +kernel
theorem dX1_lowestFreePiece_19 : decode cX1_lowestFreePiece 19 = .ok (.iinc 1 1, 3) := by decide +kernel
theorem dX1_lowestFreePiece_22 : decode cX1_lowestFreePiece 22 = .ok (.goto (-20), 3) := by decide +kernel
theorem dX1_lowestFreePiece_25 : decode cX1_lowestFreePiece 25 = .ok (.iconst (-1), 1) := by decide +kernel
theorem dX1_lowestFreePiece_26 : decode cX1_lowestFreePiece 26 = .ok (.ireturn, 1) := by decide +kernel
set_option maxRecDepth 20000 in
theorem ggX1_refuse_X1_available : GoodIn wsX1_refuse wsX1_available := goodIn_r _ [13, 14, 15, 16, 12, 17, 18, 19, 20, 21, 22, 23, 40, 41, 42, 43, 44, 45, 46, 47, 48, 49, 50, 51, 52, 53] rfl (by decide +kernel)
set_option maxRecDepth 20000 in
theorem gX1_refuse_X1_available : GoodIn wsX1_refuse (wsV RX1 103 RX1 yX1_available wsX1_available) := goodIn_app (goodIn_of _ (by decide +kernel)) ggX1_refuse_X1_available
set_option maxRecDepth 20000 in
theorem ggX1_refuse_X4_add : GoodIn wsX1_refuse wsX4_add := goodIn_r _ [28, 29, 30, 31, 32, 33, 34, 35, 36, 37, 38, 4, 39, 54, 55, 56, 57] rfl (by decide +kernel)
set_option maxRecDepth 20000 in
theorem gX1_refuse_X4_add : GoodIn wsX1_refuse (wsV RX1 120 RX4 yX4_add wsX4_add) := goodIn_app (goodIn_of _ (by decide +kernel)) ggX1_refuse_X4_add
theorem dX1_refuse_0 : decode cX1_refuse 0 = .ok (.aload_n 0, 1) := by decide +kernel
theorem dX1_refuse_1 : decode cX1_refuse 1 = .ok (.getfield 15, 3) := by decide +kernel
theorem dX1_refuse_4 : decode cX1_refuse 4 = .ok (.iload_n 1, 1) := by decide +kernel
theorem dX1_refuse_5 : decode cX1_refuse 5 = .ok (.aload_n 0, 1) := by decide +kernel
theorem dX1_refuse_6 : decode cX1_refuse 6 = .ok (.getfield 15, 3) := by decide +kernel
theorem dX1_refuse_9 : decode cX1_refuse 9 = .ok (.iload_n 1, 1) := by decide +kernel
theorem dX1_refuse_10 : decode cX1_refuse 10 = .ok (.iaload, 1) := by decide +kernel
theorem dX1_refuse_11 : decode cX1_refuse 11 = .ok (.iconst 1, 1) := by decide +kernel
theorem dX1_refuse_12 : decode cX1_refuse 12 = .ok (.isub, 1) := by decide +kernel
theorem dX1_refuse_13 : decode cX1_refuse 13 = .ok (.iconst 0, 1) := by decide +kernel
theorem dX1_refuse_14 : decode cX1_refuse 14 = .ok (.invokestatic 91, 3) := by decide +kernel
theorem dX1_refuse_17 : decode cX1_refuse 17 = .ok (.iastore, 1) := by decide +kernel
theorem dX1_refuse_18 : decode cX1_refuse 18 = .ok (.aload_n 0, 1) := by decide +kernel
theorem dX1_refuse_19 : decode cX1_refuse 19 = .ok (.getfield 24, 3) := by decide +kernel
theorem dX1_refuse_22 : decode cX1_refuse 22 = .ok (.iload_n 1, 1) := by decide +kernel
theorem dX1_refuse_23 : decode cX1_refuse 23 = .ok (.dup2, 1) := by decide +kernel
theorem dX1_refuse_24 : decode cX1_refuse 24 = .ok (.iaload, 1) := by decide +kernel
theorem dX1_refuse_25 : decode cX1_refuse 25 = .ok (.iconst 1, 1) := by decide +kernel
theorem dX1_refuse_26 : decode cX1_refuse 26 = .ok (.iadd, 1) := by decide +kernel
theorem dX1_refuse_27 : decode cX1_refuse 27 = .ok (.iastore, 1) := by decide +kernel
theorem dX1_refuse_28 : decode cX1_refuse 28 = .ok (.aload_n 0, 1) := by decide +kernel
theorem dX1_refuse_29 : decode cX1_refuse 29 = .ok (.dup, 1) := by decide +kernel
theorem dX1_refuse_30 : decode cX1_refuse 30 = .ok (.getfield 59, 3) := by decide +kernel
theorem dX1_refuse_33 : decode cX1_refuse 33 = .ok (.iconst 1, 1) := by decide +kernel
theorem dX1_refuse_34 : decode cX1_refuse 34 = .ok (.iadd, 1) := by decide +kernel
theorem dX1_refuse_35 : decode cX1_refuse 35 = .ok (.putfield 59, 3) := by decide +kernel
theorem dX1_refuse_38 : decode cX1_refuse 38 = .ok (.aload_n 0, 1) := by decide +kernel
theorem dX1_refuse_39 : decode cX1_refuse 39 = .ok (.getfield 45, 3) := by decide +kernel
theorem dX1_refuse_42 : decode cX1_refuse 42 = .ok (.iconst 1, 1) := by decide +kernel
theorem dX1_refuse_43 : decode cX1_refuse 43 = .ok (.iload_n 1, 1) := by decide +kernel
theorem dX1_refuse_44 : decode cX1_refuse 44 = .ok (.aload_n 0, 1) := by decide +kernel
theorem dX1_refuse_45 : decode cX1_refuse 45 = .ok (.invokevirtual 103, 3) := by decide +kernel
theorem dX1_refuse_48 : decode cX1_refuse 48 = .ok (.invokevirtual 120, 3) := by decide +kernel
theorem dX1_refuse_51 : decode cX1_refuse 51 = .ok (.return_, 1) := by decide +kernel
set_option maxRecDepth 20000 in
theorem ggX1_bookPiece_X1_mannersBehindUnpromised : GoodIn wsX1_bookPiece wsX1_mannersBehindUnpromised := goodIn_r _ [10, 11, 12, 13, 14] rfl (by decide +kernel)
set_option maxRecDepth 20000 in
theorem gX1_bookPiece_X1_mannersBehindUnpromised : GoodIn wsX1_bookPiece (wsV RX1 117 RX1 yX1_mannersBehindUnpromised wsX1_mannersBehindUnpromised) := goodIn_app (goodIn_of _ (by decide +kernel)) ggX1_bookPiece_X1_mannersBehindUnpromised
set_option maxRecDepth 20000 in
theorem ggX1_bookPiece_X1_warnIfLevelRose : GoodIn wsX1_bookPiece wsX1_warnIfLevelRose := goodIn_r _ [18, 5, 19, 20, 21, 9, 22, 23, 24, 25, 26, 27, 28, 29, 30, 31, 4, 32, 33, 34, 35, 36, 37, 38, 39, 40, 41, 42, 43, 44, 45, 46, 47, 48, 49, 50, 51, 13, 52, 53, 54, 55, 56, 57, 58, 59, 60, 61, 62, 63, 64, 65, 66, 67, 68, 69, 70] rfl (by decide +kernel)
set_option maxRecDepth 20000 in
theorem gX1_bookPiece_X1_warnIfLevelRose : GoodIn wsX1_bookPiece (wsV RX1 136 RX1 yX1_warnIfLevelRose wsX1_warnIfLevelRose) := goodIn_app (goodIn_of _ (by decide +kernel)) ggX1_bookPiece_X1_warnIfLevelRose
set_option maxRecDepth 20000 in
theorem ggX1_bookPiece_X1_available : GoodIn wsX1_bookPiece wsX1_available := goodIn_r _ [22, 23, 24, 25, 9, 26, 27, 28, 29, 30, 31, 4, 53, 54, 55, 56, 57, 58, 59, 60, 61, 62, 63, 64, 65, 66] rfl (by decide +kernel)
set_option maxRecDepth 20000 in
theorem gX1_bookPiece_X1_available : GoodIn wsX1_bookPiece (wsV RX1 103 RX1 yX1_available wsX1_available) := goodIn_app (goodIn_of _ (by decide +kernel)) ggX1_bookPiece_X1_available
set_option maxRecDepth 20000 in
theorem ggX1_bookPiece_X4_add : GoodIn wsX1_bookPiece wsX4_add := goodIn_r _ [41, 42, 43, 44, 45, 46, 47, 48, 49, 50, 51, 13, 52, 67, 68, 69, 70] rfl (by decide +kernel)
set_option maxRecDepth 20000 in
theorem gX1_bookPiece_X4_add : GoodIn wsX1_bookPiece (wsV RX1 120 RX4 yX4_add wsX4_add) := goodIn_app (goodIn_of _ (by decide +kernel)) ggX1_bookPiece_X4_add
theorem dX1_bookPiece_0 : decode cX1_bookPiece 0 = .ok (.aload_n 0, 1) := by decide +kernel
theorem dX1_bookPiece_1 : decode cX1_bookPiece 1 = .ok (.getfield 27, 3) := by decide +kernel
theorem dX1_bookPiece_4 : decode cX1_bookPiece 4 = .ok (.iload_n 1, 1) := by decide +kernel
theorem dX1_bookPiece_5 : decode cX1_bookPiece 5 = .ok (.dup2, 1) := by decide +kernel
theorem dX1_bookPiece_6 : decode cX1_bookPiece 6 = .ok (.iaload, 1) := by decide +kernel
theorem dX1_bookPiece_7 : decode cX1_bookPiece 7 = .ok (.iconst 1, 1) := by decide +kernel
theorem dX1_bookPiece_8 : decode cX1_bookPiece 8 = .ok (.iadd, 1) := by decide +kernel
theorem dX1_bookPiece_9 : decode cX1_bookPiece 9 = .ok (.iastore, 1) := by decide +kernel
theorem dX1_bookPiece_10 : decode cX1_bookPiece 10 = .ok (.aload_n 0, 1) := by decide +kernel
theorem dX1_bookPiece_11 : decode cX1_bookPiece 11 = .ok (.dup, 1) := by decide +kernel
theorem dX1_bookPiece_12 : decode cX1_bookPiece 12 = .ok (.getfield 63, 3) := by decide +kernel
theorem dX1_bookPiece_15 : decode cX1_bookPiece 15 = .ok (.iconst 1, 1) := by decide +kernel
theorem dX1_bookPiece_16 : decode cX1_bookPiece 16 = .ok (.iadd, 1) := by decide +kernel
theorem dX1_bookPiece_17 : decode cX1_bookPiece 17 = .ok (.putfield 63, 3) := by decide +kernel
theorem dX1_bookPiece_20 : decode cX1_bookPiece 20 = .ok (.iload_n 2, 1) := by decide +kernel
theorem dX1_bookPiece_21 : decode cX1_bookPiece 21 = .ok (.ifCond .ne 26, 3) := by decide +kernel
theorem dX1_bookPiece_24 : decode cX1_bookPiece 24 = .ok (.aload_n 0, 1) := by decide +kernel
theorem dX1_bookPiece_25 : decode cX1_bookPiece 25 = .ok (.getfield 15, 3) := by decide +kernel
theorem dX1_bookPiece_28 : decode cX1_bookPiece 28 = .ok (.iload_n 1, 1) := by decide +kernel
theorem dX1_bookPiece_29 : decode cX1_bookPiece 29 = .ok (.aload_n 0, 1) := by decide +kernel
theorem dX1_bookPiece_30 : decode cX1_bookPiece 30 = .ok (.aload_n 0, 1) := by decide +kernel
theorem dX1_bookPiece_31 : decode cX1_bookPiece 31 = .ok (.getfield 15, 3) := by decide +kernel
theorem dX1_bookPiece_34 : decode cX1_bookPiece 34 = .ok (.iload_n 1, 1) := by decide +kernel
theorem dX1_bookPiece_35 : decode cX1_bookPiece 35 = .ok (.iaload, 1) := by decide +kernel
theorem dX1_bookPiece_36 : decode cX1_bookPiece 36 = .ok (.iload_n 3, 1) := by decide +kernel
theorem dX1_bookPiece_37 : decode cX1_bookPiece 37 = .ok (.invokevirtual 117, 3) := by decide +kernel
theorem dX1_bookPiece_40 : decode cX1_bookPiece 40 = .ok (.iastore, 1) := by decide +kernel
theorem dX1_bookPiece_41 : decode cX1_bookPiece 41 = .ok (.aload_n 0, 1) := by decide +kernel
theorem dX1_bookPiece_42 : decode cX1_bookPiece 42 = .ok (.iload_n 3, 1) := by decide +kernel
theorem dX1_bookPiece_43 : decode cX1_bookPiece 43 = .ok (.invokevirtual 136, 3) := by decide +kernel
theorem dX1_bookPiece_46 : decode cX1_bookPiece 46 = .ok (.return_, 1) := by decide +kernel
theorem dX1_bookPiece_47 : decode cX1_bookPiece 47 = .ok (.aload_n 0, 1) := by decide +kernel
theorem dX1_bookPiece_48 : decode cX1_bookPiece 48 = .ok (.getfield 18, 3) := by decide +kernel
theorem dX1_bookPiece_51 : decode cX1_bookPiece 51 = .ok (.iload_n 1, 1) := by decide +kernel
theorem dX1_bookPiece_52 : decode cX1_bookPiece 52 = .ok (.dup2, 1) := by decide +kernel
theorem dX1_bookPiece_53 : decode cX1_bookPiece 53 = .ok (.iaload, 1) := by decide +kernel
theorem dX1_bookPiece_54 : decode cX1_bookPiece 54 = .ok (.iconst 1, 1) := by decide +kernel
theorem dX1_bookPiece_55 : decode cX1_bookPiece 55 = .ok (.isub, 1) := by decide +kernel
theorem dX1_bookPiece_56 : decode cX1_bookPiece 56 = .ok (.iastore, 1) := by decide +kernel
theorem dX1_bookPiece_57 : decode cX1_bookPiece 57 = .ok (.aload_n 0, 1) := by decide +kernel
theorem dX1_bookPiece_58 : decode cX1_bookPiece 58 = .ok (.getfield 18, 3) := by decide +kernel
theorem dX1_bookPiece_61 : decode cX1_bookPiece 61 = .ok (.iload_n 1, 1) := by decide +kernel
theorem dX1_bookPiece_62 : decode cX1_bookPiece 62 = .ok (.iaload, 1) := by decide +kernel
theorem dX1_bookPiece_63 : decode cX1_bookPiece 63 = .ok (.ifCond .ne 16, 3) := by decide +kernel
theorem dX1_bookPiece_66 : decode cX1_bookPiece 66 = .ok (.aload_n 0, 1) := by decide +kernel
theorem dX1_bookPiece_67 : decode cX1_bookPiece 67 = .ok (.getfield 45, 3) := by decide +kernel
theorem dX1_bookPiece_70 : decode cX1_bookPiece 70 = .ok (.iconst 2, 1) := by decide +kernel
theorem dX1_bookPiece_71 : decode cX1_bookPiece 71 = .ok (.iload_n 1, 1) := by decide +kernel
theorem dX1_bookPiece_72 : decode cX1_bookPiece 72 = .ok (.aload_n 0, 1) := by decide +kernel
theorem dX1_bookPiece_73 : decode cX1_bookPiece 73 = .ok (.invokevirtual 103, 3) := by decide +kernel
theorem dX1_bookPiece_76 : decode cX1_bookPiece 76 = .ok (.invokevirtual 120, 3) := by decide +kernel
theorem dX1_bookPiece_79 : decode cX1_bookPiece 79 = .ok (.return_, 1) := by decide +kernel
set_option maxRecDepth 20000 in
theorem ggX1_trimPlace_X1_hasPlace : GoodIn wsX1_trimPlace wsX1_hasPlace := goodIn_r _ [7, 8, 9, 10, 11, 6, 12, 37, 38, 39, 40, 41, 42, 43, 44, 45, 46, 47, 48, 49, 50] rfl (by decide +kernel)
set_option maxRecDepth 20000 in
theorem gX1_trimPlace_X1_hasPlace : GoodIn wsX1_trimPlace (wsV RX1 73 RX1 yX1_hasPlace wsX1_hasPlace) := goodIn_app (goodIn_of _ (by decide +kernel)) ggX1_trimPlace_X1_hasPlace
set_option maxRecDepth 20000 in
theorem ggX1_trimPlace_X1_pieceAt : GoodIn wsX1_trimPlace wsX1_pieceAt := goodIn_r _ [16, 17, 3, 4, 5, 6, 7, 8, 9, 10, 11, 12, 37, 38, 39, 40, 41, 42, 43, 44, 45, 46, 47, 48, 49, 50] rfl (by decide +kernel)
set_option maxRecDepth 20000 in
theorem gX1_trimPlace_X1_pieceAt : GoodIn wsX1_trimPlace (wsV RX1 80 RX1 yX1_pieceAt wsX1_pieceAt) := goodIn_app (goodIn_of _ (by decide +kernel)) ggX1_trimPlace_X1_pieceAt
set_option maxRecDepth 20000 in
theorem ggX1_trimPlace_X1_loosen : GoodIn wsX1_trimPlace wsX1_loosen := goodIn_r _ [21, 17, 22, 23, 13, 14, 15, 6, 16, 3, 4, 5, 7, 8, 9, 10, 11, 12, 24, 25, 26, 27, 37, 38, 39, 40, 41, 42, 43, 44, 45, 46, 47, 48, 49, 50] rfl (by decide +kernel)
set_option maxRecDepth 20000 in
theorem gX1_trimPlace_X1_loosen : GoodIn wsX1_trimPlace (wsV RX1 129 RX1 yX1_loosen wsX1_loosen) := goodIn_app (goodIn_of _ (by decide +kernel)) ggX1_trimPlace_X1_loosen
set_option maxRecDepth 20000 in
theorem ggX1_trimPlace_X1_thank : GoodIn wsX1_trimPlace wsX1_thank := goodIn_r _ [31, 32, 33, 34, 35, 36, 37, 38, 39, 40, 41, 42, 43, 44, 45, 46, 47, 48, 49, 50] rfl (by decide +kernel)
set_option maxRecDepth 20000 in
theorem gX1_trimPlace_X1_thank : GoodIn wsX1_trimPlace (wsV RX1 154 RX1 yX1_thank wsX1_thank) := goodIn_app (goodIn_of _ (by decide +kernel)) ggX1_trimPlace_X1_thank
theorem dX1_trimPlace_0 : decode cX1_trimPlace 0 = .ok (.aload_n 0, 1) := by decide +kernel
theorem dX1_trimPlace_1 : decode cX1_trimPlace 1 = .ok (.iload_n 1, 1) := by decide +kernel
theorem dX1_trimPlace_2 : decode cX1_trimPlace 2 = .ok (.iload_n 2, 1) := by decide +kernel
theorem dX1_trimPlace_3 : decode cX1_trimPlace 3 = .ok (.invokevirtual 73, 3) := by decide +kernel
theorem dX1_trimPlace_6 : decode cX1_trimPlace 6 = .ok (.ifCond .ne 6, 3) := by decide +kernel
theorem dX1_trimPlace_9 : decode cX1_trimPlace 9 = .ok (.ldc 124, 2) := by decide +kernel
theorem dX1_trimPlace_11 : decode cX1_trimPlace 11 = .ok (.ireturn, 1) := by decide +kernel
theorem dX1_trimPlace_12 : decode cX1_trimPlace 12 = .ok (.aload_n 0, 1) := by decide +kernel
theorem dX1_trimPlace_13 : decode cX1_trimPlace 13 = .ok (.iload_n 1, 1) := by decide +kernel
theorem dX1_trimPlace_14 : decode cX1_trimPlace 14 = .ok (.iload_n 2, 1) := by decide +kernel
theorem dX1_trimPlace_15 : decode cX1_trimPlace 15 = .ok (.invokevirtual 80, 3) := by decide +kernel
theorem dX1_trimPlace_18 : decode cX1_trimPlace 18 = .ok (.iconst (-1), 1) := by decide +kernel
theorem dX1_trimPlace_19 : decode cX1_trimPlace 19 = .ok (.if_icmp .ne 6, 3) := by decide +kernel
theorem dX1_trimPlace_22 : decode cX1_trimPlace 22 = .ok (.ldc 132, 2) := by decide +kernel
theorem dX1_trimPlace_24 : decode cX1_trimPlace 24 = .ok (.ireturn, 1) := by decide +kernel
theorem dX1_trimPlace_25 : decode cX1_trimPlace 25 = .ok (.aload_n 0, 1) := by decide +kernel
theorem dX1_trimPlace_26 : decode cX1_trimPlace 26 = .ok (.iload_n 1, 1) := by decide +kernel
theorem dX1_trimPlace_27 : decode cX1_trimPlace 27 = .ok (.iload_n 2, 1) := by decide +kernel
theorem dX1_trimPlace_28 : decode cX1_trimPlace 28 = .ok (.invokevirtual 129, 3) := by decide +kernel
theorem dX1_trimPlace_31 : decode cX1_trimPlace 31 = .ok (.istore_n 3, 1) := by decide +kernel
theorem dX1_trimPlace_32 : decode cX1_trimPlace 32 = .ok (.aload_n 0, 1) := by decide +kernel
theorem dX1_trimPlace_33 : decode cX1_trimPlace 33 = .ok (.iload_n 1, 1) := by decide +kernel
theorem dX1_trimPlace_34 : decode cX1_trimPlace 34 = .ok (.iload_n 3, 1) := by decide +kernel
theorem dX1_trimPlace_35 : decode cX1_trimPlace 35 = .ok (.invokevirtual 154, 3) := by decide +kernel
theorem dX1_trimPlace_38 : decode cX1_trimPlace 38 = .ok (.iload_n 3, 1) := by decide +kernel
theorem dX1_trimPlace_39 : decode cX1_trimPlace 39 = .ok (.ireturn, 1) := by decide +kernel
set_option maxRecDepth 20000 in
theorem ggX1_sweepVolume_X1_lives : GoodIn wsX1_sweepVolume wsX1_lives := goodIn_r _ [7, 8, 37, 38, 39, 40, 41, 42, 43, 44, 45, 46, 47, 48, 49, 50] rfl (by decide +kernel)
set_option maxRecDepth 20000 in
theorem gX1_sweepVolume_X1_lives : GoodIn wsX1_sweepVolume (wsV RX1 69 RX1 yX1_lives wsX1_lives) := goodIn_app (goodIn_of _ (by decide +kernel)) ggX1_sweepVolume_X1_lives
set_option maxRecDepth 20000 in
theorem ggX1_sweepVolume_X1_pieceAt : GoodIn wsX1_sweepVolume wsX1_pieceAt := goodIn_r _ [12, 13, 14, 15, 16, 6, 17, 8, 3, 4, 5, 7, 37, 38, 39, 40, 41, 42, 43, 44, 45, 46, 47, 48, 49, 50] rfl (by decide +kernel)
set_option maxRecDepth 20000 in
theorem gX1_sweepVolume_X1_pieceAt : GoodIn wsX1_sweepVolume (wsV RX1 80 RX1 yX1_pieceAt wsX1_pieceAt) := goodIn_app (goodIn_of _ (by decide +kernel)) ggX1_sweepVolume_X1_pieceAt
set_option maxRecDepth 20000 in
theorem ggX1_sweepVolume_X1_isPiece : GoodIn wsX1_sweepVolume wsX1_isPiece := goodIn_r _ [21] rfl (by decide +kernel)
set_option maxRecDepth 20000 in
theorem gX1_sweepVolume_X1_isPiece : GoodIn wsX1_sweepVolume (wsV RX1 77 RX1 yX1_isPiece wsX1_isPiece) := goodIn_app (goodIn_of _ (by decide +kernel)) ggX1_sweepVolume_X1_isPiece
set_option maxRecDepth 20000 in
theorem ggX1_sweepVolume_X1_loosen : GoodIn wsX1_sweepVolume wsX1_loosen := goodIn_r _ [25, 13, 26, 27, 9, 10, 11, 6, 12, 14, 15, 16, 17, 8, 3, 4, 5, 7, 18, 19, 20, 21, 37, 38, 39, 40, 41, 42, 43, 44, 45, 46, 47, 48, 49, 50] rfl (by decide +kernel)
set_option maxRecDepth 20000 in
theorem gX1_sweepVolume_X1_loosen : GoodIn wsX1_sweepVolume (wsV RX1 129 RX1 yX1_loosen wsX1_loosen) := goodIn_app (goodIn_of _ (by decide +kernel)) ggX1_sweepVolume_X1_loosen
set_option maxRecDepth 20000 in
theorem ggX1_sweepVolume_X1_thank : GoodIn wsX1_sweepVolume wsX1_thank := goodIn_r _ [31, 32, 33, 34, 35, 36, 37, 38, 39, 40, 41, 42, 43, 44, 45, 46, 47, 48, 49, 50] rfl (by decide +kernel)
set_option maxRecDepth 20000 in
theorem gX1_sweepVolume_X1_thank : GoodIn wsX1_sweepVolume (wsV RX1 154 RX1 yX1_thank wsX1_thank) := goodIn_app (goodIn_of _ (by decide +kernel)) ggX1_sweepVolume_X1_thank
theorem dX1_sweepVolume_0 : decode cX1_sweepVolume 0 = .ok (.aload_n 0, 1) := by decide +kernel
theorem dX1_sweepVolume_1 : decode cX1_sweepVolume 1 = .ok (.iload_n 1, 1) := by decide +kernel
theorem dX1_sweepVolume_2 : decode cX1_sweepVolume 2 = .ok (.invokevirtual 69, 3) := by decide +kernel
theorem dX1_sweepVolume_5 : decode cX1_sweepVolume 5 = .ok (.ifCond .ne 6, 3) := by decide +kernel
theorem dX1_sweepVolume_8 : decode cX1_sweepVolume 8 = .ok (.ldc 124, 2) := by decide +kernel
theorem dX1_sweepVolume_10 : decode cX1_sweepVolume 10 = .ok (.ireturn, 1) := by decide +kernel
theorem dX1_sweepVolume_11 : decode cX1_sweepVolume 11 = .ok (.iconst 0, 1) := by decide +kernel
theorem dX1_sweepVolume_12 : decode cX1_sweepVolume 12 = .ok (.istore_n 2, 1) := by decide +kernel
theorem dX1_sweepVolume_13 : decode cX1_sweepVolume 13 = .ok (.iconst 0, 1) := by decide +kernel
theorem dX1_sweepVolume_14 : decode cX1_sweepVolume 14 = .ok (.istore_n 3, 1) := by decide +kernel
theorem dX1_sweepVolume_15 : decode cX1_sweepVolume 15 = .ok (.iload_n 3, 1) := by decide +kernel
theorem dX1_sweepVolume_16 : decode cX1_sweepVolume 16 = .ok (.bipush 40, 2) := by decide +kernel
theorem dX1_sweepVolume_18 : decode cX1_sweepVolume 18 = .ok (.if_icmp .ge 45, 3) := by decide +kernel
theorem dX1_sweepVolume_21 : decode cX1_sweepVolume 21 = .ok (.aload_n 0, 1) := by decide +kernel
theorem dX1_sweepVolume_22 : decode cX1_sweepVolume 22 = .ok (.iload_n 1, 1) := by decide +kernel
theorem dX1_sweepVolume_23 : decode cX1_sweepVolume 23 = .ok (.iload_n 3, 1) := by decide +kernel
theorem dX1_sweepVolume_24 : decode cX1_sweepVolume 24 = .ok (.invokevirtual 80, 3) := by decide +kernel
theorem dX1_sweepVolume_27 : decode cX1_sweepVolume 27 = .ok (.istore 4, 2) := by decide +kernel
theorem dX1_sweepVolume_29 : decode cX1_sweepVolume 29 = .ok (.aload_n 0, 1) := by decide +kernel
theorem dX1_sweepVolume_30 : decode cX1_sweepVolume 30 = .ok (.iload 4, 2) := by decide +kernel
theorem dX1_sweepVolume_32 : decode cX1_sweepVolume 32 = .ok (.invokevirtual 77, 3) := by decide +kernel
theorem dX1_sweepVolume_35 : decode cX1_sweepVolume 35 = .ok (.ifCond .eq 22, 3) := by decide +kernel
theorem dX1_sweepVolume_38 : decode cX1_sweepVolume 38 = .ok (.aload_n 0, 1) := by decide +kernel
theorem dX1_sweepVolume_39 : decode cX1_sweepVolume 39 = .ok (.getfield 33, 3) := by decide +kernel
theorem dX1_sweepVolume_42 : decode cX1_sweepVolume 42 = .ok (.iload 4, 2) := by decide +kernel
theorem dX1_sweepVolume_44 : decode cX1_sweepVolume 44 = .ok (.iaload, 1) := by decide +kernel
theorem dX1_sweepVolume_45 : decode cX1_sweepVolume 45 = .ok (.ifCond .ne 12, 3) := by decide +kernel
theorem dX1_sweepVolume_48 : decode cX1_sweepVolume 48 = .ok (.iload_n 2, 1) := by decide +kernel
theorem dX1_sweepVolume_49 : decode cX1_sweepVolume 49 = .ok (.aload_n 0, 1) := by decide +kernel
theorem dX1_sweepVolume_50 : decode cX1_sweepVolume 50 = .ok (.iload_n 1, 1) := by decide +kernel
theorem dX1_sweepVolume_51 : decode cX1_sweepVolume 51 = .ok (.iload_n 3, 1) := by decide +kernel
theorem dX1_sweepVolume_52 : decode cX1_sweepVolume 52 = .ok (.invokevirtual 129, 3) := by decide +kernel
theorem dX1_sweepVolume_55 : decode cX1_sweepVolume 55 = .ok (.iadd, 1) := by decide +kernel
theorem dX1_sweepVolume_56 : decode cX1_sweepVolume 56 = .ok (.istore_n 2, 1) := by decide +kernel
theorem dX1_sweepVolume_57 : decode cX1_sweepVolume 57 = .ok (.iinc 3 1, 3) := by decide +kernel
theorem dX1_sweepVolume_60 : decode cX1_sweepVolume 60 = .ok (.goto (-45), 3) := by decide +kernel
theorem dX1_sweepVolume_63 : decode cX1_sweepVolume 63 = .ok (.aload_n 0, 1) := by decide +kernel
theorem dX1_sweepVolume_64 : decode cX1_sweepVolume 64 = .ok (.iload_n 1, 1) := by decide +kernel
theorem dX1_sweepVolume_65 : decode cX1_sweepVolume 65 = .ok (.iload_n 2, 1) := by decide +kernel
theorem dX1_sweepVolume_66 : decode cX1_sweepVolume 66 = .ok (.invokevirtual 154, 3) := by decide +kernel
theorem dX1_sweepVolume_69 : decode cX1_sweepVolume 69 = .ok (.iload_n 2, 1) := by decide +kernel
theorem dX1_sweepVolume_70 : decode cX1_sweepVolume 70 = .ok (.ireturn, 1) := by decide +kernel
theorem dX1_thank_0 : decode cX1_thank 0 = .ok (.aload_n 0, 1) := by decide +kernel
theorem dX1_thank_1 : decode cX1_thank 1 = .ok (.getfield 15, 3) := by decide +kernel
theorem dX1_thank_4 : decode cX1_thank 4 = .ok (.iload_n 1, 1) := by decide +kernel
theorem dX1_thank_5 : decode cX1_thank 5 = .ok (.aload_n 0, 1) := by decide +kernel
theorem dX1_thank_6 : decode cX1_thank 6 = .ok (.getfield 15, 3) := by decide +kernel
theorem dX1_thank_9 : decode cX1_thank 9 = .ok (.iload_n 1, 1) := by decide +kernel
theorem dX1_thank_10 : decode cX1_thank 10 = .ok (.iaload, 1) := by decide +kernel
theorem dX1_thank_11 : decode cX1_thank 11 = .ok (.iconst 2, 1) := by decide +kernel
theorem dX1_thank_12 : decode cX1_thank 12 = .ok (.iload_n 2, 1) := by decide +kernel
theorem dX1_thank_13 : decode cX1_thank 13 = .ok (.imul, 1) := by decide +kernel
theorem dX1_thank_14 : decode cX1_thank 14 = .ok (.iadd, 1) := by decide +kernel
theorem dX1_thank_15 : decode cX1_thank 15 = .ok (.bipush 100, 2) := by decide +kernel
theorem dX1_thank_17 : decode cX1_thank 17 = .ok (.invokestatic 158, 3) := by decide +kernel
theorem dX1_thank_20 : decode cX1_thank 20 = .ok (.iastore, 1) := by decide +kernel
theorem dX1_thank_21 : decode cX1_thank 21 = .ok (.return_, 1) := by decide +kernel
set_option maxRecDepth 20000 in
theorem ggX1_loosen_X1_pieceAt : GoodIn wsX1_loosen wsX1_pieceAt := goodIn_r _ [8, 1, 9, 10, 11, 7, 12, 13, 14, 15, 16, 17, 22, 23, 24, 25, 26, 27, 28, 29, 30, 31, 32, 33, 34, 35] rfl (by decide +kernel)
set_option maxRecDepth 20000 in
theorem gX1_loosen_X1_pieceAt : GoodIn wsX1_loosen (wsV RX1 80 RX1 yX1_pieceAt wsX1_pieceAt) := goodIn_app (goodIn_of _ (by decide +kernel)) ggX1_loosen_X1_pieceAt
set_option maxRecDepth 20000 in
theorem ggX1_loosen_X1_isPiece : GoodIn wsX1_loosen wsX1_isPiece := goodIn_r _ [21] rfl (by decide +kernel)
set_option maxRecDepth 20000 in
theorem gX1_loosen_X1_isPiece : GoodIn wsX1_loosen (wsV RX1 77 RX1 yX1_isPiece wsX1_isPiece) := goodIn_app (goodIn_of _ (by decide +kernel)) ggX1_loosen_X1_isPiece
theorem dX1_loosen_0 : decode cX1_loosen 0 = .ok (.aload_n 0, 1) := by decide +kernel
theorem dX1_loosen_1 : decode cX1_loosen 1 = .ok (.iload_n 1, 1) := by decide +kernel
theorem dX1_loosen_2 : decode cX1_loosen 2 = .ok (.iload_n 2, 1) := by decide +kernel
theorem dX1_loosen_3 : decode cX1_loosen 3 = .ok (.invokevirtual 80, 3) := by decide +kernel
theorem dX1_loosen_6 : decode cX1_loosen 6 = .ok (.istore_n 3, 1) := by decide +kernel
theorem dX1_loosen_7 : decode cX1_loosen 7 = .ok (.aload_n 0, 1) := by decide +kernel
theorem dX1_loosen_8 : decode cX1_loosen 8 = .ok (.iload_n 3, 1) := by decide +kernel
theorem dX1_loosen_9 : decode cX1_loosen 9 = .ok (.invokevirtual 77, 3) := by decide +kernel
theorem dX1_loosen_12 : decode cX1_loosen 12 = .ok (.ifCond .ne 5, 3) := by decide +kernel
theorem dX1_loosen_15 : decode cX1_loosen 15 = .ok (.iconst 0, 1) := by decide +kernel
theorem dX1_loosen_16 : decode cX1_loosen 16 = .ok (.ireturn, 1) := by decide +kernel
theorem dX1_loosen_17 : decode cX1_loosen 17 = .ok (.aload_n 0, 1) := by decide +kernel
theorem dX1_loosen_18 : decode cX1_loosen 18 = .ok (.getfield 30, 3) := by decide +kernel
theorem dX1_loosen_21 : decode cX1_loosen 21 = .ok (.iload_n 1, 1) := by decide +kernel
theorem dX1_loosen_22 : decode cX1_loosen 22 = .ok (.bipush 40, 2) := by decide +kernel
theorem dX1_loosen_24 : decode cX1_loosen 24 = .ok (.imul, 1) := by decide +kernel
theorem dX1_loosen_25 : decode cX1_loosen 25 = .ok (.iload_n 2, 1) := by decide +kernel
theorem dX1_loosen_26 : decode cX1_loosen 26 = .ok (.iadd, 1) := by decide +kernel
theorem dX1_loosen_27 : decode cX1_loosen 27 = .ok (.iconst (-1), 1) := by decide +kernel
theorem dX1_loosen_28 : decode cX1_loosen 28 = .ok (.iastore, 1) := by decide +kernel
theorem dX1_loosen_29 : decode cX1_loosen 29 = .ok (.aload_n 0, 1) := by decide +kernel
theorem dX1_loosen_30 : decode cX1_loosen 30 = .ok (.getfield 36, 3) := by decide +kernel
theorem dX1_loosen_33 : decode cX1_loosen 33 = .ok (.iload_n 3, 1) := by decide +kernel
theorem dX1_loosen_34 : decode cX1_loosen 34 = .ok (.dup2, 1) := by decide +kernel
theorem dX1_loosen_35 : decode cX1_loosen 35 = .ok (.iaload, 1) := by decide +kernel
theorem dX1_loosen_36 : decode cX1_loosen 36 = .ok (.iconst 1, 1) := by decide +kernel
theorem dX1_loosen_37 : decode cX1_loosen 37 = .ok (.isub, 1) := by decide +kernel
theorem dX1_loosen_38 : decode cX1_loosen 38 = .ok (.iastore, 1) := by decide +kernel
theorem dX1_loosen_39 : decode cX1_loosen 39 = .ok (.aload_n 0, 1) := by decide +kernel
theorem dX1_loosen_40 : decode cX1_loosen 40 = .ok (.getfield 36, 3) := by decide +kernel
theorem dX1_loosen_43 : decode cX1_loosen 43 = .ok (.iload_n 3, 1) := by decide +kernel
theorem dX1_loosen_44 : decode cX1_loosen 44 = .ok (.iaload, 1) := by decide +kernel
theorem dX1_loosen_45 : decode cX1_loosen 45 = .ok (.ifCond .le 5, 3) := by decide +kernel
theorem dX1_loosen_48 : decode cX1_loosen 48 = .ok (.iconst 0, 1) := by decide +kernel
theorem dX1_loosen_49 : decode cX1_loosen 49 = .ok (.ireturn, 1) := by decide +kernel
theorem dX1_loosen_50 : decode cX1_loosen 50 = .ok (.aload_n 0, 1) := by decide +kernel
theorem dX1_loosen_51 : decode cX1_loosen 51 = .ok (.dup, 1) := by decide +kernel
theorem dX1_loosen_52 : decode cX1_loosen 52 = .ok (.getfield 66, 3) := by decide +kernel
theorem dX1_loosen_55 : decode cX1_loosen 55 = .ok (.iconst 1, 1) := by decide +kernel
theorem dX1_loosen_56 : decode cX1_loosen 56 = .ok (.iadd, 1) := by decide +kernel
theorem dX1_loosen_57 : decode cX1_loosen 57 = .ok (.putfield 66, 3) := by decide +kernel
theorem dX1_loosen_60 : decode cX1_loosen 60 = .ok (.iconst 1, 1) := by decide +kernel
theorem dX1_loosen_61 : decode cX1_loosen 61 = .ok (.ireturn, 1) := by decide +kernel
set_option maxRecDepth 20000 in
theorem ggX1_mergePieces_X1_moveOwners : GoodIn wsX1_mergePieces wsX1_moveOwners := goodIn_r _ [8, 9, 1, 10, 11, 12, 13, 14, 15, 16, 17, 18, 19, 20, 21, 22, 23] rfl (by decide +kernel)
set_option maxRecDepth 20000 in
theorem gX1_mergePieces_X1_moveOwners : GoodIn wsX1_mergePieces (wsV RX1 161 RX1 yX1_moveOwners wsX1_moveOwners) := goodIn_app (goodIn_of _ (by decide +kernel)) ggX1_mergePieces_X1_moveOwners
theorem dX1_mergePieces_0 : decode cX1_mergePieces 0 = .ok (.iconst 0, 1) := by decide +kernel
theorem dX1_mergePieces_1 : decode cX1_mergePieces 1 = .ok (.istore_n 1, 1) := by decide +kernel
theorem dX1_mergePieces_2 : decode cX1_mergePieces 2 = .ok (.iconst 0, 1) := by decide +kernel
theorem dX1_mergePieces_3 : decode cX1_mergePieces 3 = .ok (.istore_n 2, 1) := by decide +kernel
theorem dX1_mergePieces_4 : decode cX1_mergePieces 4 = .ok (.iload_n 2, 1) := by decide +kernel
theorem dX1_mergePieces_5 : decode cX1_mergePieces 5 = .ok (.bipush 30, 2) := by decide +kernel
theorem dX1_mergePieces_7 : decode cX1_mergePieces 7 = .ok (.if_icmp .ge 67, 3) := by decide +kernel
theorem dX1_mergePieces_10 : decode cX1_mergePieces 10 = .ok (.iload_n 2, 1) := by decide +kernel
theorem dX1_mergePieces_11 : decode cX1_mergePieces 11 = .ok (.iconst 1, 1) := by decide +kernel
theorem dX1_mergePieces_12 : decode cX1_mergePieces 12 = .ok (.iadd, 1) := by decide +kernel
theorem dX1_mergePieces_13 : decode cX1_mergePieces 13 = .ok (.istore_n 3, 1) := by decide +kernel
theorem dX1_mergePieces_14 : decode cX1_mergePieces 14 = .ok (.iload_n 3, 1) := by decide +kernel
theorem dX1_mergePieces_15 : decode cX1_mergePieces 15 = .ok (.bipush 30, 2) := by decide +kernel
theorem dX1_mergePieces_17 : decode cX1_mergePieces 17 = .ok (.if_icmp .ge 51, 3) := by decide +kernel
theorem dX1_mergePieces_20 : decode cX1_mergePieces 20 = .ok (.aload_n 0, 1) := by decide +kernel
theorem dX1_mergePieces_21 : decode cX1_mergePieces 21 = .ok (.getfield 36, 3) := by decide +kernel
theorem dX1_mergePieces_24 : decode cX1_mergePieces 24 = .ok (.iload_n 2, 1) := by decide +kernel
theorem dX1_mergePieces_25 : decode cX1_mergePieces 25 = .ok (.iaload, 1) := by decide +kernel
theorem dX1_mergePieces_26 : decode cX1_mergePieces 26 = .ok (.ifCond .le 36, 3) := by decide +kernel
theorem dX1_mergePieces_29 : decode cX1_mergePieces 29 = .ok (.aload_n 0, 1) := by decide +kernel
theorem dX1_mergePieces_30 : decode cX1_mergePieces 30 = .ok (.getfield 36, 3) := by decide +kernel
theorem dX1_mergePieces_33 : decode cX1_mergePieces 33 = .ok (.iload_n 3, 1) := by decide +kernel
theorem dX1_mergePieces_34 : decode cX1_mergePieces 34 = .ok (.iaload, 1) := by decide +kernel
theorem dX1_mergePieces_35 : decode cX1_mergePieces 35 = .ok (.ifCond .le 27, 3) := by decide +kernel
theorem dX1_mergePieces_38 : decode cX1_mergePieces 38 = .ok (.aload_n 0, 1) := by decide +kernel
theorem dX1_mergePieces_39 : decode cX1_mergePieces 39 = .ok (.getfield 33, 3) := by decide +kernel
theorem dX1_mergePieces_42 : decode cX1_mergePieces 42 = .ok (.iload_n 2, 1) := by decide +kernel
theorem dX1_mergePieces_43 : decode cX1_mergePieces 43 = .ok (.iaload, 1) := by decide +kernel
theorem dX1_mergePieces_44 : decode cX1_mergePieces 44 = .ok (.aload_n 0, 1) := by decide +kernel
theorem dX1_mergePieces_45 : decode cX1_mergePieces 45 = .ok (.getfield 33, 3) := by decide +kernel
theorem dX1_mergePieces_48 : decode cX1_mergePieces 48 = .ok (.iload_n 3, 1) := by decide +kernel
theorem dX1_mergePieces_49 : decode cX1_mergePieces 49 = .ok (.iaload, 1) := by decide +kernel
theorem dX1_mergePieces_50 : decode cX1_mergePieces 50 = .ok (.if_icmp .ne 12, 3) := by decide +kernel
theorem dX1_mergePieces_53 : decode cX1_mergePieces 53 = .ok (.aload_n 0, 1) := by decide +kernel
theorem dX1_mergePieces_54 : decode cX1_mergePieces 54 = .ok (.iload_n 3, 1) := by decide +kernel
theorem dX1_mergePieces_55 : decode cX1_mergePieces 55 = .ok (.iload_n 2, 1) := by decide +kernel
theorem dX1_mergePieces_56 : decode cX1_mergePieces 56 = .ok (.invokevirtual 161, 3) := by decide +kernel
theorem dX1_mergePieces_59 : decode cX1_mergePieces 59 = .ok (.iinc 1 1, 3) := by decide +kernel
theorem dX1_mergePieces_62 : decode cX1_mergePieces 62 = .ok (.iinc 3 1, 3) := by decide +kernel
theorem dX1_mergePieces_65 : decode cX1_mergePieces 65 = .ok (.goto (-51), 3) := by decide +kernel
theorem dX1_mergePieces_68 : decode cX1_mergePieces 68 = .ok (.iinc 2 1, 3) := by decide +kernel
theorem dX1_mergePieces_71 : decode cX1_mergePieces 71 = .ok (.goto (-67), 3) := by decide +kernel
theorem dX1_mergePieces_74 : decode cX1_mergePieces 74 = .ok (.aload_n 0, 1) := by decide +kernel
theorem dX1_mergePieces_75 : decode cX1_mergePieces 75 = .ok (.dup, 1) := by decide +kernel
theorem dX1_mergePieces_76 : decode cX1_mergePieces 76 = .ok (.getfield 66, 3) := by decide +kernel
theorem dX1_mergePieces_79 : decode cX1_mergePieces 79 = .ok (.iload_n 1, 1) := by decide +kernel
theorem dX1_mergePieces_80 : decode cX1_mergePieces 80 = .ok (.iadd, 1) := by decide +kernel
theorem dX1_mergePieces_81 : decode cX1_mergePieces 81 = .ok (.putfield 66, 3) := by decide +kernel
theorem dX1_mergePieces_84 : decode cX1_mergePieces 84 = .ok (.iload_n 1, 1) := by decide +kernel
theorem dX1_mergePieces_85 : decode cX1_mergePieces 85 = .ok (.ireturn, 1) := by decide +kernel
theorem dX1_moveOwners_0 : decode cX1_moveOwners 0 = .ok (.iconst 0, 1) := by decide +kernel
theorem dX1_moveOwners_1 : decode cX1_moveOwners 1 = .ok (.istore_n 3, 1) := by decide +kernel
theorem dX1_moveOwners_2 : decode cX1_moveOwners 2 = .ok (.iload_n 3, 1) := by decide +kernel
theorem dX1_moveOwners_3 : decode cX1_moveOwners 3 = .ok (.sipush 320, 3) := by decide +kernel
theorem dX1_moveOwners_6 : decode cX1_moveOwners 6 = .ok (.if_icmp .ge 26, 3) := by decide +kernel
theorem dX1_moveOwners_9 : decode cX1_moveOwners 9 = .ok (.aload_n 0, 1) := by decide +kernel
theorem dX1_moveOwners_10 : decode cX1_moveOwners 10 = .ok (.getfield 30, 3) := by decide +kernel
theorem dX1_moveOwners_13 : decode cX1_moveOwners 13 = .ok (.iload_n 3, 1) := by decide +kernel
theorem dX1_moveOwners_14 : decode cX1_moveOwners 14 = .ok (.iaload, 1) := by decide +kernel
theorem dX1_moveOwners_15 : decode cX1_moveOwners 15 = .ok (.iload_n 1, 1) := by decide +kernel
theorem dX1_moveOwners_16 : decode cX1_moveOwners 16 = .ok (.if_icmp .ne 10, 3) := by decide +kernel
theorem dX1_moveOwners_19 : decode cX1_moveOwners 19 = .ok (.aload_n 0, 1) := by decide +kernel
theorem dX1_moveOwners_20 : decode cX1_moveOwners 20 = .ok (.getfield 30, 3) := by decide +kernel
theorem dX1_moveOwners_23 : decode cX1_moveOwners 23 = .ok (.iload_n 3, 1) := by decide +kernel
theorem dX1_moveOwners_24 : decode cX1_moveOwners 24 = .ok (.iload_n 2, 1) := by decide +kernel
theorem dX1_moveOwners_25 : decode cX1_moveOwners 25 = .ok (.iastore, 1) := by decide +kernel
theorem dX1_moveOwners_26 : decode cX1_moveOwners 26 = .ok (.iinc 3 1, 3) := by decide +kernel
theorem dX1_moveOwners_29 : decode cX1_moveOwners 29 = .ok (.goto (-27), 3) := by decide +kernel
theorem dX1_moveOwners_32 : decode cX1_moveOwners 32 = .ok (.aload_n 0, 1) := by decide +kernel
theorem dX1_moveOwners_33 : decode cX1_moveOwners 33 = .ok (.getfield 36, 3) := by decide +kernel
theorem dX1_moveOwners_36 : decode cX1_moveOwners 36 = .ok (.iload_n 2, 1) := by decide +kernel
theorem dX1_moveOwners_37 : decode cX1_moveOwners 37 = .ok (.dup2, 1) := by decide +kernel
theorem dX1_moveOwners_38 : decode cX1_moveOwners 38 = .ok (.iaload, 1) := by decide +kernel
theorem dX1_moveOwners_39 : decode cX1_moveOwners 39 = .ok (.aload_n 0, 1) := by decide +kernel
theorem dX1_moveOwners_40 : decode cX1_moveOwners 40 = .ok (.getfield 36, 3) := by decide +kernel
theorem dX1_moveOwners_43 : decode cX1_moveOwners 43 = .ok (.iload_n 1, 1) := by decide +kernel
theorem dX1_moveOwners_44 : decode cX1_moveOwners 44 = .ok (.iaload, 1) := by decide +kernel
theorem dX1_moveOwners_45 : decode cX1_moveOwners 45 = .ok (.iadd, 1) := by decide +kernel
theorem dX1_moveOwners_46 : decode cX1_moveOwners 46 = .ok (.iastore, 1) := by decide +kernel
theorem dX1_moveOwners_47 : decode cX1_moveOwners 47 = .ok (.aload_n 0, 1) := by decide +kernel
theorem dX1_moveOwners_48 : decode cX1_moveOwners 48 = .ok (.getfield 36, 3) := by decide +kernel
theorem dX1_moveOwners_51 : decode cX1_moveOwners 51 = .ok (.iload_n 1, 1) := by decide +kernel
theorem dX1_moveOwners_52 : decode cX1_moveOwners 52 = .ok (.iconst 0, 1) := by decide +kernel
theorem dX1_moveOwners_53 : decode cX1_moveOwners 53 = .ok (.iastore, 1) := by decide +kernel
theorem dX1_moveOwners_54 : decode cX1_moveOwners 54 = .ok (.return_, 1) := by decide +kernel
set_option maxRecDepth 20000 in
theorem ggX2_init_X1_init : GoodIn wsX2_init wsX1_init := goodIn_r _ [10, 11, 2, 3, 12, 13, 14, 15, 16, 17, 18, 19, 20, 21, 22, 23, 24, 25, 26, 27, 28, 29, 30, 31, 32, 33, 34, 35, 36, 37, 38, 39, 40, 41, 42, 43, 44, 45, 46, 50, 51, 52, 53] rfl (by decide +kernel)
set_option maxRecDepth 20000 in
theorem gX2_init_X1_init : GoodIn wsX2_init (wsX1_init) := ggX2_init_X1_init
theorem dX2_init_0 : decode cX2_init 0 = .ok (.aload_n 0, 1) := by decide +kernel
theorem dX2_init_1 : decode cX2_init 1 = .ok (.invokespecial 3, 3) := by decide +kernel
theorem dX2_init_4 : decode cX2_init 4 = .ok (.aload_n 0, 1) := by decide +kernel
theorem dX2_init_5 : decode cX2_init 5 = .ok (.new 9, 3) := by decide +kernel
theorem dX2_init_8 : decode cX2_init 8 = .ok (.dup, 1) := by decide +kernel
theorem dX2_init_9 : decode cX2_init 9 = .ok (.invokespecial 11, 3) := by decide +kernel
theorem dX2_init_12 : decode cX2_init 12 = .ok (.putfield 12, 3) := by decide +kernel
theorem dX2_init_15 : decode cX2_init 15 = .ok (.return_, 1) := by decide +kernel
set_option maxRecDepth 20000 in
theorem ggX2_perform_X1_copyFrom : GoodIn wsX2_perform wsX1_copyFrom := goodIn_r _ [10, 11, 12, 13, 14, 15, 16, 17, 18, 19, 20, 21, 22, 23, 24, 25, 26, 27, 28, 29, 30, 31, 32, 33, 34, 35, 36, 37, 38, 216, 217, 218, 219, 220, 221, 222, 223, 224, 225, 226, 227, 228, 229, 230, 231, 232, 233] rfl (by decide +kernel)
set_option maxRecDepth 20000 in
theorem gX2_perform_X1_copyFrom : GoodIn wsX2_perform (wsV RX2 18 RX1 yX1_copyFrom wsX1_copyFrom) := goodIn_app (goodIn_of _ (by decide +kernel)) ggX2_perform_X1_copyFrom
set_option maxRecDepth 20000 in
theorem ggX2_perform_X3_readOrder : GoodIn wsX2_perform wsX3_readOrder := goodIn_r _ [43, 44, 45, 46, 47, 48, 49, 42, 50, 51, 52, 53, 54, 55, 56, 57, 58, 59, 60, 61, 62, 63, 64, 65, 66, 67, 68, 211, 212, 213, 214, 215] rfl (by decide +kernel)
set_option maxRecDepth 20000 in
theorem gX2_perform_X3_readOrder : GoodIn wsX2_perform (wsV RX2 34 RX3 yX3_readOrder wsX3_readOrder) := goodIn_app (goodIn_of _ (by decide +kernel)) ggX2_perform_X3_readOrder
set_option maxRecDepth 20000 in
theorem ggX2_perform_X2_obey : GoodIn wsX2_perform wsX2_obey := goodIn_r _ [73, 74, 75, 1, 76, 77, 78, 9, 79, 80, 23, 22, 17, 16, 81, 21, 82, 83, 84, 85, 11, 86, 87, 88, 89, 90, 91, 92, 93, 94, 95, 96, 97, 98, 99, 100, 101, 102, 103, 104, 105, 106, 107, 108, 109, 110, 111, 112, 113, 114, 115, 116, 117, 24, 118, 119, 120, 121, 122, 123, 124, 125, 126, 127, 128, 129, 130, 131, 132, 133, 19, 26, 25, 134, 135, 136, 32, 137, 34, 35, 13, 14, 15, 36, 37, 38, 138, 139, 140, 141, 142, 143, 144, 145, 146, 147, 148, 28, 149, 150, 151, 152, 20, 27, 153, 154, 155, 156, 157, 158, 159, 160, 161, 162, 163, 164, 165, 166, 167, 168, 169, 170, 171, 172, 173, 174, 175, 176, 177, 178, 18, 179, 180, 181, 182, 183, 184, 185, 186, 187, 188, 189, 190, 191, 192, 193, 194, 195, 211, 212, 213, 214, 215, 208, 209, 210, 216, 217, 218, 219, 220, 221, 222, 223, 224, 225, 226, 227, 228, 229, 230, 231, 232, 233] rfl (by decide +kernel)
set_option maxRecDepth 20000 in
theorem gX2_perform_X2_obey : GoodIn wsX2_perform (wsV RX2 38 RX2 yX2_obey wsX2_obey) := goodIn_app (goodIn_of _ (by decide +kernel)) ggX2_perform_X2_obey
set_option maxRecDepth 20000 in
theorem ggX2_perform_X2_reasonOf : GoodIn wsX2_perform wsX2_reasonOf := goodIn_r _ [199, 200, 201, 202, 203, 204, 205, 206, 207] rfl (by decide +kernel)
set_option maxRecDepth 20000 in
theorem gX2_perform_X2_reasonOf : GoodIn wsX2_perform (wsV RX2 42 RX2 yX2_reasonOf wsX2_reasonOf) := goodIn_app (goodIn_of _ (by decide +kernel)) ggX2_perform_X2_reasonOf
theorem dX2_perform_0 : decode cX2_perform 0 = .ok (.aload_n 0, 1) := by decide +kernel
theorem dX2_perform_1 : decode cX2_perform 1 = .ok (.getfield 12, 3) := by decide +kernel
theorem dX2_perform_4 : decode cX2_perform 4 = .ok (.aload_n 2, 1) := by decide +kernel
theorem dX2_perform_5 : decode cX2_perform 5 = .ok (.invokevirtual 18, 3) := by decide +kernel
theorem dX2_perform_8 : decode cX2_perform 8 = .ok (.aload_n 0, 1) := by decide +kernel
theorem dX2_perform_9 : decode cX2_perform 9 = .ok (.iconst 0, 1) := by decide +kernel
theorem dX2_perform_10 : decode cX2_perform 10 = .ok (.putfield 22, 3) := by decide +kernel
theorem dX2_perform_13 : decode cX2_perform 13 = .ok (.aload_n 0, 1) := by decide +kernel
theorem dX2_perform_14 : decode cX2_perform 14 = .ok (.iconst 0, 1) := by decide +kernel
theorem dX2_perform_15 : decode cX2_perform 15 = .ok (.putfield 26, 3) := by decide +kernel
theorem dX2_perform_18 : decode cX2_perform 18 = .ok (.iconst 0, 1) := by decide +kernel
theorem dX2_perform_19 : decode cX2_perform 19 = .ok (.istore_n 3, 1) := by decide +kernel
theorem dX2_perform_20 : decode cX2_perform 20 = .ok (.iload_n 3, 1) := by decide +kernel
theorem dX2_perform_21 : decode cX2_perform 21 = .ok (.bipush 60, 2) := by decide +kernel
theorem dX2_perform_23 : decode cX2_perform 23 = .ok (.if_icmp .ge 64, 3) := by decide +kernel
theorem dX2_perform_26 : decode cX2_perform 26 = .ok (.aload_n 0, 1) := by decide +kernel
theorem dX2_perform_27 : decode cX2_perform 27 = .ok (.getfield 22, 3) := by decide +kernel
theorem dX2_perform_30 : decode cX2_perform 30 = .ok (.aload_n 1, 1) := by decide +kernel
theorem dX2_perform_31 : decode cX2_perform 31 = .ok (.getfield 29, 3) := by decide +kernel
theorem dX2_perform_34 : decode cX2_perform 34 = .ok (.if_icmp .ge 53, 3) := by decide +kernel
theorem dX2_perform_37 : decode cX2_perform 37 = .ok (.aload_n 0, 1) := by decide +kernel
theorem dX2_perform_38 : decode cX2_perform 38 = .ok (.aload_n 1, 1) := by decide +kernel
theorem dX2_perform_39 : decode cX2_perform 39 = .ok (.aload_n 0, 1) := by decide +kernel
theorem dX2_perform_40 : decode cX2_perform 40 = .ok (.getfield 22, 3) := by decide +kernel
theorem dX2_perform_43 : decode cX2_perform 43 = .ok (.invokevirtual 34, 3) := by decide +kernel
theorem dX2_perform_46 : decode cX2_perform 46 = .ok (.ifCond .eq 15, 3) := by decide +kernel
theorem dX2_perform_49 : decode cX2_perform 49 = .ok (.aload_n 0, 1) := by decide +kernel
theorem dX2_perform_50 : decode cX2_perform 50 = .ok (.aload_n 0, 1) := by decide +kernel
theorem dX2_perform_51 : decode cX2_perform 51 = .ok (.aload_n 1, 1) := by decide +kernel
theorem dX2_perform_52 : decode cX2_perform 52 = .ok (.invokevirtual 38, 3) := by decide +kernel
theorem dX2_perform_55 : decode cX2_perform 55 = .ok (.invokevirtual 42, 3) := by decide +kernel
theorem dX2_perform_58 : decode cX2_perform 58 = .ok (.goto 4, 3) := by decide +kernel
theorem dX2_perform_61 : decode cX2_perform 61 = .ok (.iconst 1, 1) := by decide +kernel
theorem dX2_perform_62 : decode cX2_perform 62 = .ok (.putfield 26, 3) := by decide +kernel
theorem dX2_perform_65 : decode cX2_perform 65 = .ok (.aload_n 0, 1) := by decide +kernel
theorem dX2_perform_66 : decode cX2_perform 66 = .ok (.getfield 26, 3) := by decide +kernel
theorem dX2_perform_69 : decode cX2_perform 69 = .ok (.ifCond .eq 4, 3) := by decide +kernel
theorem dX2_perform_72 : decode cX2_perform 72 = .ok (.return_, 1) := by decide +kernel
theorem dX2_perform_73 : decode cX2_perform 73 = .ok (.aload_n 0, 1) := by decide +kernel
theorem dX2_perform_74 : decode cX2_perform 74 = .ok (.aload_n 1, 1) := by decide +kernel
theorem dX2_perform_75 : decode cX2_perform 75 = .ok (.getfield 46, 3) := by decide +kernel
theorem dX2_perform_78 : decode cX2_perform 78 = .ok (.putfield 22, 3) := by decide +kernel
theorem dX2_perform_81 : decode cX2_perform 81 = .ok (.iinc 3 1, 3) := by decide +kernel
theorem dX2_perform_84 : decode cX2_perform 84 = .ok (.goto (-64), 3) := by decide +kernel
theorem dX2_perform_87 : decode cX2_perform 87 = .ok (.return_, 1) := by decide +kernel
set_option maxRecDepth 20000 in
theorem ggX2_obey_X1_writePlace : GoodIn wsX2_obey wsX1_writePlace := goodIn_r _ [8, 9, 10, 11, 12, 13, 14, 15, 16, 17, 18, 7, 19, 20, 21, 22, 23, 24, 25, 26, 27, 28, 29, 30, 31, 32, 33, 34, 35, 36, 37, 38, 39, 40, 41, 42, 43, 44, 45, 46, 47, 48, 49, 50, 51, 52, 53, 54, 55, 56, 57, 58, 59, 60, 61, 62, 63, 64, 65, 66, 67, 68, 69, 70, 71, 72, 73, 74, 75, 76, 77, 78, 79, 80, 81, 82, 83, 84, 85, 86, 87, 88, 89, 90, 91, 92, 93, 94, 95, 96, 97, 98, 99, 100, 101, 102, 103, 104, 105, 106, 107, 108, 109, 110, 111, 156, 157, 158, 159, 160, 161, 162, 163, 164, 165, 166, 167, 168, 169, 170, 171, 172, 173] rfl (by decide +kernel)
set_option maxRecDepth 20000 in
theorem gX2_obey_X1_writePlace : GoodIn wsX2_obey (wsV RX2 56 RX1 yX1_writePlace wsX1_writePlace) := goodIn_app (goodIn_of _ (by decide +kernel)) ggX2_obey_X1_writePlace
set_option maxRecDepth 20000 in
theorem ggX2_obey_X1_trimPlace : GoodIn wsX2_obey wsX1_trimPlace := goodIn_r _ [115, 9, 116, 16, 17, 18, 7, 19, 20, 21, 22, 23, 24, 25, 26, 27, 28, 15, 93, 94, 95, 96, 10, 97, 29, 30, 31, 32, 117, 118, 119, 120, 13, 121, 87, 68, 88, 156, 157, 158, 159, 160, 161, 162, 163, 164, 165, 166, 167, 168, 169] rfl (by decide +kernel)
set_option maxRecDepth 20000 in
theorem gX2_obey_X1_trimPlace : GoodIn wsX2_obey (wsV RX2 60 RX1 yX1_trimPlace wsX1_trimPlace) := goodIn_app (goodIn_of _ (by decide +kernel)) ggX2_obey_X1_trimPlace
set_option maxRecDepth 20000 in
theorem ggX2_obey_X1_sweepVolume : GoodIn wsX2_obey wsX1_sweepVolume := goodIn_r _ [125, 9, 11, 21, 22, 23, 7, 24, 20, 25, 26, 27, 28, 15, 16, 17, 18, 19, 29, 30, 31, 32, 93, 94, 95, 96, 10, 97, 117, 118, 119, 120, 13, 121, 87, 68, 88, 156, 157, 158, 159, 160, 161, 162, 163, 164, 165, 166, 167, 168, 169] rfl (by decide +kernel)
set_option maxRecDepth 20000 in
theorem gX2_obey_X1_sweepVolume : GoodIn wsX2_obey (wsV RX2 64 RX1 yX1_sweepVolume wsX1_sweepVolume) := goodIn_app (goodIn_of _ (by decide +kernel)) ggX2_obey_X1_sweepVolume
set_option maxRecDepth 20000 in
theorem ggX2_obey_X1_cloneVolume : GoodIn wsX2_obey wsX1_cloneVolume := goodIn_r _ [129, 9, 20, 130, 15, 10, 21, 22, 23, 7, 24, 131, 132, 133, 134, 13, 12, 70, 102, 135, 25, 26, 27, 28, 16, 17, 18, 19, 29, 30, 31, 32, 156, 157, 158, 159, 160, 161, 162, 163, 164, 165, 166, 167, 168, 169] rfl (by decide +kernel)
set_option maxRecDepth 20000 in
theorem gX2_obey_X1_cloneVolume : GoodIn wsX2_obey (wsV RX2 67 RX1 yX1_cloneVolume wsX1_cloneVolume) := goodIn_app (goodIn_of _ (by decide +kernel)) ggX2_obey_X1_cloneVolume
set_option maxRecDepth 20000 in
theorem ggX2_obey_X1_dropVolume : GoodIn wsX2_obey wsX1_dropVolume := goodIn_r _ [139, 9, 130, 12, 20, 21, 22, 23, 7, 24, 93, 94, 95, 96, 15, 10, 97, 25, 26, 27, 28, 16, 17, 18, 19, 29, 30, 31, 32, 156, 157, 158, 159, 160, 161, 162, 163, 164, 165, 166, 167, 168, 169] rfl (by decide +kernel)
set_option maxRecDepth 20000 in
theorem gX2_obey_X1_dropVolume : GoodIn wsX2_obey (wsV RX2 70 RX1 yX1_dropVolume wsX1_dropVolume) := goodIn_app (goodIn_of _ (by decide +kernel)) ggX2_obey_X1_dropVolume
set_option maxRecDepth 20000 in
theorem ggX2_obey_X1_mergePieces : GoodIn wsX2_obey wsX1_mergePieces := goodIn_r _ [143, 10, 11, 97, 144, 145, 146, 7, 147, 15, 156, 157, 158, 159, 160, 161, 162, 163, 164, 165, 166, 167, 168, 169] rfl (by decide +kernel)
set_option maxRecDepth 20000 in
theorem gX2_obey_X1_mergePieces : GoodIn wsX2_obey (wsV RX2 73 RX1 yX1_mergePieces wsX1_mergePieces) := goodIn_app (goodIn_of _ (by decide +kernel)) ggX2_obey_X1_mergePieces
theorem dX2_obey_0 : decode cX2_obey 0 = .ok (.aload_n 1, 1) := by decide +kernel
theorem dX2_obey_1 : decode cX2_obey 1 = .ok (.getfield 49, 3) := by decide +kernel
theorem dX2_obey_4 : decode cX2_obey 4 = .ok (.iconst 0, 1) := by decide +kernel
theorem dX2_obey_5 : decode cX2_obey 5 = .ok (.iaload, 1) := by decide +kernel
theorem dX2_obey_6 : decode cX2_obey 6 = .ok (.istore_n 2, 1) := by decide +kernel
theorem dX2_obey_7 : decode cX2_obey 7 = .ok (.aload_n 1, 1) := by decide +kernel
theorem dX2_obey_8 : decode cX2_obey 8 = .ok (.getfield 53, 3) := by decide +kernel
theorem dX2_obey_11 : decode cX2_obey 11 = .ok (.lookupswitch 112 #[(99, 94), (100, 103), (115, 85), (116, 70), (119, 49)], 49) := by decide +kernel
theorem dX2_obey_60 : decode cX2_obey 60 = .ok (.aload_n 0, 1) := by decide +kernel
theorem dX2_obey_61 : decode cX2_obey 61 = .ok (.getfield 12, 3) := by decide +kernel
theorem dX2_obey_64 : decode cX2_obey 64 = .ok (.iload_n 2, 1) := by decide +kernel
theorem dX2_obey_65 : decode cX2_obey 65 = .ok (.aload_n 1, 1) := by decide +kernel
theorem dX2_obey_66 : decode cX2_obey 66 = .ok (.getfield 49, 3) := by decide +kernel
theorem dX2_obey_69 : decode cX2_obey 69 = .ok (.iconst 1, 1) := by decide +kernel
theorem dX2_obey_70 : decode cX2_obey 70 = .ok (.iaload, 1) := by decide +kernel
theorem dX2_obey_71 : decode cX2_obey 71 = .ok (.aload_n 1, 1) := by decide +kernel
theorem dX2_obey_72 : decode cX2_obey 72 = .ok (.getfield 49, 3) := by decide +kernel
theorem dX2_obey_75 : decode cX2_obey 75 = .ok (.iconst 2, 1) := by decide +kernel
theorem dX2_obey_76 : decode cX2_obey 76 = .ok (.iaload, 1) := by decide +kernel
theorem dX2_obey_77 : decode cX2_obey 77 = .ok (.invokevirtual 56, 3) := by decide +kernel
theorem dX2_obey_80 : decode cX2_obey 80 = .ok (.ireturn, 1) := by decide +kernel
theorem dX2_obey_81 : decode cX2_obey 81 = .ok (.aload_n 0, 1) := by decide +kernel
theorem dX2_obey_82 : decode cX2_obey 82 = .ok (.getfield 12, 3) := by decide +kernel
theorem dX2_obey_85 : decode cX2_obey 85 = .ok (.iload_n 2, 1) := by decide +kernel
theorem dX2_obey_86 : decode cX2_obey 86 = .ok (.aload_n 1, 1) := by decide +kernel
theorem dX2_obey_87 : decode cX2_obey 87 = .ok (.getfield 49, 3) := by decide +kernel
theorem dX2_obey_90 : decode cX2_obey 90 = .ok (.iconst 1, 1) := by decide +kernel
theorem dX2_obey_91 : decode cX2_obey 91 = .ok (.iaload, 1) := by decide +kernel
theorem dX2_obey_92 : decode cX2_obey 92 = .ok (.invokevirtual 60, 3) := by decide +kernel
theorem dX2_obey_95 : decode cX2_obey 95 = .ok (.ireturn, 1) := by decide +kernel
theorem dX2_obey_96 : decode cX2_obey 96 = .ok (.aload_n 0, 1) := by decide +kernel
theorem dX2_obey_97 : decode cX2_obey 97 = .ok (.getfield 12, 3) := by decide +kernel
theorem dX2_obey_100 : decode cX2_obey 100 = .ok (.iload_n 2, 1) := by decide +kernel
theorem dX2_obey_101 : decode cX2_obey 101 = .ok (.invokevirtual 64, 3) := by decide +kernel
theorem dX2_obey_104 : decode cX2_obey 104 = .ok (.ireturn, 1) := by decide +kernel
theorem dX2_obey_105 : decode cX2_obey 105 = .ok (.aload_n 0, 1) := by decide +kernel
theorem dX2_obey_106 : decode cX2_obey 106 = .ok (.getfield 12, 3) := by decide +kernel
theorem dX2_obey_109 : decode cX2_obey 109 = .ok (.iload_n 2, 1) := by decide +kernel
theorem dX2_obey_110 : decode cX2_obey 110 = .ok (.invokevirtual 67, 3) := by decide +kernel
theorem dX2_obey_113 : decode cX2_obey 113 = .ok (.ireturn, 1) := by decide +kernel
theorem dX2_obey_114 : decode cX2_obey 114 = .ok (.aload_n 0, 1) := by decide +kernel
theorem dX2_obey_115 : decode cX2_obey 115 = .ok (.getfield 12, 3) := by decide +kernel
theorem dX2_obey_118 : decode cX2_obey 118 = .ok (.iload_n 2, 1) := by decide +kernel
theorem dX2_obey_119 : decode cX2_obey 119 = .ok (.invokevirtual 70, 3) := by decide +kernel
theorem dX2_obey_122 : decode cX2_obey 122 = .ok (.ireturn, 1) := by decide +kernel
theorem dX2_obey_123 : decode cX2_obey 123 = .ok (.aload_n 0, 1) := by decide +kernel
theorem dX2_obey_124 : decode cX2_obey 124 = .ok (.getfield 12, 3) := by decide +kernel
theorem dX2_obey_127 : decode cX2_obey 127 = .ok (.invokevirtual 73, 3) := by decide +kernel
theorem dX2_obey_130 : decode cX2_obey 130 = .ok (.ireturn, 1) := by decide +kernel
set_option maxRecDepth 20000 in
theorem ggX2_reasonOf_X5_isError : GoodIn wsX2_reasonOf wsX5_isError := goodIn_r _ [4, 5, 6, 7, 8] rfl (by decide +kernel)
set_option maxRecDepth 20000 in
theorem gX2_reasonOf_X5_isError_n78 : GoodIn wsX2_reasonOf (wsX5_isError) := ggX2_reasonOf_X5_isError
theorem dX2_reasonOf_0 : decode cX2_reasonOf 0 = .ok (.iload_n 1, 1) := by decide +kernel
theorem dX2_reasonOf_1 : decode cX2_reasonOf 1 = .ok (.ldc 77, 2) := by decide +kernel
theorem dX2_reasonOf_3 : decode cX2_reasonOf 3 = .ok (.if_icmp .ne 5, 3) := by decide +kernel
theorem dX2_reasonOf_6 : decode cX2_reasonOf 6 = .ok (.iconst 2, 1) := by decide +kernel
theorem dX2_reasonOf_7 : decode cX2_reasonOf 7 = .ok (.ireturn, 1) := by decide +kernel
theorem dX2_reasonOf_8 : decode cX2_reasonOf 8 = .ok (.iload_n 1, 1) := by decide +kernel
theorem dX2_reasonOf_9 : decode cX2_reasonOf 9 = .ok (.invokestatic 78, 3) := by decide +kernel
theorem dX2_reasonOf_12 : decode cX2_reasonOf 12 = .ok (.ifCond .eq 7, 3) := by decide +kernel
theorem dX2_reasonOf_15 : decode cX2_reasonOf 15 = .ok (.iconst 3, 1) := by decide +kernel
theorem dX2_reasonOf_16 : decode cX2_reasonOf 16 = .ok (.goto 4, 3) := by decide +kernel
theorem dX2_reasonOf_19 : decode cX2_reasonOf 19 = .ok (.iconst 0, 1) := by decide +kernel
theorem dX2_reasonOf_20 : decode cX2_reasonOf 20 = .ok (.ireturn, 1) := by decide +kernel
theorem dX3_init_0 : decode cX3_init 0 = .ok (.aload_n 0, 1) := by decide +kernel
theorem dX3_init_1 : decode cX3_init 1 = .ok (.invokespecial 3, 3) := by decide +kernel
theorem dX3_init_4 : decode cX3_init 4 = .ok (.aload_n 0, 1) := by decide +kernel
theorem dX3_init_5 : decode cX3_init 5 = .ok (.bipush 60, 2) := by decide +kernel
theorem dX3_init_7 : decode cX3_init 7 = .ok (.newarray .int, 2) := by decide +kernel
theorem dX3_init_9 : decode cX3_init 9 = .ok (.putfield 9, 3) := by decide +kernel
theorem dX3_init_12 : decode cX3_init 12 = .ok (.aload_n 0, 1) := by decide +kernel
theorem dX3_init_13 : decode cX3_init 13 = .ok (.iconst 3, 1) := by decide +kernel
theorem dX3_init_14 : decode cX3_init 14 = .ok (.newarray .int, 2) := by decide +kernel
theorem dX3_init_16 : decode cX3_init 16 = .ok (.putfield 15, 3) := by decide +kernel
theorem dX3_init_19 : decode cX3_init 19 = .ok (.return_, 1) := by decide +kernel
theorem dX3_append_0 : decode cX3_append 0 = .ok (.aload_n 0, 1) := by decide +kernel
theorem dX3_append_1 : decode cX3_append 1 = .ok (.getfield 18, 3) := by decide +kernel
theorem dX3_append_4 : decode cX3_append 4 = .ok (.ifCond .lt 12, 3) := by decide +kernel
theorem dX3_append_7 : decode cX3_append 7 = .ok (.aload_n 0, 1) := by decide +kernel
theorem dX3_append_8 : decode cX3_append 8 = .ok (.getfield 18, 3) := by decide +kernel
theorem dX3_append_11 : decode cX3_append 11 = .ok (.bipush 60, 2) := by decide +kernel
theorem dX3_append_13 : decode cX3_append 13 = .ok (.if_icmp .lt 5, 3) := by decide +kernel
theorem dX3_append_16 : decode cX3_append 16 = .ok (.iconst 0, 1) := by decide +kernel
theorem dX3_append_17 : decode cX3_append 17 = .ok (.ireturn, 1) := by decide +kernel
theorem dX3_append_18 : decode cX3_append 18 = .ok (.aload_n 0, 1) := by decide +kernel
theorem dX3_append_19 : decode cX3_append 19 = .ok (.getfield 9, 3) := by decide +kernel
theorem dX3_append_22 : decode cX3_append 22 = .ok (.aload_n 0, 1) := by decide +kernel
theorem dX3_append_23 : decode cX3_append 23 = .ok (.getfield 18, 3) := by decide +kernel
theorem dX3_append_26 : decode cX3_append 26 = .ok (.iload_n 1, 1) := by decide +kernel
theorem dX3_append_27 : decode cX3_append 27 = .ok (.iastore, 1) := by decide +kernel
theorem dX3_append_28 : decode cX3_append 28 = .ok (.aload_n 0, 1) := by decide +kernel
theorem dX3_append_29 : decode cX3_append 29 = .ok (.dup, 1) := by decide +kernel
theorem dX3_append_30 : decode cX3_append 30 = .ok (.getfield 18, 3) := by decide +kernel
theorem dX3_append_33 : decode cX3_append 33 = .ok (.iconst 1, 1) := by decide +kernel
theorem dX3_append_34 : decode cX3_append 34 = .ok (.iadd, 1) := by decide +kernel
theorem dX3_append_35 : decode cX3_append 35 = .ok (.putfield 18, 3) := by decide +kernel
theorem dX3_append_38 : decode cX3_append 38 = .ok (.iconst 1, 1) := by decide +kernel
theorem dX3_append_39 : decode cX3_append 39 = .ok (.ireturn, 1) := by decide +kernel
set_option maxRecDepth 20000 in
theorem ggX3_readOrder_X3_signHere : GoodIn wsX3_readOrder wsX3_signHere := goodIn_r _ [8, 1, 9, 10, 27, 28, 29, 30, 31] rfl (by decide +kernel)
set_option maxRecDepth 20000 in
theorem gX3_readOrder_X3_signHere : GoodIn wsX3_readOrder (wsV RX3 25 RX3 yX3_signHere wsX3_signHere) := goodIn_app (goodIn_of _ (by decide +kernel)) ggX3_readOrder_X3_signHere
set_option maxRecDepth 20000 in
theorem ggX3_readOrder_X3_numbersDue : GoodIn wsX3_readOrder wsX3_numbersDue := goodIn_r _ [14] rfl (by decide +kernel)
set_option maxRecDepth 20000 in
theorem gX3_readOrder_X3_numbersDue : GoodIn wsX3_readOrder (wsV RX3 32 RX3 yX3_numbersDue wsX3_numbersDue) := goodIn_app (goodIn_of _ (by decide +kernel)) ggX3_readOrder_X3_numbersDue
set_option maxRecDepth 20000 in
theorem ggX3_readOrder_X3_passes : GoodIn wsX3_readOrder wsX3_passes := goodIn_r _ [18, 1, 4, 5, 6, 7, 8, 9, 10, 27, 28, 29, 30, 31] rfl (by decide +kernel)
set_option maxRecDepth 20000 in
theorem gX3_readOrder_X3_passes : GoodIn wsX3_readOrder (wsV RX3 36 RX3 yX3_passes wsX3_passes) := goodIn_app (goodIn_of _ (by decide +kernel)) ggX3_readOrder_X3_passes
set_option maxRecDepth 20000 in
theorem ggX3_readOrder_X3_readNumber : GoodIn wsX3_readOrder wsX3_readNumber := goodIn_r _ [22, 23, 24, 25, 7, 26, 1, 4, 5, 6, 8, 9, 10, 27, 28, 29, 30, 31] rfl (by decide +kernel)
set_option maxRecDepth 20000 in
theorem gX3_readOrder_X3_readNumber : GoodIn wsX3_readOrder (wsV RX3 40 RX3 yX3_readNumber wsX3_readNumber) := goodIn_app (goodIn_of _ (by decide +kernel)) ggX3_readOrder_X3_readNumber
theorem dX3_readOrder_0 : decode cX3_readOrder 0 = .ok (.aload_n 0, 1) := by decide +kernel
theorem dX3_readOrder_1 : decode cX3_readOrder 1 = .ok (.iload_n 1, 1) := by decide +kernel
theorem dX3_readOrder_2 : decode cX3_readOrder 2 = .ok (.putfield 22, 3) := by decide +kernel
theorem dX3_readOrder_5 : decode cX3_readOrder 5 = .ok (.aload_n 0, 1) := by decide +kernel
theorem dX3_readOrder_6 : decode cX3_readOrder 6 = .ok (.aload_n 0, 1) := by decide +kernel
theorem dX3_readOrder_7 : decode cX3_readOrder 7 = .ok (.invokevirtual 25, 3) := by decide +kernel
theorem dX3_readOrder_10 : decode cX3_readOrder 10 = .ok (.putfield 29, 3) := by decide +kernel
theorem dX3_readOrder_13 : decode cX3_readOrder 13 = .ok (.aload_n 0, 1) := by decide +kernel
theorem dX3_readOrder_14 : decode cX3_readOrder 14 = .ok (.dup, 1) := by decide +kernel
theorem dX3_readOrder_15 : decode cX3_readOrder 15 = .ok (.getfield 22, 3) := by decide +kernel
theorem dX3_readOrder_18 : decode cX3_readOrder 18 = .ok (.iconst 1, 1) := by decide +kernel
theorem dX3_readOrder_19 : decode cX3_readOrder 19 = .ok (.iadd, 1) := by decide +kernel
theorem dX3_readOrder_20 : decode cX3_readOrder 20 = .ok (.putfield 22, 3) := by decide +kernel
theorem dX3_readOrder_23 : decode cX3_readOrder 23 = .ok (.aload_n 0, 1) := by decide +kernel
theorem dX3_readOrder_24 : decode cX3_readOrder 24 = .ok (.aload_n 0, 1) := by decide +kernel
theorem dX3_readOrder_25 : decode cX3_readOrder 25 = .ok (.getfield 29, 3) := by decide +kernel
theorem dX3_readOrder_28 : decode cX3_readOrder 28 = .ok (.invokevirtual 32, 3) := by decide +kernel
theorem dX3_readOrder_31 : decode cX3_readOrder 31 = .ok (.istore_n 2, 1) := by decide +kernel
theorem dX3_readOrder_32 : decode cX3_readOrder 32 = .ok (.iload_n 2, 1) := by decide +kernel
theorem dX3_readOrder_33 : decode cX3_readOrder 33 = .ok (.iconst (-1), 1) := by decide +kernel
theorem dX3_readOrder_34 : decode cX3_readOrder 34 = .ok (.if_icmp .ne 5, 3) := by decide +kernel
theorem dX3_readOrder_37 : decode cX3_readOrder 37 = .ok (.iconst 0, 1) := by decide +kernel
theorem dX3_readOrder_38 : decode cX3_readOrder 38 = .ok (.ireturn, 1) := by decide +kernel
theorem dX3_readOrder_39 : decode cX3_readOrder 39 = .ok (.iconst 0, 1) := by decide +kernel
theorem dX3_readOrder_40 : decode cX3_readOrder 40 = .ok (.istore_n 3, 1) := by decide +kernel
theorem dX3_readOrder_41 : decode cX3_readOrder 41 = .ok (.iload_n 3, 1) := by decide +kernel
theorem dX3_readOrder_42 : decode cX3_readOrder 42 = .ok (.iload_n 2, 1) := by decide +kernel
theorem dX3_readOrder_43 : decode cX3_readOrder 43 = .ok (.if_icmp .ge 51, 3) := by decide +kernel
theorem dX3_readOrder_46 : decode cX3_readOrder 46 = .ok (.iload_n 3, 1) := by decide +kernel
theorem dX3_readOrder_47 : decode cX3_readOrder 47 = .ok (.iconst 3, 1) := by decide +kernel
theorem dX3_readOrder_48 : decode cX3_readOrder 48 = .ok (.if_icmp .ge 46, 3) := by decide +kernel
theorem dX3_readOrder_51 : decode cX3_readOrder 51 = .ok (.iload_n 3, 1) := by decide +kernel
theorem dX3_readOrder_52 : decode cX3_readOrder 52 = .ok (.ifCond .le 14, 3) := by decide +kernel
theorem dX3_readOrder_55 : decode cX3_readOrder 55 = .ok (.aload_n 0, 1) := by decide +kernel
theorem dX3_readOrder_56 : decode cX3_readOrder 56 = .ok (.bipush 44, 2) := by decide +kernel
theorem dX3_readOrder_58 : decode cX3_readOrder 58 = .ok (.invokevirtual 36, 3) := by decide +kernel
theorem dX3_readOrder_61 : decode cX3_readOrder 61 = .ok (.ifCond .ne 5, 3) := by decide +kernel
theorem dX3_readOrder_64 : decode cX3_readOrder 64 = .ok (.iconst 0, 1) := by decide +kernel
theorem dX3_readOrder_65 : decode cX3_readOrder 65 = .ok (.ireturn, 1) := by decide +kernel
theorem dX3_readOrder_66 : decode cX3_readOrder 66 = .ok (.aload_n 0, 1) := by decide +kernel
theorem dX3_readOrder_67 : decode cX3_readOrder 67 = .ok (.getfield 15, 3) := by decide +kernel
theorem dX3_readOrder_70 : decode cX3_readOrder 70 = .ok (.iload_n 3, 1) := by decide +kernel
theorem dX3_readOrder_71 : decode cX3_readOrder 71 = .ok (.aload_n 0, 1) := by decide +kernel
theorem dX3_readOrder_72 : decode cX3_readOrder 72 = .ok (.invokevirtual 40, 3) := by decide +kernel
theorem dX3_readOrder_75 : decode cX3_readOrder 75 = .ok (.iastore, 1) := by decide +kernel
theorem dX3_readOrder_76 : decode cX3_readOrder 76 = .ok (.aload_n 0, 1) := by decide +kernel
theorem dX3_readOrder_77 : decode cX3_readOrder 77 = .ok (.getfield 15, 3) := by decide +kernel
theorem dX3_readOrder_80 : decode cX3_readOrder 80 = .ok (.iload_n 3, 1) := by decide +kernel
theorem dX3_readOrder_81 : decode cX3_readOrder 81 = .ok (.iaload, 1) := by decide +kernel
theorem dX3_readOrder_82 : decode cX3_readOrder 82 = .ok (.iconst (-1), 1) := by decide +kernel
theorem dX3_readOrder_83 : decode cX3_readOrder 83 = .ok (.if_icmp .ne 5, 3) := by decide +kernel
theorem dX3_readOrder_86 : decode cX3_readOrder 86 = .ok (.iconst 0, 1) := by decide +kernel
theorem dX3_readOrder_87 : decode cX3_readOrder 87 = .ok (.ireturn, 1) := by decide +kernel
theorem dX3_readOrder_88 : decode cX3_readOrder 88 = .ok (.iinc 3 1, 3) := by decide +kernel
theorem dX3_readOrder_91 : decode cX3_readOrder 91 = .ok (.goto (-50), 3) := by decide +kernel
theorem dX3_readOrder_94 : decode cX3_readOrder 94 = .ok (.aload_n 0, 1) := by decide +kernel
theorem dX3_readOrder_95 : decode cX3_readOrder 95 = .ok (.bipush 59, 2) := by decide +kernel
theorem dX3_readOrder_97 : decode cX3_readOrder 97 = .ok (.invokevirtual 36, 3) := by decide +kernel
theorem dX3_readOrder_100 : decode cX3_readOrder 100 = .ok (.ireturn, 1) := by decide +kernel
theorem dX3_numbersDue_0 : decode cX3_numbersDue 0 = .ok (.iload_n 1, 1) := by decide +kernel
theorem dX3_numbersDue_1 : decode cX3_numbersDue 1 = .ok (.lookupswitch 67 #[(99, 63), (100, 63), (109, 65), (115, 63), (116, 61), (119, 59)], 59) := by decide +kernel
theorem dX3_numbersDue_60 : decode cX3_numbersDue 60 = .ok (.iconst 3, 1) := by decide +kernel
theorem dX3_numbersDue_61 : decode cX3_numbersDue 61 = .ok (.ireturn, 1) := by decide +kernel
theorem dX3_numbersDue_62 : decode cX3_numbersDue 62 = .ok (.iconst 2, 1) := by decide +kernel
theorem dX3_numbersDue_63 : decode cX3_numbersDue 63 = .ok (.ireturn, 1) := by decide +kernel
theorem dX3_numbersDue_64 : decode cX3_numbersDue 64 = .ok (.iconst 1, 1) := by decide +kernel
theorem dX3_numbersDue_65 : decode cX3_numbersDue 65 = .ok (.ireturn, 1) := by decide +kernel
theorem dX3_numbersDue_66 : decode cX3_numbersDue 66 = .ok (.iconst 0, 1) := by decide +kernel
theorem dX3_numbersDue_67 : decode cX3_numbersDue 67 = .ok (.ireturn, 1) := by decide +kernel
theorem dX3_numbersDue_68 : decode cX3_numbersDue 68 = .ok (.iconst (-1), 1) := by decide +kernel
theorem dX3_numbersDue_69 : decode cX3_numbersDue 69 = .ok (.ireturn, 1) := by decide +kernel
theorem dX3_signHere_0 : decode cX3_signHere 0 = .ok (.aload_n 0, 1) := by decide +kernel
theorem dX3_signHere_1 : decode cX3_signHere 1 = .ok (.getfield 22, 3) := by decide +kernel
theorem dX3_signHere_4 : decode cX3_signHere 4 = .ok (.ifCond .lt 35, 3) := by decide +kernel
theorem dX3_signHere_7 : decode cX3_signHere 7 = .ok (.aload_n 0, 1) := by decide +kernel
theorem dX3_signHere_8 : decode cX3_signHere 8 = .ok (.getfield 22, 3) := by decide +kernel
theorem dX3_signHere_11 : decode cX3_signHere 11 = .ok (.aload_n 0, 1) := by decide +kernel
theorem dX3_signHere_12 : decode cX3_signHere 12 = .ok (.getfield 18, 3) := by decide +kernel
theorem dX3_signHere_15 : decode cX3_signHere 15 = .ok (.if_icmp .ge 24, 3) := by decide +kernel
theorem dX3_signHere_18 : decode cX3_signHere 18 = .ok (.aload_n 0, 1) := by decide +kernel
theorem dX3_signHere_19 : decode cX3_signHere 19 = .ok (.getfield 22, 3) := by decide +kernel
theorem dX3_signHere_22 : decode cX3_signHere 22 = .ok (.bipush 60, 2) := by decide +kernel
theorem dX3_signHere_24 : decode cX3_signHere 24 = .ok (.if_icmp .ge 15, 3) := by decide +kernel
theorem dX3_signHere_27 : decode cX3_signHere 27 = .ok (.aload_n 0, 1) := by decide +kernel
theorem dX3_signHere_28 : decode cX3_signHere 28 = .ok (.getfield 9, 3) := by decide +kernel
theorem dX3_signHere_31 : decode cX3_signHere 31 = .ok (.aload_n 0, 1) := by decide +kernel
theorem dX3_signHere_32 : decode cX3_signHere 32 = .ok (.getfield 22, 3) := by decide +kernel
theorem dX3_signHere_35 : decode cX3_signHere 35 = .ok (.iaload, 1) := by decide +kernel
theorem dX3_signHere_36 : decode cX3_signHere 36 = .ok (.goto 4, 3) := by decide +kernel
theorem dX3_signHere_39 : decode cX3_signHere 39 = .ok (.iconst (-1), 1) := by decide +kernel
theorem dX3_signHere_40 : decode cX3_signHere 40 = .ok (.ireturn, 1) := by decide +kernel
set_option maxRecDepth 20000 in
theorem ggX3_passes_X3_signHere : GoodIn wsX3_passes wsX3_signHere := goodIn_r _ [6, 1, 7, 8, 9, 10, 11, 12, 13] rfl (by decide +kernel)
set_option maxRecDepth 20000 in
theorem gX3_passes_X3_signHere : GoodIn wsX3_passes (wsV RX3 25 RX3 yX3_signHere wsX3_signHere) := goodIn_app (goodIn_of _ (by decide +kernel)) ggX3_passes_X3_signHere
theorem dX3_passes_0 : decode cX3_passes 0 = .ok (.aload_n 0, 1) := by decide +kernel
theorem dX3_passes_1 : decode cX3_passes 1 = .ok (.invokevirtual 25, 3) := by decide +kernel
theorem dX3_passes_4 : decode cX3_passes 4 = .ok (.iload_n 1, 1) := by decide +kernel
theorem dX3_passes_5 : decode cX3_passes 5 = .ok (.if_icmp .eq 5, 3) := by decide +kernel
theorem dX3_passes_8 : decode cX3_passes 8 = .ok (.iconst 0, 1) := by decide +kernel
theorem dX3_passes_9 : decode cX3_passes 9 = .ok (.ireturn, 1) := by decide +kernel
theorem dX3_passes_10 : decode cX3_passes 10 = .ok (.aload_n 0, 1) := by decide +kernel
theorem dX3_passes_11 : decode cX3_passes 11 = .ok (.dup, 1) := by decide +kernel
theorem dX3_passes_12 : decode cX3_passes 12 = .ok (.getfield 22, 3) := by decide +kernel
theorem dX3_passes_15 : decode cX3_passes 15 = .ok (.iconst 1, 1) := by decide +kernel
theorem dX3_passes_16 : decode cX3_passes 16 = .ok (.iadd, 1) := by decide +kernel
theorem dX3_passes_17 : decode cX3_passes 17 = .ok (.putfield 22, 3) := by decide +kernel
theorem dX3_passes_20 : decode cX3_passes 20 = .ok (.iconst 1, 1) := by decide +kernel
theorem dX3_passes_21 : decode cX3_passes 21 = .ok (.ireturn, 1) := by decide +kernel
set_option maxRecDepth 20000 in
theorem ggX3_readNumber_X3_readDigit : GoodIn wsX3_readNumber wsX3_readDigit := goodIn_r _ [5, 6, 7, 8, 9, 4, 10, 11, 12, 13, 14, 15, 16, 17] rfl (by decide +kernel)
set_option maxRecDepth 20000 in
theorem gX3_readNumber_X3_readDigit : GoodIn wsX3_readNumber (wsV RX3 43 RX3 yX3_readDigit wsX3_readDigit) := goodIn_app (goodIn_of _ (by decide +kernel)) ggX3_readNumber_X3_readDigit
theorem dX3_readNumber_0 : decode cX3_readNumber 0 = .ok (.aload_n 0, 1) := by decide +kernel
theorem dX3_readNumber_1 : decode cX3_readNumber 1 = .ok (.invokevirtual 43, 3) := by decide +kernel
theorem dX3_readNumber_4 : decode cX3_readNumber 4 = .ok (.istore_n 1, 1) := by decide +kernel
theorem dX3_readNumber_5 : decode cX3_readNumber 5 = .ok (.iload_n 1, 1) := by decide +kernel
theorem dX3_readNumber_6 : decode cX3_readNumber 6 = .ok (.iconst (-1), 1) := by decide +kernel
theorem dX3_readNumber_7 : decode cX3_readNumber 7 = .ok (.if_icmp .ne 5, 3) := by decide +kernel
theorem dX3_readNumber_10 : decode cX3_readNumber 10 = .ok (.iconst (-1), 1) := by decide +kernel
theorem dX3_readNumber_11 : decode cX3_readNumber 11 = .ok (.ireturn, 1) := by decide +kernel
theorem dX3_readNumber_12 : decode cX3_readNumber 12 = .ok (.aload_n 0, 1) := by decide +kernel
theorem dX3_readNumber_13 : decode cX3_readNumber 13 = .ok (.invokevirtual 43, 3) := by decide +kernel
theorem dX3_readNumber_16 : decode cX3_readNumber 16 = .ok (.istore_n 2, 1) := by decide +kernel
theorem dX3_readNumber_17 : decode cX3_readNumber 17 = .ok (.iload_n 2, 1) := by decide +kernel
theorem dX3_readNumber_18 : decode cX3_readNumber 18 = .ok (.iconst (-1), 1) := by decide +kernel
theorem dX3_readNumber_19 : decode cX3_readNumber 19 = .ok (.if_icmp .ne 7, 3) := by decide +kernel
theorem dX3_readNumber_22 : decode cX3_readNumber 22 = .ok (.iload_n 1, 1) := by decide +kernel
theorem dX3_readNumber_23 : decode cX3_readNumber 23 = .ok (.goto 9, 3) := by decide +kernel
theorem dX3_readNumber_26 : decode cX3_readNumber 26 = .ok (.iload_n 1, 1) := by decide +kernel
theorem dX3_readNumber_27 : decode cX3_readNumber 27 = .ok (.bipush 10, 2) := by decide +kernel
theorem dX3_readNumber_29 : decode cX3_readNumber 29 = .ok (.imul, 1) := by decide +kernel
theorem dX3_readNumber_30 : decode cX3_readNumber 30 = .ok (.iload_n 2, 1) := by decide +kernel
theorem dX3_readNumber_31 : decode cX3_readNumber 31 = .ok (.iadd, 1) := by decide +kernel
theorem dX3_readNumber_32 : decode cX3_readNumber 32 = .ok (.ireturn, 1) := by decide +kernel
set_option maxRecDepth 20000 in
theorem ggX3_readDigit_X3_signHere : GoodIn wsX3_readDigit wsX3_signHere := goodIn_r _ [6, 1, 7, 8, 9, 10, 11, 12, 13] rfl (by decide +kernel)
set_option maxRecDepth 20000 in
theorem gX3_readDigit_X3_signHere : GoodIn wsX3_readDigit (wsV RX3 25 RX3 yX3_signHere wsX3_signHere) := goodIn_app (goodIn_of _ (by decide +kernel)) ggX3_readDigit_X3_signHere
theorem dX3_readDigit_0 : decode cX3_readDigit 0 = .ok (.aload_n 0, 1) := by decide +kernel
theorem dX3_readDigit_1 : decode cX3_readDigit 1 = .ok (.invokevirtual 25, 3) := by decide +kernel
theorem dX3_readDigit_4 : decode cX3_readDigit 4 = .ok (.istore_n 1, 1) := by decide +kernel
theorem dX3_readDigit_5 : decode cX3_readDigit 5 = .ok (.iload_n 1, 1) := by decide +kernel
theorem dX3_readDigit_6 : decode cX3_readDigit 6 = .ok (.bipush 48, 2) := by decide +kernel
theorem dX3_readDigit_8 : decode cX3_readDigit 8 = .ok (.if_icmp .lt 9, 3) := by decide +kernel
theorem dX3_readDigit_11 : decode cX3_readDigit 11 = .ok (.iload_n 1, 1) := by decide +kernel
theorem dX3_readDigit_12 : decode cX3_readDigit 12 = .ok (.bipush 57, 2) := by decide +kernel
theorem dX3_readDigit_14 : decode cX3_readDigit 14 = .ok (.if_icmp .le 5, 3) := by decide +kernel
theorem dX3_readDigit_17 : decode cX3_readDigit 17 = .ok (.iconst (-1), 1) := by decide +kernel
theorem dX3_readDigit_18 : decode cX3_readDigit 18 = .ok (.ireturn, 1) := by decide +kernel
theorem dX3_readDigit_19 : decode cX3_readDigit 19 = .ok (.aload_n 0, 1) := by decide +kernel
theorem dX3_readDigit_20 : decode cX3_readDigit 20 = .ok (.dup, 1) := by decide +kernel
theorem dX3_readDigit_21 : decode cX3_readDigit 21 = .ok (.getfield 22, 3) := by decide +kernel
theorem dX3_readDigit_24 : decode cX3_readDigit 24 = .ok (.iconst 1, 1) := by decide +kernel
theorem dX3_readDigit_25 : decode cX3_readDigit 25 = .ok (.iadd, 1) := by decide +kernel
theorem dX3_readDigit_26 : decode cX3_readDigit 26 = .ok (.putfield 22, 3) := by decide +kernel
theorem dX3_readDigit_29 : decode cX3_readDigit 29 = .ok (.iload_n 1, 1) := by decide +kernel
theorem dX3_readDigit_30 : decode cX3_readDigit 30 = .ok (.bipush 48, 2) := by decide +kernel
theorem dX3_readDigit_32 : decode cX3_readDigit 32 = .ok (.isub, 1) := by decide +kernel
theorem dX3_readDigit_33 : decode cX3_readDigit 33 = .ok (.ireturn, 1) := by decide +kernel
theorem dX4_init_0 : decode cX4_init 0 = .ok (.aload_n 0, 1) := by decide +kernel
theorem dX4_init_1 : decode cX4_init 1 = .ok (.invokespecial 3, 3) := by decide +kernel
theorem dX4_init_4 : decode cX4_init 4 = .ok (.aload_n 0, 1) := by decide +kernel
theorem dX4_init_5 : decode cX4_init 5 = .ok (.bipush 10, 2) := by decide +kernel
theorem dX4_init_7 : decode cX4_init 7 = .ok (.newarray .int, 2) := by decide +kernel
theorem dX4_init_9 : decode cX4_init 9 = .ok (.putfield 9, 3) := by decide +kernel
theorem dX4_init_12 : decode cX4_init 12 = .ok (.aload_n 0, 1) := by decide +kernel
theorem dX4_init_13 : decode cX4_init 13 = .ok (.bipush 10, 2) := by decide +kernel
theorem dX4_init_15 : decode cX4_init 15 = .ok (.newarray .int, 2) := by decide +kernel
theorem dX4_init_17 : decode cX4_init 17 = .ok (.putfield 15, 3) := by decide +kernel
theorem dX4_init_20 : decode cX4_init 20 = .ok (.aload_n 0, 1) := by decide +kernel
theorem dX4_init_21 : decode cX4_init 21 = .ok (.bipush 10, 2) := by decide +kernel
theorem dX4_init_23 : decode cX4_init 23 = .ok (.newarray .int, 2) := by decide +kernel
theorem dX4_init_25 : decode cX4_init 25 = .ok (.putfield 18, 3) := by decide +kernel
theorem dX4_init_28 : decode cX4_init 28 = .ok (.return_, 1) := by decide +kernel
theorem dX4_copyFrom_0 : decode cX4_copyFrom 0 = .ok (.aload_n 1, 1) := by decide +kernel
theorem dX4_copyFrom_1 : decode cX4_copyFrom 1 = .ok (.getfield 9, 3) := by decide +kernel
theorem dX4_copyFrom_4 : decode cX4_copyFrom 4 = .ok (.iconst 0, 1) := by decide +kernel
theorem dX4_copyFrom_5 : decode cX4_copyFrom 5 = .ok (.aload_n 0, 1) := by decide +kernel
theorem dX4_copyFrom_6 : decode cX4_copyFrom 6 = .ok (.getfield 9, 3) := by decide +kernel
theorem dX4_copyFrom_9 : decode cX4_copyFrom 9 = .ok (.iconst 0, 1) := by decide +kernel
theorem dX4_copyFrom_10 : decode cX4_copyFrom 10 = .ok (.bipush 10, 2) := by decide +kernel
theorem dX4_copyFrom_12 : decode cX4_copyFrom 12 = .ok (.invokestatic 21, 3) := by decide +kernel
theorem dX4_copyFrom_15 : decode cX4_copyFrom 15 = .ok (.aload_n 1, 1) := by decide +kernel
theorem dX4_copyFrom_16 : decode cX4_copyFrom 16 = .ok (.getfield 15, 3) := by decide +kernel
theorem dX4_copyFrom_19 : decode cX4_copyFrom 19 = .ok (.iconst 0, 1) := by decide +kernel
theorem dX4_copyFrom_20 : decode cX4_copyFrom 20 = .ok (.aload_n 0, 1) := by decide +kernel
theorem dX4_copyFrom_21 : decode cX4_copyFrom 21 = .ok (.getfield 15, 3) := by decide +kernel
theorem dX4_copyFrom_24 : decode cX4_copyFrom 24 = .ok (.iconst 0, 1) := by decide +kernel
theorem dX4_copyFrom_25 : decode cX4_copyFrom 25 = .ok (.bipush 10, 2) := by decide +kernel
theorem dX4_copyFrom_27 : decode cX4_copyFrom 27 = .ok (.invokestatic 21, 3) := by decide +kernel
theorem dX4_copyFrom_30 : decode cX4_copyFrom 30 = .ok (.aload_n 1, 1) := by decide +kernel
theorem dX4_copyFrom_31 : decode cX4_copyFrom 31 = .ok (.getfield 18, 3) := by decide +kernel
theorem dX4_copyFrom_34 : decode cX4_copyFrom 34 = .ok (.iconst 0, 1) := by decide +kernel
theorem dX4_copyFrom_35 : decode cX4_copyFrom 35 = .ok (.aload_n 0, 1) := by decide +kernel
theorem dX4_copyFrom_36 : decode cX4_copyFrom 36 = .ok (.getfield 18, 3) := by decide +kernel
theorem dX4_copyFrom_39 : decode cX4_copyFrom 39 = .ok (.iconst 0, 1) := by decide +kernel
theorem dX4_copyFrom_40 : decode cX4_copyFrom 40 = .ok (.bipush 10, 2) := by decide +kernel
theorem dX4_copyFrom_42 : decode cX4_copyFrom 42 = .ok (.invokestatic 21, 3) := by decide +kernel
theorem dX4_copyFrom_45 : decode cX4_copyFrom 45 = .ok (.aload_n 0, 1) := by decide +kernel
theorem dX4_copyFrom_46 : decode cX4_copyFrom 46 = .ok (.aload_n 1, 1) := by decide +kernel
theorem dX4_copyFrom_47 : decode cX4_copyFrom 47 = .ok (.getfield 27, 3) := by decide +kernel
theorem dX4_copyFrom_50 : decode cX4_copyFrom 50 = .ok (.putfield 27, 3) := by decide +kernel
theorem dX4_copyFrom_53 : decode cX4_copyFrom 53 = .ok (.return_, 1) := by decide +kernel
theorem dX4_add_0 : decode cX4_add 0 = .ok (.aload_n 0, 1) := by decide +kernel
theorem dX4_add_1 : decode cX4_add 1 = .ok (.getfield 9, 3) := by decide +kernel
theorem dX4_add_4 : decode cX4_add 4 = .ok (.iconst 0, 1) := by decide +kernel
theorem dX4_add_5 : decode cX4_add 5 = .ok (.aload_n 0, 1) := by decide +kernel
theorem dX4_add_6 : decode cX4_add 6 = .ok (.getfield 9, 3) := by decide +kernel
theorem dX4_add_9 : decode cX4_add 9 = .ok (.iconst 1, 1) := by decide +kernel
theorem dX4_add_10 : decode cX4_add 10 = .ok (.bipush 9, 2) := by decide +kernel
theorem dX4_add_12 : decode cX4_add 12 = .ok (.invokestatic 21, 3) := by decide +kernel
theorem dX4_add_15 : decode cX4_add 15 = .ok (.aload_n 0, 1) := by decide +kernel
theorem dX4_add_16 : decode cX4_add 16 = .ok (.getfield 15, 3) := by decide +kernel
theorem dX4_add_19 : decode cX4_add 19 = .ok (.iconst 0, 1) := by decide +kernel
theorem dX4_add_20 : decode cX4_add 20 = .ok (.aload_n 0, 1) := by decide +kernel
theorem dX4_add_21 : decode cX4_add 21 = .ok (.getfield 15, 3) := by decide +kernel
theorem dX4_add_24 : decode cX4_add 24 = .ok (.iconst 1, 1) := by decide +kernel
theorem dX4_add_25 : decode cX4_add 25 = .ok (.bipush 9, 2) := by decide +kernel
theorem dX4_add_27 : decode cX4_add 27 = .ok (.invokestatic 21, 3) := by decide +kernel
theorem dX4_add_30 : decode cX4_add 30 = .ok (.aload_n 0, 1) := by decide +kernel
theorem dX4_add_31 : decode cX4_add 31 = .ok (.getfield 18, 3) := by decide +kernel
theorem dX4_add_34 : decode cX4_add 34 = .ok (.iconst 0, 1) := by decide +kernel
theorem dX4_add_35 : decode cX4_add 35 = .ok (.aload_n 0, 1) := by decide +kernel
theorem dX4_add_36 : decode cX4_add 36 = .ok (.getfield 18, 3) := by decide +kernel
theorem dX4_add_39 : decode cX4_add 39 = .ok (.iconst 1, 1) := by decide +kernel
theorem dX4_add_40 : decode cX4_add 40 = .ok (.bipush 9, 2) := by decide +kernel
theorem dX4_add_42 : decode cX4_add 42 = .ok (.invokestatic 21, 3) := by decide +kernel
theorem dX4_add_45 : decode cX4_add 45 = .ok (.aload_n 0, 1) := by decide +kernel
theorem dX4_add_46 : decode cX4_add 46 = .ok (.getfield 9, 3) := by decide +kernel
theorem dX4_add_49 : decode cX4_add 49 = .ok (.iconst 0, 1) := by decide +kernel
theorem dX4_add_50 : decode cX4_add 50 = .ok (.iload_n 1, 1) := by decide +kernel
theorem dX4_add_51 : decode cX4_add 51 = .ok (.iastore, 1) := by decide +kernel
theorem dX4_add_52 : decode cX4_add 52 = .ok (.aload_n 0, 1) := by decide +kernel
theorem dX4_add_53 : decode cX4_add 53 = .ok (.getfield 15, 3) := by decide +kernel
theorem dX4_add_56 : decode cX4_add 56 = .ok (.iconst 0, 1) := by decide +kernel
theorem dX4_add_57 : decode cX4_add 57 = .ok (.iload_n 2, 1) := by decide +kernel
theorem dX4_add_58 : decode cX4_add 58 = .ok (.iastore, 1) := by decide +kernel
theorem dX4_add_59 : decode cX4_add 59 = .ok (.aload_n 0, 1) := by decide +kernel
theorem dX4_add_60 : decode cX4_add 60 = .ok (.getfield 18, 3) := by decide +kernel
theorem dX4_add_63 : decode cX4_add 63 = .ok (.iconst 0, 1) := by decide +kernel
theorem dX4_add_64 : decode cX4_add 64 = .ok (.iload_n 3, 1) := by decide +kernel
theorem dX4_add_65 : decode cX4_add 65 = .ok (.iastore, 1) := by decide +kernel
theorem dX4_add_66 : decode cX4_add 66 = .ok (.aload_n 0, 1) := by decide +kernel
theorem dX4_add_67 : decode cX4_add 67 = .ok (.aload_n 0, 1) := by decide +kernel
theorem dX4_add_68 : decode cX4_add 68 = .ok (.getfield 27, 3) := by decide +kernel
theorem dX4_add_71 : decode cX4_add 71 = .ok (.iconst 1, 1) := by decide +kernel
theorem dX4_add_72 : decode cX4_add 72 = .ok (.iadd, 1) := by decide +kernel
theorem dX4_add_73 : decode cX4_add 73 = .ok (.bipush 10, 2) := by decide +kernel
theorem dX4_add_75 : decode cX4_add 75 = .ok (.invokestatic 31, 3) := by decide +kernel
theorem dX4_add_78 : decode cX4_add 78 = .ok (.putfield 27, 3) := by decide +kernel
theorem dX4_add_81 : decode cX4_add 81 = .ok (.return_, 1) := by decide +kernel
theorem dX4_tell_0 : decode cX4_tell 0 = .ok (.iload_n 1, 1) := by decide +kernel
theorem dX4_tell_1 : decode cX4_tell 1 = .ok (.ifCond .lt 17, 3) := by decide +kernel
theorem dX4_tell_4 : decode cX4_tell 4 = .ok (.iload_n 1, 1) := by decide +kernel
theorem dX4_tell_5 : decode cX4_tell 5 = .ok (.aload_n 0, 1) := by decide +kernel
theorem dX4_tell_6 : decode cX4_tell 6 = .ok (.getfield 27, 3) := by decide +kernel
theorem dX4_tell_9 : decode cX4_tell 9 = .ok (.if_icmp .ge 9, 3) := by decide +kernel
theorem dX4_tell_12 : decode cX4_tell 12 = .ok (.iload_n 1, 1) := by decide +kernel
theorem dX4_tell_13 : decode cX4_tell 13 = .ok (.bipush 10, 2) := by decide +kernel
theorem dX4_tell_15 : decode cX4_tell 15 = .ok (.if_icmp .lt 6, 3) := by decide +kernel
theorem dX4_tell_18 : decode cX4_tell 18 = .ok (.ldc 37, 2) := by decide +kernel
theorem dX4_tell_20 : decode cX4_tell 20 = .ok (.ireturn, 1) := by decide +kernel
theorem dX4_tell_21 : decode cX4_tell 21 = .ok (.iload_n 2, 1) := by decide +kernel
theorem dX4_tell_22 : decode cX4_tell 22 = .ok (.lookupswitch 40 #[(0, 26), (1, 33)], 26) := by decide +kernel
theorem dX4_tell_48 : decode cX4_tell 48 = .ok (.aload_n 0, 1) := by decide +kernel
theorem dX4_tell_49 : decode cX4_tell 49 = .ok (.getfield 9, 3) := by decide +kernel
theorem dX4_tell_52 : decode cX4_tell 52 = .ok (.iload_n 1, 1) := by decide +kernel
theorem dX4_tell_53 : decode cX4_tell 53 = .ok (.iaload, 1) := by decide +kernel
theorem dX4_tell_54 : decode cX4_tell 54 = .ok (.ireturn, 1) := by decide +kernel
theorem dX4_tell_55 : decode cX4_tell 55 = .ok (.aload_n 0, 1) := by decide +kernel
theorem dX4_tell_56 : decode cX4_tell 56 = .ok (.getfield 15, 3) := by decide +kernel
theorem dX4_tell_59 : decode cX4_tell 59 = .ok (.iload_n 1, 1) := by decide +kernel
theorem dX4_tell_60 : decode cX4_tell 60 = .ok (.iaload, 1) := by decide +kernel
theorem dX4_tell_61 : decode cX4_tell 61 = .ok (.ireturn, 1) := by decide +kernel
theorem dX4_tell_62 : decode cX4_tell 62 = .ok (.aload_n 0, 1) := by decide +kernel
theorem dX4_tell_63 : decode cX4_tell 63 = .ok (.getfield 18, 3) := by decide +kernel
theorem dX4_tell_66 : decode cX4_tell 66 = .ok (.iload_n 1, 1) := by decide +kernel
theorem dX4_tell_67 : decode cX4_tell 67 = .ok (.iaload, 1) := by decide +kernel
theorem dX4_tell_68 : decode cX4_tell 68 = .ok (.ireturn, 1) := by decide +kernel
