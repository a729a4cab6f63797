theorem dX6_init_0 : decode cX6_init 0 = .ok (.aload_n 0, 1) := by decide +kernel
theorem dX6_init_1 : decode cX6_init 1 = .ok (.invokespecial 1, 3) := by decide +kernel
theorem dX6_init_4 : decode cX6_init 4 = .ok (.aload_n 0, 1) := by decide +kernel
theorem dX6_init_5 : decode cX6_init 5 = .ok (.sipush 443, 3) := by decide +kernel
theorem dX6_init_8 : decode cX6_init 8 = .ok (.newarray .int, 2) := by decide +kernel
theorem dX6_init_10 : decode cX6_init 10 = .ok (.putfield 7, 3) := by decide +kernel
theorem dX6_init_13 : decode cX6_init 13 = .ok (.aload_n 0, 1) := by decide +kernel
theorem dX6_init_14 : decode cX6_init 14 = .ok (.sipush 1772, 3) := by decide +kernel
theorem dX6_init_17 : decode cX6_init 17 = .ok (.newarray .int, 2) := by decide +kernel
theorem dX6_init_19 : decode cX6_init 19 = .ok (.putfield 13, 3) := by decide +kernel
theorem dX6_init_22 : decode cX6_init 22 = .ok (.aload_n 0, 1) := by decide +kernel
theorem dX6_init_23 : decode cX6_init 23 = .ok (.sipush 443, 3) := by decide +kernel
theorem dX6_init_26 : decode cX6_init 26 = .ok (.newarray .int, 2) := by decide +kernel
theorem dX6_init_28 : decode cX6_init 28 = .ok (.putfield 16, 3) := by decide +kernel
theorem dX6_init_31 : decode cX6_init 31 = .ok (.aload_n 0, 1) := by decide +kernel
theorem dX6_init_32 : decode cX6_init 32 = .ok (.sipush 443, 3) := by decide +kernel
theorem dX6_init_35 : decode cX6_init 35 = .ok (.newarray .int, 2) := by decide +kernel
theorem dX6_init_37 : decode cX6_init 37 = .ok (.putfield 19, 3) := by decide +kernel
theorem dX6_init_40 : decode cX6_init 40 = .ok (.aload_n 0, 1) := by decide +kernel
theorem dX6_init_41 : decode cX6_init 41 = .ok (.bipush 60, 2) := by decide +kernel
theorem dX6_init_43 : decode cX6_init 43 = .ok (.newarray .int, 2) := by decide +kernel
theorem dX6_init_45 : decode cX6_init 45 = .ok (.putfield 22, 3) := by decide +kernel
theorem dX6_init_48 : decode cX6_init 48 = .ok (.aload_n 0, 1) := by decide +kernel
theorem dX6_init_49 : decode cX6_init 49 = .ok (.iconst 3, 1) := by decide +kernel
theorem dX6_init_50 : decode cX6_init 50 = .ok (.newarray .int, 2) := by decide +kernel
theorem dX6_init_52 : decode cX6_init 52 = .ok (.putfield 25, 3) := by decide +kernel
theorem dX6_init_55 : decode cX6_init 55 = .ok (.aload_n 0, 1) := by decide +kernel
theorem dX6_init_56 : decode cX6_init 56 = .ok (.getfield 7, 3) := by decide +kernel
theorem dX6_init_59 : decode cX6_init 59 = .ok (.iconst 0, 1) := by decide +kernel
theorem dX6_init_60 : decode cX6_init 60 = .ok (.bipush 10, 2) := by decide +kernel
theorem dX6_init_62 : decode cX6_init 62 = .ok (.iastore, 1) := by decide +kernel
theorem dX6_init_63 : decode cX6_init 63 = .ok (.aload_n 0, 1) := by decide +kernel
theorem dX6_init_64 : decode cX6_init 64 = .ok (.getfield 7, 3) := by decide +kernel
theorem dX6_init_67 : decode cX6_init 67 = .ok (.iconst 1, 1) := by decide +kernel
theorem dX6_init_68 : decode cX6_init 68 = .ok (.iconst 4, 1) := by decide +kernel
theorem dX6_init_69 : decode cX6_init 69 = .ok (.iastore, 1) := by decide +kernel
theorem dX6_init_70 : decode cX6_init 70 = .ok (.aload_n 0, 1) := by decide +kernel
theorem dX6_init_71 : decode cX6_init 71 = .ok (.getfield 7, 3) := by decide +kernel
theorem dX6_init_74 : decode cX6_init 74 = .ok (.iconst 2, 1) := by decide +kernel
theorem dX6_init_75 : decode cX6_init 75 = .ok (.bipush 40, 2) := by decide +kernel
theorem dX6_init_77 : decode cX6_init 77 = .ok (.iastore, 1) := by decide +kernel
theorem dX6_init_78 : decode cX6_init 78 = .ok (.return_, 1) := by decide +kernel
theorem dX6_in_0 : decode cX6_in 0 = .ok (.iload_n 0, 1) := by decide +kernel
theorem dX6_in_1 : decode cX6_in 1 = .ok (.iload_n 1, 1) := by decide +kernel
theorem dX6_in_2 : decode cX6_in 2 = .ok (.if_icmp .lt 12, 3) := by decide +kernel
theorem dX6_in_5 : decode cX6_in 5 = .ok (.iload_n 0, 1) := by decide +kernel
theorem dX6_in_6 : decode cX6_in 6 = .ok (.iload_n 2, 1) := by decide +kernel
theorem dX6_in_7 : decode cX6_in 7 = .ok (.if_icmp .gt 7, 3) := by decide +kernel
theorem dX6_in_10 : decode cX6_in 10 = .ok (.iconst 1, 1) := by decide +kernel
theorem dX6_in_11 : decode cX6_in 11 = .ok (.goto 4, 3) := by decide +kernel
theorem dX6_in_14 : decode cX6_in 14 = .ok (.iconst 0, 1) := by decide +kernel
theorem dX6_in_15 : decode cX6_in 15 = .ok (.ireturn, 1) := by decide +kernel
theorem dX6_copies_0 : decode cX6_copies 0 = .ok (.iconst 0, 1) := by decide +kernel
theorem dX6_copies_1 : decode cX6_copies 1 = .ok (.istore_n 2, 1) := by decide +kernel
theorem dX6_copies_2 : decode cX6_copies 2 = .ok (.iload_n 2, 1) := by decide +kernel
theorem dX6_copies_3 : decode cX6_copies 3 = .ok (.sipush 443, 3) := by decide +kernel
theorem dX6_copies_6 : decode cX6_copies 6 = .ok (.if_icmp .ge 15, 3) := by decide +kernel
theorem dX6_copies_9 : decode cX6_copies 9 = .ok (.aload_n 1, 1) := by decide +kernel
theorem dX6_copies_10 : decode cX6_copies 10 = .ok (.iload_n 2, 1) := by decide +kernel
theorem dX6_copies_11 : decode cX6_copies 11 = .ok (.aload_n 0, 1) := by decide +kernel
theorem dX6_copies_12 : decode cX6_copies 12 = .ok (.iload_n 2, 1) := by decide +kernel
theorem dX6_copies_13 : decode cX6_copies 13 = .ok (.iaload, 1) := by decide +kernel
theorem dX6_copies_14 : decode cX6_copies 14 = .ok (.iastore, 1) := by decide +kernel
theorem dX6_copies_15 : decode cX6_copies 15 = .ok (.iinc 2 1, 3) := by decide +kernel
theorem dX6_copies_18 : decode cX6_copies 18 = .ok (.goto (-16), 3) := by decide +kernel
theorem dX6_copies_21 : decode cX6_copies 21 = .ok (.return_, 1) := by decide +kernel
theorem dX6_changes_0 : decode cX6_changes 0 = .ok (.aload_n 0, 1) := by decide +kernel
theorem dX6_changes_1 : decode cX6_changes 1 = .ok (.getfield 28, 3) := by decide +kernel
theorem dX6_changes_4 : decode cX6_changes 4 = .ok (.ifCond .eq 4, 3) := by decide +kernel
theorem dX6_changes_7 : decode cX6_changes 7 = .ok (.return_, 1) := by decide +kernel
theorem dX6_changes_8 : decode cX6_changes 8 = .ok (.aload_n 0, 1) := by decide +kernel
theorem dX6_changes_9 : decode cX6_changes 9 = .ok (.getfield 32, 3) := by decide +kernel
theorem dX6_changes_12 : decode cX6_changes 12 = .ok (.iconst 4, 1) := by decide +kernel
theorem dX6_changes_13 : decode cX6_changes 13 = .ok (.if_icmp .ne 44, 3) := by decide +kernel
theorem dX6_changes_16 : decode cX6_changes 16 = .ok (.iconst 0, 1) := by decide +kernel
theorem dX6_changes_17 : decode cX6_changes 17 = .ok (.istore_n 1, 1) := by decide +kernel
theorem dX6_changes_18 : decode cX6_changes 18 = .ok (.iload_n 1, 1) := by decide +kernel
theorem dX6_changes_19 : decode cX6_changes 19 = .ok (.sipush 1329, 3) := by decide +kernel
theorem dX6_changes_22 : decode cX6_changes 22 = .ok (.if_icmp .ge 25, 3) := by decide +kernel
theorem dX6_changes_25 : decode cX6_changes 25 = .ok (.aload_n 0, 1) := by decide +kernel
theorem dX6_changes_26 : decode cX6_changes 26 = .ok (.getfield 13, 3) := by decide +kernel
theorem dX6_changes_29 : decode cX6_changes 29 = .ok (.iload_n 1, 1) := by decide +kernel
theorem dX6_changes_30 : decode cX6_changes 30 = .ok (.aload_n 0, 1) := by decide +kernel
theorem dX6_changes_31 : decode cX6_changes 31 = .ok (.getfield 13, 3) := by decide +kernel
theorem dX6_changes_34 : decode cX6_changes 34 = .ok (.iload_n 1, 1) := by decide +kernel
theorem dX6_changes_35 : decode cX6_changes 35 = .ok (.sipush 443, 3) := by decide +kernel
theorem dX6_changes_38 : decode cX6_changes 38 = .ok (.iadd, 1) := by decide +kernel
theorem dX6_changes_39 : decode cX6_changes 39 = .ok (.iaload, 1) := by decide +kernel
theorem dX6_changes_40 : decode cX6_changes 40 = .ok (.iastore, 1) := by decide +kernel
theorem dX6_changes_41 : decode cX6_changes 41 = .ok (.iinc 1 1, 3) := by decide +kernel
theorem dX6_changes_44 : decode cX6_changes 44 = .ok (.goto (-26), 3) := by decide +kernel
theorem dX6_changes_47 : decode cX6_changes 47 = .ok (.aload_n 0, 1) := by decide +kernel
theorem dX6_changes_48 : decode cX6_changes 48 = .ok (.dup, 1) := by decide +kernel
theorem dX6_changes_49 : decode cX6_changes 49 = .ok (.getfield 32, 3) := by decide +kernel
theorem dX6_changes_52 : decode cX6_changes 52 = .ok (.iconst 1, 1) := by decide +kernel
theorem dX6_changes_53 : decode cX6_changes 53 = .ok (.isub, 1) := by decide +kernel
theorem dX6_changes_54 : decode cX6_changes 54 = .ok (.putfield 32, 3) := by decide +kernel
theorem dX6_changes_57 : decode cX6_changes 57 = .ok (.iconst 0, 1) := by decide +kernel
theorem dX6_changes_58 : decode cX6_changes 58 = .ok (.istore_n 1, 1) := by decide +kernel
theorem dX6_changes_59 : decode cX6_changes 59 = .ok (.iload_n 1, 1) := by decide +kernel
theorem dX6_changes_60 : decode cX6_changes 60 = .ok (.sipush 443, 3) := by decide +kernel
theorem dX6_changes_63 : decode cX6_changes 63 = .ok (.if_icmp .ge 30, 3) := by decide +kernel
theorem dX6_changes_66 : decode cX6_changes 66 = .ok (.aload_n 0, 1) := by decide +kernel
theorem dX6_changes_67 : decode cX6_changes 67 = .ok (.getfield 13, 3) := by decide +kernel
theorem dX6_changes_70 : decode cX6_changes 70 = .ok (.sipush 443, 3) := by decide +kernel
theorem dX6_changes_73 : decode cX6_changes 73 = .ok (.aload_n 0, 1) := by decide +kernel
theorem dX6_changes_74 : decode cX6_changes 74 = .ok (.getfield 32, 3) := by decide +kernel
theorem dX6_changes_77 : decode cX6_changes 77 = .ok (.imul, 1) := by decide +kernel
theorem dX6_changes_78 : decode cX6_changes 78 = .ok (.iload_n 1, 1) := by decide +kernel
theorem dX6_changes_79 : decode cX6_changes 79 = .ok (.iadd, 1) := by decide +kernel
theorem dX6_changes_80 : decode cX6_changes 80 = .ok (.aload_n 0, 1) := by decide +kernel
theorem dX6_changes_81 : decode cX6_changes 81 = .ok (.getfield 7, 3) := by decide +kernel
theorem dX6_changes_84 : decode cX6_changes 84 = .ok (.iload_n 1, 1) := by decide +kernel
theorem dX6_changes_85 : decode cX6_changes 85 = .ok (.iaload, 1) := by decide +kernel
theorem dX6_changes_86 : decode cX6_changes 86 = .ok (.iastore, 1) := by decide +kernel
theorem dX6_changes_87 : decode cX6_changes 87 = .ok (.iinc 1 1, 3) := by decide +kernel
theorem dX6_changes_90 : decode cX6_changes 90 = .ok (.goto (-31), 3) := by decide +kernel
theorem dX6_changes_93 : decode cX6_changes 93 = .ok (.aload_n 0, 1) := by decide +kernel
theorem dX6_changes_94 : decode cX6_changes 94 = .ok (.dup, 1) := by decide +kernel
theorem dX6_changes_95 : decode cX6_changes 95 = .ok (.getfield 32, 3) := by decide +kernel
theorem dX6_changes_98 : decode cX6_changes 98 = .ok (.iconst 1, 1) := by decide +kernel
theorem dX6_changes_99 : decode cX6_changes 99 = .ok (.iadd, 1) := by decide +kernel
theorem dX6_changes_100 : decode cX6_changes 100 = .ok (.putfield 32, 3) := by decide +kernel
theorem dX6_changes_103 : decode cX6_changes 103 = .ok (.return_, 1) := by decide +kernel
theorem dX6_of_0 : decode cX6_of 0 = .ok (.aload_n 0, 1) := by decide +kernel
theorem dX6_of_1 : decode cX6_of 1 = .ok (.getfield 7, 3) := by decide +kernel
theorem dX6_of_4 : decode cX6_of 4 = .ok (.bipush 67, 2) := by decide +kernel
theorem dX6_of_6 : decode cX6_of 6 = .ok (.bipush 47, 2) := by decide +kernel
theorem dX6_of_8 : decode cX6_of 8 = .ok (.iload_n 1, 1) := by decide +kernel
theorem dX6_of_9 : decode cX6_of 9 = .ok (.imul, 1) := by decide +kernel
theorem dX6_of_10 : decode cX6_of 10 = .ok (.iadd, 1) := by decide +kernel
theorem dX6_of_11 : decode cX6_of 11 = .ok (.iload_n 2, 1) := by decide +kernel
theorem dX6_of_12 : decode cX6_of 12 = .ok (.iadd, 1) := by decide +kernel
theorem dX6_of_13 : decode cX6_of 13 = .ok (.iaload, 1) := by decide +kernel
theorem dX6_of_14 : decode cX6_of 14 = .ok (.ireturn, 1) := by decide +kernel
theorem dX6_puts_0 : decode cX6_puts 0 = .ok (.aload_n 0, 1) := by decide +kernel
theorem dX6_puts_1 : decode cX6_puts 1 = .ok (.getfield 7, 3) := by decide +kernel
theorem dX6_puts_4 : decode cX6_puts 4 = .ok (.bipush 67, 2) := by decide +kernel
theorem dX6_puts_6 : decode cX6_puts 6 = .ok (.bipush 47, 2) := by decide +kernel
theorem dX6_puts_8 : decode cX6_puts 8 = .ok (.iload_n 1, 1) := by decide +kernel
theorem dX6_puts_9 : decode cX6_puts 9 = .ok (.imul, 1) := by decide +kernel
theorem dX6_puts_10 : decode cX6_puts 10 = .ok (.iadd, 1) := by decide +kernel
theorem dX6_puts_11 : decode cX6_puts 11 = .ok (.iload_n 2, 1) := by decide +kernel
theorem dX6_puts_12 : decode cX6_puts 12 = .ok (.iadd, 1) := by decide +kernel
theorem dX6_puts_13 : decode cX6_puts 13 = .ok (.iload_n 3, 1) := by decide +kernel
theorem dX6_puts_14 : decode cX6_puts 14 = .ok (.iastore, 1) := by decide +kernel
theorem dX6_puts_15 : decode cX6_puts 15 = .ok (.return_, 1) := by decide +kernel
set_option maxRecDepth 20000 in
theorem ggX6_isVolume_X6_in : GoodIn wsX6_isVolume wsX6_in := goodIn_r _ [4] rfl (by decide +kernel)
set_option maxRecDepth 20000 in
theorem gX6_isVolume_X6_in : GoodIn wsX6_isVolume (va_wsS RX6 36 yX6_in wsX6_in) := goodIn_app (goodIn_of _ (by decide +kernel)) ggX6_isVolume_X6_in
set_option maxRecDepth 20000 in
theorem ggX6_isVolume_X6_of : GoodIn wsX6_isVolume wsX6_of := goodIn_r _ [8, 9, 10, 11, 12, 13, 14, 15, 16, 17, 18, 19, 20, 21] rfl (by decide +kernel)
set_option maxRecDepth 20000 in
theorem gX6_isVolume_X6_of : GoodIn wsX6_isVolume (wsV RX6 40 RX6 yX6_of wsX6_of) := goodIn_app (goodIn_of _ (by decide +kernel)) ggX6_isVolume_X6_of
theorem dX6_isVolume_0 : decode cX6_isVolume 0 = .ok (.iload_n 1, 1) := by decide +kernel
theorem dX6_isVolume_1 : decode cX6_isVolume 1 = .ok (.iconst 0, 1) := by decide +kernel
theorem dX6_isVolume_2 : decode cX6_isVolume 2 = .ok (.bipush 7, 2) := by decide +kernel
theorem dX6_isVolume_4 : decode cX6_isVolume 4 = .ok (.invokestatic 36, 3) := by decide +kernel
theorem dX6_isVolume_7 : decode cX6_isVolume 7 = .ok (.ifCond .eq 17, 3) := by decide +kernel
theorem dX6_isVolume_10 : decode cX6_isVolume 10 = .ok (.aload_n 0, 1) := by decide +kernel
theorem dX6_isVolume_11 : decode cX6_isVolume 11 = .ok (.iload_n 1, 1) := by decide +kernel
theorem dX6_isVolume_12 : decode cX6_isVolume 12 = .ok (.iconst 0, 1) := by decide +kernel
theorem dX6_isVolume_13 : decode cX6_isVolume 13 = .ok (.invokevirtual 40, 3) := by decide +kernel
theorem dX6_isVolume_16 : decode cX6_isVolume 16 = .ok (.iconst 1, 1) := by decide +kernel
theorem dX6_isVolume_17 : decode cX6_isVolume 17 = .ok (.if_icmp .ne 7, 3) := by decide +kernel
theorem dX6_isVolume_20 : decode cX6_isVolume 20 = .ok (.iconst 1, 1) := by decide +kernel
theorem dX6_isVolume_21 : decode cX6_isVolume 21 = .ok (.goto 4, 3) := by decide +kernel
theorem dX6_isVolume_24 : decode cX6_isVolume 24 = .ok (.iconst 0, 1) := by decide +kernel
theorem dX6_isVolume_25 : decode cX6_isVolume 25 = .ok (.ireturn, 1) := by decide +kernel
set_option maxRecDepth 20000 in
theorem ggX6_isPlace_X6_isVolume : GoodIn wsX6_isPlace wsX6_isVolume := goodIn_r _ [5, 6, 7, 4, 8, 9, 10, 11, 12, 13, 14, 15, 16, 17, 18, 19, 20, 21, 22, 23, 24, 25] rfl (by decide +kernel)
set_option maxRecDepth 20000 in
theorem gX6_isPlace_X6_isVolume : GoodIn wsX6_isPlace (wsV RX6 44 RX6 yX6_isVolume wsX6_isVolume) := goodIn_app (goodIn_of _ (by decide +kernel)) ggX6_isPlace_X6_isVolume
set_option maxRecDepth 20000 in
theorem ggX6_isPlace_X6_of : GoodIn wsX6_isPlace wsX6_of := goodIn_r _ [12, 13, 14, 15, 16, 17, 18, 19, 20, 21, 22, 23, 24, 25] rfl (by decide +kernel)
set_option maxRecDepth 20000 in
theorem gX6_isPlace_X6_of : GoodIn wsX6_isPlace (wsV RX6 40 RX6 yX6_of wsX6_of) := goodIn_app (goodIn_of _ (by decide +kernel)) ggX6_isPlace_X6_of
theorem dX6_isPlace_0 : decode cX6_isPlace 0 = .ok (.aload_n 0, 1) := by decide +kernel
theorem dX6_isPlace_1 : decode cX6_isPlace 1 = .ok (.iload_n 1, 1) := by decide +kernel
theorem dX6_isPlace_2 : decode cX6_isPlace 2 = .ok (.invokevirtual 44, 3) := by decide +kernel
theorem dX6_isPlace_5 : decode cX6_isPlace 5 = .ok (.ifCond .eq 21, 3) := by decide +kernel
theorem dX6_isPlace_8 : decode cX6_isPlace 8 = .ok (.iload_n 2, 1) := by decide +kernel
theorem dX6_isPlace_9 : decode cX6_isPlace 9 = .ok (.ifCond .lt 17, 3) := by decide +kernel
theorem dX6_isPlace_12 : decode cX6_isPlace 12 = .ok (.iload_n 2, 1) := by decide +kernel
theorem dX6_isPlace_13 : decode cX6_isPlace 13 = .ok (.aload_n 0, 1) := by decide +kernel
theorem dX6_isPlace_14 : decode cX6_isPlace 14 = .ok (.iload_n 1, 1) := by decide +kernel
theorem dX6_isPlace_15 : decode cX6_isPlace 15 = .ok (.iconst 1, 1) := by decide +kernel
theorem dX6_isPlace_16 : decode cX6_isPlace 16 = .ok (.invokevirtual 40, 3) := by decide +kernel
theorem dX6_isPlace_19 : decode cX6_isPlace 19 = .ok (.if_icmp .ge 7, 3) := by decide +kernel
theorem dX6_isPlace_22 : decode cX6_isPlace 22 = .ok (.iconst 1, 1) := by decide +kernel
theorem dX6_isPlace_23 : decode cX6_isPlace 23 = .ok (.goto 4, 3) := by decide +kernel
theorem dX6_isPlace_26 : decode cX6_isPlace 26 = .ok (.iconst 0, 1) := by decide +kernel
theorem dX6_isPlace_27 : decode cX6_isPlace 27 = .ok (.ireturn, 1) := by decide +kernel
set_option maxRecDepth 20000 in
theorem ggX6_piece_X6_of : GoodIn wsX6_piece wsX6_of := goodIn_r _ [5, 6, 7, 8, 9, 10, 11, 12, 13, 14, 15, 16, 17, 18] rfl (by decide +kernel)
set_option maxRecDepth 20000 in
theorem gX6_piece_X6_of : GoodIn wsX6_piece (wsV RX6 40 RX6 yX6_of wsX6_of) := goodIn_app (goodIn_of _ (by decide +kernel)) ggX6_piece_X6_of
theorem dX6_piece_0 : decode cX6_piece 0 = .ok (.aload_n 0, 1) := by decide +kernel
theorem dX6_piece_1 : decode cX6_piece 1 = .ok (.iload_n 1, 1) := by decide +kernel
theorem dX6_piece_2 : decode cX6_piece 2 = .ok (.bipush 7, 2) := by decide +kernel
theorem dX6_piece_4 : decode cX6_piece 4 = .ok (.iload_n 2, 1) := by decide +kernel
theorem dX6_piece_5 : decode cX6_piece 5 = .ok (.iadd, 1) := by decide +kernel
theorem dX6_piece_6 : decode cX6_piece 6 = .ok (.invokevirtual 40, 3) := by decide +kernel
theorem dX6_piece_9 : decode cX6_piece 9 = .ok (.ireturn, 1) := by decide +kernel
set_option maxRecDepth 20000 in
theorem ggX6_ownersIn_X6_of : GoodIn wsX6_ownersIn wsX6_of := goodIn_r _ [5, 6, 11, 12, 13, 14, 15, 16, 17, 18, 19, 20, 21, 22] rfl (by decide +kernel)
set_option maxRecDepth 20000 in
theorem gX6_ownersIn_X6_of : GoodIn wsX6_ownersIn (wsV RX6 40 RX6 yX6_of wsX6_of) := goodIn_app (goodIn_of _ (by decide +kernel)) ggX6_ownersIn_X6_of
set_option maxRecDepth 20000 in
theorem ggX6_ownersIn_X6_piece : GoodIn wsX6_ownersIn wsX6_piece := goodIn_r _ [10, 1, 2, 3, 4, 5, 6, 11, 12, 13, 14, 15, 16, 17, 18, 19, 20, 21, 22] rfl (by decide +kernel)
set_option maxRecDepth 20000 in
theorem gX6_ownersIn_X6_piece : GoodIn wsX6_ownersIn (wsV RX6 48 RX6 yX6_piece wsX6_piece) := goodIn_app (goodIn_of _ (by decide +kernel)) ggX6_ownersIn_X6_piece
theorem dX6_ownersIn_0 : decode cX6_ownersIn 0 = .ok (.iconst 0, 1) := by decide +kernel
theorem dX6_ownersIn_1 : decode cX6_ownersIn 1 = .ok (.istore_n 3, 1) := by decide +kernel
theorem dX6_ownersIn_2 : decode cX6_ownersIn 2 = .ok (.iconst 0, 1) := by decide +kernel
theorem dX6_ownersIn_3 : decode cX6_ownersIn 3 = .ok (.istore 4, 2) := by decide +kernel
theorem dX6_ownersIn_5 : decode cX6_ownersIn 5 = .ok (.iload 4, 2) := by decide +kernel
theorem dX6_ownersIn_7 : decode cX6_ownersIn 7 = .ok (.aload_n 0, 1) := by decide +kernel
theorem dX6_ownersIn_8 : decode cX6_ownersIn 8 = .ok (.iload_n 1, 1) := by decide +kernel
theorem dX6_ownersIn_9 : decode cX6_ownersIn 9 = .ok (.iconst 1, 1) := by decide +kernel
theorem dX6_ownersIn_10 : decode cX6_ownersIn 10 = .ok (.invokevirtual 40, 3) := by decide +kernel
theorem dX6_ownersIn_13 : decode cX6_ownersIn 13 = .ok (.if_icmp .ge 38, 3) := by decide +kernel
theorem dX6_ownersIn_16 : decode cX6_ownersIn 16 = .ok (.aload_n 0, 1) := by decide +kernel
theorem dX6_ownersIn_17 : decode cX6_ownersIn 17 = .ok (.iload_n 1, 1) := by decide +kernel
theorem dX6_ownersIn_18 : decode cX6_ownersIn 18 = .ok (.iconst 0, 1) := by decide +kernel
theorem dX6_ownersIn_19 : decode cX6_ownersIn 19 = .ok (.invokevirtual 40, 3) := by decide +kernel
theorem dX6_ownersIn_22 : decode cX6_ownersIn 22 = .ok (.iconst 1, 1) := by decide +kernel
theorem dX6_ownersIn_23 : decode cX6_ownersIn 23 = .ok (.if_icmp .ne 28, 3) := by decide +kernel
theorem dX6_ownersIn_26 : decode cX6_ownersIn 26 = .ok (.iload_n 3, 1) := by decide +kernel
theorem dX6_ownersIn_27 : decode cX6_ownersIn 27 = .ok (.aload_n 0, 1) := by decide +kernel
theorem dX6_ownersIn_28 : decode cX6_ownersIn 28 = .ok (.iload_n 1, 1) := by decide +kernel
theorem dX6_ownersIn_29 : decode cX6_ownersIn 29 = .ok (.iload 4, 2) := by decide +kernel
theorem dX6_ownersIn_31 : decode cX6_ownersIn 31 = .ok (.invokevirtual 48, 3) := by decide +kernel
theorem dX6_ownersIn_34 : decode cX6_ownersIn 34 = .ok (.iload_n 2, 1) := by decide +kernel
theorem dX6_ownersIn_35 : decode cX6_ownersIn 35 = .ok (.if_icmp .ne 7, 3) := by decide +kernel
theorem dX6_ownersIn_38 : decode cX6_ownersIn 38 = .ok (.iconst 1, 1) := by decide +kernel
theorem dX6_ownersIn_39 : decode cX6_ownersIn 39 = .ok (.goto 4, 3) := by decide +kernel
theorem dX6_ownersIn_42 : decode cX6_ownersIn 42 = .ok (.iconst 0, 1) := by decide +kernel
theorem dX6_ownersIn_43 : decode cX6_ownersIn 43 = .ok (.iadd, 1) := by decide +kernel
theorem dX6_ownersIn_44 : decode cX6_ownersIn 44 = .ok (.istore_n 3, 1) := by decide +kernel
theorem dX6_ownersIn_45 : decode cX6_ownersIn 45 = .ok (.iinc 4 1, 3) := by decide +kernel
theorem dX6_ownersIn_48 : decode cX6_ownersIn 48 = .ok (.goto (-43), 3) := by decide +kernel
theorem dX6_ownersIn_51 : decode cX6_ownersIn 51 = .ok (.iload_n 3, 1) := by decide +kernel
theorem dX6_ownersIn_52 : decode cX6_ownersIn 52 = .ok (.ireturn, 1) := by decide +kernel
set_option maxRecDepth 20000 in
theorem ggX6_owners_X6_ownersIn : GoodIn wsX6_owners wsX6_ownersIn := goodIn_r _ [5, 6, 7, 8, 4, 9, 10, 11, 12, 13, 14, 15, 16, 17, 18, 19, 20, 21, 22, 23, 24, 25, 26] rfl (by decide +kernel)
set_option maxRecDepth 20000 in
theorem gX6_owners_X6_ownersIn : GoodIn wsX6_owners (wsV RX6 51 RX6 yX6_ownersIn wsX6_ownersIn) := goodIn_app (goodIn_of _ (by decide +kernel)) ggX6_owners_X6_ownersIn
theorem dX6_owners_0 : decode cX6_owners 0 = .ok (.iconst 0, 1) := by decide +kernel
theorem dX6_owners_1 : decode cX6_owners 1 = .ok (.istore_n 2, 1) := by decide +kernel
theorem dX6_owners_2 : decode cX6_owners 2 = .ok (.iconst 0, 1) := by decide +kernel
theorem dX6_owners_3 : decode cX6_owners 3 = .ok (.istore_n 3, 1) := by decide +kernel
theorem dX6_owners_4 : decode cX6_owners 4 = .ok (.iload_n 3, 1) := by decide +kernel
theorem dX6_owners_5 : decode cX6_owners 5 = .ok (.bipush 8, 2) := by decide +kernel
theorem dX6_owners_7 : decode cX6_owners 7 = .ok (.if_icmp .ge 18, 3) := by decide +kernel
theorem dX6_owners_10 : decode cX6_owners 10 = .ok (.iload_n 2, 1) := by decide +kernel
theorem dX6_owners_11 : decode cX6_owners 11 = .ok (.aload_n 0, 1) := by decide +kernel
theorem dX6_owners_12 : decode cX6_owners 12 = .ok (.iload_n 3, 1) := by decide +kernel
theorem dX6_owners_13 : decode cX6_owners 13 = .ok (.iload_n 1, 1) := by decide +kernel
theorem dX6_owners_14 : decode cX6_owners 14 = .ok (.invokevirtual 51, 3) := by decide +kernel
theorem dX6_owners_17 : decode cX6_owners 17 = .ok (.iadd, 1) := by decide +kernel
theorem dX6_owners_18 : decode cX6_owners 18 = .ok (.istore_n 2, 1) := by decide +kernel
theorem dX6_owners_19 : decode cX6_owners 19 = .ok (.iinc 3 1, 3) := by decide +kernel
theorem dX6_owners_22 : decode cX6_owners 22 = .ok (.goto (-18), 3) := by decide +kernel
theorem dX6_owners_25 : decode cX6_owners 25 = .ok (.iload_n 2, 1) := by decide +kernel
theorem dX6_owners_26 : decode cX6_owners 26 = .ok (.ireturn, 1) := by decide +kernel
set_option maxRecDepth 20000 in
theorem ggX6_free_X6_owners : GoodIn wsX6_free wsX6_owners := goodIn_r _ [5, 6, 7, 8, 4, 9, 10, 11, 12, 13, 14, 15, 16, 17, 18, 19, 20, 21, 22, 23, 24, 25, 26, 27, 28, 29, 30] rfl (by decide +kernel)
set_option maxRecDepth 20000 in
theorem gX6_free_X6_owners : GoodIn wsX6_free (wsV RX6 54 RX6 yX6_owners wsX6_owners) := goodIn_app (goodIn_of _ (by decide +kernel)) ggX6_free_X6_owners
theorem dX6_free_0 : decode cX6_free 0 = .ok (.iconst 0, 1) := by decide +kernel
theorem dX6_free_1 : decode cX6_free 1 = .ok (.istore_n 1, 1) := by decide +kernel
theorem dX6_free_2 : decode cX6_free 2 = .ok (.iconst 0, 1) := by decide +kernel
theorem dX6_free_3 : decode cX6_free 3 = .ok (.istore_n 2, 1) := by decide +kernel
theorem dX6_free_4 : decode cX6_free 4 = .ok (.iload_n 2, 1) := by decide +kernel
theorem dX6_free_5 : decode cX6_free 5 = .ok (.bipush 30, 2) := by decide +kernel
theorem dX6_free_7 : decode cX6_free 7 = .ok (.if_icmp .ge 25, 3) := by decide +kernel
theorem dX6_free_10 : decode cX6_free 10 = .ok (.iload_n 1, 1) := by decide +kernel
theorem dX6_free_11 : decode cX6_free 11 = .ok (.aload_n 0, 1) := by decide +kernel
theorem dX6_free_12 : decode cX6_free 12 = .ok (.iload_n 2, 1) := by decide +kernel
theorem dX6_free_13 : decode cX6_free 13 = .ok (.invokevirtual 54, 3) := by decide +kernel
theorem dX6_free_16 : decode cX6_free 16 = .ok (.ifCond .ne 7, 3) := by decide +kernel
theorem dX6_free_19 : decode cX6_free 19 = .ok (.iconst 1, 1) := by decide +kernel
theorem dX6_free_20 : decode cX6_free 20 = .ok (.goto 4, 3) := by decide +kernel
theorem dX6_free_23 : decode cX6_free 23 = .ok (.iconst 0, 1) := by decide +kernel
theorem dX6_free_24 : decode cX6_free 24 = .ok (.iadd, 1) := by decide +kernel
theorem dX6_free_25 : decode cX6_free 25 = .ok (.istore_n 1, 1) := by decide +kernel
theorem dX6_free_26 : decode cX6_free 26 = .ok (.iinc 2 1, 3) := by decide +kernel
theorem dX6_free_29 : decode cX6_free 29 = .ok (.goto (-25), 3) := by decide +kernel
theorem dX6_free_32 : decode cX6_free 32 = .ok (.iload_n 1, 1) := by decide +kernel
theorem dX6_free_33 : decode cX6_free 33 = .ok (.ireturn, 1) := by decide +kernel
set_option maxRecDepth 20000 in
theorem ggX6_promises_X6_of : GoodIn wsX6_promises wsX6_of := goodIn_r _ [5, 6, 7, 8, 9, 10, 11, 12, 13, 14, 15, 16, 17, 18] rfl (by decide +kernel)
set_option maxRecDepth 20000 in
theorem gX6_promises_X6_of : GoodIn wsX6_promises (wsV RX6 40 RX6 yX6_of wsX6_of) := goodIn_app (goodIn_of _ (by decide +kernel)) ggX6_promises_X6_of
theorem dX6_promises_0 : decode cX6_promises 0 = .ok (.iconst 0, 1) := by decide +kernel
theorem dX6_promises_1 : decode cX6_promises 1 = .ok (.istore_n 1, 1) := by decide +kernel
theorem dX6_promises_2 : decode cX6_promises 2 = .ok (.iconst 0, 1) := by decide +kernel
theorem dX6_promises_3 : decode cX6_promises 3 = .ok (.istore_n 2, 1) := by decide +kernel
theorem dX6_promises_4 : decode cX6_promises 4 = .ok (.iload_n 2, 1) := by decide +kernel
theorem dX6_promises_5 : decode cX6_promises 5 = .ok (.bipush 8, 2) := by decide +kernel
theorem dX6_promises_7 : decode cX6_promises 7 = .ok (.if_icmp .ge 32, 3) := by decide +kernel
theorem dX6_promises_10 : decode cX6_promises 10 = .ok (.iload_n 1, 1) := by decide +kernel
theorem dX6_promises_11 : decode cX6_promises 11 = .ok (.aload_n 0, 1) := by decide +kernel
theorem dX6_promises_12 : decode cX6_promises 12 = .ok (.iload_n 2, 1) := by decide +kernel
theorem dX6_promises_13 : decode cX6_promises 13 = .ok (.iconst 0, 1) := by decide +kernel
theorem dX6_promises_14 : decode cX6_promises 14 = .ok (.invokevirtual 40, 3) := by decide +kernel
theorem dX6_promises_17 : decode cX6_promises 17 = .ok (.iconst 1, 1) := by decide +kernel
theorem dX6_promises_18 : decode cX6_promises 18 = .ok (.if_icmp .ne 12, 3) := by decide +kernel
theorem dX6_promises_21 : decode cX6_promises 21 = .ok (.aload_n 0, 1) := by decide +kernel
theorem dX6_promises_22 : decode cX6_promises 22 = .ok (.iload_n 2, 1) := by decide +kernel
theorem dX6_promises_23 : decode cX6_promises 23 = .ok (.iconst 3, 1) := by decide +kernel
theorem dX6_promises_24 : decode cX6_promises 24 = .ok (.invokevirtual 40, 3) := by decide +kernel
theorem dX6_promises_27 : decode cX6_promises 27 = .ok (.goto 4, 3) := by decide +kernel
theorem dX6_promises_30 : decode cX6_promises 30 = .ok (.iconst 0, 1) := by decide +kernel
theorem dX6_promises_31 : decode cX6_promises 31 = .ok (.iadd, 1) := by decide +kernel
theorem dX6_promises_32 : decode cX6_promises 32 = .ok (.istore_n 1, 1) := by decide +kernel
theorem dX6_promises_33 : decode cX6_promises 33 = .ok (.iinc 2 1, 3) := by decide +kernel
theorem dX6_promises_36 : decode cX6_promises 36 = .ok (.goto (-32), 3) := by decide +kernel
theorem dX6_promises_39 : decode cX6_promises 39 = .ok (.iload_n 1, 1) := by decide +kernel
theorem dX6_promises_40 : decode cX6_promises 40 = .ok (.ireturn, 1) := by decide +kernel
theorem dX6_levelBy_0 : decode cX6_levelBy 0 = .ok (.iload_n 1, 1) := by decide +kernel
theorem dX6_levelBy_1 : decode cX6_levelBy 1 = .ok (.aload_n 0, 1) := by decide +kernel
theorem dX6_levelBy_2 : decode cX6_levelBy 2 = .ok (.getfield 7, 3) := by decide +kernel
theorem dX6_levelBy_5 : decode cX6_levelBy 5 = .ok (.iconst 1, 1) := by decide +kernel
theorem dX6_levelBy_6 : decode cX6_levelBy 6 = .ok (.iaload, 1) := by decide +kernel
theorem dX6_levelBy_7 : decode cX6_levelBy 7 = .ok (.if_icmp .gt 7, 3) := by decide +kernel
theorem dX6_levelBy_10 : decode cX6_levelBy 10 = .ok (.iconst 2, 1) := by decide +kernel
theorem dX6_levelBy_11 : decode cX6_levelBy 11 = .ok (.goto 18, 3) := by decide +kernel
theorem dX6_levelBy_14 : decode cX6_levelBy 14 = .ok (.iload_n 1, 1) := by decide +kernel
theorem dX6_levelBy_15 : decode cX6_levelBy 15 = .ok (.aload_n 0, 1) := by decide +kernel
theorem dX6_levelBy_16 : decode cX6_levelBy 16 = .ok (.getfield 7, 3) := by decide +kernel
theorem dX6_levelBy_19 : decode cX6_levelBy 19 = .ok (.iconst 0, 1) := by decide +kernel
theorem dX6_levelBy_20 : decode cX6_levelBy 20 = .ok (.iaload, 1) := by decide +kernel
theorem dX6_levelBy_21 : decode cX6_levelBy 21 = .ok (.if_icmp .gt 7, 3) := by decide +kernel
theorem dX6_levelBy_24 : decode cX6_levelBy 24 = .ok (.iconst 1, 1) := by decide +kernel
theorem dX6_levelBy_25 : decode cX6_levelBy 25 = .ok (.goto 4, 3) := by decide +kernel
theorem dX6_levelBy_28 : decode cX6_levelBy 28 = .ok (.iconst 0, 1) := by decide +kernel
theorem dX6_levelBy_29 : decode cX6_levelBy 29 = .ok (.ireturn, 1) := by decide +kernel
set_option maxRecDepth 20000 in
theorem ggX6_available_X6_free : GoodIn wsX6_available wsX6_free := goodIn_r _ [5, 6, 7, 8, 4, 9, 10, 11, 12, 13, 14, 15, 16, 17, 18, 19, 20, 21, 22, 27, 28, 29, 30, 31, 32, 33, 34, 35, 36, 37, 38] rfl (by decide +kernel)
set_option maxRecDepth 20000 in
theorem gX6_available_X6_free : GoodIn wsX6_available (wsV RX6 58 RX6 yX6_free wsX6_free) := goodIn_app (goodIn_of _ (by decide +kernel)) ggX6_available_X6_free
set_option maxRecDepth 20000 in
theorem ggX6_available_X6_promises : GoodIn wsX6_available wsX6_promises := goodIn_r _ [26, 14, 15, 16, 4, 17, 18, 27, 28, 29, 30, 31, 32, 33, 34, 35, 36, 37, 38] rfl (by decide +kernel)
set_option maxRecDepth 20000 in
theorem gX6_available_X6_promises : GoodIn wsX6_available (wsV RX6 62 RX6 yX6_promises wsX6_promises) := goodIn_app (goodIn_of _ (by decide +kernel)) ggX6_available_X6_promises
theorem dX6_available_0 : decode cX6_available 0 = .ok (.aload_n 0, 1) := by decide +kernel
theorem dX6_available_1 : decode cX6_available 1 = .ok (.invokevirtual 58, 3) := by decide +kernel
theorem dX6_available_4 : decode cX6_available 4 = .ok (.aload_n 0, 1) := by decide +kernel
theorem dX6_available_5 : decode cX6_available 5 = .ok (.invokevirtual 62, 3) := by decide +kernel
theorem dX6_available_8 : decode cX6_available 8 = .ok (.isub, 1) := by decide +kernel
theorem dX6_available_9 : decode cX6_available 9 = .ok (.ireturn, 1) := by decide +kernel
set_option maxRecDepth 20000 in
theorem ggX6_best_X6_of : GoodIn wsX6_best wsX6_of := goodIn_r _ [6, 7, 8, 9, 10, 11, 12, 13, 14, 15, 16, 17, 18, 19] rfl (by decide +kernel)
set_option maxRecDepth 20000 in
theorem gX6_best_X6_of : GoodIn wsX6_best (wsV RX6 40 RX6 yX6_of wsX6_of) := goodIn_app (goodIn_of _ (by decide +kernel)) ggX6_best_X6_of
theorem dX6_best_0 : decode cX6_best 0 = .ok (.ldc 65, 2) := by decide +kernel
theorem dX6_best_2 : decode cX6_best 2 = .ok (.istore_n 1, 1) := by decide +kernel
theorem dX6_best_3 : decode cX6_best 3 = .ok (.iconst 0, 1) := by decide +kernel
theorem dX6_best_4 : decode cX6_best 4 = .ok (.istore_n 2, 1) := by decide +kernel
theorem dX6_best_5 : decode cX6_best 5 = .ok (.iload_n 2, 1) := by decide +kernel
theorem dX6_best_6 : decode cX6_best 6 = .ok (.bipush 8, 2) := by decide +kernel
theorem dX6_best_8 : decode cX6_best 8 = .ok (.if_icmp .ge 44, 3) := by decide +kernel
theorem dX6_best_11 : decode cX6_best 11 = .ok (.aload_n 0, 1) := by decide +kernel
theorem dX6_best_12 : decode cX6_best 12 = .ok (.iload_n 2, 1) := by decide +kernel
theorem dX6_best_13 : decode cX6_best 13 = .ok (.iconst 0, 1) := by decide +kernel
theorem dX6_best_14 : decode cX6_best 14 = .ok (.invokevirtual 40, 3) := by decide +kernel
theorem dX6_best_17 : decode cX6_best 17 = .ok (.iconst 1, 1) := by decide +kernel
theorem dX6_best_18 : decode cX6_best 18 = .ok (.if_icmp .ne 26, 3) := by decide +kernel
theorem dX6_best_21 : decode cX6_best 21 = .ok (.iload_n 1, 1) := by decide +kernel
theorem dX6_best_22 : decode cX6_best 22 = .ok (.ifCond .lt 18, 3) := by decide +kernel
theorem dX6_best_25 : decode cX6_best 25 = .ok (.aload_n 0, 1) := by decide +kernel
theorem dX6_best_26 : decode cX6_best 26 = .ok (.iload_n 2, 1) := by decide +kernel
theorem dX6_best_27 : decode cX6_best 27 = .ok (.iconst 2, 1) := by decide +kernel
theorem dX6_best_28 : decode cX6_best 28 = .ok (.invokevirtual 40, 3) := by decide +kernel
theorem dX6_best_31 : decode cX6_best 31 = .ok (.aload_n 0, 1) := by decide +kernel
theorem dX6_best_32 : decode cX6_best 32 = .ok (.iload_n 1, 1) := by decide +kernel
theorem dX6_best_33 : decode cX6_best 33 = .ok (.iconst 2, 1) := by decide +kernel
theorem dX6_best_34 : decode cX6_best 34 = .ok (.invokevirtual 40, 3) := by decide +kernel
theorem dX6_best_37 : decode cX6_best 37 = .ok (.if_icmp .le 7, 3) := by decide +kernel
theorem dX6_best_40 : decode cX6_best 40 = .ok (.iload_n 2, 1) := by decide +kernel
theorem dX6_best_41 : decode cX6_best 41 = .ok (.goto 4, 3) := by decide +kernel
theorem dX6_best_44 : decode cX6_best 44 = .ok (.iload_n 1, 1) := by decide +kernel
theorem dX6_best_45 : decode cX6_best 45 = .ok (.istore_n 1, 1) := by decide +kernel
theorem dX6_best_46 : decode cX6_best 46 = .ok (.iinc 2 1, 3) := by decide +kernel
theorem dX6_best_49 : decode cX6_best 49 = .ok (.goto (-44), 3) := by decide +kernel
theorem dX6_best_52 : decode cX6_best 52 = .ok (.iload_n 1, 1) := by decide +kernel
theorem dX6_best_53 : decode cX6_best 53 = .ok (.ireturn, 1) := by decide +kernel
set_option maxRecDepth 20000 in
theorem ggX6_behaves_X6_of : GoodIn wsX6_behaves wsX6_of := goodIn_r _ [5, 6, 11, 12, 13, 14, 15, 16, 17, 18, 19, 20, 21, 22] rfl (by decide +kernel)
set_option maxRecDepth 20000 in
theorem gX6_behaves_X6_of : GoodIn wsX6_behaves (wsV RX6 40 RX6 yX6_of wsX6_of) := goodIn_app (goodIn_of _ (by decide +kernel)) ggX6_behaves_X6_of
set_option maxRecDepth 20000 in
theorem ggX6_behaves_X6_puts : GoodIn wsX6_behaves wsX6_puts := goodIn_r _ [10, 6, 11, 12, 13, 14, 15, 16, 17, 18, 19, 20, 21, 22] rfl (by decide +kernel)
set_option maxRecDepth 20000 in
theorem gX6_behaves_X6_puts : GoodIn wsX6_behaves (wsV RX6 66 RX6 yX6_puts wsX6_puts) := goodIn_app (goodIn_of _ (by decide +kernel)) ggX6_behaves_X6_puts
theorem dX6_behaves_0 : decode cX6_behaves 0 = .ok (.aload_n 0, 1) := by decide +kernel
theorem dX6_behaves_1 : decode cX6_behaves 1 = .ok (.iload_n 1, 1) := by decide +kernel
theorem dX6_behaves_2 : decode cX6_behaves 2 = .ok (.iconst 2, 1) := by decide +kernel
theorem dX6_behaves_3 : decode cX6_behaves 3 = .ok (.invokevirtual 40, 3) := by decide +kernel
theorem dX6_behaves_6 : decode cX6_behaves 6 = .ok (.iload_n 2, 1) := by decide +kernel
theorem dX6_behaves_7 : decode cX6_behaves 7 = .ok (.iadd, 1) := by decide +kernel
theorem dX6_behaves_8 : decode cX6_behaves 8 = .ok (.istore_n 3, 1) := by decide +kernel
theorem dX6_behaves_9 : decode cX6_behaves 9 = .ok (.aload_n 0, 1) := by decide +kernel
theorem dX6_behaves_10 : decode cX6_behaves 10 = .ok (.iload_n 1, 1) := by decide +kernel
theorem dX6_behaves_11 : decode cX6_behaves 11 = .ok (.iconst 2, 1) := by decide +kernel
theorem dX6_behaves_12 : decode cX6_behaves 12 = .ok (.iload_n 3, 1) := by decide +kernel
theorem dX6_behaves_13 : decode cX6_behaves 13 = .ok (.ifCond .ge 7, 3) := by decide +kernel
theorem dX6_behaves_16 : decode cX6_behaves 16 = .ok (.iconst 0, 1) := by decide +kernel
theorem dX6_behaves_17 : decode cX6_behaves 17 = .ok (.goto 15, 3) := by decide +kernel
theorem dX6_behaves_20 : decode cX6_behaves 20 = .ok (.iload_n 3, 1) := by decide +kernel
theorem dX6_behaves_21 : decode cX6_behaves 21 = .ok (.bipush 100, 2) := by decide +kernel
theorem dX6_behaves_23 : decode cX6_behaves 23 = .ok (.if_icmp .le 8, 3) := by decide +kernel
theorem dX6_behaves_26 : decode cX6_behaves 26 = .ok (.bipush 100, 2) := by decide +kernel
theorem dX6_behaves_28 : decode cX6_behaves 28 = .ok (.goto 4, 3) := by decide +kernel
theorem dX6_behaves_31 : decode cX6_behaves 31 = .ok (.iload_n 3, 1) := by decide +kernel
theorem dX6_behaves_32 : decode cX6_behaves 32 = .ok (.invokevirtual 66, 3) := by decide +kernel
theorem dX6_behaves_35 : decode cX6_behaves 35 = .ok (.return_, 1) := by decide +kernel
set_option maxRecDepth 20000 in
theorem ggX6_asks_X6_of : GoodIn wsX6_asks wsX6_of := goodIn_r _ [6, 1, 24, 25, 26, 27, 28, 29, 30, 31, 32, 33, 34, 35] rfl (by decide +kernel)
set_option maxRecDepth 20000 in
theorem gX6_asks_X6_of : GoodIn wsX6_asks (wsV RX6 40 RX6 yX6_of wsX6_of) := goodIn_app (goodIn_of _ (by decide +kernel)) ggX6_asks_X6_of
set_option maxRecDepth 20000 in
theorem ggX6_asks_X6_puts : GoodIn wsX6_asks wsX6_puts := goodIn_r _ [10, 1, 24, 25, 26, 27, 28, 29, 30, 31, 32, 33, 34, 35] rfl (by decide +kernel)
set_option maxRecDepth 20000 in
theorem gX6_asks_X6_puts : GoodIn wsX6_asks (wsV RX6 66 RX6 yX6_puts wsX6_puts) := goodIn_app (goodIn_of _ (by decide +kernel)) ggX6_asks_X6_puts
set_option maxRecDepth 20000 in
theorem ggX6_asks_X6_levelBy : GoodIn wsX6_asks wsX6_levelBy := goodIn_r _ [14, 1, 24, 25, 26, 27, 28, 29, 30, 31, 32, 33, 34, 35] rfl (by decide +kernel)
set_option maxRecDepth 20000 in
theorem gX6_asks_X6_levelBy : GoodIn wsX6_asks (wsV RX6 70 RX6 yX6_levelBy wsX6_levelBy) := goodIn_app (goodIn_of _ (by decide +kernel)) ggX6_asks_X6_levelBy
set_option maxRecDepth 20000 in
theorem ggX6_asks_X6_best : GoodIn wsX6_asks wsX6_best := goodIn_r _ [18, 19, 2, 3, 4, 5, 6, 1, 24, 25, 26, 27, 28, 29, 30, 31, 32, 33, 34, 35] rfl (by decide +kernel)
set_option maxRecDepth 20000 in
theorem gX6_asks_X6_best : GoodIn wsX6_asks (wsV RX6 73 RX6 yX6_best wsX6_best) := goodIn_app (goodIn_of _ (by decide +kernel)) ggX6_asks_X6_best
set_option maxRecDepth 20000 in
theorem ggX6_asks_X6_behaves : GoodIn wsX6_asks wsX6_behaves := goodIn_r _ [23, 2, 3, 4, 5, 6, 1, 7, 8, 9, 10, 24, 25, 26, 27, 28, 29, 30, 31, 32, 33, 34, 35] rfl (by decide +kernel)
set_option maxRecDepth 20000 in
theorem gX6_asks_X6_behaves : GoodIn wsX6_asks (wsV RX6 76 RX6 yX6_behaves wsX6_behaves) := goodIn_app (goodIn_of _ (by decide +kernel)) ggX6_asks_X6_behaves
theorem dX6_asks_0 : decode cX6_asks 0 = .ok (.aload_n 0, 1) := by decide +kernel
theorem dX6_asks_1 : decode cX6_asks 1 = .ok (.iload_n 1, 1) := by decide +kernel
theorem dX6_asks_2 : decode cX6_asks 2 = .ok (.iconst 3, 1) := by decide +kernel
theorem dX6_asks_3 : decode cX6_asks 3 = .ok (.invokevirtual 40, 3) := by decide +kernel
theorem dX6_asks_6 : decode cX6_asks 6 = .ok (.ifCond .le 19, 3) := by decide +kernel
theorem dX6_asks_9 : decode cX6_asks 9 = .ok (.aload_n 0, 1) := by decide +kernel
theorem dX6_asks_10 : decode cX6_asks 10 = .ok (.iload_n 1, 1) := by decide +kernel
theorem dX6_asks_11 : decode cX6_asks 11 = .ok (.iconst 3, 1) := by decide +kernel
theorem dX6_asks_12 : decode cX6_asks 12 = .ok (.aload_n 0, 1) := by decide +kernel
theorem dX6_asks_13 : decode cX6_asks 13 = .ok (.iload_n 1, 1) := by decide +kernel
theorem dX6_asks_14 : decode cX6_asks 14 = .ok (.iconst 3, 1) := by decide +kernel
theorem dX6_asks_15 : decode cX6_asks 15 = .ok (.invokevirtual 40, 3) := by decide +kernel
theorem dX6_asks_18 : decode cX6_asks 18 = .ok (.iconst 1, 1) := by decide +kernel
theorem dX6_asks_19 : decode cX6_asks 19 = .ok (.isub, 1) := by decide +kernel
theorem dX6_asks_20 : decode cX6_asks 20 = .ok (.invokevirtual 66, 3) := by decide +kernel
theorem dX6_asks_23 : decode cX6_asks 23 = .ok (.iconst 2, 1) := by decide +kernel
theorem dX6_asks_24 : decode cX6_asks 24 = .ok (.ireturn, 1) := by decide +kernel
theorem dX6_asks_25 : decode cX6_asks 25 = .ok (.aload_n 0, 1) := by decide +kernel
theorem dX6_asks_26 : decode cX6_asks 26 = .ok (.iload_n 2, 1) := by decide +kernel
theorem dX6_asks_27 : decode cX6_asks 27 = .ok (.invokevirtual 70, 3) := by decide +kernel
theorem dX6_asks_30 : decode cX6_asks 30 = .ok (.istore_n 3, 1) := by decide +kernel
theorem dX6_asks_31 : decode cX6_asks 31 = .ok (.iload_n 2, 1) := by decide +kernel
theorem dX6_asks_32 : decode cX6_asks 32 = .ok (.ifCond .le 44, 3) := by decide +kernel
theorem dX6_asks_35 : decode cX6_asks 35 = .ok (.iload_n 3, 1) := by decide +kernel
theorem dX6_asks_36 : decode cX6_asks 36 = .ok (.ifCond .eq 36, 3) := by decide +kernel
theorem dX6_asks_39 : decode cX6_asks 39 = .ok (.iload_n 3, 1) := by decide +kernel
theorem dX6_asks_40 : decode cX6_asks 40 = .ok (.iconst 1, 1) := by decide +kernel
theorem dX6_asks_41 : decode cX6_asks 41 = .ok (.if_icmp .ne 18, 3) := by decide +kernel
theorem dX6_asks_44 : decode cX6_asks 44 = .ok (.aload_n 0, 1) := by decide +kernel
theorem dX6_asks_45 : decode cX6_asks 45 = .ok (.iload_n 1, 1) := by decide +kernel
theorem dX6_asks_46 : decode cX6_asks 46 = .ok (.iconst 2, 1) := by decide +kernel
theorem dX6_asks_47 : decode cX6_asks 47 = .ok (.invokevirtual 40, 3) := by decide +kernel
theorem dX6_asks_50 : decode cX6_asks 50 = .ok (.aload_n 0, 1) := by decide +kernel
theorem dX6_asks_51 : decode cX6_asks 51 = .ok (.getfield 7, 3) := by decide +kernel
theorem dX6_asks_54 : decode cX6_asks 54 = .ok (.iconst 2, 1) := by decide +kernel
theorem dX6_asks_55 : decode cX6_asks 55 = .ok (.iaload, 1) := by decide +kernel
theorem dX6_asks_56 : decode cX6_asks 56 = .ok (.if_icmp .ge 16, 3) := by decide +kernel
theorem dX6_asks_59 : decode cX6_asks 59 = .ok (.iload_n 3, 1) := by decide +kernel
theorem dX6_asks_60 : decode cX6_asks 60 = .ok (.iconst 2, 1) := by decide +kernel
theorem dX6_asks_61 : decode cX6_asks 61 = .ok (.if_icmp .ne 15, 3) := by decide +kernel
theorem dX6_asks_64 : decode cX6_asks 64 = .ok (.aload_n 0, 1) := by decide +kernel
theorem dX6_asks_65 : decode cX6_asks 65 = .ok (.invokevirtual 73, 3) := by decide +kernel
theorem dX6_asks_68 : decode cX6_asks 68 = .ok (.iload_n 1, 1) := by decide +kernel
theorem dX6_asks_69 : decode cX6_asks 69 = .ok (.if_icmp .ne 7, 3) := by decide +kernel
theorem dX6_asks_72 : decode cX6_asks 72 = .ok (.iconst 1, 1) := by decide +kernel
theorem dX6_asks_73 : decode cX6_asks 73 = .ok (.goto 4, 3) := by decide +kernel
theorem dX6_asks_76 : decode cX6_asks 76 = .ok (.iconst 0, 1) := by decide +kernel
theorem dX6_asks_77 : decode cX6_asks 77 = .ok (.istore 4, 2) := by decide +kernel
theorem dX6_asks_79 : decode cX6_asks 79 = .ok (.aload_n 0, 1) := by decide +kernel
theorem dX6_asks_80 : decode cX6_asks 80 = .ok (.iload_n 1, 1) := by decide +kernel
theorem dX6_asks_81 : decode cX6_asks 81 = .ok (.iload 4, 2) := by decide +kernel
theorem dX6_asks_83 : decode cX6_asks 83 = .ok (.ifCond .ne 7, 3) := by decide +kernel
theorem dX6_asks_86 : decode cX6_asks 86 = .ok (.iconst (-1), 1) := by decide +kernel
theorem dX6_asks_87 : decode cX6_asks 87 = .ok (.goto 13, 3) := by decide +kernel
theorem dX6_asks_90 : decode cX6_asks 90 = .ok (.iload_n 3, 1) := by decide +kernel
theorem dX6_asks_91 : decode cX6_asks 91 = .ok (.ifCond .le 8, 3) := by decide +kernel
theorem dX6_asks_94 : decode cX6_asks 94 = .ok (.bipush (-3), 2) := by decide +kernel
theorem dX6_asks_96 : decode cX6_asks 96 = .ok (.goto 4, 3) := by decide +kernel
theorem dX6_asks_99 : decode cX6_asks 99 = .ok (.iconst 0, 1) := by decide +kernel
theorem dX6_asks_100 : decode cX6_asks 100 = .ok (.invokevirtual 76, 3) := by decide +kernel
theorem dX6_asks_103 : decode cX6_asks 103 = .ok (.iload 4, 2) := by decide +kernel
theorem dX6_asks_105 : decode cX6_asks 105 = .ok (.ifCond .eq 7, 3) := by decide +kernel
theorem dX6_asks_108 : decode cX6_asks 108 = .ok (.iconst 1, 1) := by decide +kernel
theorem dX6_asks_109 : decode cX6_asks 109 = .ok (.goto 4, 3) := by decide +kernel
theorem dX6_asks_112 : decode cX6_asks 112 = .ok (.iconst 0, 1) := by decide +kernel
theorem dX6_asks_113 : decode cX6_asks 113 = .ok (.ireturn, 1) := by decide +kernel
set_option maxRecDepth 20000 in
theorem ggX6_warns_X6_available : GoodIn wsX6_warns wsX6_available := goodIn_r _ [6, 7, 8, 9, 5, 10, 11, 12, 13, 14, 15, 16, 17, 18, 19, 20, 21, 22, 1, 23, 24, 25, 26, 27, 28, 29, 30, 31, 32, 33, 34, 35, 36, 37, 38, 39, 40, 41, 42] rfl (by decide +kernel)
set_option maxRecDepth 20000 in
theorem gX6_warns_X6_available : GoodIn wsX6_warns (wsV RX6 80 RX6 yX6_available wsX6_available) := goodIn_app (goodIn_of _ (by decide +kernel)) ggX6_warns_X6_available
theorem dX6_warns_0 : decode cX6_warns 0 = .ok (.bipush 66, 2) := by decide +kernel
theorem dX6_warns_2 : decode cX6_warns 2 = .ok (.istore_n 3, 1) := by decide +kernel
theorem dX6_warns_3 : decode cX6_warns 3 = .ok (.iload_n 3, 1) := by decide +kernel
theorem dX6_warns_4 : decode cX6_warns 4 = .ok (.bipush 40, 2) := by decide +kernel
theorem dX6_warns_6 : decode cX6_warns 6 = .ok (.if_icmp .lt 23, 3) := by decide +kernel
theorem dX6_warns_9 : decode cX6_warns 9 = .ok (.aload_n 0, 1) := by decide +kernel
theorem dX6_warns_10 : decode cX6_warns 10 = .ok (.getfield 7, 3) := by decide +kernel
theorem dX6_warns_13 : decode cX6_warns 13 = .ok (.iload_n 3, 1) := by decide +kernel
theorem dX6_warns_14 : decode cX6_warns 14 = .ok (.aload_n 0, 1) := by decide +kernel
theorem dX6_warns_15 : decode cX6_warns 15 = .ok (.getfield 7, 3) := by decide +kernel
theorem dX6_warns_18 : decode cX6_warns 18 = .ok (.iload_n 3, 1) := by decide +kernel
theorem dX6_warns_19 : decode cX6_warns 19 = .ok (.iconst 3, 1) := by decide +kernel
theorem dX6_warns_20 : decode cX6_warns 20 = .ok (.isub, 1) := by decide +kernel
theorem dX6_warns_21 : decode cX6_warns 21 = .ok (.iaload, 1) := by decide +kernel
theorem dX6_warns_22 : decode cX6_warns 22 = .ok (.iastore, 1) := by decide +kernel
theorem dX6_warns_23 : decode cX6_warns 23 = .ok (.iinc 3 (-1), 3) := by decide +kernel
theorem dX6_warns_26 : decode cX6_warns 26 = .ok (.goto (-23), 3) := by decide +kernel
theorem dX6_warns_29 : decode cX6_warns 29 = .ok (.aload_n 0, 1) := by decide +kernel
theorem dX6_warns_30 : decode cX6_warns 30 = .ok (.getfield 7, 3) := by decide +kernel
theorem dX6_warns_33 : decode cX6_warns 33 = .ok (.bipush 37, 2) := by decide +kernel
theorem dX6_warns_35 : decode cX6_warns 35 = .ok (.iload_n 1, 1) := by decide +kernel
theorem dX6_warns_36 : decode cX6_warns 36 = .ok (.iastore, 1) := by decide +kernel
theorem dX6_warns_37 : decode cX6_warns 37 = .ok (.aload_n 0, 1) := by decide +kernel
theorem dX6_warns_38 : decode cX6_warns 38 = .ok (.getfield 7, 3) := by decide +kernel
theorem dX6_warns_41 : decode cX6_warns 41 = .ok (.bipush 38, 2) := by decide +kernel
theorem dX6_warns_43 : decode cX6_warns 43 = .ok (.iload_n 2, 1) := by decide +kernel
theorem dX6_warns_44 : decode cX6_warns 44 = .ok (.iastore, 1) := by decide +kernel
theorem dX6_warns_45 : decode cX6_warns 45 = .ok (.aload_n 0, 1) := by decide +kernel
theorem dX6_warns_46 : decode cX6_warns 46 = .ok (.getfield 7, 3) := by decide +kernel
theorem dX6_warns_49 : decode cX6_warns 49 = .ok (.bipush 39, 2) := by decide +kernel
theorem dX6_warns_51 : decode cX6_warns 51 = .ok (.aload_n 0, 1) := by decide +kernel
theorem dX6_warns_52 : decode cX6_warns 52 = .ok (.invokevirtual 80, 3) := by decide +kernel
theorem dX6_warns_55 : decode cX6_warns 55 = .ok (.iastore, 1) := by decide +kernel
theorem dX6_warns_56 : decode cX6_warns 56 = .ok (.aload_n 0, 1) := by decide +kernel
theorem dX6_warns_57 : decode cX6_warns 57 = .ok (.getfield 7, 3) := by decide +kernel
theorem dX6_warns_60 : decode cX6_warns 60 = .ok (.bipush 6, 2) := by decide +kernel
theorem dX6_warns_62 : decode cX6_warns 62 = .ok (.dup2, 1) := by decide +kernel
theorem dX6_warns_63 : decode cX6_warns 63 = .ok (.iaload, 1) := by decide +kernel
theorem dX6_warns_64 : decode cX6_warns 64 = .ok (.aload_n 0, 1) := by decide +kernel
theorem dX6_warns_65 : decode cX6_warns 65 = .ok (.getfield 7, 3) := by decide +kernel
theorem dX6_warns_68 : decode cX6_warns 68 = .ok (.bipush 6, 2) := by decide +kernel
theorem dX6_warns_70 : decode cX6_warns 70 = .ok (.iaload, 1) := by decide +kernel
theorem dX6_warns_71 : decode cX6_warns 71 = .ok (.bipush 10, 2) := by decide +kernel
theorem dX6_warns_73 : decode cX6_warns 73 = .ok (.if_icmp .ge 7, 3) := by decide +kernel
theorem dX6_warns_76 : decode cX6_warns 76 = .ok (.iconst 1, 1) := by decide +kernel
theorem dX6_warns_77 : decode cX6_warns 77 = .ok (.goto 4, 3) := by decide +kernel
theorem dX6_warns_80 : decode cX6_warns 80 = .ok (.iconst 0, 1) := by decide +kernel
theorem dX6_warns_81 : decode cX6_warns 81 = .ok (.iadd, 1) := by decide +kernel
theorem dX6_warns_82 : decode cX6_warns 82 = .ok (.iastore, 1) := by decide +kernel
theorem dX6_warns_83 : decode cX6_warns 83 = .ok (.return_, 1) := by decide +kernel
set_option maxRecDepth 20000 in
theorem ggX6_ends_X6_available : GoodIn wsX6_ends wsX6_available := goodIn_r _ [5, 6, 7, 8, 4, 9, 10, 11, 12, 13, 14, 15, 16, 17, 18, 19, 20, 21, 22, 23, 24, 25, 26, 27, 28, 29, 30, 39, 40, 41, 42, 43, 44, 45, 46, 47, 48, 49, 50] rfl (by decide +kernel)
set_option maxRecDepth 20000 in
theorem gX6_ends_X6_available : GoodIn wsX6_ends (wsV RX6 80 RX6 yX6_available wsX6_available) := goodIn_app (goodIn_of _ (by decide +kernel)) ggX6_ends_X6_available
set_option maxRecDepth 20000 in
theorem ggX6_ends_X6_levelBy : GoodIn wsX6_ends wsX6_levelBy := goodIn_r _ [34, 22, 39, 40, 41, 42, 43, 44, 45, 46, 47, 48, 49, 50] rfl (by decide +kernel)
set_option maxRecDepth 20000 in
theorem gX6_ends_X6_levelBy : GoodIn wsX6_ends (wsV RX6 70 RX6 yX6_levelBy wsX6_levelBy) := goodIn_app (goodIn_of _ (by decide +kernel)) ggX6_ends_X6_levelBy
set_option maxRecDepth 20000 in
theorem ggX6_ends_X6_warns : GoodIn wsX6_ends wsX6_warns := goodIn_r _ [38, 22, 1, 2, 3, 4, 5, 6, 7, 8, 9, 10, 11, 12, 13, 14, 15, 16, 17, 18, 19, 20, 21, 23, 24, 25, 26, 27, 28, 29, 30, 39, 40, 41, 42, 43, 44, 45, 46, 47, 48, 49, 50] rfl (by decide +kernel)
set_option maxRecDepth 20000 in
theorem gX6_ends_X6_warns : GoodIn wsX6_ends (wsV RX6 83 RX6 yX6_warns wsX6_warns) := goodIn_app (goodIn_of _ (by decide +kernel)) ggX6_ends_X6_warns
theorem dX6_ends_0 : decode cX6_ends 0 = .ok (.aload_n 0, 1) := by decide +kernel
theorem dX6_ends_1 : decode cX6_ends 1 = .ok (.aload_n 0, 1) := by decide +kernel
theorem dX6_ends_2 : decode cX6_ends 2 = .ok (.invokevirtual 80, 3) := by decide +kernel
theorem dX6_ends_5 : decode cX6_ends 5 = .ok (.invokevirtual 70, 3) := by decide +kernel
theorem dX6_ends_8 : decode cX6_ends 8 = .ok (.iload_n 1, 1) := by decide +kernel
theorem dX6_ends_9 : decode cX6_ends 9 = .ok (.if_icmp .le 9, 3) := by decide +kernel
theorem dX6_ends_12 : decode cX6_ends 12 = .ok (.aload_n 0, 1) := by decide +kernel
theorem dX6_ends_13 : decode cX6_ends 13 = .ok (.iconst 0, 1) := by decide +kernel
theorem dX6_ends_14 : decode cX6_ends 14 = .ok (.iconst (-1), 1) := by decide +kernel
theorem dX6_ends_15 : decode cX6_ends 15 = .ok (.invokevirtual 83, 3) := by decide +kernel
theorem dX6_ends_18 : decode cX6_ends 18 = .ok (.return_, 1) := by decide +kernel
set_option maxRecDepth 20000 in
theorem ggX6_free8_X6_of : GoodIn wsX6_free8 wsX6_of := goodIn_r _ [5, 6, 7, 8, 9, 10, 11, 12, 13, 14, 15, 16, 17, 18] rfl (by decide +kernel)
set_option maxRecDepth 20000 in
theorem gX6_free8_X6_of : GoodIn wsX6_free8 (wsV RX6 40 RX6 yX6_of wsX6_of) := goodIn_app (goodIn_of _ (by decide +kernel)) ggX6_free8_X6_of
theorem dX6_free8_0 : decode cX6_free8 0 = .ok (.iconst 0, 1) := by decide +kernel
theorem dX6_free8_1 : decode cX6_free8 1 = .ok (.istore_n 1, 1) := by decide +kernel
theorem dX6_free8_2 : decode cX6_free8 2 = .ok (.iload_n 1, 1) := by decide +kernel
theorem dX6_free8_3 : decode cX6_free8 3 = .ok (.bipush 8, 2) := by decide +kernel
theorem dX6_free8_5 : decode cX6_free8 5 = .ok (.if_icmp .ge 19, 3) := by decide +kernel
theorem dX6_free8_8 : decode cX6_free8 8 = .ok (.aload_n 0, 1) := by decide +kernel
theorem dX6_free8_9 : decode cX6_free8 9 = .ok (.iload_n 1, 1) := by decide +kernel
theorem dX6_free8_10 : decode cX6_free8 10 = .ok (.iconst 0, 1) := by decide +kernel
theorem dX6_free8_11 : decode cX6_free8 11 = .ok (.invokevirtual 40, 3) := by decide +kernel
theorem dX6_free8_14 : decode cX6_free8 14 = .ok (.iconst 1, 1) := by decide +kernel
theorem dX6_free8_15 : decode cX6_free8 15 = .ok (.if_icmp .ne 9, 3) := by decide +kernel
theorem dX6_free8_18 : decode cX6_free8 18 = .ok (.iinc 1 1, 3) := by decide +kernel
theorem dX6_free8_21 : decode cX6_free8 21 = .ok (.goto (-19), 3) := by decide +kernel
theorem dX6_free8_24 : decode cX6_free8 24 = .ok (.iload_n 1, 1) := by decide +kernel
theorem dX6_free8_25 : decode cX6_free8 25 = .ok (.ireturn, 1) := by decide +kernel
set_option maxRecDepth 20000 in
theorem ggX6_begins_X6_puts : GoodIn wsX6_begins wsX6_puts := goodIn_r _ [5, 6, 7, 8, 9, 10, 11, 12, 13, 14, 15, 16, 17, 18] rfl (by decide +kernel)
set_option maxRecDepth 20000 in
theorem gX6_begins_X6_puts : GoodIn wsX6_begins (wsV RX6 66 RX6 yX6_puts wsX6_puts) := goodIn_app (goodIn_of _ (by decide +kernel)) ggX6_begins_X6_puts
theorem dX6_begins_0 : decode cX6_begins 0 = .ok (.aload_n 0, 1) := by decide +kernel
theorem dX6_begins_1 : decode cX6_begins 1 = .ok (.iload_n 1, 1) := by decide +kernel
theorem dX6_begins_2 : decode cX6_begins 2 = .ok (.iconst 0, 1) := by decide +kernel
theorem dX6_begins_3 : decode cX6_begins 3 = .ok (.iconst 1, 1) := by decide +kernel
theorem dX6_begins_4 : decode cX6_begins 4 = .ok (.invokevirtual 66, 3) := by decide +kernel
theorem dX6_begins_7 : decode cX6_begins 7 = .ok (.aload_n 0, 1) := by decide +kernel
theorem dX6_begins_8 : decode cX6_begins 8 = .ok (.iload_n 1, 1) := by decide +kernel
theorem dX6_begins_9 : decode cX6_begins 9 = .ok (.iconst 1, 1) := by decide +kernel
theorem dX6_begins_10 : decode cX6_begins 10 = .ok (.iload_n 2, 1) := by decide +kernel
theorem dX6_begins_11 : decode cX6_begins 11 = .ok (.invokevirtual 66, 3) := by decide +kernel
theorem dX6_begins_14 : decode cX6_begins 14 = .ok (.aload_n 0, 1) := by decide +kernel
theorem dX6_begins_15 : decode cX6_begins 15 = .ok (.iload_n 1, 1) := by decide +kernel
theorem dX6_begins_16 : decode cX6_begins 16 = .ok (.iconst 2, 1) := by decide +kernel
theorem dX6_begins_17 : decode cX6_begins 17 = .ok (.bipush 50, 2) := by decide +kernel
theorem dX6_begins_19 : decode cX6_begins 19 = .ok (.invokevirtual 66, 3) := by decide +kernel
theorem dX6_begins_22 : decode cX6_begins 22 = .ok (.aload_n 0, 1) := by decide +kernel
theorem dX6_begins_23 : decode cX6_begins 23 = .ok (.iload_n 1, 1) := by decide +kernel
theorem dX6_begins_24 : decode cX6_begins 24 = .ok (.iconst 3, 1) := by decide +kernel
theorem dX6_begins_25 : decode cX6_begins 25 = .ok (.iconst 0, 1) := by decide +kernel
theorem dX6_begins_26 : decode cX6_begins 26 = .ok (.invokevirtual 66, 3) := by decide +kernel
theorem dX6_begins_29 : decode cX6_begins 29 = .ok (.aload_n 0, 1) := by decide +kernel
theorem dX6_begins_30 : decode cX6_begins 30 = .ok (.iload_n 1, 1) := by decide +kernel
theorem dX6_begins_31 : decode cX6_begins 31 = .ok (.iconst 4, 1) := by decide +kernel
theorem dX6_begins_32 : decode cX6_begins 32 = .ok (.iconst (-1), 1) := by decide +kernel
theorem dX6_begins_33 : decode cX6_begins 33 = .ok (.invokevirtual 66, 3) := by decide +kernel
theorem dX6_begins_36 : decode cX6_begins 36 = .ok (.aload_n 0, 1) := by decide +kernel
theorem dX6_begins_37 : decode cX6_begins 37 = .ok (.iload_n 1, 1) := by decide +kernel
theorem dX6_begins_38 : decode cX6_begins 38 = .ok (.iconst 5, 1) := by decide +kernel
theorem dX6_begins_39 : decode cX6_begins 39 = .ok (.iconst 0, 1) := by decide +kernel
theorem dX6_begins_40 : decode cX6_begins 40 = .ok (.invokevirtual 66, 3) := by decide +kernel
theorem dX6_begins_43 : decode cX6_begins 43 = .ok (.aload_n 0, 1) := by decide +kernel
theorem dX6_begins_44 : decode cX6_begins 44 = .ok (.iload_n 1, 1) := by decide +kernel
theorem dX6_begins_45 : decode cX6_begins 45 = .ok (.bipush 6, 2) := by decide +kernel
theorem dX6_begins_47 : decode cX6_begins 47 = .ok (.iconst 0, 1) := by decide +kernel
theorem dX6_begins_48 : decode cX6_begins 48 = .ok (.invokevirtual 66, 3) := by decide +kernel
theorem dX6_begins_51 : decode cX6_begins 51 = .ok (.iconst 0, 1) := by decide +kernel
theorem dX6_begins_52 : decode cX6_begins 52 = .ok (.istore_n 3, 1) := by decide +kernel
theorem dX6_begins_53 : decode cX6_begins 53 = .ok (.iload_n 3, 1) := by decide +kernel
theorem dX6_begins_54 : decode cX6_begins 54 = .ok (.bipush 40, 2) := by decide +kernel
theorem dX6_begins_56 : decode cX6_begins 56 = .ok (.if_icmp .ge 19, 3) := by decide +kernel
theorem dX6_begins_59 : decode cX6_begins 59 = .ok (.aload_n 0, 1) := by decide +kernel
theorem dX6_begins_60 : decode cX6_begins 60 = .ok (.iload_n 1, 1) := by decide +kernel
theorem dX6_begins_61 : decode cX6_begins 61 = .ok (.bipush 7, 2) := by decide +kernel
theorem dX6_begins_63 : decode cX6_begins 63 = .ok (.iload_n 3, 1) := by decide +kernel
theorem dX6_begins_64 : decode cX6_begins 64 = .ok (.iadd, 1) := by decide +kernel
theorem dX6_begins_65 : decode cX6_begins 65 = .ok (.iconst (-1), 1) := by decide +kernel
theorem dX6_begins_66 : decode cX6_begins 66 = .ok (.invokevirtual 66, 3) := by decide +kernel
theorem dX6_begins_69 : decode cX6_begins 69 = .ok (.iinc 3 1, 3) := by decide +kernel
theorem dX6_begins_72 : decode cX6_begins 72 = .ok (.goto (-19), 3) := by decide +kernel
theorem dX6_begins_75 : decode cX6_begins 75 = .ok (.return_, 1) := by decide +kernel
set_option maxRecDepth 20000 in
theorem ggX6_volume_X6_in : GoodIn wsX6_volume wsX6_in := goodIn_r _ [6] rfl (by decide +kernel)
set_option maxRecDepth 20000 in
theorem gX6_volume_X6_in : GoodIn wsX6_volume (va_wsS RX6 36 yX6_in wsX6_in) := goodIn_app (goodIn_of _ (by decide +kernel)) ggX6_volume_X6_in
set_option maxRecDepth 20000 in
theorem ggX6_volume_X6_free8 : GoodIn wsX6_volume wsX6_free8 := goodIn_r _ [10, 11, 12, 13, 5, 14, 15, 31, 32, 33, 34, 35, 36, 37, 38, 39, 40, 41, 42] rfl (by decide +kernel)
set_option maxRecDepth 20000 in
theorem gX6_volume_X6_free8 : GoodIn wsX6_volume (wsV RX6 87 RX6 yX6_free8 wsX6_free8) := goodIn_app (goodIn_of _ (by decide +kernel)) ggX6_volume_X6_free8
set_option maxRecDepth 20000 in
theorem ggX6_volume_X6_changes : GoodIn wsX6_volume wsX6_changes := goodIn_r _ [19, 20, 21, 22, 15, 31, 32, 33, 34, 35, 36, 37, 38, 39, 40, 41, 42] rfl (by decide +kernel)
set_option maxRecDepth 20000 in
theorem gX6_volume_X6_changes : GoodIn wsX6_volume (wsV RX6 91 RX6 yX6_changes wsX6_changes) := goodIn_app (goodIn_of _ (by decide +kernel)) ggX6_volume_X6_changes
set_option maxRecDepth 20000 in
theorem ggX6_volume_X6_begins : GoodIn wsX6_volume wsX6_begins := goodIn_r _ [26, 27, 28, 29, 5, 30, 15, 31, 32, 33, 34, 35, 36, 37, 38, 39, 40, 41, 42] rfl (by decide +kernel)
set_option maxRecDepth 20000 in
theorem gX6_volume_X6_begins : GoodIn wsX6_volume (wsV RX6 94 RX6 yX6_begins wsX6_begins) := goodIn_app (goodIn_of _ (by decide +kernel)) ggX6_volume_X6_begins
theorem dX6_volume_0 : decode cX6_volume 0 = .ok (.iload_n 1, 1) := by decide +kernel
theorem dX6_volume_1 : decode cX6_volume 1 = .ok (.iconst 1, 1) := by decide +kernel
theorem dX6_volume_2 : decode cX6_volume 2 = .ok (.bipush 40, 2) := by decide +kernel
theorem dX6_volume_4 : decode cX6_volume 4 = .ok (.invokestatic 36, 3) := by decide +kernel
theorem dX6_volume_7 : decode cX6_volume 7 = .ok (.ifCond .ne 6, 3) := by decide +kernel
theorem dX6_volume_10 : decode cX6_volume 10 = .ok (.ldc 86, 2) := by decide +kernel
theorem dX6_volume_12 : decode cX6_volume 12 = .ok (.ireturn, 1) := by decide +kernel
theorem dX6_volume_13 : decode cX6_volume 13 = .ok (.aload_n 0, 1) := by decide +kernel
theorem dX6_volume_14 : decode cX6_volume 14 = .ok (.invokevirtual 87, 3) := by decide +kernel
theorem dX6_volume_17 : decode cX6_volume 17 = .ok (.istore_n 2, 1) := by decide +kernel
theorem dX6_volume_18 : decode cX6_volume 18 = .ok (.iload_n 2, 1) := by decide +kernel
theorem dX6_volume_19 : decode cX6_volume 19 = .ok (.bipush 8, 2) := by decide +kernel
theorem dX6_volume_21 : decode cX6_volume 21 = .ok (.if_icmp .ne 6, 3) := by decide +kernel
theorem dX6_volume_24 : decode cX6_volume 24 = .ok (.ldc 90, 2) := by decide +kernel
theorem dX6_volume_26 : decode cX6_volume 26 = .ok (.ireturn, 1) := by decide +kernel
theorem dX6_volume_27 : decode cX6_volume 27 = .ok (.aload_n 0, 1) := by decide +kernel
theorem dX6_volume_28 : decode cX6_volume 28 = .ok (.invokevirtual 91, 3) := by decide +kernel
theorem dX6_volume_31 : decode cX6_volume 31 = .ok (.aload_n 0, 1) := by decide +kernel
theorem dX6_volume_32 : decode cX6_volume 32 = .ok (.iload_n 2, 1) := by decide +kernel
theorem dX6_volume_33 : decode cX6_volume 33 = .ok (.iload_n 1, 1) := by decide +kernel
theorem dX6_volume_34 : decode cX6_volume 34 = .ok (.invokevirtual 94, 3) := by decide +kernel
theorem dX6_volume_37 : decode cX6_volume 37 = .ok (.iload_n 2, 1) := by decide +kernel
theorem dX6_volume_38 : decode cX6_volume 38 = .ok (.ireturn, 1) := by decide +kernel
set_option maxRecDepth 20000 in
theorem ggX6_share_X6_isVolume : GoodIn wsX6_share wsX6_isVolume := goodIn_r _ [7, 8, 9, 6, 10, 11, 12, 13, 14, 15, 39, 40, 41, 42, 43, 44, 45, 46, 47, 48, 49, 50] rfl (by decide +kernel)
set_option maxRecDepth 20000 in
theorem gX6_share_X6_isVolume : GoodIn wsX6_share (wsV RX6 44 RX6 yX6_isVolume wsX6_isVolume) := goodIn_app (goodIn_of _ (by decide +kernel)) ggX6_share_X6_isVolume
set_option maxRecDepth 20000 in
theorem ggX6_share_X6_free8 : GoodIn wsX6_share wsX6_free8 := goodIn_r _ [19, 11, 12, 13, 6, 14, 15, 39, 40, 41, 42, 43, 44, 45, 46, 47, 48, 49, 50] rfl (by decide +kernel)
set_option maxRecDepth 20000 in
theorem gX6_share_X6_free8 : GoodIn wsX6_share (wsV RX6 87 RX6 yX6_free8 wsX6_free8) := goodIn_app (goodIn_of _ (by decide +kernel)) ggX6_share_X6_free8
set_option maxRecDepth 20000 in
theorem ggX6_share_X6_changes : GoodIn wsX6_share wsX6_changes := goodIn_r _ [23, 24, 25, 26, 15, 39, 40, 41, 42, 43, 44, 45, 46, 47, 48, 49, 50] rfl (by decide +kernel)
set_option maxRecDepth 20000 in
theorem gX6_share_X6_changes : GoodIn wsX6_share (wsV RX6 91 RX6 yX6_changes wsX6_changes) := goodIn_app (goodIn_of _ (by decide +kernel)) ggX6_share_X6_changes
set_option maxRecDepth 20000 in
theorem ggX6_share_X6_of : GoodIn wsX6_share wsX6_of := goodIn_r _ [14, 15, 39, 40, 41, 42, 43, 44, 45, 46, 47, 48, 49, 50] rfl (by decide +kernel)
set_option maxRecDepth 20000 in
theorem gX6_share_X6_of : GoodIn wsX6_share (wsV RX6 40 RX6 yX6_of wsX6_of) := goodIn_app (goodIn_of _ (by decide +kernel)) ggX6_share_X6_of
set_option maxRecDepth 20000 in
theorem ggX6_share_X6_begins : GoodIn wsX6_share wsX6_begins := goodIn_r _ [30, 31, 32, 33, 6, 34, 15, 39, 40, 41, 42, 43, 44, 45, 46, 47, 48, 49, 50] rfl (by decide +kernel)
set_option maxRecDepth 20000 in
theorem gX6_share_X6_begins : GoodIn wsX6_share (wsV RX6 94 RX6 yX6_begins wsX6_begins) := goodIn_app (goodIn_of _ (by decide +kernel)) ggX6_share_X6_begins
set_option maxRecDepth 20000 in
theorem ggX6_share_X6_puts : GoodIn wsX6_share wsX6_puts := goodIn_r _ [34, 15, 39, 40, 41, 42, 43, 44, 45, 46, 47, 48, 49, 50] rfl (by decide +kernel)
set_option maxRecDepth 20000 in
theorem gX6_share_X6_puts : GoodIn wsX6_share (wsV RX6 66 RX6 yX6_puts wsX6_puts) := goodIn_app (goodIn_of _ (by decide +kernel)) ggX6_share_X6_puts
set_option maxRecDepth 20000 in
theorem ggX6_share_X6_piece : GoodIn wsX6_share wsX6_piece := goodIn_r _ [38, 11, 12, 13, 6, 14, 15, 39, 40, 41, 42, 43, 44, 45, 46, 47, 48, 49, 50] rfl (by decide +kernel)
set_option maxRecDepth 20000 in
theorem gX6_share_X6_piece : GoodIn wsX6_share (wsV RX6 48 RX6 yX6_piece wsX6_piece) := goodIn_app (goodIn_of _ (by decide +kernel)) ggX6_share_X6_piece
theorem dX6_share_0 : decode cX6_share 0 = .ok (.aload_n 0, 1) := by decide +kernel
theorem dX6_share_1 : decode cX6_share 1 = .ok (.iload_n 1, 1) := by decide +kernel
theorem dX6_share_2 : decode cX6_share 2 = .ok (.invokevirtual 44, 3) := by decide +kernel
theorem dX6_share_5 : decode cX6_share 5 = .ok (.ifCond .ne 6, 3) := by decide +kernel
theorem dX6_share_8 : decode cX6_share 8 = .ok (.ldc 86, 2) := by decide +kernel
theorem dX6_share_10 : decode cX6_share 10 = .ok (.ireturn, 1) := by decide +kernel
theorem dX6_share_11 : decode cX6_share 11 = .ok (.aload_n 0, 1) := by decide +kernel
theorem dX6_share_12 : decode cX6_share 12 = .ok (.invokevirtual 87, 3) := by decide +kernel
theorem dX6_share_15 : decode cX6_share 15 = .ok (.istore_n 2, 1) := by decide +kernel
theorem dX6_share_16 : decode cX6_share 16 = .ok (.iload_n 2, 1) := by decide +kernel
theorem dX6_share_17 : decode cX6_share 17 = .ok (.bipush 8, 2) := by decide +kernel
theorem dX6_share_19 : decode cX6_share 19 = .ok (.if_icmp .ne 6, 3) := by decide +kernel
theorem dX6_share_22 : decode cX6_share 22 = .ok (.ldc 90, 2) := by decide +kernel
theorem dX6_share_24 : decode cX6_share 24 = .ok (.ireturn, 1) := by decide +kernel
theorem dX6_share_25 : decode cX6_share 25 = .ok (.aload_n 0, 1) := by decide +kernel
theorem dX6_share_26 : decode cX6_share 26 = .ok (.invokevirtual 91, 3) := by decide +kernel
theorem dX6_share_29 : decode cX6_share 29 = .ok (.aload_n 0, 1) := by decide +kernel
theorem dX6_share_30 : decode cX6_share 30 = .ok (.iload_n 2, 1) := by decide +kernel
theorem dX6_share_31 : decode cX6_share 31 = .ok (.aload_n 0, 1) := by decide +kernel
theorem dX6_share_32 : decode cX6_share 32 = .ok (.iload_n 1, 1) := by decide +kernel
theorem dX6_share_33 : decode cX6_share 33 = .ok (.iconst 1, 1) := by decide +kernel
theorem dX6_share_34 : decode cX6_share 34 = .ok (.invokevirtual 40, 3) := by decide +kernel
theorem dX6_share_37 : decode cX6_share 37 = .ok (.invokevirtual 94, 3) := by decide +kernel
theorem dX6_share_40 : decode cX6_share 40 = .ok (.aload_n 0, 1) := by decide +kernel
theorem dX6_share_41 : decode cX6_share 41 = .ok (.iload_n 2, 1) := by decide +kernel
theorem dX6_share_42 : decode cX6_share 42 = .ok (.iconst 4, 1) := by decide +kernel
theorem dX6_share_43 : decode cX6_share 43 = .ok (.iload_n 1, 1) := by decide +kernel
theorem dX6_share_44 : decode cX6_share 44 = .ok (.invokevirtual 66, 3) := by decide +kernel
theorem dX6_share_47 : decode cX6_share 47 = .ok (.iconst 0, 1) := by decide +kernel
theorem dX6_share_48 : decode cX6_share 48 = .ok (.istore_n 3, 1) := by decide +kernel
theorem dX6_share_49 : decode cX6_share 49 = .ok (.iload_n 3, 1) := by decide +kernel
theorem dX6_share_50 : decode cX6_share 50 = .ok (.bipush 40, 2) := by decide +kernel
theorem dX6_share_52 : decode cX6_share 52 = .ok (.if_icmp .ge 24, 3) := by decide +kernel
theorem dX6_share_55 : decode cX6_share 55 = .ok (.aload_n 0, 1) := by decide +kernel
theorem dX6_share_56 : decode cX6_share 56 = .ok (.iload_n 2, 1) := by decide +kernel
theorem dX6_share_57 : decode cX6_share 57 = .ok (.bipush 7, 2) := by decide +kernel
theorem dX6_share_59 : decode cX6_share 59 = .ok (.iload_n 3, 1) := by decide +kernel
theorem dX6_share_60 : decode cX6_share 60 = .ok (.iadd, 1) := by decide +kernel
theorem dX6_share_61 : decode cX6_share 61 = .ok (.aload_n 0, 1) := by decide +kernel
theorem dX6_share_62 : decode cX6_share 62 = .ok (.iload_n 1, 1) := by decide +kernel
theorem dX6_share_63 : decode cX6_share 63 = .ok (.iload_n 3, 1) := by decide +kernel
theorem dX6_share_64 : decode cX6_share 64 = .ok (.invokevirtual 48, 3) := by decide +kernel
theorem dX6_share_67 : decode cX6_share 67 = .ok (.invokevirtual 66, 3) := by decide +kernel
theorem dX6_share_70 : decode cX6_share 70 = .ok (.iinc 3 1, 3) := by decide +kernel
theorem dX6_share_73 : decode cX6_share 73 = .ok (.goto (-24), 3) := by decide +kernel
theorem dX6_share_76 : decode cX6_share 76 = .ok (.iload_n 2, 1) := by decide +kernel
theorem dX6_share_77 : decode cX6_share 77 = .ok (.ireturn, 1) := by decide +kernel
set_option maxRecDepth 20000 in
theorem ggX6_trims_X6_piece : GoodIn wsX6_trims wsX6_piece := goodIn_r _ [6, 7, 8, 9, 5, 10, 1, 23, 24, 25, 26, 27, 28, 29, 30, 31, 32, 33, 34] rfl (by decide +kernel)
set_option maxRecDepth 20000 in
theorem gX6_trims_X6_piece : GoodIn wsX6_trims (wsV RX6 48 RX6 yX6_piece wsX6_piece) := goodIn_app (goodIn_of _ (by decide +kernel)) ggX6_trims_X6_piece
set_option maxRecDepth 20000 in
theorem ggX6_trims_X6_puts : GoodIn wsX6_trims wsX6_puts := goodIn_r _ [14, 1, 23, 24, 25, 26, 27, 28, 29, 30, 31, 32, 33, 34] rfl (by decide +kernel)
set_option maxRecDepth 20000 in
theorem gX6_trims_X6_puts : GoodIn wsX6_trims (wsV RX6 66 RX6 yX6_puts wsX6_puts) := goodIn_app (goodIn_of _ (by decide +kernel)) ggX6_trims_X6_puts
set_option maxRecDepth 20000 in
theorem ggX6_trims_X6_owners : GoodIn wsX6_trims wsX6_owners := goodIn_r _ [18, 19, 20, 21, 5, 22, 7, 8, 9, 10, 1, 2, 3, 4, 6, 23, 24, 25, 26, 27, 28, 29, 30, 31, 32, 33, 34] rfl (by decide +kernel)
set_option maxRecDepth 20000 in
theorem gX6_trims_X6_owners : GoodIn wsX6_trims (wsV RX6 54 RX6 yX6_owners wsX6_owners) := goodIn_app (goodIn_of _ (by decide +kernel)) ggX6_trims_X6_owners
theorem dX6_trims_0 : decode cX6_trims 0 = .ok (.aload_n 0, 1) := by decide +kernel
theorem dX6_trims_1 : decode cX6_trims 1 = .ok (.iload_n 1, 1) := by decide +kernel
theorem dX6_trims_2 : decode cX6_trims 2 = .ok (.iload_n 2, 1) := by decide +kernel
theorem dX6_trims_3 : decode cX6_trims 3 = .ok (.invokevirtual 48, 3) := by decide +kernel
theorem dX6_trims_6 : decode cX6_trims 6 = .ok (.istore_n 3, 1) := by decide +kernel
theorem dX6_trims_7 : decode cX6_trims 7 = .ok (.aload_n 0, 1) := by decide +kernel
theorem dX6_trims_8 : decode cX6_trims 8 = .ok (.iload_n 1, 1) := by decide +kernel
theorem dX6_trims_9 : decode cX6_trims 9 = .ok (.bipush 7, 2) := by decide +kernel
theorem dX6_trims_11 : decode cX6_trims 11 = .ok (.iload_n 2, 1) := by decide +kernel
theorem dX6_trims_12 : decode cX6_trims 12 = .ok (.iadd, 1) := by decide +kernel
theorem dX6_trims_13 : decode cX6_trims 13 = .ok (.iconst (-1), 1) := by decide +kernel
theorem dX6_trims_14 : decode cX6_trims 14 = .ok (.invokevirtual 66, 3) := by decide +kernel
theorem dX6_trims_17 : decode cX6_trims 17 = .ok (.aload_n 0, 1) := by decide +kernel
theorem dX6_trims_18 : decode cX6_trims 18 = .ok (.iload_n 3, 1) := by decide +kernel
theorem dX6_trims_19 : decode cX6_trims 19 = .ok (.invokevirtual 54, 3) := by decide +kernel
theorem dX6_trims_22 : decode cX6_trims 22 = .ok (.ifCond .ne 7, 3) := by decide +kernel
theorem dX6_trims_25 : decode cX6_trims 25 = .ok (.iconst 1, 1) := by decide +kernel
theorem dX6_trims_26 : decode cX6_trims 26 = .ok (.goto 4, 3) := by decide +kernel
theorem dX6_trims_29 : decode cX6_trims 29 = .ok (.iconst 0, 1) := by decide +kernel
theorem dX6_trims_30 : decode cX6_trims 30 = .ok (.istore 4, 2) := by decide +kernel
theorem dX6_trims_32 : decode cX6_trims 32 = .ok (.aload_n 0, 1) := by decide +kernel
theorem dX6_trims_33 : decode cX6_trims 33 = .ok (.getfield 7, 3) := by decide +kernel
theorem dX6_trims_36 : decode cX6_trims 36 = .ok (.iconst 5, 1) := by decide +kernel
theorem dX6_trims_37 : decode cX6_trims 37 = .ok (.dup2, 1) := by decide +kernel
theorem dX6_trims_38 : decode cX6_trims 38 = .ok (.iaload, 1) := by decide +kernel
theorem dX6_trims_39 : decode cX6_trims 39 = .ok (.iload 4, 2) := by decide +kernel
theorem dX6_trims_41 : decode cX6_trims 41 = .ok (.iadd, 1) := by decide +kernel
theorem dX6_trims_42 : decode cX6_trims 42 = .ok (.iastore, 1) := by decide +kernel
theorem dX6_trims_43 : decode cX6_trims 43 = .ok (.iload 4, 2) := by decide +kernel
theorem dX6_trims_45 : decode cX6_trims 45 = .ok (.ireturn, 1) := by decide +kernel
set_option maxRecDepth 20000 in
theorem ggX6_drop_X6_isVolume : GoodIn wsX6_drop wsX6_isVolume := goodIn_r _ [6, 7, 8, 5, 9, 10, 11, 12, 13, 14, 42, 43, 44, 45, 46, 47, 48, 49, 50, 51, 52, 53] rfl (by decide +kernel)
set_option maxRecDepth 20000 in
theorem gX6_drop_X6_isVolume : GoodIn wsX6_drop (wsV RX6 44 RX6 yX6_isVolume wsX6_isVolume) := goodIn_app (goodIn_of _ (by decide +kernel)) ggX6_drop_X6_isVolume
set_option maxRecDepth 20000 in
theorem ggX6_drop_X6_changes : GoodIn wsX6_drop wsX6_changes := goodIn_r _ [18, 19, 20, 21, 14, 42, 43, 44, 45, 46, 47, 48, 49, 50, 51, 52, 53] rfl (by decide +kernel)
set_option maxRecDepth 20000 in
theorem gX6_drop_X6_changes : GoodIn wsX6_drop (wsV RX6 91 RX6 yX6_changes wsX6_changes) := goodIn_app (goodIn_of _ (by decide +kernel)) ggX6_drop_X6_changes
set_option maxRecDepth 20000 in
theorem ggX6_drop_X6_of : GoodIn wsX6_drop wsX6_of := goodIn_r _ [13, 14, 42, 43, 44, 45, 46, 47, 48, 49, 50, 51, 52, 53] rfl (by decide +kernel)
set_option maxRecDepth 20000 in
theorem gX6_drop_X6_of : GoodIn wsX6_drop (wsV RX6 40 RX6 yX6_of wsX6_of) := goodIn_app (goodIn_of _ (by decide +kernel)) ggX6_drop_X6_of
set_option maxRecDepth 20000 in
theorem ggX6_drop_X6_piece : GoodIn wsX6_drop wsX6_piece := goodIn_r _ [25, 10, 11, 12, 5, 13, 14, 42, 43, 44, 45, 46, 47, 48, 49, 50, 51, 52, 53] rfl (by decide +kernel)
set_option maxRecDepth 20000 in
theorem gX6_drop_X6_piece : GoodIn wsX6_drop (wsV RX6 48 RX6 yX6_piece wsX6_piece) := goodIn_app (goodIn_of _ (by decide +kernel)) ggX6_drop_X6_piece
set_option maxRecDepth 20000 in
theorem ggX6_drop_X6_trims : GoodIn wsX6_drop wsX6_trims := goodIn_r _ [29, 14, 22, 23, 24, 5, 25, 10, 11, 12, 13, 30, 31, 32, 33, 34, 35, 36, 37, 38, 39, 40, 41, 42, 43, 44, 45, 46, 47, 48, 49, 50, 51, 52, 53] rfl (by decide +kernel)
set_option maxRecDepth 20000 in
theorem gX6_drop_X6_trims : GoodIn wsX6_drop (wsV RX6 97 RX6 yX6_trims wsX6_trims) := goodIn_app (goodIn_of _ (by decide +kernel)) ggX6_drop_X6_trims
set_option maxRecDepth 20000 in
theorem ggX6_drop_X6_puts : GoodIn wsX6_drop wsX6_puts := goodIn_r _ [33, 14, 42, 43, 44, 45, 46, 47, 48, 49, 50, 51, 52, 53] rfl (by decide +kernel)
set_option maxRecDepth 20000 in
theorem gX6_drop_X6_puts : GoodIn wsX6_drop (wsV RX6 66 RX6 yX6_puts wsX6_puts) := goodIn_app (goodIn_of _ (by decide +kernel)) ggX6_drop_X6_puts
theorem dX6_drop_0 : decode cX6_drop 0 = .ok (.aload_n 0, 1) := by decide +kernel
theorem dX6_drop_1 : decode cX6_drop 1 = .ok (.iload_n 1, 1) := by decide +kernel
theorem dX6_drop_2 : decode cX6_drop 2 = .ok (.invokevirtual 44, 3) := by decide +kernel
theorem dX6_drop_5 : decode cX6_drop 5 = .ok (.ifCond .ne 6, 3) := by decide +kernel
theorem dX6_drop_8 : decode cX6_drop 8 = .ok (.ldc 86, 2) := by decide +kernel
theorem dX6_drop_10 : decode cX6_drop 10 = .ok (.ireturn, 1) := by decide +kernel
theorem dX6_drop_11 : decode cX6_drop 11 = .ok (.aload_n 0, 1) := by decide +kernel
theorem dX6_drop_12 : decode cX6_drop 12 = .ok (.invokevirtual 91, 3) := by decide +kernel
theorem dX6_drop_15 : decode cX6_drop 15 = .ok (.iconst 0, 1) := by decide +kernel
theorem dX6_drop_16 : decode cX6_drop 16 = .ok (.istore_n 2, 1) := by decide +kernel
theorem dX6_drop_17 : decode cX6_drop 17 = .ok (.iconst 0, 1) := by decide +kernel
theorem dX6_drop_18 : decode cX6_drop 18 = .ok (.istore_n 3, 1) := by decide +kernel
theorem dX6_drop_19 : decode cX6_drop 19 = .ok (.iload_n 3, 1) := by decide +kernel
theorem dX6_drop_20 : decode cX6_drop 20 = .ok (.aload_n 0, 1) := by decide +kernel
theorem dX6_drop_21 : decode cX6_drop 21 = .ok (.iload_n 1, 1) := by decide +kernel
theorem dX6_drop_22 : decode cX6_drop 22 = .ok (.iconst 1, 1) := by decide +kernel
theorem dX6_drop_23 : decode cX6_drop 23 = .ok (.invokevirtual 40, 3) := by decide +kernel
theorem dX6_drop_26 : decode cX6_drop 26 = .ok (.if_icmp .ge 31, 3) := by decide +kernel
theorem dX6_drop_29 : decode cX6_drop 29 = .ok (.iload_n 2, 1) := by decide +kernel
theorem dX6_drop_30 : decode cX6_drop 30 = .ok (.aload_n 0, 1) := by decide +kernel
theorem dX6_drop_31 : decode cX6_drop 31 = .ok (.iload_n 1, 1) := by decide +kernel
theorem dX6_drop_32 : decode cX6_drop 32 = .ok (.iload_n 3, 1) := by decide +kernel
theorem dX6_drop_33 : decode cX6_drop 33 = .ok (.invokevirtual 48, 3) := by decide +kernel
theorem dX6_drop_36 : decode cX6_drop 36 = .ok (.ifCond .ge 7, 3) := by decide +kernel
theorem dX6_drop_39 : decode cX6_drop 39 = .ok (.iconst 0, 1) := by decide +kernel
theorem dX6_drop_40 : decode cX6_drop 40 = .ok (.goto 9, 3) := by decide +kernel
theorem dX6_drop_43 : decode cX6_drop 43 = .ok (.aload_n 0, 1) := by decide +kernel
theorem dX6_drop_44 : decode cX6_drop 44 = .ok (.iload_n 1, 1) := by decide +kernel
theorem dX6_drop_45 : decode cX6_drop 45 = .ok (.iload_n 3, 1) := by decide +kernel
theorem dX6_drop_46 : decode cX6_drop 46 = .ok (.invokevirtual 97, 3) := by decide +kernel
theorem dX6_drop_49 : decode cX6_drop 49 = .ok (.iadd, 1) := by decide +kernel
theorem dX6_drop_50 : decode cX6_drop 50 = .ok (.istore_n 2, 1) := by decide +kernel
theorem dX6_drop_51 : decode cX6_drop 51 = .ok (.iinc 3 1, 3) := by decide +kernel
theorem dX6_drop_54 : decode cX6_drop 54 = .ok (.goto (-35), 3) := by decide +kernel
theorem dX6_drop_57 : decode cX6_drop 57 = .ok (.aload_n 0, 1) := by decide +kernel
theorem dX6_drop_58 : decode cX6_drop 58 = .ok (.iload_n 1, 1) := by decide +kernel
theorem dX6_drop_59 : decode cX6_drop 59 = .ok (.iconst 0, 1) := by decide +kernel
theorem dX6_drop_60 : decode cX6_drop 60 = .ok (.iconst 0, 1) := by decide +kernel
theorem dX6_drop_61 : decode cX6_drop 61 = .ok (.invokevirtual 66, 3) := by decide +kernel
theorem dX6_drop_64 : decode cX6_drop 64 = .ok (.iconst 0, 1) := by decide +kernel
theorem dX6_drop_65 : decode cX6_drop 65 = .ok (.istore_n 3, 1) := by decide +kernel
theorem dX6_drop_66 : decode cX6_drop 66 = .ok (.iload_n 3, 1) := by decide +kernel
theorem dX6_drop_67 : decode cX6_drop 67 = .ok (.bipush 8, 2) := by decide +kernel
theorem dX6_drop_69 : decode cX6_drop 69 = .ok (.if_icmp .ge 41, 3) := by decide +kernel
theorem dX6_drop_72 : decode cX6_drop 72 = .ok (.aload_n 0, 1) := by decide +kernel
theorem dX6_drop_73 : decode cX6_drop 73 = .ok (.iload_n 3, 1) := by decide +kernel
theorem dX6_drop_74 : decode cX6_drop 74 = .ok (.iconst 0, 1) := by decide +kernel
theorem dX6_drop_75 : decode cX6_drop 75 = .ok (.invokevirtual 40, 3) := by decide +kernel
theorem dX6_drop_78 : decode cX6_drop 78 = .ok (.iconst 1, 1) := by decide +kernel
theorem dX6_drop_79 : decode cX6_drop 79 = .ok (.if_icmp .ne 25, 3) := by decide +kernel
theorem dX6_drop_82 : decode cX6_drop 82 = .ok (.aload_n 0, 1) := by decide +kernel
theorem dX6_drop_83 : decode cX6_drop 83 = .ok (.iload_n 3, 1) := by decide +kernel
theorem dX6_drop_84 : decode cX6_drop 84 = .ok (.iconst 4, 1) := by decide +kernel
theorem dX6_drop_85 : decode cX6_drop 85 = .ok (.invokevirtual 40, 3) := by decide +kernel
theorem dX6_drop_88 : decode cX6_drop 88 = .ok (.iload_n 1, 1) := by decide +kernel
theorem dX6_drop_89 : decode cX6_drop 89 = .ok (.if_icmp .ne 15, 3) := by decide +kernel
theorem dX6_drop_92 : decode cX6_drop 92 = .ok (.aload_n 0, 1) := by decide +kernel
theorem dX6_drop_93 : decode cX6_drop 93 = .ok (.iload_n 3, 1) := by decide +kernel
theorem dX6_drop_94 : decode cX6_drop 94 = .ok (.iconst 4, 1) := by decide +kernel
theorem dX6_drop_95 : decode cX6_drop 95 = .ok (.aload_n 0, 1) := by decide +kernel
theorem dX6_drop_96 : decode cX6_drop 96 = .ok (.iload_n 1, 1) := by decide +kernel
theorem dX6_drop_97 : decode cX6_drop 97 = .ok (.iconst 4, 1) := by decide +kernel
theorem dX6_drop_98 : decode cX6_drop 98 = .ok (.invokevirtual 40, 3) := by decide +kernel
theorem dX6_drop_101 : decode cX6_drop 101 = .ok (.invokevirtual 66, 3) := by decide +kernel
theorem dX6_drop_104 : decode cX6_drop 104 = .ok (.iinc 3 1, 3) := by decide +kernel
theorem dX6_drop_107 : decode cX6_drop 107 = .ok (.goto (-41), 3) := by decide +kernel
theorem dX6_drop_110 : decode cX6_drop 110 = .ok (.iload_n 2, 1) := by decide +kernel
theorem dX6_drop_111 : decode cX6_drop 111 = .ok (.ireturn, 1) := by decide +kernel
set_option maxRecDepth 20000 in
theorem ggX6_promise_X6_isVolume : GoodIn wsX6_promise wsX6_isVolume := goodIn_r _ [7, 8, 9, 6, 10, 11, 12, 13, 14, 15, 63, 64, 65, 66, 67, 68, 69, 70, 71, 72, 73, 74] rfl (by decide +kernel)
set_option maxRecDepth 20000 in
theorem gX6_promise_X6_isVolume : GoodIn wsX6_promise (wsV RX6 44 RX6 yX6_isVolume wsX6_isVolume) := goodIn_app (goodIn_of _ (by decide +kernel)) ggX6_promise_X6_isVolume
set_option maxRecDepth 20000 in
theorem ggX6_promise_X6_in : GoodIn wsX6_promise wsX6_in := goodIn_r _ [10] rfl (by decide +kernel)
set_option maxRecDepth 20000 in
theorem gX6_promise_X6_in : GoodIn wsX6_promise (va_wsS RX6 36 yX6_in wsX6_in) := goodIn_app (goodIn_of _ (by decide +kernel)) ggX6_promise_X6_in
set_option maxRecDepth 20000 in
theorem ggX6_promise_X6_of : GoodIn wsX6_promise wsX6_of := goodIn_r _ [14, 15, 63, 64, 65, 66, 67, 68, 69, 70, 71, 72, 73, 74] rfl (by decide +kernel)
set_option maxRecDepth 20000 in
theorem gX6_promise_X6_of : GoodIn wsX6_promise (wsV RX6 40 RX6 yX6_of wsX6_of) := goodIn_app (goodIn_of _ (by decide +kernel)) ggX6_promise_X6_of
set_option maxRecDepth 20000 in
theorem ggX6_promise_X6_promises : GoodIn wsX6_promise wsX6_promises := goodIn_r _ [19, 11, 12, 13, 6, 14, 15, 63, 64, 65, 66, 67, 68, 69, 70, 71, 72, 73, 74] rfl (by decide +kernel)
set_option maxRecDepth 20000 in
theorem gX6_promise_X6_promises : GoodIn wsX6_promise (wsV RX6 62 RX6 yX6_promises wsX6_promises) := goodIn_app (goodIn_of _ (by decide +kernel)) ggX6_promise_X6_promises
set_option maxRecDepth 20000 in
theorem ggX6_promise_X6_free : GoodIn wsX6_promise wsX6_free := goodIn_r _ [23, 24, 25, 26, 6, 27, 28, 29, 30, 31, 11, 12, 13, 14, 15, 32, 33, 34, 35, 63, 64, 65, 66, 67, 68, 69, 70, 71, 72, 73, 74] rfl (by decide +kernel)
set_option maxRecDepth 20000 in
theorem gX6_promise_X6_free : GoodIn wsX6_promise (wsV RX6 58 RX6 yX6_free wsX6_free) := goodIn_app (goodIn_of _ (by decide +kernel)) ggX6_promise_X6_free
set_option maxRecDepth 20000 in
theorem ggX6_promise_X6_changes : GoodIn wsX6_promise wsX6_changes := goodIn_r _ [39, 40, 41, 42, 15, 63, 64, 65, 66, 67, 68, 69, 70, 71, 72, 73, 74] rfl (by decide +kernel)
set_option maxRecDepth 20000 in
theorem gX6_promise_X6_changes : GoodIn wsX6_promise (wsV RX6 91 RX6 yX6_changes wsX6_changes) := goodIn_app (goodIn_of _ (by decide +kernel)) ggX6_promise_X6_changes
set_option maxRecDepth 20000 in
theorem ggX6_promise_X6_available : GoodIn wsX6_promise wsX6_available := goodIn_r _ [46, 20, 21, 22, 6, 23, 24, 25, 26, 27, 28, 29, 30, 31, 11, 12, 13, 14, 15, 32, 33, 34, 35, 16, 17, 18, 19, 63, 64, 65, 66, 67, 68, 69, 70, 71, 72, 73, 74] rfl (by decide +kernel)
set_option maxRecDepth 20000 in
theorem gX6_promise_X6_available : GoodIn wsX6_promise (wsV RX6 80 RX6 yX6_available wsX6_available) := goodIn_app (goodIn_of _ (by decide +kernel)) ggX6_promise_X6_available
set_option maxRecDepth 20000 in
theorem ggX6_promise_X6_levelBy : GoodIn wsX6_promise wsX6_levelBy := goodIn_r _ [50, 15, 63, 64, 65, 66, 67, 68, 69, 70, 71, 72, 73, 74] rfl (by decide +kernel)
set_option maxRecDepth 20000 in
theorem gX6_promise_X6_levelBy : GoodIn wsX6_promise (wsV RX6 70 RX6 yX6_levelBy wsX6_levelBy) := goodIn_app (goodIn_of _ (by decide +kernel)) ggX6_promise_X6_levelBy
set_option maxRecDepth 20000 in
theorem ggX6_promise_X6_puts : GoodIn wsX6_promise wsX6_puts := goodIn_r _ [54, 15, 63, 64, 65, 66, 67, 68, 69, 70, 71, 72, 73, 74] rfl (by decide +kernel)
set_option maxRecDepth 20000 in
theorem gX6_promise_X6_puts : GoodIn wsX6_promise (wsV RX6 66 RX6 yX6_puts wsX6_puts) := goodIn_app (goodIn_of _ (by decide +kernel)) ggX6_promise_X6_puts
set_option maxRecDepth 20000 in
theorem ggX6_promise_X6_ends : GoodIn wsX6_promise wsX6_ends := goodIn_r _ [58, 43, 44, 45, 6, 46, 20, 21, 22, 23, 24, 25, 26, 27, 28, 29, 30, 31, 11, 12, 13, 14, 15, 32, 33, 34, 35, 16, 17, 18, 19, 47, 48, 49, 50, 59, 60, 61, 62, 63, 64, 65, 66, 67, 68, 69, 70, 71, 72, 73, 74] rfl (by decide +kernel)
set_option maxRecDepth 20000 in
theorem gX6_promise_X6_ends : GoodIn wsX6_promise (wsV RX6 101 RX6 yX6_ends wsX6_ends) := goodIn_app (goodIn_of _ (by decide +kernel)) ggX6_promise_X6_ends
theorem dX6_promise_0 : decode cX6_promise 0 = .ok (.aload_n 0, 1) := by decide +kernel
theorem dX6_promise_1 : decode cX6_promise 1 = .ok (.iload_n 1, 1) := by decide +kernel
theorem dX6_promise_2 : decode cX6_promise 2 = .ok (.invokevirtual 44, 3) := by decide +kernel
theorem dX6_promise_5 : decode cX6_promise 5 = .ok (.ifCond .eq 13, 3) := by decide +kernel
theorem dX6_promise_8 : decode cX6_promise 8 = .ok (.iload_n 2, 1) := by decide +kernel
theorem dX6_promise_9 : decode cX6_promise 9 = .ok (.iconst 0, 1) := by decide +kernel
theorem dX6_promise_10 : decode cX6_promise 10 = .ok (.bipush 30, 2) := by decide +kernel
theorem dX6_promise_12 : decode cX6_promise 12 = .ok (.invokestatic 36, 3) := by decide +kernel
theorem dX6_promise_15 : decode cX6_promise 15 = .ok (.ifCond .ne 6, 3) := by decide +kernel
theorem dX6_promise_18 : decode cX6_promise 18 = .ok (.ldc 86, 2) := by decide +kernel
theorem dX6_promise_20 : decode cX6_promise 20 = .ok (.ireturn, 1) := by decide +kernel
theorem dX6_promise_21 : decode cX6_promise 21 = .ok (.aload_n 0, 1) := by decide +kernel
theorem dX6_promise_22 : decode cX6_promise 22 = .ok (.iload_n 1, 1) := by decide +kernel
theorem dX6_promise_23 : decode cX6_promise 23 = .ok (.iconst 3, 1) := by decide +kernel
theorem dX6_promise_24 : decode cX6_promise 24 = .ok (.invokevirtual 40, 3) := by decide +kernel
theorem dX6_promise_27 : decode cX6_promise 27 = .ok (.istore_n 3, 1) := by decide +kernel
theorem dX6_promise_28 : decode cX6_promise 28 = .ok (.aload_n 0, 1) := by decide +kernel
theorem dX6_promise_29 : decode cX6_promise 29 = .ok (.invokevirtual 62, 3) := by decide +kernel
theorem dX6_promise_32 : decode cX6_promise 32 = .ok (.iload_n 3, 1) := by decide +kernel
theorem dX6_promise_33 : decode cX6_promise 33 = .ok (.isub, 1) := by decide +kernel
theorem dX6_promise_34 : decode cX6_promise 34 = .ok (.iload_n 2, 1) := by decide +kernel
theorem dX6_promise_35 : decode cX6_promise 35 = .ok (.iadd, 1) := by decide +kernel
theorem dX6_promise_36 : decode cX6_promise 36 = .ok (.aload_n 0, 1) := by decide +kernel
theorem dX6_promise_37 : decode cX6_promise 37 = .ok (.invokevirtual 58, 3) := by decide +kernel
theorem dX6_promise_40 : decode cX6_promise 40 = .ok (.if_icmp .le 6, 3) := by decide +kernel
theorem dX6_promise_43 : decode cX6_promise 43 = .ok (.ldc 100, 2) := by decide +kernel
theorem dX6_promise_45 : decode cX6_promise 45 = .ok (.ireturn, 1) := by decide +kernel
theorem dX6_promise_46 : decode cX6_promise 46 = .ok (.aload_n 0, 1) := by decide +kernel
theorem dX6_promise_47 : decode cX6_promise 47 = .ok (.invokevirtual 91, 3) := by decide +kernel
theorem dX6_promise_50 : decode cX6_promise 50 = .ok (.aload_n 0, 1) := by decide +kernel
theorem dX6_promise_51 : decode cX6_promise 51 = .ok (.aload_n 0, 1) := by decide +kernel
theorem dX6_promise_52 : decode cX6_promise 52 = .ok (.invokevirtual 80, 3) := by decide +kernel
theorem dX6_promise_55 : decode cX6_promise 55 = .ok (.invokevirtual 70, 3) := by decide +kernel
theorem dX6_promise_58 : decode cX6_promise 58 = .ok (.istore 4, 2) := by decide +kernel
theorem dX6_promise_60 : decode cX6_promise 60 = .ok (.aload_n 0, 1) := by decide +kernel
theorem dX6_promise_61 : decode cX6_promise 61 = .ok (.iload_n 1, 1) := by decide +kernel
theorem dX6_promise_62 : decode cX6_promise 62 = .ok (.iconst 3, 1) := by decide +kernel
theorem dX6_promise_63 : decode cX6_promise 63 = .ok (.iload_n 2, 1) := by decide +kernel
theorem dX6_promise_64 : decode cX6_promise 64 = .ok (.invokevirtual 66, 3) := by decide +kernel
theorem dX6_promise_67 : decode cX6_promise 67 = .ok (.aload_n 0, 1) := by decide +kernel
theorem dX6_promise_68 : decode cX6_promise 68 = .ok (.iload 4, 2) := by decide +kernel
theorem dX6_promise_70 : decode cX6_promise 70 = .ok (.invokevirtual 101, 3) := by decide +kernel
theorem dX6_promise_73 : decode cX6_promise 73 = .ok (.iload_n 3, 1) := by decide +kernel
theorem dX6_promise_74 : decode cX6_promise 74 = .ok (.ireturn, 1) := by decide +kernel
set_option maxRecDepth 20000 in
theorem ggX6_set_X6_in : GoodIn wsX6_set wsX6_in := goodIn_r _ [6] rfl (by decide +kernel)
set_option maxRecDepth 20000 in
theorem gX6_set_X6_in : GoodIn wsX6_set (va_wsS RX6 36 yX6_in wsX6_in) := goodIn_app (goodIn_of _ (by decide +kernel)) ggX6_set_X6_in
set_option maxRecDepth 20000 in
theorem ggX6_set_X6_changes : GoodIn wsX6_set wsX6_changes := goodIn_r _ [10, 11, 12, 13, 2, 54, 55, 56, 57, 58, 59, 60, 61, 62, 63, 64, 65] rfl (by decide +kernel)
set_option maxRecDepth 20000 in
theorem gX6_set_X6_changes : GoodIn wsX6_set (wsV RX6 91 RX6 yX6_changes wsX6_changes) := goodIn_app (goodIn_of _ (by decide +kernel)) ggX6_set_X6_changes
set_option maxRecDepth 20000 in
theorem ggX6_set_X6_available : GoodIn wsX6_set wsX6_available := goodIn_r _ [17, 18, 19, 20, 5, 21, 22, 23, 24, 25, 26, 27, 28, 29, 30, 31, 32, 33, 2, 34, 35, 36, 37, 38, 39, 40, 41, 54, 55, 56, 57, 58, 59, 60, 61, 62, 63, 64, 65] rfl (by decide +kernel)
set_option maxRecDepth 20000 in
theorem gX6_set_X6_available : GoodIn wsX6_set (wsV RX6 80 RX6 yX6_available wsX6_available) := goodIn_app (goodIn_of _ (by decide +kernel)) ggX6_set_X6_available
set_option maxRecDepth 20000 in
theorem ggX6_set_X6_levelBy : GoodIn wsX6_set wsX6_levelBy := goodIn_r _ [45, 2, 54, 55, 56, 57, 58, 59, 60, 61, 62, 63, 64, 65] rfl (by decide +kernel)
set_option maxRecDepth 20000 in
theorem gX6_set_X6_levelBy : GoodIn wsX6_set (wsV RX6 70 RX6 yX6_levelBy wsX6_levelBy) := goodIn_app (goodIn_of _ (by decide +kernel)) ggX6_set_X6_levelBy
set_option maxRecDepth 20000 in
theorem ggX6_set_X6_ends : GoodIn wsX6_set wsX6_ends := goodIn_r _ [49, 14, 15, 16, 5, 17, 18, 19, 20, 21, 22, 23, 24, 25, 26, 27, 28, 29, 30, 31, 32, 33, 2, 34, 35, 36, 37, 38, 39, 40, 41, 42, 43, 44, 45, 50, 51, 52, 53, 54, 55, 56, 57, 58, 59, 60, 61, 62, 63, 64, 65] rfl (by decide +kernel)
set_option maxRecDepth 20000 in
theorem gX6_set_X6_ends : GoodIn wsX6_set (wsV RX6 101 RX6 yX6_ends wsX6_ends) := goodIn_app (goodIn_of _ (by decide +kernel)) ggX6_set_X6_ends
theorem dX6_set_0 : decode cX6_set 0 = .ok (.iload_n 1, 1) := by decide +kernel
theorem dX6_set_1 : decode cX6_set 1 = .ok (.iconst 0, 1) := by decide +kernel
theorem dX6_set_2 : decode cX6_set 2 = .ok (.iconst 2, 1) := by decide +kernel
theorem dX6_set_3 : decode cX6_set 3 = .ok (.invokestatic 36, 3) := by decide +kernel
theorem dX6_set_6 : decode cX6_set 6 = .ok (.ifCond .eq 23, 3) := by decide +kernel
theorem dX6_set_9 : decode cX6_set 9 = .ok (.iload_n 2, 1) := by decide +kernel
theorem dX6_set_10 : decode cX6_set 10 = .ok (.iconst 0, 1) := by decide +kernel
theorem dX6_set_11 : decode cX6_set 11 = .ok (.iload_n 1, 1) := by decide +kernel
theorem dX6_set_12 : decode cX6_set 12 = .ok (.iconst 2, 1) := by decide +kernel
theorem dX6_set_13 : decode cX6_set 13 = .ok (.if_icmp .ne 8, 3) := by decide +kernel
theorem dX6_set_16 : decode cX6_set 16 = .ok (.bipush 100, 2) := by decide +kernel
theorem dX6_set_18 : decode cX6_set 18 = .ok (.goto 5, 3) := by decide +kernel
theorem dX6_set_21 : decode cX6_set 21 = .ok (.bipush 30, 2) := by decide +kernel
theorem dX6_set_23 : decode cX6_set 23 = .ok (.invokestatic 36, 3) := by decide +kernel
theorem dX6_set_26 : decode cX6_set 26 = .ok (.ifCond .ne 6, 3) := by decide +kernel
theorem dX6_set_29 : decode cX6_set 29 = .ok (.ldc 86, 2) := by decide +kernel
theorem dX6_set_31 : decode cX6_set 31 = .ok (.ireturn, 1) := by decide +kernel
theorem dX6_set_32 : decode cX6_set 32 = .ok (.aload_n 0, 1) := by decide +kernel
theorem dX6_set_33 : decode cX6_set 33 = .ok (.invokevirtual 91, 3) := by decide +kernel
theorem dX6_set_36 : decode cX6_set 36 = .ok (.aload_n 0, 1) := by decide +kernel
theorem dX6_set_37 : decode cX6_set 37 = .ok (.aload_n 0, 1) := by decide +kernel
theorem dX6_set_38 : decode cX6_set 38 = .ok (.invokevirtual 80, 3) := by decide +kernel
theorem dX6_set_41 : decode cX6_set 41 = .ok (.invokevirtual 70, 3) := by decide +kernel
theorem dX6_set_44 : decode cX6_set 44 = .ok (.istore_n 3, 1) := by decide +kernel
theorem dX6_set_45 : decode cX6_set 45 = .ok (.aload_n 0, 1) := by decide +kernel
theorem dX6_set_46 : decode cX6_set 46 = .ok (.getfield 7, 3) := by decide +kernel
theorem dX6_set_49 : decode cX6_set 49 = .ok (.iload_n 1, 1) := by decide +kernel
theorem dX6_set_50 : decode cX6_set 50 = .ok (.iaload, 1) := by decide +kernel
theorem dX6_set_51 : decode cX6_set 51 = .ok (.istore 4, 2) := by decide +kernel
theorem dX6_set_53 : decode cX6_set 53 = .ok (.aload_n 0, 1) := by decide +kernel
theorem dX6_set_54 : decode cX6_set 54 = .ok (.getfield 7, 3) := by decide +kernel
theorem dX6_set_57 : decode cX6_set 57 = .ok (.iload_n 1, 1) := by decide +kernel
theorem dX6_set_58 : decode cX6_set 58 = .ok (.iload_n 2, 1) := by decide +kernel
theorem dX6_set_59 : decode cX6_set 59 = .ok (.iastore, 1) := by decide +kernel
theorem dX6_set_60 : decode cX6_set 60 = .ok (.aload_n 0, 1) := by decide +kernel
theorem dX6_set_61 : decode cX6_set 61 = .ok (.iload_n 3, 1) := by decide +kernel
theorem dX6_set_62 : decode cX6_set 62 = .ok (.invokevirtual 101, 3) := by decide +kernel
theorem dX6_set_65 : decode cX6_set 65 = .ok (.iload 4, 2) := by decide +kernel
theorem dX6_set_67 : decode cX6_set 67 = .ok (.ireturn, 1) := by decide +kernel
set_option maxRecDepth 20000 in
theorem ggX6_lowestFree_X6_owners : GoodIn wsX6_lowestFree wsX6_owners := goodIn_r _ [5, 6, 7, 8, 4, 9, 10, 11, 12, 13, 14, 15, 16, 17, 18, 19, 20, 21, 22, 23, 24, 25, 26, 27, 28, 29, 30] rfl (by decide +kernel)
set_option maxRecDepth 20000 in
theorem gX6_lowestFree_X6_owners : GoodIn wsX6_lowestFree (wsV RX6 54 RX6 yX6_owners wsX6_owners) := goodIn_app (goodIn_of _ (by decide +kernel)) ggX6_lowestFree_X6_owners
theorem dX6_lowestFree_0 : decode cX6_lowestFree 0 = .ok (.iconst 0, 1) := by decide +kernel
theorem dX6_lowestFree_1 : decode cX6_lowestFree 1 = .ok (.istore_n 1, 1) := by decide +kernel
theorem dX6_lowestFree_2 : decode cX6_lowestFree 2 = .ok (.iload_n 1, 1) := by decide +kernel
theorem dX6_lowestFree_3 : decode cX6_lowestFree 3 = .ok (.bipush 30, 2) := by decide +kernel
theorem dX6_lowestFree_5 : decode cX6_lowestFree 5 = .ok (.if_icmp .ge 17, 3) := by decide +kernel
theorem dX6_lowestFree_8 : decode cX6_lowestFree 8 = .ok (.aload_n 0, 1) := by decide +kernel
theorem dX6_lowestFree_9 : decode cX6_lowestFree 9 = .ok (.iload_n 1, 1) := by decide +kernel
theorem dX6_lowestFree_10 : decode cX6_lowestFree 10 = .ok (.invokevirtual 54, 3) := by decide +kernel
theorem dX6_lowestFree_13 : decode cX6_lowestFree 13 = .ok (.ifCond .le 9, 3) := by decide +kernel
theorem dX6_lowestFree_16 : decode cX6_lowestFree 16 = .ok (.iinc 1 1, 3) := by decide +kernel
theorem dX6_lowestFree_19 : decode cX6_lowestFree 19 = .ok (.goto (-17), 3) := by decide +kernel
theorem dX6_lowestFree_22 : decode cX6_lowestFree 22 = .ok (.iload_n 1, 1) := by decide +kernel
theorem dX6_lowestFree_23 : decode cX6_lowestFree 23 = .ok (.ireturn, 1) := by decide +kernel
set_option maxRecDepth 20000 in
theorem ggX6_write_X6_isPlace : GoodIn wsX6_write wsX6_isPlace := goodIn_r _ [8, 9, 10, 11, 7, 12, 13, 14, 15, 16, 17, 18, 19, 2, 84, 85, 86, 87, 88, 89, 90, 91, 92, 93, 94, 95] rfl (by decide +kernel)
set_option maxRecDepth 20000 in
theorem gX6_write_X6_isPlace : GoodIn wsX6_write (wsV RX6 105 RX6 yX6_isPlace wsX6_isPlace) := goodIn_app (goodIn_of _ (by decide +kernel)) ggX6_write_X6_isPlace
set_option maxRecDepth 20000 in
theorem ggX6_write_X6_in : GoodIn wsX6_write wsX6_in := goodIn_r _ [15] rfl (by decide +kernel)
set_option maxRecDepth 20000 in
theorem gX6_write_X6_in : GoodIn wsX6_write (va_wsS RX6 36 yX6_in wsX6_in) := goodIn_app (goodIn_of _ (by decide +kernel)) ggX6_write_X6_in
set_option maxRecDepth 20000 in
theorem ggX6_write_X6_changes : GoodIn wsX6_write wsX6_changes := goodIn_r _ [23, 24, 25, 26, 2, 84, 85, 86, 87, 88, 89, 90, 91, 92, 93, 94, 95] rfl (by decide +kernel)
set_option maxRecDepth 20000 in
theorem gX6_write_X6_changes : GoodIn wsX6_write (wsV RX6 91 RX6 yX6_changes wsX6_changes) := goodIn_app (goodIn_of _ (by decide +kernel)) ggX6_write_X6_changes
set_option maxRecDepth 20000 in
theorem ggX6_write_X6_piece : GoodIn wsX6_write wsX6_piece := goodIn_r _ [30, 16, 17, 18, 7, 19, 2, 84, 85, 86, 87, 88, 89, 90, 91, 92, 93, 94, 95] rfl (by decide +kernel)
set_option maxRecDepth 20000 in
theorem gX6_write_X6_piece : GoodIn wsX6_write (wsV RX6 48 RX6 yX6_piece wsX6_piece) := goodIn_app (goodIn_of _ (by decide +kernel)) ggX6_write_X6_piece
set_option maxRecDepth 20000 in
theorem ggX6_write_X6_owners : GoodIn wsX6_write wsX6_owners := goodIn_r _ [34, 35, 36, 37, 7, 38, 16, 17, 18, 19, 2, 27, 28, 29, 30, 84, 85, 86, 87, 88, 89, 90, 91, 92, 93, 94, 95] rfl (by decide +kernel)
set_option maxRecDepth 20000 in
theorem gX6_write_X6_owners : GoodIn wsX6_write (wsV RX6 54 RX6 yX6_owners wsX6_owners) := goodIn_app (goodIn_of _ (by decide +kernel)) ggX6_write_X6_owners
set_option maxRecDepth 20000 in
theorem ggX6_write_X6_available : GoodIn wsX6_write wsX6_available := goodIn_r _ [42, 43, 44, 45, 7, 46, 31, 32, 33, 34, 35, 36, 37, 38, 16, 17, 18, 19, 2, 27, 28, 29, 30, 47, 48, 49, 50, 84, 85, 86, 87, 88, 89, 90, 91, 92, 93, 94, 95] rfl (by decide +kernel)
set_option maxRecDepth 20000 in
theorem gX6_write_X6_available : GoodIn wsX6_write (wsV RX6 80 RX6 yX6_available wsX6_available) := goodIn_app (goodIn_of _ (by decide +kernel)) ggX6_write_X6_available
set_option maxRecDepth 20000 in
theorem ggX6_write_X6_levelBy : GoodIn wsX6_write wsX6_levelBy := goodIn_r _ [54, 2, 84, 85, 86, 87, 88, 89, 90, 91, 92, 93, 94, 95] rfl (by decide +kernel)
set_option maxRecDepth 20000 in
theorem gX6_write_X6_levelBy : GoodIn wsX6_write (wsV RX6 70 RX6 yX6_levelBy wsX6_levelBy) := goodIn_app (goodIn_of _ (by decide +kernel)) ggX6_write_X6_levelBy
set_option maxRecDepth 20000 in
theorem ggX6_write_X6_asks : GoodIn wsX6_write wsX6_asks := goodIn_r _ [58, 2, 16, 17, 18, 7, 19, 59, 60, 61, 62, 51, 52, 53, 54, 63, 64, 65, 66, 67, 68, 69, 70, 71, 84, 85, 86, 87, 88, 89, 90, 91, 92, 93, 94, 95] rfl (by decide +kernel)
set_option maxRecDepth 20000 in
theorem gX6_write_X6_asks : GoodIn wsX6_write (wsV RX6 109 RX6 yX6_asks wsX6_asks) := goodIn_app (goodIn_of _ (by decide +kernel)) ggX6_write_X6_asks
set_option maxRecDepth 20000 in
theorem ggX6_write_X6_of : GoodIn wsX6_write wsX6_of := goodIn_r _ [19, 2, 84, 85, 86, 87, 88, 89, 90, 91, 92, 93, 94, 95] rfl (by decide +kernel)
set_option maxRecDepth 20000 in
theorem gX6_write_X6_of : GoodIn wsX6_write (wsV RX6 40 RX6 yX6_of wsX6_of) := goodIn_app (goodIn_of _ (by decide +kernel)) ggX6_write_X6_of
set_option maxRecDepth 20000 in
theorem ggX6_write_X6_puts : GoodIn wsX6_write wsX6_puts := goodIn_r _ [62, 2, 84, 85, 86, 87, 88, 89, 90, 91, 92, 93, 94, 95] rfl (by decide +kernel)
set_option maxRecDepth 20000 in
theorem gX6_write_X6_puts : GoodIn wsX6_write (wsV RX6 66 RX6 yX6_puts wsX6_puts) := goodIn_app (goodIn_of _ (by decide +kernel)) ggX6_write_X6_puts
set_option maxRecDepth 20000 in
theorem ggX6_write_X6_warns : GoodIn wsX6_write wsX6_warns := goodIn_r _ [75, 2, 39, 40, 41, 7, 42, 43, 44, 45, 46, 31, 32, 33, 34, 35, 36, 37, 38, 16, 17, 18, 19, 27, 28, 29, 30, 47, 48, 49, 50, 84, 85, 86, 87, 88, 89, 90, 91, 92, 93, 94, 95] rfl (by decide +kernel)
set_option maxRecDepth 20000 in
theorem gX6_write_X6_warns : GoodIn wsX6_write (wsV RX6 83 RX6 yX6_warns wsX6_warns) := goodIn_app (goodIn_of _ (by decide +kernel)) ggX6_write_X6_warns
set_option maxRecDepth 20000 in
theorem ggX6_write_X6_lowestFree : GoodIn wsX6_write wsX6_lowestFree := goodIn_r _ [79, 31, 32, 33, 7, 34, 35, 36, 37, 38, 16, 17, 18, 19, 2, 27, 28, 29, 30, 84, 85, 86, 87, 88, 89, 90, 91, 92, 93, 94, 95] rfl (by decide +kernel)
set_option maxRecDepth 20000 in
theorem gX6_write_X6_lowestFree : GoodIn wsX6_write (wsV RX6 113 RX6 yX6_lowestFree wsX6_lowestFree) := goodIn_app (goodIn_of _ (by decide +kernel)) ggX6_write_X6_lowestFree
set_option maxRecDepth 20000 in
theorem ggX6_write_X6_ends : GoodIn wsX6_write wsX6_ends := goodIn_r _ [83, 39, 40, 41, 7, 42, 43, 44, 45, 46, 31, 32, 33, 34, 35, 36, 37, 38, 16, 17, 18, 19, 2, 27, 28, 29, 30, 47, 48, 49, 50, 51, 52, 53, 54, 72, 73, 74, 75, 84, 85, 86, 87, 88, 89, 90, 91, 92, 93, 94, 95] rfl (by decide +kernel)
set_option maxRecDepth 20000 in
theorem gX6_write_X6_ends : GoodIn wsX6_write (wsV RX6 101 RX6 yX6_ends wsX6_ends) := goodIn_app (goodIn_of _ (by decide +kernel)) ggX6_write_X6_ends
theorem dX6_write_0 : decode cX6_write 0 = .ok (.aload_n 0, 1) := by decide +kernel
theorem dX6_write_1 : decode cX6_write 1 = .ok (.iload_n 1, 1) := by decide +kernel
theorem dX6_write_2 : decode cX6_write 2 = .ok (.iload_n 2, 1) := by decide +kernel
theorem dX6_write_3 : decode cX6_write 3 = .ok (.invokevirtual 105, 3) := by decide +kernel
theorem dX6_write_6 : decode cX6_write 6 = .ok (.ifCond .eq 13, 3) := by decide +kernel
theorem dX6_write_9 : decode cX6_write 9 = .ok (.iload_n 3, 1) := by decide +kernel
theorem dX6_write_10 : decode cX6_write 10 = .ok (.iconst 0, 1) := by decide +kernel
theorem dX6_write_11 : decode cX6_write 11 = .ok (.bipush 99, 2) := by decide +kernel
theorem dX6_write_13 : decode cX6_write 13 = .ok (.invokestatic 36, 3) := by decide +kernel
theorem dX6_write_16 : decode cX6_write 16 = .ok (.ifCond .ne 6, 3) := by decide +kernel
theorem dX6_write_19 : decode cX6_write 19 = .ok (.ldc 86, 2) := by decide +kernel
theorem dX6_write_21 : decode cX6_write 21 = .ok (.ireturn, 1) := by decide +kernel
theorem dX6_write_22 : decode cX6_write 22 = .ok (.aload_n 0, 1) := by decide +kernel
theorem dX6_write_23 : decode cX6_write 23 = .ok (.invokevirtual 91, 3) := by decide +kernel
theorem dX6_write_26 : decode cX6_write 26 = .ok (.aload_n 0, 1) := by decide +kernel
theorem dX6_write_27 : decode cX6_write 27 = .ok (.iload_n 1, 1) := by decide +kernel
theorem dX6_write_28 : decode cX6_write 28 = .ok (.iload_n 2, 1) := by decide +kernel
theorem dX6_write_29 : decode cX6_write 29 = .ok (.invokevirtual 48, 3) := by decide +kernel
theorem dX6_write_32 : decode cX6_write 32 = .ok (.istore 4, 2) := by decide +kernel
theorem dX6_write_34 : decode cX6_write 34 = .ok (.iload 4, 2) := by decide +kernel
theorem dX6_write_36 : decode cX6_write 36 = .ok (.ifCond .lt 27, 3) := by decide +kernel
theorem dX6_write_39 : decode cX6_write 39 = .ok (.aload_n 0, 1) := by decide +kernel
theorem dX6_write_40 : decode cX6_write 40 = .ok (.iload 4, 2) := by decide +kernel
theorem dX6_write_42 : decode cX6_write 42 = .ok (.invokevirtual 54, 3) := by decide +kernel
theorem dX6_write_45 : decode cX6_write 45 = .ok (.iconst 1, 1) := by decide +kernel
theorem dX6_write_46 : decode cX6_write 46 = .ok (.if_icmp .ne 17, 3) := by decide +kernel
theorem dX6_write_49 : decode cX6_write 49 = .ok (.aload_n 0, 1) := by decide +kernel
theorem dX6_write_50 : decode cX6_write 50 = .ok (.getfield 7, 3) := by decide +kernel
theorem dX6_write_53 : decode cX6_write 53 = .ok (.bipush 7, 2) := by decide +kernel
theorem dX6_write_55 : decode cX6_write 55 = .ok (.iload 4, 2) := by decide +kernel
theorem dX6_write_57 : decode cX6_write 57 = .ok (.iadd, 1) := by decide +kernel
theorem dX6_write_58 : decode cX6_write 58 = .ok (.iload_n 3, 1) := by decide +kernel
theorem dX6_write_59 : decode cX6_write 59 = .ok (.iastore, 1) := by decide +kernel
theorem dX6_write_60 : decode cX6_write 60 = .ok (.iload 4, 2) := by decide +kernel
theorem dX6_write_62 : decode cX6_write 62 = .ok (.ireturn, 1) := by decide +kernel
theorem dX6_write_63 : decode cX6_write 63 = .ok (.aload_n 0, 1) := by decide +kernel
theorem dX6_write_64 : decode cX6_write 64 = .ok (.invokevirtual 80, 3) := by decide +kernel
theorem dX6_write_67 : decode cX6_write 67 = .ok (.istore 5, 2) := by decide +kernel
theorem dX6_write_69 : decode cX6_write 69 = .ok (.aload_n 0, 1) := by decide +kernel
theorem dX6_write_70 : decode cX6_write 70 = .ok (.iload 5, 2) := by decide +kernel
theorem dX6_write_72 : decode cX6_write 72 = .ok (.invokevirtual 70, 3) := by decide +kernel
theorem dX6_write_75 : decode cX6_write 75 = .ok (.istore 6, 2) := by decide +kernel
theorem dX6_write_77 : decode cX6_write 77 = .ok (.aload_n 0, 1) := by decide +kernel
theorem dX6_write_78 : decode cX6_write 78 = .ok (.iload_n 1, 1) := by decide +kernel
theorem dX6_write_79 : decode cX6_write 79 = .ok (.iload 5, 2) := by decide +kernel
theorem dX6_write_81 : decode cX6_write 81 = .ok (.invokevirtual 109, 3) := by decide +kernel
theorem dX6_write_84 : decode cX6_write 84 = .ok (.istore 7, 2) := by decide +kernel
theorem dX6_write_86 : decode cX6_write 86 = .ok (.iload 7, 2) := by decide +kernel
theorem dX6_write_88 : decode cX6_write 88 = .ok (.ifCond .ne 36, 3) := by decide +kernel
theorem dX6_write_91 : decode cX6_write 91 = .ok (.aload_n 0, 1) := by decide +kernel
theorem dX6_write_92 : decode cX6_write 92 = .ok (.iload_n 1, 1) := by decide +kernel
theorem dX6_write_93 : decode cX6_write 93 = .ok (.iconst 5, 1) := by decide +kernel
theorem dX6_write_94 : decode cX6_write 94 = .ok (.aload_n 0, 1) := by decide +kernel
theorem dX6_write_95 : decode cX6_write 95 = .ok (.iload_n 1, 1) := by decide +kernel
theorem dX6_write_96 : decode cX6_write 96 = .ok (.iconst 5, 1) := by decide +kernel
theorem dX6_write_97 : decode cX6_write 97 = .ok (.invokevirtual 40, 3) := by decide +kernel
theorem dX6_write_100 : decode cX6_write 100 = .ok (.iconst 1, 1) := by decide +kernel
theorem dX6_write_101 : decode cX6_write 101 = .ok (.iadd, 1) := by decide +kernel
theorem dX6_write_102 : decode cX6_write 102 = .ok (.invokevirtual 66, 3) := by decide +kernel
theorem dX6_write_105 : decode cX6_write 105 = .ok (.aload_n 0, 1) := by decide +kernel
theorem dX6_write_106 : decode cX6_write 106 = .ok (.getfield 7, 3) := by decide +kernel
theorem dX6_write_109 : decode cX6_write 109 = .ok (.iconst 3, 1) := by decide +kernel
theorem dX6_write_110 : decode cX6_write 110 = .ok (.dup2, 1) := by decide +kernel
theorem dX6_write_111 : decode cX6_write 111 = .ok (.iaload, 1) := by decide +kernel
theorem dX6_write_112 : decode cX6_write 112 = .ok (.iconst 1, 1) := by decide +kernel
theorem dX6_write_113 : decode cX6_write 113 = .ok (.iadd, 1) := by decide +kernel
theorem dX6_write_114 : decode cX6_write 114 = .ok (.iastore, 1) := by decide +kernel
theorem dX6_write_115 : decode cX6_write 115 = .ok (.aload_n 0, 1) := by decide +kernel
theorem dX6_write_116 : decode cX6_write 116 = .ok (.iconst 1, 1) := by decide +kernel
theorem dX6_write_117 : decode cX6_write 117 = .ok (.iload_n 1, 1) := by decide +kernel
theorem dX6_write_118 : decode cX6_write 118 = .ok (.invokevirtual 83, 3) := by decide +kernel
theorem dX6_write_121 : decode cX6_write 121 = .ok (.ldc 112, 2) := by decide +kernel
theorem dX6_write_123 : decode cX6_write 123 = .ok (.ireturn, 1) := by decide +kernel
theorem dX6_write_124 : decode cX6_write 124 = .ok (.aload_n 0, 1) := by decide +kernel
theorem dX6_write_125 : decode cX6_write 125 = .ok (.invokevirtual 113, 3) := by decide +kernel
theorem dX6_write_128 : decode cX6_write 128 = .ok (.istore 8, 2) := by decide +kernel
theorem dX6_write_130 : decode cX6_write 130 = .ok (.aload_n 0, 1) := by decide +kernel
theorem dX6_write_131 : decode cX6_write 131 = .ok (.iload_n 1, 1) := by decide +kernel
theorem dX6_write_132 : decode cX6_write 132 = .ok (.bipush 7, 2) := by decide +kernel
theorem dX6_write_134 : decode cX6_write 134 = .ok (.iload_n 2, 1) := by decide +kernel
theorem dX6_write_135 : decode cX6_write 135 = .ok (.iadd, 1) := by decide +kernel
theorem dX6_write_136 : decode cX6_write 136 = .ok (.iload 8, 2) := by decide +kernel
theorem dX6_write_138 : decode cX6_write 138 = .ok (.invokevirtual 66, 3) := by decide +kernel
theorem dX6_write_141 : decode cX6_write 141 = .ok (.aload_n 0, 1) := by decide +kernel
theorem dX6_write_142 : decode cX6_write 142 = .ok (.getfield 7, 3) := by decide +kernel
theorem dX6_write_145 : decode cX6_write 145 = .ok (.bipush 7, 2) := by decide +kernel
theorem dX6_write_147 : decode cX6_write 147 = .ok (.iload 8, 2) := by decide +kernel
theorem dX6_write_149 : decode cX6_write 149 = .ok (.iadd, 1) := by decide +kernel
theorem dX6_write_150 : decode cX6_write 150 = .ok (.iload_n 3, 1) := by decide +kernel
theorem dX6_write_151 : decode cX6_write 151 = .ok (.iastore, 1) := by decide +kernel
theorem dX6_write_152 : decode cX6_write 152 = .ok (.aload_n 0, 1) := by decide +kernel
theorem dX6_write_153 : decode cX6_write 153 = .ok (.iload_n 1, 1) := by decide +kernel
theorem dX6_write_154 : decode cX6_write 154 = .ok (.bipush 6, 2) := by decide +kernel
theorem dX6_write_156 : decode cX6_write 156 = .ok (.aload_n 0, 1) := by decide +kernel
theorem dX6_write_157 : decode cX6_write 157 = .ok (.iload_n 1, 1) := by decide +kernel
theorem dX6_write_158 : decode cX6_write 158 = .ok (.bipush 6, 2) := by decide +kernel
theorem dX6_write_160 : decode cX6_write 160 = .ok (.invokevirtual 40, 3) := by decide +kernel
theorem dX6_write_163 : decode cX6_write 163 = .ok (.iconst 1, 1) := by decide +kernel
theorem dX6_write_164 : decode cX6_write 164 = .ok (.iadd, 1) := by decide +kernel
theorem dX6_write_165 : decode cX6_write 165 = .ok (.invokevirtual 66, 3) := by decide +kernel
theorem dX6_write_168 : decode cX6_write 168 = .ok (.aload_n 0, 1) := by decide +kernel
theorem dX6_write_169 : decode cX6_write 169 = .ok (.getfield 7, 3) := by decide +kernel
theorem dX6_write_172 : decode cX6_write 172 = .ok (.iconst 4, 1) := by decide +kernel
theorem dX6_write_173 : decode cX6_write 173 = .ok (.dup2, 1) := by decide +kernel
theorem dX6_write_174 : decode cX6_write 174 = .ok (.iaload, 1) := by decide +kernel
theorem dX6_write_175 : decode cX6_write 175 = .ok (.iconst 1, 1) := by decide +kernel
theorem dX6_write_176 : decode cX6_write 176 = .ok (.iadd, 1) := by decide +kernel
theorem dX6_write_177 : decode cX6_write 177 = .ok (.iastore, 1) := by decide +kernel
theorem dX6_write_178 : decode cX6_write 178 = .ok (.iload 7, 2) := by decide +kernel
theorem dX6_write_180 : decode cX6_write 180 = .ok (.iconst 2, 1) := by decide +kernel
theorem dX6_write_181 : decode cX6_write 181 = .ok (.if_icmp .ne 18, 3) := by decide +kernel
theorem dX6_write_184 : decode cX6_write 184 = .ok (.aload_n 0, 1) := by decide +kernel
theorem dX6_write_185 : decode cX6_write 185 = .ok (.iload_n 1, 1) := by decide +kernel
theorem dX6_write_186 : decode cX6_write 186 = .ok (.iconst 3, 1) := by decide +kernel
theorem dX6_write_187 : decode cX6_write 187 = .ok (.invokevirtual 40, 3) := by decide +kernel
theorem dX6_write_190 : decode cX6_write 190 = .ok (.ifCond .ne 9, 3) := by decide +kernel
theorem dX6_write_193 : decode cX6_write 193 = .ok (.aload_n 0, 1) := by decide +kernel
theorem dX6_write_194 : decode cX6_write 194 = .ok (.iconst 2, 1) := by decide +kernel
theorem dX6_write_195 : decode cX6_write 195 = .ok (.iload_n 1, 1) := by decide +kernel
theorem dX6_write_196 : decode cX6_write 196 = .ok (.invokevirtual 83, 3) := by decide +kernel
theorem dX6_write_199 : decode cX6_write 199 = .ok (.aload_n 0, 1) := by decide +kernel
theorem dX6_write_200 : decode cX6_write 200 = .ok (.iload 6, 2) := by decide +kernel
theorem dX6_write_202 : decode cX6_write 202 = .ok (.invokevirtual 101, 3) := by decide +kernel
theorem dX6_write_205 : decode cX6_write 205 = .ok (.iload 8, 2) := by decide +kernel
theorem dX6_write_207 : decode cX6_write 207 = .ok (.ireturn, 1) := by decide +kernel
set_option maxRecDepth 20000 in
theorem ggX6_trim_X6_isPlace : GoodIn wsX6_trim wsX6_isPlace := goodIn_r _ [7, 8, 9, 10, 6, 11, 12, 13, 14, 15, 16, 17, 18, 19, 51, 52, 53, 54, 55, 56, 57, 58, 59, 60, 61, 62] rfl (by decide +kernel)
set_option maxRecDepth 20000 in
theorem gX6_trim_X6_isPlace : GoodIn wsX6_trim (wsV RX6 105 RX6 yX6_isPlace wsX6_isPlace) := goodIn_app (goodIn_of _ (by decide +kernel)) ggX6_trim_X6_isPlace
set_option maxRecDepth 20000 in
theorem ggX6_trim_X6_piece : GoodIn wsX6_trim wsX6_piece := goodIn_r _ [23, 15, 16, 17, 6, 18, 19, 51, 52, 53, 54, 55, 56, 57, 58, 59, 60, 61, 62] rfl (by decide +kernel)
set_option maxRecDepth 20000 in
theorem gX6_trim_X6_piece : GoodIn wsX6_trim (wsV RX6 48 RX6 yX6_piece wsX6_piece) := goodIn_app (goodIn_of _ (by decide +kernel)) ggX6_trim_X6_piece
set_option maxRecDepth 20000 in
theorem ggX6_trim_X6_changes : GoodIn wsX6_trim wsX6_changes := goodIn_r _ [27, 28, 29, 30, 19, 51, 52, 53, 54, 55, 56, 57, 58, 59, 60, 61, 62] rfl (by decide +kernel)
set_option maxRecDepth 20000 in
theorem gX6_trim_X6_changes : GoodIn wsX6_trim (wsV RX6 91 RX6 yX6_changes wsX6_changes) := goodIn_app (goodIn_of _ (by decide +kernel)) ggX6_trim_X6_changes
set_option maxRecDepth 20000 in
theorem ggX6_trim_X6_trims : GoodIn wsX6_trim wsX6_trims := goodIn_r _ [34, 19, 20, 21, 22, 6, 23, 15, 16, 17, 18, 35, 36, 37, 38, 39, 40, 41, 42, 43, 44, 45, 46, 51, 52, 53, 54, 55, 56, 57, 58, 59, 60, 61, 62] rfl (by decide +kernel)
set_option maxRecDepth 20000 in
theorem gX6_trim_X6_trims : GoodIn wsX6_trim (wsV RX6 97 RX6 yX6_trims wsX6_trims) := goodIn_app (goodIn_of _ (by decide +kernel)) ggX6_trim_X6_trims
set_option maxRecDepth 20000 in
theorem ggX6_trim_X6_behaves : GoodIn wsX6_trim wsX6_behaves := goodIn_r _ [50, 15, 16, 17, 6, 18, 19, 35, 36, 37, 38, 51, 52, 53, 54, 55, 56, 57, 58, 59, 60, 61, 62] rfl (by decide +kernel)
set_option maxRecDepth 20000 in
theorem gX6_trim_X6_behaves : GoodIn wsX6_trim (wsV RX6 76 RX6 yX6_behaves wsX6_behaves) := goodIn_app (goodIn_of _ (by decide +kernel)) ggX6_trim_X6_behaves
theorem dX6_trim_0 : decode cX6_trim 0 = .ok (.aload_n 0, 1) := by decide +kernel
theorem dX6_trim_1 : decode cX6_trim 1 = .ok (.iload_n 1, 1) := by decide +kernel
theorem dX6_trim_2 : decode cX6_trim 2 = .ok (.iload_n 2, 1) := by decide +kernel
theorem dX6_trim_3 : decode cX6_trim 3 = .ok (.invokevirtual 105, 3) := by decide +kernel
theorem dX6_trim_6 : decode cX6_trim 6 = .ok (.ifCond .ne 6, 3) := by decide +kernel
theorem dX6_trim_9 : decode cX6_trim 9 = .ok (.ldc 86, 2) := by decide +kernel
theorem dX6_trim_11 : decode cX6_trim 11 = .ok (.ireturn, 1) := by decide +kernel
theorem dX6_trim_12 : decode cX6_trim 12 = .ok (.aload_n 0, 1) := by decide +kernel
theorem dX6_trim_13 : decode cX6_trim 13 = .ok (.iload_n 1, 1) := by decide +kernel
theorem dX6_trim_14 : decode cX6_trim 14 = .ok (.iload_n 2, 1) := by decide +kernel
theorem dX6_trim_15 : decode cX6_trim 15 = .ok (.invokevirtual 48, 3) := by decide +kernel
theorem dX6_trim_18 : decode cX6_trim 18 = .ok (.ifCond .ge 6, 3) := by decide +kernel
theorem dX6_trim_21 : decode cX6_trim 21 = .ok (.ldc 100, 2) := by decide +kernel
theorem dX6_trim_23 : decode cX6_trim 23 = .ok (.ireturn, 1) := by decide +kernel
theorem dX6_trim_24 : decode cX6_trim 24 = .ok (.aload_n 0, 1) := by decide +kernel
theorem dX6_trim_25 : decode cX6_trim 25 = .ok (.invokevirtual 91, 3) := by decide +kernel
theorem dX6_trim_28 : decode cX6_trim 28 = .ok (.aload_n 0, 1) := by decide +kernel
theorem dX6_trim_29 : decode cX6_trim 29 = .ok (.iload_n 1, 1) := by decide +kernel
theorem dX6_trim_30 : decode cX6_trim 30 = .ok (.iload_n 2, 1) := by decide +kernel
theorem dX6_trim_31 : decode cX6_trim 31 = .ok (.invokevirtual 97, 3) := by decide +kernel
theorem dX6_trim_34 : decode cX6_trim 34 = .ok (.istore_n 3, 1) := by decide +kernel
theorem dX6_trim_35 : decode cX6_trim 35 = .ok (.aload_n 0, 1) := by decide +kernel
theorem dX6_trim_36 : decode cX6_trim 36 = .ok (.iload_n 1, 1) := by decide +kernel
theorem dX6_trim_37 : decode cX6_trim 37 = .ok (.iconst 2, 1) := by decide +kernel
theorem dX6_trim_38 : decode cX6_trim 38 = .ok (.iload_n 3, 1) := by decide +kernel
theorem dX6_trim_39 : decode cX6_trim 39 = .ok (.imul, 1) := by decide +kernel
theorem dX6_trim_40 : decode cX6_trim 40 = .ok (.invokevirtual 76, 3) := by decide +kernel
theorem dX6_trim_43 : decode cX6_trim 43 = .ok (.iload_n 3, 1) := by decide +kernel
theorem dX6_trim_44 : decode cX6_trim 44 = .ok (.ireturn, 1) := by decide +kernel
set_option maxRecDepth 20000 in
theorem ggX6_sweeps_X6_of : GoodIn wsX6_sweeps wsX6_of := goodIn_r _ [6, 1, 31, 32, 33, 34, 35, 36, 37, 38, 39, 40, 41, 42] rfl (by decide +kernel)
set_option maxRecDepth 20000 in
theorem gX6_sweeps_X6_of : GoodIn wsX6_sweeps (wsV RX6 40 RX6 yX6_of wsX6_of) := goodIn_app (goodIn_of _ (by decide +kernel)) ggX6_sweeps_X6_of
set_option maxRecDepth 20000 in
theorem ggX6_sweeps_X6_piece : GoodIn wsX6_sweeps wsX6_piece := goodIn_r _ [10, 2, 3, 4, 5, 6, 1, 31, 32, 33, 34, 35, 36, 37, 38, 39, 40, 41, 42] rfl (by decide +kernel)
set_option maxRecDepth 20000 in
theorem gX6_sweeps_X6_piece : GoodIn wsX6_sweeps (wsV RX6 48 RX6 yX6_piece wsX6_piece) := goodIn_app (goodIn_of _ (by decide +kernel)) ggX6_sweeps_X6_piece
set_option maxRecDepth 20000 in
theorem ggX6_sweeps_X6_trims : GoodIn wsX6_sweeps wsX6_trims := goodIn_r _ [14, 1, 7, 8, 9, 5, 10, 2, 3, 4, 6, 15, 16, 17, 18, 19, 20, 21, 22, 23, 24, 25, 26, 31, 32, 33, 34, 35, 36, 37, 38, 39, 40, 41, 42] rfl (by decide +kernel)
set_option maxRecDepth 20000 in
theorem gX6_sweeps_X6_trims : GoodIn wsX6_sweeps (wsV RX6 97 RX6 yX6_trims wsX6_trims) := goodIn_app (goodIn_of _ (by decide +kernel)) ggX6_sweeps_X6_trims
set_option maxRecDepth 20000 in
theorem ggX6_sweeps_X6_behaves : GoodIn wsX6_sweeps wsX6_behaves := goodIn_r _ [30, 2, 3, 4, 5, 6, 1, 15, 16, 17, 18, 31, 32, 33, 34, 35, 36, 37, 38, 39, 40, 41, 42] rfl (by decide +kernel)
set_option maxRecDepth 20000 in
theorem gX6_sweeps_X6_behaves : GoodIn wsX6_sweeps (wsV RX6 76 RX6 yX6_behaves wsX6_behaves) := goodIn_app (goodIn_of _ (by decide +kernel)) ggX6_sweeps_X6_behaves
theorem dX6_sweeps_0 : decode cX6_sweeps 0 = .ok (.iconst 0, 1) := by decide +kernel
theorem dX6_sweeps_1 : decode cX6_sweeps 1 = .ok (.istore_n 2, 1) := by decide +kernel
theorem dX6_sweeps_2 : decode cX6_sweeps 2 = .ok (.iconst 0, 1) := by decide +kernel
theorem dX6_sweeps_3 : decode cX6_sweeps 3 = .ok (.istore_n 3, 1) := by decide +kernel
theorem dX6_sweeps_4 : decode cX6_sweeps 4 = .ok (.iload_n 3, 1) := by decide +kernel
theorem dX6_sweeps_5 : decode cX6_sweeps 5 = .ok (.aload_n 0, 1) := by decide +kernel
theorem dX6_sweeps_6 : decode cX6_sweeps 6 = .ok (.iload_n 1, 1) := by decide +kernel
theorem dX6_sweeps_7 : decode cX6_sweeps 7 = .ok (.iconst 1, 1) := by decide +kernel
theorem dX6_sweeps_8 : decode cX6_sweeps 8 = .ok (.invokevirtual 40, 3) := by decide +kernel
theorem dX6_sweeps_11 : decode cX6_sweeps 11 = .ok (.if_icmp .ge 61, 3) := by decide +kernel
theorem dX6_sweeps_14 : decode cX6_sweeps 14 = .ok (.aload_n 0, 1) := by decide +kernel
theorem dX6_sweeps_15 : decode cX6_sweeps 15 = .ok (.iload_n 1, 1) := by decide +kernel
theorem dX6_sweeps_16 : decode cX6_sweeps 16 = .ok (.iload_n 3, 1) := by decide +kernel
theorem dX6_sweeps_17 : decode cX6_sweeps 17 = .ok (.invokevirtual 48, 3) := by decide +kernel
theorem dX6_sweeps_20 : decode cX6_sweeps 20 = .ok (.istore 4, 2) := by decide +kernel
theorem dX6_sweeps_22 : decode cX6_sweeps 22 = .ok (.iload 4, 2) := by decide +kernel
theorem dX6_sweeps_24 : decode cX6_sweeps 24 = .ok (.ifCond .lt 25, 3) := by decide +kernel
theorem dX6_sweeps_27 : decode cX6_sweeps 27 = .ok (.aload_n 0, 1) := by decide +kernel
theorem dX6_sweeps_28 : decode cX6_sweeps 28 = .ok (.getfield 7, 3) := by decide +kernel
theorem dX6_sweeps_31 : decode cX6_sweeps 31 = .ok (.bipush 7, 2) := by decide +kernel
theorem dX6_sweeps_33 : decode cX6_sweeps 33 = .ok (.iload 4, 2) := by decide +kernel
theorem dX6_sweeps_35 : decode cX6_sweeps 35 = .ok (.iadd, 1) := by decide +kernel
theorem dX6_sweeps_36 : decode cX6_sweeps 36 = .ok (.iaload, 1) := by decide +kernel
theorem dX6_sweeps_37 : decode cX6_sweeps 37 = .ok (.ifCond .ne 12, 3) := by decide +kernel
theorem dX6_sweeps_40 : decode cX6_sweeps 40 = .ok (.aload_n 0, 1) := by decide +kernel
theorem dX6_sweeps_41 : decode cX6_sweeps 41 = .ok (.iload_n 1, 1) := by decide +kernel
theorem dX6_sweeps_42 : decode cX6_sweeps 42 = .ok (.iload_n 3, 1) := by decide +kernel
theorem dX6_sweeps_43 : decode cX6_sweeps 43 = .ok (.invokevirtual 97, 3) := by decide +kernel
theorem dX6_sweeps_46 : decode cX6_sweeps 46 = .ok (.goto 4, 3) := by decide +kernel
theorem dX6_sweeps_49 : decode cX6_sweeps 49 = .ok (.iconst 0, 1) := by decide +kernel
theorem dX6_sweeps_50 : decode cX6_sweeps 50 = .ok (.istore 5, 2) := by decide +kernel
theorem dX6_sweeps_52 : decode cX6_sweeps 52 = .ok (.aload_n 0, 1) := by decide +kernel
theorem dX6_sweeps_53 : decode cX6_sweeps 53 = .ok (.iload_n 1, 1) := by decide +kernel
theorem dX6_sweeps_54 : decode cX6_sweeps 54 = .ok (.iconst 2, 1) := by decide +kernel
theorem dX6_sweeps_55 : decode cX6_sweeps 55 = .ok (.iload 5, 2) := by decide +kernel
theorem dX6_sweeps_57 : decode cX6_sweeps 57 = .ok (.imul, 1) := by decide +kernel
theorem dX6_sweeps_58 : decode cX6_sweeps 58 = .ok (.invokevirtual 76, 3) := by decide +kernel
theorem dX6_sweeps_61 : decode cX6_sweeps 61 = .ok (.iload_n 2, 1) := by decide +kernel
theorem dX6_sweeps_62 : decode cX6_sweeps 62 = .ok (.iload 5, 2) := by decide +kernel
theorem dX6_sweeps_64 : decode cX6_sweeps 64 = .ok (.iadd, 1) := by decide +kernel
theorem dX6_sweeps_65 : decode cX6_sweeps 65 = .ok (.istore_n 2, 1) := by decide +kernel
theorem dX6_sweeps_66 : decode cX6_sweeps 66 = .ok (.iinc 3 1, 3) := by decide +kernel
theorem dX6_sweeps_69 : decode cX6_sweeps 69 = .ok (.goto (-65), 3) := by decide +kernel
theorem dX6_sweeps_72 : decode cX6_sweeps 72 = .ok (.iload_n 2, 1) := by decide +kernel
theorem dX6_sweeps_73 : decode cX6_sweeps 73 = .ok (.ireturn, 1) := by decide +kernel
set_option maxRecDepth 20000 in
theorem ggX6_sweep_X6_isVolume : GoodIn wsX6_sweep wsX6_isVolume := goodIn_r _ [6, 7, 8, 5, 9, 10, 11, 12, 13, 14, 50, 51, 52, 53, 54, 55, 56, 57, 58, 59, 60, 61] rfl (by decide +kernel)
set_option maxRecDepth 20000 in
theorem gX6_sweep_X6_isVolume : GoodIn wsX6_sweep (wsV RX6 44 RX6 yX6_isVolume wsX6_isVolume) := goodIn_app (goodIn_of _ (by decide +kernel)) ggX6_sweep_X6_isVolume
set_option maxRecDepth 20000 in
theorem ggX6_sweep_X6_changes : GoodIn wsX6_sweep wsX6_changes := goodIn_r _ [18, 19, 20, 21, 14, 50, 51, 52, 53, 54, 55, 56, 57, 58, 59, 60, 61] rfl (by decide +kernel)
set_option maxRecDepth 20000 in
theorem gX6_sweep_X6_changes : GoodIn wsX6_sweep (wsV RX6 91 RX6 yX6_changes wsX6_changes) := goodIn_app (goodIn_of _ (by decide +kernel)) ggX6_sweep_X6_changes
set_option maxRecDepth 20000 in
theorem ggX6_sweep_X6_sweeps : GoodIn wsX6_sweep wsX6_sweeps := goodIn_r _ [25, 14, 10, 11, 12, 5, 13, 26, 27, 28, 29, 30, 31, 32, 33, 34, 35, 36, 37, 38, 39, 40, 41, 42, 43, 44, 45, 46, 47, 48, 49, 50, 51, 52, 53, 54, 55, 56, 57, 58, 59, 60, 61] rfl (by decide +kernel)
set_option maxRecDepth 20000 in
theorem gX6_sweep_X6_sweeps : GoodIn wsX6_sweep (wsV RX6 116 RX6 yX6_sweeps wsX6_sweeps) := goodIn_app (goodIn_of _ (by decide +kernel)) ggX6_sweep_X6_sweeps
theorem dX6_sweep_0 : decode cX6_sweep 0 = .ok (.aload_n 0, 1) := by decide +kernel
theorem dX6_sweep_1 : decode cX6_sweep 1 = .ok (.iload_n 1, 1) := by decide +kernel
theorem dX6_sweep_2 : decode cX6_sweep 2 = .ok (.invokevirtual 44, 3) := by decide +kernel
theorem dX6_sweep_5 : decode cX6_sweep 5 = .ok (.ifCond .ne 6, 3) := by decide +kernel
theorem dX6_sweep_8 : decode cX6_sweep 8 = .ok (.ldc 86, 2) := by decide +kernel
theorem dX6_sweep_10 : decode cX6_sweep 10 = .ok (.ireturn, 1) := by decide +kernel
theorem dX6_sweep_11 : decode cX6_sweep 11 = .ok (.aload_n 0, 1) := by decide +kernel
theorem dX6_sweep_12 : decode cX6_sweep 12 = .ok (.invokevirtual 91, 3) := by decide +kernel
theorem dX6_sweep_15 : decode cX6_sweep 15 = .ok (.aload_n 0, 1) := by decide +kernel
theorem dX6_sweep_16 : decode cX6_sweep 16 = .ok (.iload_n 1, 1) := by decide +kernel
theorem dX6_sweep_17 : decode cX6_sweep 17 = .ok (.invokevirtual 116, 3) := by decide +kernel
theorem dX6_sweep_20 : decode cX6_sweep 20 = .ok (.ireturn, 1) := by decide +kernel
set_option maxRecDepth 20000 in
theorem ggX6_moves_X6_of : GoodIn wsX6_moves wsX6_of := goodIn_r _ [5, 6, 15, 16, 17, 18, 19, 20, 21, 22, 23, 24, 25, 26] rfl (by decide +kernel)
set_option maxRecDepth 20000 in
theorem gX6_moves_X6_of : GoodIn wsX6_moves (wsV RX6 40 RX6 yX6_of wsX6_of) := goodIn_app (goodIn_of _ (by decide +kernel)) ggX6_moves_X6_of
set_option maxRecDepth 20000 in
theorem ggX6_moves_X6_piece : GoodIn wsX6_moves wsX6_piece := goodIn_r _ [10, 1, 2, 3, 4, 5, 6, 15, 16, 17, 18, 19, 20, 21, 22, 23, 24, 25, 26] rfl (by decide +kernel)
set_option maxRecDepth 20000 in
theorem gX6_moves_X6_piece : GoodIn wsX6_moves (wsV RX6 48 RX6 yX6_piece wsX6_piece) := goodIn_app (goodIn_of _ (by decide +kernel)) ggX6_moves_X6_piece
set_option maxRecDepth 20000 in
theorem ggX6_moves_X6_puts : GoodIn wsX6_moves wsX6_puts := goodIn_r _ [14, 6, 15, 16, 17, 18, 19, 20, 21, 22, 23, 24, 25, 26] rfl (by decide +kernel)
set_option maxRecDepth 20000 in
theorem gX6_moves_X6_puts : GoodIn wsX6_moves (wsV RX6 66 RX6 yX6_puts wsX6_puts) := goodIn_app (goodIn_of _ (by decide +kernel)) ggX6_moves_X6_puts
theorem dX6_moves_0 : decode cX6_moves 0 = .ok (.iconst 0, 1) := by decide +kernel
theorem dX6_moves_1 : decode cX6_moves 1 = .ok (.istore_n 3, 1) := by decide +kernel
theorem dX6_moves_2 : decode cX6_moves 2 = .ok (.iload_n 3, 1) := by decide +kernel
theorem dX6_moves_3 : decode cX6_moves 3 = .ok (.bipush 8, 2) := by decide +kernel
theorem dX6_moves_5 : decode cX6_moves 5 = .ok (.if_icmp .ge 67, 3) := by decide +kernel
theorem dX6_moves_8 : decode cX6_moves 8 = .ok (.iconst 0, 1) := by decide +kernel
theorem dX6_moves_9 : decode cX6_moves 9 = .ok (.istore 4, 2) := by decide +kernel
theorem dX6_moves_11 : decode cX6_moves 11 = .ok (.iload 4, 2) := by decide +kernel
theorem dX6_moves_13 : decode cX6_moves 13 = .ok (.bipush 40, 2) := by decide +kernel
theorem dX6_moves_15 : decode cX6_moves 15 = .ok (.if_icmp .ge 51, 3) := by decide +kernel
theorem dX6_moves_18 : decode cX6_moves 18 = .ok (.aload_n 0, 1) := by decide +kernel
theorem dX6_moves_19 : decode cX6_moves 19 = .ok (.iload_n 3, 1) := by decide +kernel
theorem dX6_moves_20 : decode cX6_moves 20 = .ok (.iconst 0, 1) := by decide +kernel
theorem dX6_moves_21 : decode cX6_moves 21 = .ok (.invokevirtual 40, 3) := by decide +kernel
theorem dX6_moves_24 : decode cX6_moves 24 = .ok (.iconst 1, 1) := by decide +kernel
theorem dX6_moves_25 : decode cX6_moves 25 = .ok (.if_icmp .ne 41, 3) := by decide +kernel
theorem dX6_moves_28 : decode cX6_moves 28 = .ok (.aload_n 0, 1) := by decide +kernel
theorem dX6_moves_29 : decode cX6_moves 29 = .ok (.iload_n 3, 1) := by decide +kernel
theorem dX6_moves_30 : decode cX6_moves 30 = .ok (.bipush 7, 2) := by decide +kernel
theorem dX6_moves_32 : decode cX6_moves 32 = .ok (.iload 4, 2) := by decide +kernel
theorem dX6_moves_34 : decode cX6_moves 34 = .ok (.iadd, 1) := by decide +kernel
theorem dX6_moves_35 : decode cX6_moves 35 = .ok (.aload_n 0, 1) := by decide +kernel
theorem dX6_moves_36 : decode cX6_moves 36 = .ok (.iload_n 3, 1) := by decide +kernel
theorem dX6_moves_37 : decode cX6_moves 37 = .ok (.iload 4, 2) := by decide +kernel
theorem dX6_moves_39 : decode cX6_moves 39 = .ok (.invokevirtual 48, 3) := by decide +kernel
theorem dX6_moves_42 : decode cX6_moves 42 = .ok (.iload_n 1, 1) := by decide +kernel
theorem dX6_moves_43 : decode cX6_moves 43 = .ok (.if_icmp .ne 7, 3) := by decide +kernel
theorem dX6_moves_46 : decode cX6_moves 46 = .ok (.iload_n 2, 1) := by decide +kernel
theorem dX6_moves_47 : decode cX6_moves 47 = .ok (.goto 10, 3) := by decide +kernel
theorem dX6_moves_50 : decode cX6_moves 50 = .ok (.aload_n 0, 1) := by decide +kernel
theorem dX6_moves_51 : decode cX6_moves 51 = .ok (.iload_n 3, 1) := by decide +kernel
theorem dX6_moves_52 : decode cX6_moves 52 = .ok (.iload 4, 2) := by decide +kernel
theorem dX6_moves_54 : decode cX6_moves 54 = .ok (.invokevirtual 48, 3) := by decide +kernel
theorem dX6_moves_57 : decode cX6_moves 57 = .ok (.invokevirtual 66, 3) := by decide +kernel
theorem dX6_moves_60 : decode cX6_moves 60 = .ok (.iinc 4 1, 3) := by decide +kernel
theorem dX6_moves_63 : decode cX6_moves 63 = .ok (.goto (-52), 3) := by decide +kernel
theorem dX6_moves_66 : decode cX6_moves 66 = .ok (.iinc 3 1, 3) := by decide +kernel
theorem dX6_moves_69 : decode cX6_moves 69 = .ok (.goto (-67), 3) := by decide +kernel
theorem dX6_moves_72 : decode cX6_moves 72 = .ok (.return_, 1) := by decide +kernel
set_option maxRecDepth 20000 in
theorem ggX6_merges_X6_owners : GoodIn wsX6_merges wsX6_owners := goodIn_r _ [6, 7, 8, 9, 5, 10, 11, 12, 13, 14, 1, 15, 16, 17, 18, 27, 28, 29, 30, 31, 32, 33, 34, 35, 36, 37, 38] rfl (by decide +kernel)
set_option maxRecDepth 20000 in
theorem gX6_merges_X6_owners : GoodIn wsX6_merges (wsV RX6 54 RX6 yX6_owners wsX6_owners) := goodIn_app (goodIn_of _ (by decide +kernel)) ggX6_merges_X6_owners
set_option maxRecDepth 20000 in
theorem ggX6_merges_X6_moves : GoodIn wsX6_merges wsX6_moves := goodIn_r _ [22, 11, 12, 13, 5, 14, 1, 15, 16, 17, 18, 23, 24, 25, 26, 27, 28, 29, 30, 31, 32, 33, 34, 35, 36, 37, 38] rfl (by decide +kernel)
set_option maxRecDepth 20000 in
theorem gX6_merges_X6_moves : GoodIn wsX6_merges (wsV RX6 119 RX6 yX6_moves wsX6_moves) := goodIn_app (goodIn_of _ (by decide +kernel)) ggX6_merges_X6_moves
theorem dX6_merges_0 : decode cX6_merges 0 = .ok (.iconst 0, 1) := by decide +kernel
theorem dX6_merges_1 : decode cX6_merges 1 = .ok (.istore_n 1, 1) := by decide +kernel
theorem dX6_merges_2 : decode cX6_merges 2 = .ok (.iconst 0, 1) := by decide +kernel
theorem dX6_merges_3 : decode cX6_merges 3 = .ok (.istore_n 2, 1) := by decide +kernel
theorem dX6_merges_4 : decode cX6_merges 4 = .ok (.iload_n 2, 1) := by decide +kernel
theorem dX6_merges_5 : decode cX6_merges 5 = .ok (.bipush 30, 2) := by decide +kernel
theorem dX6_merges_7 : decode cX6_merges 7 = .ok (.if_icmp .ge 87, 3) := by decide +kernel
theorem dX6_merges_10 : decode cX6_merges 10 = .ok (.iload_n 2, 1) := by decide +kernel
theorem dX6_merges_11 : decode cX6_merges 11 = .ok (.istore_n 3, 1) := by decide +kernel
theorem dX6_merges_12 : decode cX6_merges 12 = .ok (.iload_n 2, 1) := by decide +kernel
theorem dX6_merges_13 : decode cX6_merges 13 = .ok (.iconst 1, 1) := by decide +kernel
theorem dX6_merges_14 : decode cX6_merges 14 = .ok (.isub, 1) := by decide +kernel
theorem dX6_merges_15 : decode cX6_merges 15 = .ok (.istore 4, 2) := by decide +kernel
theorem dX6_merges_17 : decode cX6_merges 17 = .ok (.iload 4, 2) := by decide +kernel
theorem dX6_merges_19 : decode cX6_merges 19 = .ok (.ifCond .lt 47, 3) := by decide +kernel
theorem dX6_merges_22 : decode cX6_merges 22 = .ok (.aload_n 0, 1) := by decide +kernel
theorem dX6_merges_23 : decode cX6_merges 23 = .ok (.getfield 7, 3) := by decide +kernel
theorem dX6_merges_26 : decode cX6_merges 26 = .ok (.bipush 7, 2) := by decide +kernel
theorem dX6_merges_28 : decode cX6_merges 28 = .ok (.iload 4, 2) := by decide +kernel
theorem dX6_merges_30 : decode cX6_merges 30 = .ok (.iadd, 1) := by decide +kernel
theorem dX6_merges_31 : decode cX6_merges 31 = .ok (.iaload, 1) := by decide +kernel
theorem dX6_merges_32 : decode cX6_merges 32 = .ok (.aload_n 0, 1) := by decide +kernel
theorem dX6_merges_33 : decode cX6_merges 33 = .ok (.getfield 7, 3) := by decide +kernel
theorem dX6_merges_36 : decode cX6_merges 36 = .ok (.bipush 7, 2) := by decide +kernel
theorem dX6_merges_38 : decode cX6_merges 38 = .ok (.iload_n 2, 1) := by decide +kernel
theorem dX6_merges_39 : decode cX6_merges 39 = .ok (.iadd, 1) := by decide +kernel
theorem dX6_merges_40 : decode cX6_merges 40 = .ok (.iaload, 1) := by decide +kernel
theorem dX6_merges_41 : decode cX6_merges 41 = .ok (.if_icmp .ne 17, 3) := by decide +kernel
theorem dX6_merges_44 : decode cX6_merges 44 = .ok (.aload_n 0, 1) := by decide +kernel
theorem dX6_merges_45 : decode cX6_merges 45 = .ok (.iload 4, 2) := by decide +kernel
theorem dX6_merges_47 : decode cX6_merges 47 = .ok (.invokevirtual 54, 3) := by decide +kernel
theorem dX6_merges_50 : decode cX6_merges 50 = .ok (.ifCond .le 8, 3) := by decide +kernel
theorem dX6_merges_53 : decode cX6_merges 53 = .ok (.iload 4, 2) := by decide +kernel
theorem dX6_merges_55 : decode cX6_merges 55 = .ok (.goto 4, 3) := by decide +kernel
theorem dX6_merges_58 : decode cX6_merges 58 = .ok (.iload_n 3, 1) := by decide +kernel
theorem dX6_merges_59 : decode cX6_merges 59 = .ok (.istore_n 3, 1) := by decide +kernel
theorem dX6_merges_60 : decode cX6_merges 60 = .ok (.iinc 4 (-1), 3) := by decide +kernel
theorem dX6_merges_63 : decode cX6_merges 63 = .ok (.goto (-46), 3) := by decide +kernel
theorem dX6_merges_66 : decode cX6_merges 66 = .ok (.aload_n 0, 1) := by decide +kernel
theorem dX6_merges_67 : decode cX6_merges 67 = .ok (.iload_n 2, 1) := by decide +kernel
theorem dX6_merges_68 : decode cX6_merges 68 = .ok (.invokevirtual 54, 3) := by decide +kernel
theorem dX6_merges_71 : decode cX6_merges 71 = .ok (.ifCond .le 17, 3) := by decide +kernel
theorem dX6_merges_74 : decode cX6_merges 74 = .ok (.iload_n 3, 1) := by decide +kernel
theorem dX6_merges_75 : decode cX6_merges 75 = .ok (.iload_n 2, 1) := by decide +kernel
theorem dX6_merges_76 : decode cX6_merges 76 = .ok (.if_icmp .ge 12, 3) := by decide +kernel
theorem dX6_merges_79 : decode cX6_merges 79 = .ok (.aload_n 0, 1) := by decide +kernel
theorem dX6_merges_80 : decode cX6_merges 80 = .ok (.iload_n 2, 1) := by decide +kernel
theorem dX6_merges_81 : decode cX6_merges 81 = .ok (.iload_n 3, 1) := by decide +kernel
theorem dX6_merges_82 : decode cX6_merges 82 = .ok (.invokevirtual 119, 3) := by decide +kernel
theorem dX6_merges_85 : decode cX6_merges 85 = .ok (.iinc 1 1, 3) := by decide +kernel
theorem dX6_merges_88 : decode cX6_merges 88 = .ok (.iinc 2 1, 3) := by decide +kernel
theorem dX6_merges_91 : decode cX6_merges 91 = .ok (.goto (-87), 3) := by decide +kernel
theorem dX6_merges_94 : decode cX6_merges 94 = .ok (.aload_n 0, 1) := by decide +kernel
theorem dX6_merges_95 : decode cX6_merges 95 = .ok (.getfield 7, 3) := by decide +kernel
theorem dX6_merges_98 : decode cX6_merges 98 = .ok (.iconst 5, 1) := by decide +kernel
theorem dX6_merges_99 : decode cX6_merges 99 = .ok (.dup2, 1) := by decide +kernel
theorem dX6_merges_100 : decode cX6_merges 100 = .ok (.iaload, 1) := by decide +kernel
theorem dX6_merges_101 : decode cX6_merges 101 = .ok (.iload_n 1, 1) := by decide +kernel
theorem dX6_merges_102 : decode cX6_merges 102 = .ok (.iadd, 1) := by decide +kernel
theorem dX6_merges_103 : decode cX6_merges 103 = .ok (.iastore, 1) := by decide +kernel
theorem dX6_merges_104 : decode cX6_merges 104 = .ok (.iload_n 1, 1) := by decide +kernel
theorem dX6_merges_105 : decode cX6_merges 105 = .ok (.ireturn, 1) := by decide +kernel
set_option maxRecDepth 20000 in
theorem ggX6_merge_X6_changes : GoodIn wsX6_merge wsX6_changes := goodIn_r _ [5, 6, 7, 8, 9, 38, 39, 40, 41, 42, 43, 44, 45, 46, 47, 48, 49] rfl (by decide +kernel)
set_option maxRecDepth 20000 in
theorem gX6_merge_X6_changes : GoodIn wsX6_merge (wsV RX6 91 RX6 yX6_changes wsX6_changes) := goodIn_app (goodIn_of _ (by decide +kernel)) ggX6_merge_X6_changes
set_option maxRecDepth 20000 in
theorem ggX6_merge_X6_merges : GoodIn wsX6_merge wsX6_merges := goodIn_r _ [13, 9, 14, 15, 16, 4, 17, 18, 19, 20, 21, 22, 23, 24, 25, 26, 27, 28, 29, 30, 31, 32, 33, 34, 35, 36, 37, 38, 39, 40, 41, 42, 43, 44, 45, 46, 47, 48, 49] rfl (by decide +kernel)
set_option maxRecDepth 20000 in
theorem gX6_merge_X6_merges : GoodIn wsX6_merge (wsV RX6 122 RX6 yX6_merges wsX6_merges) := goodIn_app (goodIn_of _ (by decide +kernel)) ggX6_merge_X6_merges
theorem dX6_merge_0 : decode cX6_merge 0 = .ok (.aload_n 0, 1) := by decide +kernel
theorem dX6_merge_1 : decode cX6_merge 1 = .ok (.invokevirtual 91, 3) := by decide +kernel
theorem dX6_merge_4 : decode cX6_merge 4 = .ok (.aload_n 0, 1) := by decide +kernel
theorem dX6_merge_5 : decode cX6_merge 5 = .ok (.invokevirtual 122, 3) := by decide +kernel
theorem dX6_merge_8 : decode cX6_merge 8 = .ok (.ireturn, 1) := by decide +kernel
set_option maxRecDepth 20000 in
theorem ggX6_read_X6_isPlace : GoodIn wsX6_read wsX6_isPlace := goodIn_r _ [8, 9, 10, 11, 7, 12, 13, 14, 15, 16, 17, 18, 19, 3, 24, 25, 26, 27, 28, 29, 30, 31, 32, 33, 34, 35] rfl (by decide +kernel)
set_option maxRecDepth 20000 in
theorem gX6_read_X6_isPlace : GoodIn wsX6_read (wsV RX6 105 RX6 yX6_isPlace wsX6_isPlace) := goodIn_app (goodIn_of _ (by decide +kernel)) ggX6_read_X6_isPlace
set_option maxRecDepth 20000 in
theorem ggX6_read_X6_in : GoodIn wsX6_read wsX6_in := goodIn_r _ [15] rfl (by decide +kernel)
set_option maxRecDepth 20000 in
theorem gX6_read_X6_in : GoodIn wsX6_read (va_wsS RX6 36 yX6_in wsX6_in) := goodIn_app (goodIn_of _ (by decide +kernel)) ggX6_read_X6_in
set_option maxRecDepth 20000 in
theorem ggX6_read_X6_piece : GoodIn wsX6_read wsX6_piece := goodIn_r _ [23, 16, 17, 18, 7, 19, 3, 24, 25, 26, 27, 28, 29, 30, 31, 32, 33, 34, 35] rfl (by decide +kernel)
set_option maxRecDepth 20000 in
theorem gX6_read_X6_piece : GoodIn wsX6_read (wsV RX6 48 RX6 yX6_piece wsX6_piece) := goodIn_app (goodIn_of _ (by decide +kernel)) ggX6_read_X6_piece
theorem dX6_read_0 : decode cX6_read 0 = .ok (.aload_n 0, 1) := by decide +kernel
theorem dX6_read_1 : decode cX6_read 1 = .ok (.iload_n 1, 1) := by decide +kernel
theorem dX6_read_2 : decode cX6_read 2 = .ok (.iload_n 2, 1) := by decide +kernel
theorem dX6_read_3 : decode cX6_read 3 = .ok (.invokevirtual 105, 3) := by decide +kernel
theorem dX6_read_6 : decode cX6_read 6 = .ok (.ifCond .eq 12, 3) := by decide +kernel
theorem dX6_read_9 : decode cX6_read 9 = .ok (.iload_n 3, 1) := by decide +kernel
theorem dX6_read_10 : decode cX6_read 10 = .ok (.iconst 0, 1) := by decide +kernel
theorem dX6_read_11 : decode cX6_read 11 = .ok (.iconst 1, 1) := by decide +kernel
theorem dX6_read_12 : decode cX6_read 12 = .ok (.invokestatic 36, 3) := by decide +kernel
theorem dX6_read_15 : decode cX6_read 15 = .ok (.ifCond .ne 6, 3) := by decide +kernel
theorem dX6_read_18 : decode cX6_read 18 = .ok (.ldc 86, 2) := by decide +kernel
theorem dX6_read_20 : decode cX6_read 20 = .ok (.ireturn, 1) := by decide +kernel
theorem dX6_read_21 : decode cX6_read 21 = .ok (.aload_n 0, 1) := by decide +kernel
theorem dX6_read_22 : decode cX6_read 22 = .ok (.iload_n 1, 1) := by decide +kernel
theorem dX6_read_23 : decode cX6_read 23 = .ok (.iload_n 2, 1) := by decide +kernel
theorem dX6_read_24 : decode cX6_read 24 = .ok (.invokevirtual 48, 3) := by decide +kernel
theorem dX6_read_27 : decode cX6_read 27 = .ok (.istore 4, 2) := by decide +kernel
theorem dX6_read_29 : decode cX6_read 29 = .ok (.iload_n 3, 1) := by decide +kernel
theorem dX6_read_30 : decode cX6_read 30 = .ok (.iconst 1, 1) := by decide +kernel
theorem dX6_read_31 : decode cX6_read 31 = .ok (.if_icmp .ne 18, 3) := by decide +kernel
theorem dX6_read_34 : decode cX6_read 34 = .ok (.iload 4, 2) := by decide +kernel
theorem dX6_read_36 : decode cX6_read 36 = .ok (.ifCond .ge 8, 3) := by decide +kernel
theorem dX6_read_39 : decode cX6_read 39 = .ok (.ldc 65, 2) := by decide +kernel
theorem dX6_read_41 : decode cX6_read 41 = .ok (.goto 27, 3) := by decide +kernel
theorem dX6_read_44 : decode cX6_read 44 = .ok (.iload 4, 2) := by decide +kernel
theorem dX6_read_46 : decode cX6_read 46 = .ok (.goto 22, 3) := by decide +kernel
theorem dX6_read_49 : decode cX6_read 49 = .ok (.iload 4, 2) := by decide +kernel
theorem dX6_read_51 : decode cX6_read 51 = .ok (.ifCond .ge 7, 3) := by decide +kernel
theorem dX6_read_54 : decode cX6_read 54 = .ok (.iconst 0, 1) := by decide +kernel
theorem dX6_read_55 : decode cX6_read 55 = .ok (.goto 13, 3) := by decide +kernel
theorem dX6_read_58 : decode cX6_read 58 = .ok (.aload_n 0, 1) := by decide +kernel
theorem dX6_read_59 : decode cX6_read 59 = .ok (.getfield 7, 3) := by decide +kernel
theorem dX6_read_62 : decode cX6_read 62 = .ok (.bipush 7, 2) := by decide +kernel
theorem dX6_read_64 : decode cX6_read 64 = .ok (.iload 4, 2) := by decide +kernel
theorem dX6_read_66 : decode cX6_read 66 = .ok (.iadd, 1) := by decide +kernel
theorem dX6_read_67 : decode cX6_read 67 = .ok (.iaload, 1) := by decide +kernel
theorem dX6_read_68 : decode cX6_read 68 = .ok (.ireturn, 1) := by decide +kernel
set_option maxRecDepth 20000 in
theorem ggX6_rank_X6_of : GoodIn wsX6_rank wsX6_of := goodIn_r _ [5, 6, 7, 8, 9, 10, 11, 12, 13, 14, 15, 16, 17, 18] rfl (by decide +kernel)
set_option maxRecDepth 20000 in
theorem gX6_rank_X6_of : GoodIn wsX6_rank (wsV RX6 40 RX6 yX6_of wsX6_of) := goodIn_app (goodIn_of _ (by decide +kernel)) ggX6_rank_X6_of
theorem dX6_rank_0 : decode cX6_rank 0 = .ok (.iconst 0, 1) := by decide +kernel
theorem dX6_rank_1 : decode cX6_rank 1 = .ok (.istore_n 2, 1) := by decide +kernel
theorem dX6_rank_2 : decode cX6_rank 2 = .ok (.iconst 0, 1) := by decide +kernel
theorem dX6_rank_3 : decode cX6_rank 3 = .ok (.istore_n 3, 1) := by decide +kernel
theorem dX6_rank_4 : decode cX6_rank 4 = .ok (.iload_n 3, 1) := by decide +kernel
theorem dX6_rank_5 : decode cX6_rank 5 = .ok (.bipush 8, 2) := by decide +kernel
theorem dX6_rank_7 : decode cX6_rank 7 = .ok (.if_icmp .ge 74, 3) := by decide +kernel
theorem dX6_rank_10 : decode cX6_rank 10 = .ok (.aload_n 0, 1) := by decide +kernel
theorem dX6_rank_11 : decode cX6_rank 11 = .ok (.iload_n 3, 1) := by decide +kernel
theorem dX6_rank_12 : decode cX6_rank 12 = .ok (.iconst 2, 1) := by decide +kernel
theorem dX6_rank_13 : decode cX6_rank 13 = .ok (.invokevirtual 40, 3) := by decide +kernel
theorem dX6_rank_16 : decode cX6_rank 16 = .ok (.aload_n 0, 1) := by decide +kernel
theorem dX6_rank_17 : decode cX6_rank 17 = .ok (.iload_n 1, 1) := by decide +kernel
theorem dX6_rank_18 : decode cX6_rank 18 = .ok (.iconst 2, 1) := by decide +kernel
theorem dX6_rank_19 : decode cX6_rank 19 = .ok (.invokevirtual 40, 3) := by decide +kernel
theorem dX6_rank_22 : decode cX6_rank 22 = .ok (.if_icmp .gt 23, 3) := by decide +kernel
theorem dX6_rank_25 : decode cX6_rank 25 = .ok (.iload_n 3, 1) := by decide +kernel
theorem dX6_rank_26 : decode cX6_rank 26 = .ok (.iload_n 1, 1) := by decide +kernel
theorem dX6_rank_27 : decode cX6_rank 27 = .ok (.if_icmp .ge 22, 3) := by decide +kernel
theorem dX6_rank_30 : decode cX6_rank 30 = .ok (.aload_n 0, 1) := by decide +kernel
theorem dX6_rank_31 : decode cX6_rank 31 = .ok (.iload_n 3, 1) := by decide +kernel
theorem dX6_rank_32 : decode cX6_rank 32 = .ok (.iconst 2, 1) := by decide +kernel
theorem dX6_rank_33 : decode cX6_rank 33 = .ok (.invokevirtual 40, 3) := by decide +kernel
theorem dX6_rank_36 : decode cX6_rank 36 = .ok (.aload_n 0, 1) := by decide +kernel
theorem dX6_rank_37 : decode cX6_rank 37 = .ok (.iload_n 1, 1) := by decide +kernel
theorem dX6_rank_38 : decode cX6_rank 38 = .ok (.iconst 2, 1) := by decide +kernel
theorem dX6_rank_39 : decode cX6_rank 39 = .ok (.invokevirtual 40, 3) := by decide +kernel
theorem dX6_rank_42 : decode cX6_rank 42 = .ok (.if_icmp .ne 7, 3) := by decide +kernel
theorem dX6_rank_45 : decode cX6_rank 45 = .ok (.iconst 1, 1) := by decide +kernel
theorem dX6_rank_46 : decode cX6_rank 46 = .ok (.goto 4, 3) := by decide +kernel
theorem dX6_rank_49 : decode cX6_rank 49 = .ok (.iconst 0, 1) := by decide +kernel
theorem dX6_rank_50 : decode cX6_rank 50 = .ok (.istore 4, 2) := by decide +kernel
theorem dX6_rank_52 : decode cX6_rank 52 = .ok (.iload_n 2, 1) := by decide +kernel
theorem dX6_rank_53 : decode cX6_rank 53 = .ok (.aload_n 0, 1) := by decide +kernel
theorem dX6_rank_54 : decode cX6_rank 54 = .ok (.iload_n 3, 1) := by decide +kernel
theorem dX6_rank_55 : decode cX6_rank 55 = .ok (.iconst 0, 1) := by decide +kernel
theorem dX6_rank_56 : decode cX6_rank 56 = .ok (.invokevirtual 40, 3) := by decide +kernel
theorem dX6_rank_59 : decode cX6_rank 59 = .ok (.iconst 1, 1) := by decide +kernel
theorem dX6_rank_60 : decode cX6_rank 60 = .ok (.if_icmp .ne 12, 3) := by decide +kernel
theorem dX6_rank_63 : decode cX6_rank 63 = .ok (.iload 4, 2) := by decide +kernel
theorem dX6_rank_65 : decode cX6_rank 65 = .ok (.ifCond .eq 7, 3) := by decide +kernel
theorem dX6_rank_68 : decode cX6_rank 68 = .ok (.iconst 1, 1) := by decide +kernel
theorem dX6_rank_69 : decode cX6_rank 69 = .ok (.goto 4, 3) := by decide +kernel
theorem dX6_rank_72 : decode cX6_rank 72 = .ok (.iconst 0, 1) := by decide +kernel
theorem dX6_rank_73 : decode cX6_rank 73 = .ok (.iadd, 1) := by decide +kernel
theorem dX6_rank_74 : decode cX6_rank 74 = .ok (.istore_n 2, 1) := by decide +kernel
theorem dX6_rank_75 : decode cX6_rank 75 = .ok (.iinc 3 1, 3) := by decide +kernel
theorem dX6_rank_78 : decode cX6_rank 78 = .ok (.goto (-74), 3) := by decide +kernel
theorem dX6_rank_81 : decode cX6_rank 81 = .ok (.iload_n 2, 1) := by decide +kernel
theorem dX6_rank_82 : decode cX6_rank 82 = .ok (.ireturn, 1) := by decide +kernel
set_option maxRecDepth 20000 in
theorem ggX6_clones_X6_of : GoodIn wsX6_clones wsX6_of := goodIn_r _ [5, 6, 7, 8, 9, 10, 11, 12, 13, 14, 15, 16, 17, 18] rfl (by decide +kernel)
set_option maxRecDepth 20000 in
theorem gX6_clones_X6_of : GoodIn wsX6_clones (wsV RX6 40 RX6 yX6_of wsX6_of) := goodIn_app (goodIn_of _ (by decide +kernel)) ggX6_clones_X6_of
theorem dX6_clones_0 : decode cX6_clones 0 = .ok (.iconst 0, 1) := by decide +kernel
theorem dX6_clones_1 : decode cX6_clones 1 = .ok (.istore_n 2, 1) := by decide +kernel
theorem dX6_clones_2 : decode cX6_clones 2 = .ok (.iconst 0, 1) := by decide +kernel
theorem dX6_clones_3 : decode cX6_clones 3 = .ok (.istore_n 3, 1) := by decide +kernel
theorem dX6_clones_4 : decode cX6_clones 4 = .ok (.iload_n 3, 1) := by decide +kernel
theorem dX6_clones_5 : decode cX6_clones 5 = .ok (.bipush 8, 2) := by decide +kernel
theorem dX6_clones_7 : decode cX6_clones 7 = .ok (.if_icmp .ge 39, 3) := by decide +kernel
theorem dX6_clones_10 : decode cX6_clones 10 = .ok (.iload_n 2, 1) := by decide +kernel
theorem dX6_clones_11 : decode cX6_clones 11 = .ok (.aload_n 0, 1) := by decide +kernel
theorem dX6_clones_12 : decode cX6_clones 12 = .ok (.iload_n 3, 1) := by decide +kernel
theorem dX6_clones_13 : decode cX6_clones 13 = .ok (.iconst 0, 1) := by decide +kernel
theorem dX6_clones_14 : decode cX6_clones 14 = .ok (.invokevirtual 40, 3) := by decide +kernel
theorem dX6_clones_17 : decode cX6_clones 17 = .ok (.iconst 1, 1) := by decide +kernel
theorem dX6_clones_18 : decode cX6_clones 18 = .ok (.if_icmp .ne 19, 3) := by decide +kernel
theorem dX6_clones_21 : decode cX6_clones 21 = .ok (.aload_n 0, 1) := by decide +kernel
theorem dX6_clones_22 : decode cX6_clones 22 = .ok (.iload_n 3, 1) := by decide +kernel
theorem dX6_clones_23 : decode cX6_clones 23 = .ok (.iconst 4, 1) := by decide +kernel
theorem dX6_clones_24 : decode cX6_clones 24 = .ok (.invokevirtual 40, 3) := by decide +kernel
theorem dX6_clones_27 : decode cX6_clones 27 = .ok (.iload_n 1, 1) := by decide +kernel
theorem dX6_clones_28 : decode cX6_clones 28 = .ok (.if_icmp .ne 9, 3) := by decide +kernel
theorem dX6_clones_31 : decode cX6_clones 31 = .ok (.iconst 1, 1) := by decide +kernel
theorem dX6_clones_32 : decode cX6_clones 32 = .ok (.iload_n 3, 1) := by decide +kernel
theorem dX6_clones_33 : decode cX6_clones 33 = .ok (.ishl, 1) := by decide +kernel
theorem dX6_clones_34 : decode cX6_clones 34 = .ok (.goto 4, 3) := by decide +kernel
theorem dX6_clones_37 : decode cX6_clones 37 = .ok (.iconst 0, 1) := by decide +kernel
theorem dX6_clones_38 : decode cX6_clones 38 = .ok (.ior, 1) := by decide +kernel
theorem dX6_clones_39 : decode cX6_clones 39 = .ok (.istore_n 2, 1) := by decide +kernel
theorem dX6_clones_40 : decode cX6_clones 40 = .ok (.iinc 3 1, 3) := by decide +kernel
theorem dX6_clones_43 : decode cX6_clones 43 = .ok (.goto (-39), 3) := by decide +kernel
theorem dX6_clones_46 : decode cX6_clones 46 = .ok (.iload_n 2, 1) := by decide +kernel
theorem dX6_clones_47 : decode cX6_clones 47 = .ok (.ireturn, 1) := by decide +kernel
set_option maxRecDepth 20000 in
theorem ggX6_volumesOf_X6_ownersIn : GoodIn wsX6_volumesOf wsX6_ownersIn := goodIn_r _ [5, 6, 7, 8, 4, 9, 10, 11, 12, 13, 14, 15, 16, 17, 18, 19, 20, 21, 22, 23, 24, 25, 26] rfl (by decide +kernel)
set_option maxRecDepth 20000 in
theorem gX6_volumesOf_X6_ownersIn : GoodIn wsX6_volumesOf (wsV RX6 51 RX6 yX6_ownersIn wsX6_ownersIn) := goodIn_app (goodIn_of _ (by decide +kernel)) ggX6_volumesOf_X6_ownersIn
theorem dX6_volumesOf_0 : decode cX6_volumesOf 0 = .ok (.iconst 0, 1) := by decide +kernel
theorem dX6_volumesOf_1 : decode cX6_volumesOf 1 = .ok (.istore_n 2, 1) := by decide +kernel
theorem dX6_volumesOf_2 : decode cX6_volumesOf 2 = .ok (.iconst 0, 1) := by decide +kernel
theorem dX6_volumesOf_3 : decode cX6_volumesOf 3 = .ok (.istore_n 3, 1) := by decide +kernel
theorem dX6_volumesOf_4 : decode cX6_volumesOf 4 = .ok (.iload_n 3, 1) := by decide +kernel
theorem dX6_volumesOf_5 : decode cX6_volumesOf 5 = .ok (.bipush 8, 2) := by decide +kernel
theorem dX6_volumesOf_7 : decode cX6_volumesOf 7 = .ok (.if_icmp .ge 28, 3) := by decide +kernel
theorem dX6_volumesOf_10 : decode cX6_volumesOf 10 = .ok (.iload_n 2, 1) := by decide +kernel
theorem dX6_volumesOf_11 : decode cX6_volumesOf 11 = .ok (.aload_n 0, 1) := by decide +kernel
theorem dX6_volumesOf_12 : decode cX6_volumesOf 12 = .ok (.iload_n 3, 1) := by decide +kernel
theorem dX6_volumesOf_13 : decode cX6_volumesOf 13 = .ok (.iload_n 1, 1) := by decide +kernel
theorem dX6_volumesOf_14 : decode cX6_volumesOf 14 = .ok (.invokevirtual 51, 3) := by decide +kernel
theorem dX6_volumesOf_17 : decode cX6_volumesOf 17 = .ok (.ifCond .le 9, 3) := by decide +kernel
theorem dX6_volumesOf_20 : decode cX6_volumesOf 20 = .ok (.iconst 1, 1) := by decide +kernel
theorem dX6_volumesOf_21 : decode cX6_volumesOf 21 = .ok (.iload_n 3, 1) := by decide +kernel
theorem dX6_volumesOf_22 : decode cX6_volumesOf 22 = .ok (.ishl, 1) := by decide +kernel
theorem dX6_volumesOf_23 : decode cX6_volumesOf 23 = .ok (.goto 4, 3) := by decide +kernel
theorem dX6_volumesOf_26 : decode cX6_volumesOf 26 = .ok (.iconst 0, 1) := by decide +kernel
theorem dX6_volumesOf_27 : decode cX6_volumesOf 27 = .ok (.ior, 1) := by decide +kernel
theorem dX6_volumesOf_28 : decode cX6_volumesOf 28 = .ok (.istore_n 2, 1) := by decide +kernel
theorem dX6_volumesOf_29 : decode cX6_volumesOf 29 = .ok (.iinc 3 1, 3) := by decide +kernel
theorem dX6_volumesOf_32 : decode cX6_volumesOf 32 = .ok (.goto (-28), 3) := by decide +kernel
theorem dX6_volumesOf_35 : decode cX6_volumesOf 35 = .ok (.iload_n 2, 1) := by decide +kernel
theorem dX6_volumesOf_36 : decode cX6_volumesOf 36 = .ok (.ireturn, 1) := by decide +kernel
set_option maxRecDepth 20000 in
theorem ggX6_ownedBy_X6_volumesOf : GoodIn wsX6_ownedBy wsX6_volumesOf := goodIn_r _ [5, 6, 7, 8, 4, 9, 10, 11, 12, 13, 14, 15, 16, 17, 18, 19, 20, 21, 22, 23, 24, 25, 26, 27, 28, 29, 30] rfl (by decide +kernel)
set_option maxRecDepth 20000 in
theorem gX6_ownedBy_X6_volumesOf : GoodIn wsX6_ownedBy (wsV RX6 125 RX6 yX6_volumesOf wsX6_volumesOf) := goodIn_app (goodIn_of _ (by decide +kernel)) ggX6_ownedBy_X6_volumesOf
theorem dX6_ownedBy_0 : decode cX6_ownedBy 0 = .ok (.iconst 0, 1) := by decide +kernel
theorem dX6_ownedBy_1 : decode cX6_ownedBy 1 = .ok (.istore_n 2, 1) := by decide +kernel
theorem dX6_ownedBy_2 : decode cX6_ownedBy 2 = .ok (.iconst 0, 1) := by decide +kernel
theorem dX6_ownedBy_3 : decode cX6_ownedBy 3 = .ok (.istore_n 3, 1) := by decide +kernel
theorem dX6_ownedBy_4 : decode cX6_ownedBy 4 = .ok (.iload_n 3, 1) := by decide +kernel
theorem dX6_ownedBy_5 : decode cX6_ownedBy 5 = .ok (.bipush 30, 2) := by decide +kernel
theorem dX6_ownedBy_7 : decode cX6_ownedBy 7 = .ok (.if_icmp .ge 38, 3) := by decide +kernel
theorem dX6_ownedBy_10 : decode cX6_ownedBy 10 = .ok (.aload_n 0, 1) := by decide +kernel
theorem dX6_ownedBy_11 : decode cX6_ownedBy 11 = .ok (.iload_n 3, 1) := by decide +kernel
theorem dX6_ownedBy_12 : decode cX6_ownedBy 12 = .ok (.invokevirtual 125, 3) := by decide +kernel
theorem dX6_ownedBy_15 : decode cX6_ownedBy 15 = .ok (.istore 4, 2) := by decide +kernel
theorem dX6_ownedBy_17 : decode cX6_ownedBy 17 = .ok (.iload_n 2, 1) := by decide +kernel
theorem dX6_ownedBy_18 : decode cX6_ownedBy 18 = .ok (.iload 4, 2) := by decide +kernel
theorem dX6_ownedBy_20 : decode cX6_ownedBy 20 = .ok (.ifCond .eq 16, 3) := by decide +kernel
theorem dX6_ownedBy_23 : decode cX6_ownedBy 23 = .ok (.iload 4, 2) := by decide +kernel
theorem dX6_ownedBy_25 : decode cX6_ownedBy 25 = .ok (.iload_n 1, 1) := by decide +kernel
theorem dX6_ownedBy_26 : decode cX6_ownedBy 26 = .ok (.iconst (-1), 1) := by decide +kernel
theorem dX6_ownedBy_27 : decode cX6_ownedBy 27 = .ok (.ixor, 1) := by decide +kernel
theorem dX6_ownedBy_28 : decode cX6_ownedBy 28 = .ok (.iand, 1) := by decide +kernel
theorem dX6_ownedBy_29 : decode cX6_ownedBy 29 = .ok (.ifCond .ne 7, 3) := by decide +kernel
theorem dX6_ownedBy_32 : decode cX6_ownedBy 32 = .ok (.iconst 1, 1) := by decide +kernel
theorem dX6_ownedBy_33 : decode cX6_ownedBy 33 = .ok (.goto 4, 3) := by decide +kernel
theorem dX6_ownedBy_36 : decode cX6_ownedBy 36 = .ok (.iconst 0, 1) := by decide +kernel
theorem dX6_ownedBy_37 : decode cX6_ownedBy 37 = .ok (.iadd, 1) := by decide +kernel
theorem dX6_ownedBy_38 : decode cX6_ownedBy 38 = .ok (.istore_n 2, 1) := by decide +kernel
theorem dX6_ownedBy_39 : decode cX6_ownedBy 39 = .ok (.iinc 3 1, 3) := by decide +kernel
theorem dX6_ownedBy_42 : decode cX6_ownedBy 42 = .ok (.goto (-38), 3) := by decide +kernel
theorem dX6_ownedBy_45 : decode cX6_ownedBy 45 = .ok (.iload_n 2, 1) := by decide +kernel
theorem dX6_ownedBy_46 : decode cX6_ownedBy 46 = .ok (.ireturn, 1) := by decide +kernel
set_option maxRecDepth 20000 in
theorem ggX6_filled_X6_of : GoodIn wsX6_filled wsX6_of := goodIn_r _ [5, 6, 11, 12, 13, 14, 15, 16, 17, 18, 19, 20, 21, 22] rfl (by decide +kernel)
set_option maxRecDepth 20000 in
theorem gX6_filled_X6_of : GoodIn wsX6_filled (wsV RX6 40 RX6 yX6_of wsX6_of) := goodIn_app (goodIn_of _ (by decide +kernel)) ggX6_filled_X6_of
set_option maxRecDepth 20000 in
theorem ggX6_filled_X6_piece : GoodIn wsX6_filled wsX6_piece := goodIn_r _ [10, 1, 2, 3, 4, 5, 6, 11, 12, 13, 14, 15, 16, 17, 18, 19, 20, 21, 22] rfl (by decide +kernel)
set_option maxRecDepth 20000 in
theorem gX6_filled_X6_piece : GoodIn wsX6_filled (wsV RX6 48 RX6 yX6_piece wsX6_piece) := goodIn_app (goodIn_of _ (by decide +kernel)) ggX6_filled_X6_piece
theorem dX6_filled_0 : decode cX6_filled 0 = .ok (.iconst 0, 1) := by decide +kernel
theorem dX6_filled_1 : decode cX6_filled 1 = .ok (.istore_n 2, 1) := by decide +kernel
theorem dX6_filled_2 : decode cX6_filled 2 = .ok (.iconst 0, 1) := by decide +kernel
theorem dX6_filled_3 : decode cX6_filled 3 = .ok (.istore_n 3, 1) := by decide +kernel
theorem dX6_filled_4 : decode cX6_filled 4 = .ok (.iload_n 3, 1) := by decide +kernel
theorem dX6_filled_5 : decode cX6_filled 5 = .ok (.aload_n 0, 1) := by decide +kernel
theorem dX6_filled_6 : decode cX6_filled 6 = .ok (.iload_n 1, 1) := by decide +kernel
theorem dX6_filled_7 : decode cX6_filled 7 = .ok (.iconst 1, 1) := by decide +kernel
theorem dX6_filled_8 : decode cX6_filled 8 = .ok (.invokevirtual 40, 3) := by decide +kernel
theorem dX6_filled_11 : decode cX6_filled 11 = .ok (.if_icmp .ge 36, 3) := by decide +kernel
theorem dX6_filled_14 : decode cX6_filled 14 = .ok (.aload_n 0, 1) := by decide +kernel
theorem dX6_filled_15 : decode cX6_filled 15 = .ok (.iload_n 1, 1) := by decide +kernel
theorem dX6_filled_16 : decode cX6_filled 16 = .ok (.iconst 0, 1) := by decide +kernel
theorem dX6_filled_17 : decode cX6_filled 17 = .ok (.invokevirtual 40, 3) := by decide +kernel
theorem dX6_filled_20 : decode cX6_filled 20 = .ok (.iconst 1, 1) := by decide +kernel
theorem dX6_filled_21 : decode cX6_filled 21 = .ok (.if_icmp .ne 26, 3) := by decide +kernel
theorem dX6_filled_24 : decode cX6_filled 24 = .ok (.iload_n 2, 1) := by decide +kernel
theorem dX6_filled_25 : decode cX6_filled 25 = .ok (.aload_n 0, 1) := by decide +kernel
theorem dX6_filled_26 : decode cX6_filled 26 = .ok (.iload_n 1, 1) := by decide +kernel
theorem dX6_filled_27 : decode cX6_filled 27 = .ok (.iload_n 3, 1) := by decide +kernel
theorem dX6_filled_28 : decode cX6_filled 28 = .ok (.invokevirtual 48, 3) := by decide +kernel
theorem dX6_filled_31 : decode cX6_filled 31 = .ok (.ifCond .ge 7, 3) := by decide +kernel
theorem dX6_filled_34 : decode cX6_filled 34 = .ok (.iconst 0, 1) := by decide +kernel
theorem dX6_filled_35 : decode cX6_filled 35 = .ok (.goto 4, 3) := by decide +kernel
theorem dX6_filled_38 : decode cX6_filled 38 = .ok (.iconst 1, 1) := by decide +kernel
theorem dX6_filled_39 : decode cX6_filled 39 = .ok (.iadd, 1) := by decide +kernel
theorem dX6_filled_40 : decode cX6_filled 40 = .ok (.istore_n 2, 1) := by decide +kernel
theorem dX6_filled_41 : decode cX6_filled 41 = .ok (.iinc 3 1, 3) := by decide +kernel
theorem dX6_filled_44 : decode cX6_filled 44 = .ok (.goto (-40), 3) := by decide +kernel
theorem dX6_filled_47 : decode cX6_filled 47 = .ok (.iload_n 2, 1) := by decide +kernel
theorem dX6_filled_48 : decode cX6_filled 48 = .ok (.ireturn, 1) := by decide +kernel
set_option maxRecDepth 20000 in
theorem ggX6_volumeOf_X6_isVolume : GoodIn wsX6_volumeOf wsX6_isVolume := goodIn_r _ [7, 8, 9, 6, 10, 11, 12, 13, 14, 15, 44, 45, 46, 47, 48, 49, 50, 51, 52, 53, 54, 55] rfl (by decide +kernel)
set_option maxRecDepth 20000 in
theorem gX6_volumeOf_X6_isVolume : GoodIn wsX6_volumeOf (wsV RX6 44 RX6 yX6_isVolume wsX6_isVolume) := goodIn_app (goodIn_of _ (by decide +kernel)) ggX6_volumeOf_X6_isVolume
set_option maxRecDepth 20000 in
theorem ggX6_volumeOf_X6_of : GoodIn wsX6_volumeOf wsX6_of := goodIn_r _ [14, 15, 44, 45, 46, 47, 48, 49, 50, 51, 52, 53, 54, 55] rfl (by decide +kernel)
set_option maxRecDepth 20000 in
theorem gX6_volumeOf_X6_of : GoodIn wsX6_volumeOf (wsV RX6 40 RX6 yX6_of wsX6_of) := goodIn_app (goodIn_of _ (by decide +kernel)) ggX6_volumeOf_X6_of
set_option maxRecDepth 20000 in
theorem ggX6_volumeOf_X6_filled : GoodIn wsX6_volumeOf wsX6_filled := goodIn_r _ [19, 11, 12, 13, 6, 14, 15, 20, 21, 22, 23, 44, 45, 46, 47, 48, 49, 50, 51, 52, 53, 54, 55] rfl (by decide +kernel)
set_option maxRecDepth 20000 in
theorem gX6_volumeOf_X6_filled : GoodIn wsX6_volumeOf (wsV RX6 128 RX6 yX6_filled wsX6_filled) := goodIn_app (goodIn_of _ (by decide +kernel)) ggX6_volumeOf_X6_filled
set_option maxRecDepth 20000 in
theorem ggX6_volumeOf_X6_ownedBy : GoodIn wsX6_volumeOf wsX6_ownedBy := goodIn_r _ [27, 28, 29, 30, 6, 31, 32, 33, 34, 35, 11, 12, 13, 14, 15, 20, 21, 22, 23, 44, 45, 46, 47, 48, 49, 50, 51, 52, 53, 54, 55] rfl (by decide +kernel)
set_option maxRecDepth 20000 in
theorem gX6_volumeOf_X6_ownedBy : GoodIn wsX6_volumeOf (wsV RX6 131 RX6 yX6_ownedBy wsX6_ownedBy) := goodIn_app (goodIn_of _ (by decide +kernel)) ggX6_volumeOf_X6_ownedBy
set_option maxRecDepth 20000 in
theorem ggX6_volumeOf_X6_clones : GoodIn wsX6_volumeOf wsX6_clones := goodIn_r _ [39, 11, 12, 13, 6, 14, 15, 44, 45, 46, 47, 48, 49, 50, 51, 52, 53, 54, 55] rfl (by decide +kernel)
set_option maxRecDepth 20000 in
theorem gX6_volumeOf_X6_clones : GoodIn wsX6_volumeOf (wsV RX6 134 RX6 yX6_clones wsX6_clones) := goodIn_app (goodIn_of _ (by decide +kernel)) ggX6_volumeOf_X6_clones
set_option maxRecDepth 20000 in
theorem ggX6_volumeOf_X6_rank : GoodIn wsX6_volumeOf wsX6_rank := goodIn_r _ [43, 11, 12, 13, 6, 14, 15, 44, 45, 46, 47, 48, 49, 50, 51, 52, 53, 54, 55] rfl (by decide +kernel)
set_option maxRecDepth 20000 in
theorem gX6_volumeOf_X6_rank : GoodIn wsX6_volumeOf (wsV RX6 137 RX6 yX6_rank wsX6_rank) := goodIn_app (goodIn_of _ (by decide +kernel)) ggX6_volumeOf_X6_rank
theorem dX6_volumeOf_0 : decode cX6_volumeOf 0 = .ok (.aload_n 0, 1) := by decide +kernel
theorem dX6_volumeOf_1 : decode cX6_volumeOf 1 = .ok (.iload_n 1, 1) := by decide +kernel
theorem dX6_volumeOf_2 : decode cX6_volumeOf 2 = .ok (.invokevirtual 44, 3) := by decide +kernel
theorem dX6_volumeOf_5 : decode cX6_volumeOf 5 = .ok (.ifCond .ne 6, 3) := by decide +kernel
theorem dX6_volumeOf_8 : decode cX6_volumeOf 8 = .ok (.ldc 86, 2) := by decide +kernel
theorem dX6_volumeOf_10 : decode cX6_volumeOf 10 = .ok (.ireturn, 1) := by decide +kernel
theorem dX6_volumeOf_11 : decode cX6_volumeOf 11 = .ok (.iload_n 2, 1) := by decide +kernel
theorem dX6_volumeOf_12 : decode cX6_volumeOf 12 = .ok (.tableswitch 139 0 9 #[56, 63, 69, 77, 84, 91, 112, 118, 124, 131], 56) := by decide +kernel
theorem dX6_volumeOf_68 : decode cX6_volumeOf 68 = .ok (.aload_n 0, 1) := by decide +kernel
theorem dX6_volumeOf_69 : decode cX6_volumeOf 69 = .ok (.iload_n 1, 1) := by decide +kernel
theorem dX6_volumeOf_70 : decode cX6_volumeOf 70 = .ok (.iconst 1, 1) := by decide +kernel
theorem dX6_volumeOf_71 : decode cX6_volumeOf 71 = .ok (.invokevirtual 40, 3) := by decide +kernel
theorem dX6_volumeOf_74 : decode cX6_volumeOf 74 = .ok (.ireturn, 1) := by decide +kernel
theorem dX6_volumeOf_75 : decode cX6_volumeOf 75 = .ok (.aload_n 0, 1) := by decide +kernel
theorem dX6_volumeOf_76 : decode cX6_volumeOf 76 = .ok (.iload_n 1, 1) := by decide +kernel
theorem dX6_volumeOf_77 : decode cX6_volumeOf 77 = .ok (.invokevirtual 128, 3) := by decide +kernel
theorem dX6_volumeOf_80 : decode cX6_volumeOf 80 = .ok (.ireturn, 1) := by decide +kernel
theorem dX6_volumeOf_81 : decode cX6_volumeOf 81 = .ok (.aload_n 0, 1) := by decide +kernel
theorem dX6_volumeOf_82 : decode cX6_volumeOf 82 = .ok (.iconst 1, 1) := by decide +kernel
theorem dX6_volumeOf_83 : decode cX6_volumeOf 83 = .ok (.iload_n 1, 1) := by decide +kernel
theorem dX6_volumeOf_84 : decode cX6_volumeOf 84 = .ok (.ishl, 1) := by decide +kernel
theorem dX6_volumeOf_85 : decode cX6_volumeOf 85 = .ok (.invokevirtual 131, 3) := by decide +kernel
theorem dX6_volumeOf_88 : decode cX6_volumeOf 88 = .ok (.ireturn, 1) := by decide +kernel
theorem dX6_volumeOf_89 : decode cX6_volumeOf 89 = .ok (.aload_n 0, 1) := by decide +kernel
theorem dX6_volumeOf_90 : decode cX6_volumeOf 90 = .ok (.iload_n 1, 1) := by decide +kernel
theorem dX6_volumeOf_91 : decode cX6_volumeOf 91 = .ok (.iconst 2, 1) := by decide +kernel
theorem dX6_volumeOf_92 : decode cX6_volumeOf 92 = .ok (.invokevirtual 40, 3) := by decide +kernel
theorem dX6_volumeOf_95 : decode cX6_volumeOf 95 = .ok (.ireturn, 1) := by decide +kernel
theorem dX6_volumeOf_96 : decode cX6_volumeOf 96 = .ok (.aload_n 0, 1) := by decide +kernel
theorem dX6_volumeOf_97 : decode cX6_volumeOf 97 = .ok (.iload_n 1, 1) := by decide +kernel
theorem dX6_volumeOf_98 : decode cX6_volumeOf 98 = .ok (.iconst 3, 1) := by decide +kernel
theorem dX6_volumeOf_99 : decode cX6_volumeOf 99 = .ok (.invokevirtual 40, 3) := by decide +kernel
theorem dX6_volumeOf_102 : decode cX6_volumeOf 102 = .ok (.ireturn, 1) := by decide +kernel
theorem dX6_volumeOf_103 : decode cX6_volumeOf 103 = .ok (.aload_n 0, 1) := by decide +kernel
theorem dX6_volumeOf_104 : decode cX6_volumeOf 104 = .ok (.iload_n 1, 1) := by decide +kernel
theorem dX6_volumeOf_105 : decode cX6_volumeOf 105 = .ok (.iconst 4, 1) := by decide +kernel
theorem dX6_volumeOf_106 : decode cX6_volumeOf 106 = .ok (.invokevirtual 40, 3) := by decide +kernel
theorem dX6_volumeOf_109 : decode cX6_volumeOf 109 = .ok (.ifCond .ge 8, 3) := by decide +kernel
theorem dX6_volumeOf_112 : decode cX6_volumeOf 112 = .ok (.ldc 65, 2) := by decide +kernel
theorem dX6_volumeOf_114 : decode cX6_volumeOf 114 = .ok (.goto 9, 3) := by decide +kernel
theorem dX6_volumeOf_117 : decode cX6_volumeOf 117 = .ok (.aload_n 0, 1) := by decide +kernel
theorem dX6_volumeOf_118 : decode cX6_volumeOf 118 = .ok (.iload_n 1, 1) := by decide +kernel
theorem dX6_volumeOf_119 : decode cX6_volumeOf 119 = .ok (.iconst 4, 1) := by decide +kernel
theorem dX6_volumeOf_120 : decode cX6_volumeOf 120 = .ok (.invokevirtual 40, 3) := by decide +kernel
theorem dX6_volumeOf_123 : decode cX6_volumeOf 123 = .ok (.ireturn, 1) := by decide +kernel
theorem dX6_volumeOf_124 : decode cX6_volumeOf 124 = .ok (.aload_n 0, 1) := by decide +kernel
theorem dX6_volumeOf_125 : decode cX6_volumeOf 125 = .ok (.iload_n 1, 1) := by decide +kernel
theorem dX6_volumeOf_126 : decode cX6_volumeOf 126 = .ok (.invokevirtual 134, 3) := by decide +kernel
theorem dX6_volumeOf_129 : decode cX6_volumeOf 129 = .ok (.ireturn, 1) := by decide +kernel
theorem dX6_volumeOf_130 : decode cX6_volumeOf 130 = .ok (.aload_n 0, 1) := by decide +kernel
theorem dX6_volumeOf_131 : decode cX6_volumeOf 131 = .ok (.iload_n 1, 1) := by decide +kernel
theorem dX6_volumeOf_132 : decode cX6_volumeOf 132 = .ok (.invokevirtual 137, 3) := by decide +kernel
theorem dX6_volumeOf_135 : decode cX6_volumeOf 135 = .ok (.ireturn, 1) := by decide +kernel
theorem dX6_volumeOf_136 : decode cX6_volumeOf 136 = .ok (.aload_n 0, 1) := by decide +kernel
theorem dX6_volumeOf_137 : decode cX6_volumeOf 137 = .ok (.iload_n 1, 1) := by decide +kernel
theorem dX6_volumeOf_138 : decode cX6_volumeOf 138 = .ok (.iconst 5, 1) := by decide +kernel
theorem dX6_volumeOf_139 : decode cX6_volumeOf 139 = .ok (.invokevirtual 40, 3) := by decide +kernel
theorem dX6_volumeOf_142 : decode cX6_volumeOf 142 = .ok (.ireturn, 1) := by decide +kernel
theorem dX6_volumeOf_143 : decode cX6_volumeOf 143 = .ok (.aload_n 0, 1) := by decide +kernel
theorem dX6_volumeOf_144 : decode cX6_volumeOf 144 = .ok (.iload_n 1, 1) := by decide +kernel
theorem dX6_volumeOf_145 : decode cX6_volumeOf 145 = .ok (.bipush 6, 2) := by decide +kernel
theorem dX6_volumeOf_147 : decode cX6_volumeOf 147 = .ok (.invokevirtual 40, 3) := by decide +kernel
theorem dX6_volumeOf_150 : decode cX6_volumeOf 150 = .ok (.ireturn, 1) := by decide +kernel
theorem dX6_volumeOf_151 : decode cX6_volumeOf 151 = .ok (.ldc 86, 2) := by decide +kernel
theorem dX6_volumeOf_153 : decode cX6_volumeOf 153 = .ok (.ireturn, 1) := by decide +kernel
set_option maxRecDepth 20000 in
theorem ggX6_pieceOf_X6_in : GoodIn wsX6_pieceOf wsX6_in := goodIn_r _ [7] rfl (by decide +kernel)
set_option maxRecDepth 20000 in
theorem gX6_pieceOf_X6_in : GoodIn wsX6_pieceOf (va_wsS RX6 36 yX6_in wsX6_in) := goodIn_app (goodIn_of _ (by decide +kernel)) ggX6_pieceOf_X6_in
set_option maxRecDepth 20000 in
theorem ggX6_pieceOf_X6_owners : GoodIn wsX6_pieceOf wsX6_owners := goodIn_r _ [11, 12, 13, 14, 6, 15, 16, 17, 18, 19, 3, 20, 21, 22, 23, 28, 29, 30, 31, 32, 33, 34, 35, 36, 37, 38, 39] rfl (by decide +kernel)
set_option maxRecDepth 20000 in
theorem gX6_pieceOf_X6_owners : GoodIn wsX6_pieceOf (wsV RX6 54 RX6 yX6_owners wsX6_owners) := goodIn_app (goodIn_of _ (by decide +kernel)) ggX6_pieceOf_X6_owners
set_option maxRecDepth 20000 in
theorem ggX6_pieceOf_X6_volumesOf : GoodIn wsX6_pieceOf wsX6_volumesOf := goodIn_r _ [27, 12, 13, 14, 6, 15, 16, 17, 18, 19, 3, 20, 21, 22, 23, 28, 29, 30, 31, 32, 33, 34, 35, 36, 37, 38, 39] rfl (by decide +kernel)
set_option maxRecDepth 20000 in
theorem gX6_pieceOf_X6_volumesOf : GoodIn wsX6_pieceOf (wsV RX6 125 RX6 yX6_volumesOf wsX6_volumesOf) := goodIn_app (goodIn_of _ (by decide +kernel)) ggX6_pieceOf_X6_volumesOf
theorem dX6_pieceOf_0 : decode cX6_pieceOf 0 = .ok (.iload_n 1, 1) := by decide +kernel
theorem dX6_pieceOf_1 : decode cX6_pieceOf 1 = .ok (.iconst 0, 1) := by decide +kernel
theorem dX6_pieceOf_2 : decode cX6_pieceOf 2 = .ok (.bipush 29, 2) := by decide +kernel
theorem dX6_pieceOf_4 : decode cX6_pieceOf 4 = .ok (.invokestatic 36, 3) := by decide +kernel
theorem dX6_pieceOf_7 : decode cX6_pieceOf 7 = .ok (.ifCond .eq 12, 3) := by decide +kernel
theorem dX6_pieceOf_10 : decode cX6_pieceOf 10 = .ok (.iload_n 2, 1) := by decide +kernel
theorem dX6_pieceOf_11 : decode cX6_pieceOf 11 = .ok (.iconst 0, 1) := by decide +kernel
theorem dX6_pieceOf_12 : decode cX6_pieceOf 12 = .ok (.iconst 2, 1) := by decide +kernel
theorem dX6_pieceOf_13 : decode cX6_pieceOf 13 = .ok (.invokestatic 36, 3) := by decide +kernel
theorem dX6_pieceOf_16 : decode cX6_pieceOf 16 = .ok (.ifCond .ne 6, 3) := by decide +kernel
theorem dX6_pieceOf_19 : decode cX6_pieceOf 19 = .ok (.ldc 86, 2) := by decide +kernel
theorem dX6_pieceOf_21 : decode cX6_pieceOf 21 = .ok (.ireturn, 1) := by decide +kernel
theorem dX6_pieceOf_22 : decode cX6_pieceOf 22 = .ok (.aload_n 0, 1) := by decide +kernel
theorem dX6_pieceOf_23 : decode cX6_pieceOf 23 = .ok (.iload_n 1, 1) := by decide +kernel
theorem dX6_pieceOf_24 : decode cX6_pieceOf 24 = .ok (.invokevirtual 54, 3) := by decide +kernel
theorem dX6_pieceOf_27 : decode cX6_pieceOf 27 = .ok (.ifCond .ne 6, 3) := by decide +kernel
theorem dX6_pieceOf_30 : decode cX6_pieceOf 30 = .ok (.ldc 65, 2) := by decide +kernel
theorem dX6_pieceOf_32 : decode cX6_pieceOf 32 = .ok (.ireturn, 1) := by decide +kernel
theorem dX6_pieceOf_33 : decode cX6_pieceOf 33 = .ok (.iload_n 2, 1) := by decide +kernel
theorem dX6_pieceOf_34 : decode cX6_pieceOf 34 = .ok (.ifCond .ne 15, 3) := by decide +kernel
theorem dX6_pieceOf_37 : decode cX6_pieceOf 37 = .ok (.aload_n 0, 1) := by decide +kernel
theorem dX6_pieceOf_38 : decode cX6_pieceOf 38 = .ok (.getfield 7, 3) := by decide +kernel
theorem dX6_pieceOf_41 : decode cX6_pieceOf 41 = .ok (.bipush 7, 2) := by decide +kernel
theorem dX6_pieceOf_43 : decode cX6_pieceOf 43 = .ok (.iload_n 1, 1) := by decide +kernel
theorem dX6_pieceOf_44 : decode cX6_pieceOf 44 = .ok (.iadd, 1) := by decide +kernel
theorem dX6_pieceOf_45 : decode cX6_pieceOf 45 = .ok (.iaload, 1) := by decide +kernel
theorem dX6_pieceOf_46 : decode cX6_pieceOf 46 = .ok (.goto 21, 3) := by decide +kernel
theorem dX6_pieceOf_49 : decode cX6_pieceOf 49 = .ok (.iload_n 2, 1) := by decide +kernel
theorem dX6_pieceOf_50 : decode cX6_pieceOf 50 = .ok (.iconst 1, 1) := by decide +kernel
theorem dX6_pieceOf_51 : decode cX6_pieceOf 51 = .ok (.if_icmp .ne 11, 3) := by decide +kernel
theorem dX6_pieceOf_54 : decode cX6_pieceOf 54 = .ok (.aload_n 0, 1) := by decide +kernel
theorem dX6_pieceOf_55 : decode cX6_pieceOf 55 = .ok (.iload_n 1, 1) := by decide +kernel
theorem dX6_pieceOf_56 : decode cX6_pieceOf 56 = .ok (.invokevirtual 54, 3) := by decide +kernel
theorem dX6_pieceOf_59 : decode cX6_pieceOf 59 = .ok (.goto 8, 3) := by decide +kernel
theorem dX6_pieceOf_62 : decode cX6_pieceOf 62 = .ok (.aload_n 0, 1) := by decide +kernel
theorem dX6_pieceOf_63 : decode cX6_pieceOf 63 = .ok (.iload_n 1, 1) := by decide +kernel
theorem dX6_pieceOf_64 : decode cX6_pieceOf 64 = .ok (.invokevirtual 125, 3) := by decide +kernel
theorem dX6_pieceOf_67 : decode cX6_pieceOf 67 = .ok (.ireturn, 1) := by decide +kernel
set_option maxRecDepth 20000 in
theorem ggX6_warningOf_X6_in : GoodIn wsX6_warningOf wsX6_in := goodIn_r _ [7] rfl (by decide +kernel)
set_option maxRecDepth 20000 in
theorem gX6_warningOf_X6_in : GoodIn wsX6_warningOf (va_wsS RX6 36 yX6_in wsX6_in) := goodIn_app (goodIn_of _ (by decide +kernel)) ggX6_warningOf_X6_in
theorem dX6_warningOf_0 : decode cX6_warningOf 0 = .ok (.iload_n 1, 1) := by decide +kernel
theorem dX6_warningOf_1 : decode cX6_warningOf 1 = .ok (.ifCond .lt 12, 3) := by decide +kernel
theorem dX6_warningOf_4 : decode cX6_warningOf 4 = .ok (.iload_n 2, 1) := by decide +kernel
theorem dX6_warningOf_5 : decode cX6_warningOf 5 = .ok (.iconst 0, 1) := by decide +kernel
theorem dX6_warningOf_6 : decode cX6_warningOf 6 = .ok (.iconst 2, 1) := by decide +kernel
theorem dX6_warningOf_7 : decode cX6_warningOf 7 = .ok (.invokestatic 36, 3) := by decide +kernel
theorem dX6_warningOf_10 : decode cX6_warningOf 10 = .ok (.ifCond .ne 6, 3) := by decide +kernel
theorem dX6_warningOf_13 : decode cX6_warningOf 13 = .ok (.ldc 86, 2) := by decide +kernel
theorem dX6_warningOf_15 : decode cX6_warningOf 15 = .ok (.ireturn, 1) := by decide +kernel
theorem dX6_warningOf_16 : decode cX6_warningOf 16 = .ok (.iload_n 1, 1) := by decide +kernel
theorem dX6_warningOf_17 : decode cX6_warningOf 17 = .ok (.aload_n 0, 1) := by decide +kernel
theorem dX6_warningOf_18 : decode cX6_warningOf 18 = .ok (.getfield 7, 3) := by decide +kernel
theorem dX6_warningOf_21 : decode cX6_warningOf 21 = .ok (.bipush 6, 2) := by decide +kernel
theorem dX6_warningOf_23 : decode cX6_warningOf 23 = .ok (.iaload, 1) := by decide +kernel
theorem dX6_warningOf_24 : decode cX6_warningOf 24 = .ok (.if_icmp .ge 19, 3) := by decide +kernel
theorem dX6_warningOf_27 : decode cX6_warningOf 27 = .ok (.aload_n 0, 1) := by decide +kernel
theorem dX6_warningOf_28 : decode cX6_warningOf 28 = .ok (.getfield 7, 3) := by decide +kernel
theorem dX6_warningOf_31 : decode cX6_warningOf 31 = .ok (.bipush 37, 2) := by decide +kernel
theorem dX6_warningOf_33 : decode cX6_warningOf 33 = .ok (.iconst 3, 1) := by decide +kernel
theorem dX6_warningOf_34 : decode cX6_warningOf 34 = .ok (.iload_n 1, 1) := by decide +kernel
theorem dX6_warningOf_35 : decode cX6_warningOf 35 = .ok (.imul, 1) := by decide +kernel
theorem dX6_warningOf_36 : decode cX6_warningOf 36 = .ok (.iadd, 1) := by decide +kernel
theorem dX6_warningOf_37 : decode cX6_warningOf 37 = .ok (.iload_n 2, 1) := by decide +kernel
theorem dX6_warningOf_38 : decode cX6_warningOf 38 = .ok (.iadd, 1) := by decide +kernel
theorem dX6_warningOf_39 : decode cX6_warningOf 39 = .ok (.iaload, 1) := by decide +kernel
theorem dX6_warningOf_40 : decode cX6_warningOf 40 = .ok (.goto 5, 3) := by decide +kernel
theorem dX6_warningOf_43 : decode cX6_warningOf 43 = .ok (.ldc 65, 2) := by decide +kernel
theorem dX6_warningOf_45 : decode cX6_warningOf 45 = .ok (.ireturn, 1) := by decide +kernel
set_option maxRecDepth 20000 in
theorem ggX6_couldGet_X6_isVolume : GoodIn wsX6_couldGet wsX6_isVolume := goodIn_r _ [8, 9, 10, 7, 11, 12, 13, 14, 15, 2, 60, 61, 62, 63, 64, 65, 66, 67, 68, 69, 70, 71] rfl (by decide +kernel)
set_option maxRecDepth 20000 in
theorem gX6_couldGet_X6_isVolume : GoodIn wsX6_couldGet (wsV RX6 44 RX6 yX6_isVolume wsX6_isVolume) := goodIn_app (goodIn_of _ (by decide +kernel)) ggX6_couldGet_X6_isVolume
set_option maxRecDepth 20000 in
theorem ggX6_couldGet_X6_copies : GoodIn wsX6_couldGet wsX6_copies := goodIn_r _ [18] rfl (by decide +kernel)
set_option maxRecDepth 20000 in
theorem gX6_couldGet_X6_copies : GoodIn wsX6_couldGet (va_wsS RX6 140 yX6_copies wsX6_copies) := goodIn_app (goodIn_of _ (by decide +kernel)) ggX6_couldGet_X6_copies
set_option maxRecDepth 20000 in
theorem ggX6_couldGet_X6_free : GoodIn wsX6_couldGet wsX6_free := goodIn_r _ [22, 23, 24, 25, 7, 26, 27, 28, 29, 30, 12, 13, 14, 15, 2, 31, 32, 33, 34, 60, 61, 62, 63, 64, 65, 66, 67, 68, 69, 70, 71] rfl (by decide +kernel)
set_option maxRecDepth 20000 in
theorem gX6_couldGet_X6_free : GoodIn wsX6_couldGet (wsV RX6 58 RX6 yX6_free wsX6_free) := goodIn_app (goodIn_of _ (by decide +kernel)) ggX6_couldGet_X6_free
set_option maxRecDepth 20000 in
theorem ggX6_couldGet_X6_promises : GoodIn wsX6_couldGet wsX6_promises := goodIn_r _ [38, 12, 13, 14, 7, 15, 2, 60, 61, 62, 63, 64, 65, 66, 67, 68, 69, 70, 71] rfl (by decide +kernel)
set_option maxRecDepth 20000 in
theorem gX6_couldGet_X6_promises : GoodIn wsX6_couldGet (wsV RX6 62 RX6 yX6_promises wsX6_promises) := goodIn_app (goodIn_of _ (by decide +kernel)) ggX6_couldGet_X6_promises
set_option maxRecDepth 20000 in
theorem ggX6_couldGet_X6_asks : GoodIn wsX6_couldGet wsX6_asks := goodIn_r _ [42, 2, 12, 13, 14, 7, 15, 43, 44, 45, 46, 47, 48, 49, 50, 51, 52, 53, 54, 55, 56, 57, 58, 59, 60, 61, 62, 63, 64, 65, 66, 67, 68, 69, 70, 71] rfl (by decide +kernel)
set_option maxRecDepth 20000 in
theorem gX6_couldGet_X6_asks : GoodIn wsX6_couldGet (wsV RX6 109 RX6 yX6_asks wsX6_asks) := goodIn_app (goodIn_of _ (by decide +kernel)) ggX6_couldGet_X6_asks
theorem dX6_couldGet_0 : decode cX6_couldGet 0 = .ok (.aload_n 0, 1) := by decide +kernel
theorem dX6_couldGet_1 : decode cX6_couldGet 1 = .ok (.iload_n 1, 1) := by decide +kernel
theorem dX6_couldGet_2 : decode cX6_couldGet 2 = .ok (.invokevirtual 44, 3) := by decide +kernel
theorem dX6_couldGet_5 : decode cX6_couldGet 5 = .ok (.ifCond .ne 6, 3) := by decide +kernel
theorem dX6_couldGet_8 : decode cX6_couldGet 8 = .ok (.ldc 86, 2) := by decide +kernel
theorem dX6_couldGet_10 : decode cX6_couldGet 10 = .ok (.ireturn, 1) := by decide +kernel
theorem dX6_couldGet_11 : decode cX6_couldGet 11 = .ok (.aload_n 0, 1) := by decide +kernel
theorem dX6_couldGet_12 : decode cX6_couldGet 12 = .ok (.getfield 7, 3) := by decide +kernel
theorem dX6_couldGet_15 : decode cX6_couldGet 15 = .ok (.aload_n 0, 1) := by decide +kernel
theorem dX6_couldGet_16 : decode cX6_couldGet 16 = .ok (.getfield 19, 3) := by decide +kernel
theorem dX6_couldGet_19 : decode cX6_couldGet 19 = .ok (.invokestatic 140, 3) := by decide +kernel
theorem dX6_couldGet_22 : decode cX6_couldGet 22 = .ok (.aload_n 0, 1) := by decide +kernel
theorem dX6_couldGet_23 : decode cX6_couldGet 23 = .ok (.invokevirtual 58, 3) := by decide +kernel
theorem dX6_couldGet_26 : decode cX6_couldGet 26 = .ok (.istore_n 2, 1) := by decide +kernel
theorem dX6_couldGet_27 : decode cX6_couldGet 27 = .ok (.iconst 0, 1) := by decide +kernel
theorem dX6_couldGet_28 : decode cX6_couldGet 28 = .ok (.istore_n 3, 1) := by decide +kernel
theorem dX6_couldGet_29 : decode cX6_couldGet 29 = .ok (.aload_n 0, 1) := by decide +kernel
theorem dX6_couldGet_30 : decode cX6_couldGet 30 = .ok (.iload_n 1, 1) := by decide +kernel
theorem dX6_couldGet_31 : decode cX6_couldGet 31 = .ok (.iload_n 2, 1) := by decide +kernel
theorem dX6_couldGet_32 : decode cX6_couldGet 32 = .ok (.aload_n 0, 1) := by decide +kernel
theorem dX6_couldGet_33 : decode cX6_couldGet 33 = .ok (.invokevirtual 62, 3) := by decide +kernel
theorem dX6_couldGet_36 : decode cX6_couldGet 36 = .ok (.isub, 1) := by decide +kernel
theorem dX6_couldGet_37 : decode cX6_couldGet 37 = .ok (.invokevirtual 109, 3) := by decide +kernel
theorem dX6_couldGet_40 : decode cX6_couldGet 40 = .ok (.ifCond .le 12, 3) := by decide +kernel
theorem dX6_couldGet_43 : decode cX6_couldGet 43 = .ok (.iinc 2 (-1), 3) := by decide +kernel
theorem dX6_couldGet_46 : decode cX6_couldGet 46 = .ok (.iinc 3 1, 3) := by decide +kernel
theorem dX6_couldGet_49 : decode cX6_couldGet 49 = .ok (.goto (-20), 3) := by decide +kernel
theorem dX6_couldGet_52 : decode cX6_couldGet 52 = .ok (.aload_n 0, 1) := by decide +kernel
theorem dX6_couldGet_53 : decode cX6_couldGet 53 = .ok (.getfield 19, 3) := by decide +kernel
theorem dX6_couldGet_56 : decode cX6_couldGet 56 = .ok (.aload_n 0, 1) := by decide +kernel
theorem dX6_couldGet_57 : decode cX6_couldGet 57 = .ok (.getfield 7, 3) := by decide +kernel
theorem dX6_couldGet_60 : decode cX6_couldGet 60 = .ok (.invokestatic 140, 3) := by decide +kernel
theorem dX6_couldGet_63 : decode cX6_couldGet 63 = .ok (.iload_n 3, 1) := by decide +kernel
theorem dX6_couldGet_64 : decode cX6_couldGet 64 = .ok (.ireturn, 1) := by decide +kernel
set_option maxRecDepth 20000 in
theorem ggX6_couldFree_X6_isVolume : GoodIn wsX6_couldFree wsX6_isVolume := goodIn_r _ [8, 9, 10, 7, 11, 12, 13, 14, 15, 2, 55, 56, 57, 58, 59, 60, 61, 62, 63, 64, 65, 66] rfl (by decide +kernel)
set_option maxRecDepth 20000 in
theorem gX6_couldFree_X6_isVolume : GoodIn wsX6_couldFree (wsV RX6 44 RX6 yX6_isVolume wsX6_isVolume) := goodIn_app (goodIn_of _ (by decide +kernel)) ggX6_couldFree_X6_isVolume
set_option maxRecDepth 20000 in
theorem ggX6_couldFree_X6_copies : GoodIn wsX6_couldFree wsX6_copies := goodIn_r _ [18] rfl (by decide +kernel)
set_option maxRecDepth 20000 in
theorem gX6_couldFree_X6_copies : GoodIn wsX6_couldFree (va_wsS RX6 140 yX6_copies wsX6_copies) := goodIn_app (goodIn_of _ (by decide +kernel)) ggX6_couldFree_X6_copies
set_option maxRecDepth 20000 in
theorem ggX6_couldFree_X6_of : GoodIn wsX6_couldFree wsX6_of := goodIn_r _ [15, 2, 55, 56, 57, 58, 59, 60, 61, 62, 63, 64, 65, 66] rfl (by decide +kernel)
set_option maxRecDepth 20000 in
theorem gX6_couldFree_X6_of : GoodIn wsX6_couldFree (wsV RX6 40 RX6 yX6_of wsX6_of) := goodIn_app (goodIn_of _ (by decide +kernel)) ggX6_couldFree_X6_of
set_option maxRecDepth 20000 in
theorem ggX6_couldFree_X6_sweeps : GoodIn wsX6_couldFree wsX6_sweeps := goodIn_r _ [22, 2, 12, 13, 14, 7, 15, 23, 24, 25, 26, 27, 28, 29, 30, 31, 32, 33, 34, 35, 36, 37, 38, 39, 40, 41, 42, 43, 44, 45, 46, 55, 56, 57, 58, 59, 60, 61, 62, 63, 64, 65, 66] rfl (by decide +kernel)
set_option maxRecDepth 20000 in
theorem gX6_couldFree_X6_sweeps : GoodIn wsX6_couldFree (wsV RX6 116 RX6 yX6_sweeps wsX6_sweeps) := goodIn_app (goodIn_of _ (by decide +kernel)) ggX6_couldFree_X6_sweeps
set_option maxRecDepth 20000 in
theorem ggX6_couldFree_X6_merges : GoodIn wsX6_couldFree wsX6_merges := goodIn_r _ [50, 2, 35, 36, 37, 7, 38, 39, 40, 41, 42, 12, 13, 14, 15, 23, 24, 25, 26, 51, 52, 53, 54, 31, 32, 33, 34, 55, 56, 57, 58, 59, 60, 61, 62, 63, 64, 65, 66] rfl (by decide +kernel)
set_option maxRecDepth 20000 in
theorem gX6_couldFree_X6_merges : GoodIn wsX6_couldFree (wsV RX6 122 RX6 yX6_merges wsX6_merges) := goodIn_app (goodIn_of _ (by decide +kernel)) ggX6_couldFree_X6_merges
theorem dX6_couldFree_0 : decode cX6_couldFree 0 = .ok (.aload_n 0, 1) := by decide +kernel
theorem dX6_couldFree_1 : decode cX6_couldFree 1 = .ok (.iload_n 1, 1) := by decide +kernel
theorem dX6_couldFree_2 : decode cX6_couldFree 2 = .ok (.invokevirtual 44, 3) := by decide +kernel
theorem dX6_couldFree_5 : decode cX6_couldFree 5 = .ok (.ifCond .ne 17, 3) := by decide +kernel
theorem dX6_couldFree_8 : decode cX6_couldFree 8 = .ok (.iload_n 1, 1) := by decide +kernel
theorem dX6_couldFree_9 : decode cX6_couldFree 9 = .ok (.iconst (-1), 1) := by decide +kernel
theorem dX6_couldFree_10 : decode cX6_couldFree 10 = .ok (.if_icmp .eq 12, 3) := by decide +kernel
theorem dX6_couldFree_13 : decode cX6_couldFree 13 = .ok (.iload_n 1, 1) := by decide +kernel
theorem dX6_couldFree_14 : decode cX6_couldFree 14 = .ok (.bipush (-2), 2) := by decide +kernel
theorem dX6_couldFree_16 : decode cX6_couldFree 16 = .ok (.if_icmp .eq 6, 3) := by decide +kernel
theorem dX6_couldFree_19 : decode cX6_couldFree 19 = .ok (.ldc 86, 2) := by decide +kernel
theorem dX6_couldFree_21 : decode cX6_couldFree 21 = .ok (.ireturn, 1) := by decide +kernel
theorem dX6_couldFree_22 : decode cX6_couldFree 22 = .ok (.aload_n 0, 1) := by decide +kernel
theorem dX6_couldFree_23 : decode cX6_couldFree 23 = .ok (.getfield 7, 3) := by decide +kernel
theorem dX6_couldFree_26 : decode cX6_couldFree 26 = .ok (.aload_n 0, 1) := by decide +kernel
theorem dX6_couldFree_27 : decode cX6_couldFree 27 = .ok (.getfield 19, 3) := by decide +kernel
theorem dX6_couldFree_30 : decode cX6_couldFree 30 = .ok (.invokestatic 140, 3) := by decide +kernel
theorem dX6_couldFree_33 : decode cX6_couldFree 33 = .ok (.iconst 0, 1) := by decide +kernel
theorem dX6_couldFree_34 : decode cX6_couldFree 34 = .ok (.istore_n 2, 1) := by decide +kernel
theorem dX6_couldFree_35 : decode cX6_couldFree 35 = .ok (.iconst 0, 1) := by decide +kernel
theorem dX6_couldFree_36 : decode cX6_couldFree 36 = .ok (.istore_n 3, 1) := by decide +kernel
theorem dX6_couldFree_37 : decode cX6_couldFree 37 = .ok (.iload_n 3, 1) := by decide +kernel
theorem dX6_couldFree_38 : decode cX6_couldFree 38 = .ok (.bipush 8, 2) := by decide +kernel
theorem dX6_couldFree_40 : decode cX6_couldFree 40 = .ok (.if_icmp .ge 42, 3) := by decide +kernel
theorem dX6_couldFree_43 : decode cX6_couldFree 43 = .ok (.iload_n 2, 1) := by decide +kernel
theorem dX6_couldFree_44 : decode cX6_couldFree 44 = .ok (.aload_n 0, 1) := by decide +kernel
theorem dX6_couldFree_45 : decode cX6_couldFree 45 = .ok (.iload_n 3, 1) := by decide +kernel
theorem dX6_couldFree_46 : decode cX6_couldFree 46 = .ok (.iconst 0, 1) := by decide +kernel
theorem dX6_couldFree_47 : decode cX6_couldFree 47 = .ok (.invokevirtual 40, 3) := by decide +kernel
theorem dX6_couldFree_50 : decode cX6_couldFree 50 = .ok (.iconst 1, 1) := by decide +kernel
theorem dX6_couldFree_51 : decode cX6_couldFree 51 = .ok (.if_icmp .ne 22, 3) := by decide +kernel
theorem dX6_couldFree_54 : decode cX6_couldFree 54 = .ok (.iload_n 3, 1) := by decide +kernel
theorem dX6_couldFree_55 : decode cX6_couldFree 55 = .ok (.iload_n 1, 1) := by decide +kernel
theorem dX6_couldFree_56 : decode cX6_couldFree 56 = .ok (.if_icmp .eq 9, 3) := by decide +kernel
theorem dX6_couldFree_59 : decode cX6_couldFree 59 = .ok (.iload_n 1, 1) := by decide +kernel
theorem dX6_couldFree_60 : decode cX6_couldFree 60 = .ok (.bipush (-2), 2) := by decide +kernel
theorem dX6_couldFree_62 : decode cX6_couldFree 62 = .ok (.if_icmp .ne 11, 3) := by decide +kernel
theorem dX6_couldFree_65 : decode cX6_couldFree 65 = .ok (.aload_n 0, 1) := by decide +kernel
theorem dX6_couldFree_66 : decode cX6_couldFree 66 = .ok (.iload_n 3, 1) := by decide +kernel
theorem dX6_couldFree_67 : decode cX6_couldFree 67 = .ok (.invokevirtual 116, 3) := by decide +kernel
theorem dX6_couldFree_70 : decode cX6_couldFree 70 = .ok (.goto 4, 3) := by decide +kernel
theorem dX6_couldFree_73 : decode cX6_couldFree 73 = .ok (.iconst 0, 1) := by decide +kernel
theorem dX6_couldFree_74 : decode cX6_couldFree 74 = .ok (.iadd, 1) := by decide +kernel
theorem dX6_couldFree_75 : decode cX6_couldFree 75 = .ok (.istore_n 2, 1) := by decide +kernel
theorem dX6_couldFree_76 : decode cX6_couldFree 76 = .ok (.iinc 3 1, 3) := by decide +kernel
theorem dX6_couldFree_79 : decode cX6_couldFree 79 = .ok (.goto (-42), 3) := by decide +kernel
theorem dX6_couldFree_82 : decode cX6_couldFree 82 = .ok (.iload_n 2, 1) := by decide +kernel
theorem dX6_couldFree_83 : decode cX6_couldFree 83 = .ok (.iload_n 1, 1) := by decide +kernel
theorem dX6_couldFree_84 : decode cX6_couldFree 84 = .ok (.ifCond .ge 10, 3) := by decide +kernel
theorem dX6_couldFree_87 : decode cX6_couldFree 87 = .ok (.aload_n 0, 1) := by decide +kernel
theorem dX6_couldFree_88 : decode cX6_couldFree 88 = .ok (.invokevirtual 122, 3) := by decide +kernel
theorem dX6_couldFree_91 : decode cX6_couldFree 91 = .ok (.goto 4, 3) := by decide +kernel
theorem dX6_couldFree_94 : decode cX6_couldFree 94 = .ok (.iconst 0, 1) := by decide +kernel
theorem dX6_couldFree_95 : decode cX6_couldFree 95 = .ok (.iadd, 1) := by decide +kernel
theorem dX6_couldFree_96 : decode cX6_couldFree 96 = .ok (.istore_n 2, 1) := by decide +kernel
theorem dX6_couldFree_97 : decode cX6_couldFree 97 = .ok (.aload_n 0, 1) := by decide +kernel
theorem dX6_couldFree_98 : decode cX6_couldFree 98 = .ok (.getfield 19, 3) := by decide +kernel
theorem dX6_couldFree_101 : decode cX6_couldFree 101 = .ok (.aload_n 0, 1) := by decide +kernel
theorem dX6_couldFree_102 : decode cX6_couldFree 102 = .ok (.getfield 7, 3) := by decide +kernel
theorem dX6_couldFree_105 : decode cX6_couldFree 105 = .ok (.invokestatic 140, 3) := by decide +kernel
theorem dX6_couldFree_108 : decode cX6_couldFree 108 = .ok (.iload_n 2, 1) := by decide +kernel
theorem dX6_couldFree_109 : decode cX6_couldFree 109 = .ok (.ireturn, 1) := by decide +kernel
set_option maxRecDepth 20000 in
theorem ggX6_family_X6_isVolume : GoodIn wsX6_family wsX6_isVolume := goodIn_r _ [6, 7, 8, 5, 9, 10, 11, 12, 13, 14, 35, 36, 37, 38, 39, 40, 41, 42, 43, 44, 45, 46] rfl (by decide +kernel)
set_option maxRecDepth 20000 in
theorem gX6_family_X6_isVolume : GoodIn wsX6_family (wsV RX6 44 RX6 yX6_isVolume wsX6_isVolume) := goodIn_app (goodIn_of _ (by decide +kernel)) ggX6_family_X6_isVolume
set_option maxRecDepth 20000 in
theorem ggX6_family_X6_in : GoodIn wsX6_family wsX6_in := goodIn_r _ [9] rfl (by decide +kernel)
set_option maxRecDepth 20000 in
theorem gX6_family_X6_in : GoodIn wsX6_family (va_wsS RX6 36 yX6_in wsX6_in) := goodIn_app (goodIn_of _ (by decide +kernel)) ggX6_family_X6_in
set_option maxRecDepth 20000 in
theorem ggX6_family_X6_clones : GoodIn wsX6_family wsX6_clones := goodIn_r _ [18, 10, 11, 12, 5, 13, 14, 35, 36, 37, 38, 39, 40, 41, 42, 43, 44, 45, 46] rfl (by decide +kernel)
set_option maxRecDepth 20000 in
theorem gX6_family_X6_clones : GoodIn wsX6_family (wsV RX6 134 RX6 yX6_clones wsX6_clones) := goodIn_app (goodIn_of _ (by decide +kernel)) ggX6_family_X6_clones
set_option maxRecDepth 20000 in
theorem ggX6_family_X6_ownedBy : GoodIn wsX6_family wsX6_ownedBy := goodIn_r _ [22, 23, 24, 25, 5, 26, 27, 28, 29, 30, 10, 11, 12, 13, 14, 31, 32, 33, 34, 35, 36, 37, 38, 39, 40, 41, 42, 43, 44, 45, 46] rfl (by decide +kernel)
set_option maxRecDepth 20000 in
theorem gX6_family_X6_ownedBy : GoodIn wsX6_family (wsV RX6 131 RX6 yX6_ownedBy wsX6_ownedBy) := goodIn_app (goodIn_of _ (by decide +kernel)) ggX6_family_X6_ownedBy
theorem dX6_family_0 : decode cX6_family 0 = .ok (.aload_n 0, 1) := by decide +kernel
theorem dX6_family_1 : decode cX6_family 1 = .ok (.iload_n 1, 1) := by decide +kernel
theorem dX6_family_2 : decode cX6_family 2 = .ok (.invokevirtual 44, 3) := by decide +kernel
theorem dX6_family_5 : decode cX6_family 5 = .ok (.ifCond .eq 12, 3) := by decide +kernel
theorem dX6_family_8 : decode cX6_family 8 = .ok (.iload_n 2, 1) := by decide +kernel
theorem dX6_family_9 : decode cX6_family 9 = .ok (.iconst 0, 1) := by decide +kernel
theorem dX6_family_10 : decode cX6_family 10 = .ok (.iconst 2, 1) := by decide +kernel
theorem dX6_family_11 : decode cX6_family 11 = .ok (.invokestatic 36, 3) := by decide +kernel
theorem dX6_family_14 : decode cX6_family 14 = .ok (.ifCond .ne 6, 3) := by decide +kernel
theorem dX6_family_17 : decode cX6_family 17 = .ok (.ldc 86, 2) := by decide +kernel
theorem dX6_family_19 : decode cX6_family 19 = .ok (.ireturn, 1) := by decide +kernel
theorem dX6_family_20 : decode cX6_family 20 = .ok (.iconst 1, 1) := by decide +kernel
theorem dX6_family_21 : decode cX6_family 21 = .ok (.iload_n 1, 1) := by decide +kernel
theorem dX6_family_22 : decode cX6_family 22 = .ok (.ishl, 1) := by decide +kernel
theorem dX6_family_23 : decode cX6_family 23 = .ok (.istore_n 3, 1) := by decide +kernel
theorem dX6_family_24 : decode cX6_family 24 = .ok (.iload_n 3, 1) := by decide +kernel
theorem dX6_family_25 : decode cX6_family 25 = .ok (.istore 4, 2) := by decide +kernel
theorem dX6_family_27 : decode cX6_family 27 = .ok (.iconst (-1), 1) := by decide +kernel
theorem dX6_family_28 : decode cX6_family 28 = .ok (.istore 5, 2) := by decide +kernel
theorem dX6_family_30 : decode cX6_family 30 = .ok (.iload 4, 2) := by decide +kernel
theorem dX6_family_32 : decode cX6_family 32 = .ok (.ifCond .eq 67, 3) := by decide +kernel
theorem dX6_family_35 : decode cX6_family 35 = .ok (.iconst 0, 1) := by decide +kernel
theorem dX6_family_36 : decode cX6_family 36 = .ok (.istore 6, 2) := by decide +kernel
theorem dX6_family_38 : decode cX6_family 38 = .ok (.iconst 0, 1) := by decide +kernel
theorem dX6_family_39 : decode cX6_family 39 = .ok (.istore 7, 2) := by decide +kernel
theorem dX6_family_41 : decode cX6_family 41 = .ok (.iload 7, 2) := by decide +kernel
theorem dX6_family_43 : decode cX6_family 43 = .ok (.bipush 8, 2) := by decide +kernel
theorem dX6_family_45 : decode cX6_family 45 = .ok (.if_icmp .ge 35, 3) := by decide +kernel
theorem dX6_family_48 : decode cX6_family 48 = .ok (.iload 6, 2) := by decide +kernel
theorem dX6_family_50 : decode cX6_family 50 = .ok (.iload 4, 2) := by decide +kernel
theorem dX6_family_52 : decode cX6_family 52 = .ok (.iload 7, 2) := by decide +kernel
theorem dX6_family_54 : decode cX6_family 54 = .ok (.ishr, 1) := by decide +kernel
theorem dX6_family_55 : decode cX6_family 55 = .ok (.iconst 1, 1) := by decide +kernel
theorem dX6_family_56 : decode cX6_family 56 = .ok (.iand, 1) := by decide +kernel
theorem dX6_family_57 : decode cX6_family 57 = .ok (.iconst 1, 1) := by decide +kernel
theorem dX6_family_58 : decode cX6_family 58 = .ok (.if_icmp .ne 12, 3) := by decide +kernel
theorem dX6_family_61 : decode cX6_family 61 = .ok (.aload_n 0, 1) := by decide +kernel
theorem dX6_family_62 : decode cX6_family 62 = .ok (.iload 7, 2) := by decide +kernel
theorem dX6_family_64 : decode cX6_family 64 = .ok (.invokevirtual 134, 3) := by decide +kernel
theorem dX6_family_67 : decode cX6_family 67 = .ok (.goto 4, 3) := by decide +kernel
theorem dX6_family_70 : decode cX6_family 70 = .ok (.iconst 0, 1) := by decide +kernel
theorem dX6_family_71 : decode cX6_family 71 = .ok (.ior, 1) := by decide +kernel
theorem dX6_family_72 : decode cX6_family 72 = .ok (.istore 6, 2) := by decide +kernel
theorem dX6_family_74 : decode cX6_family 74 = .ok (.iinc 7 1, 3) := by decide +kernel
theorem dX6_family_77 : decode cX6_family 77 = .ok (.goto (-36), 3) := by decide +kernel
theorem dX6_family_80 : decode cX6_family 80 = .ok (.iinc 5 1, 3) := by decide +kernel
theorem dX6_family_83 : decode cX6_family 83 = .ok (.iload 6, 2) := by decide +kernel
theorem dX6_family_85 : decode cX6_family 85 = .ok (.iload_n 3, 1) := by decide +kernel
theorem dX6_family_86 : decode cX6_family 86 = .ok (.iconst (-1), 1) := by decide +kernel
theorem dX6_family_87 : decode cX6_family 87 = .ok (.ixor, 1) := by decide +kernel
theorem dX6_family_88 : decode cX6_family 88 = .ok (.iand, 1) := by decide +kernel
theorem dX6_family_89 : decode cX6_family 89 = .ok (.istore 4, 2) := by decide +kernel
theorem dX6_family_91 : decode cX6_family 91 = .ok (.iload_n 3, 1) := by decide +kernel
theorem dX6_family_92 : decode cX6_family 92 = .ok (.iload 6, 2) := by decide +kernel
theorem dX6_family_94 : decode cX6_family 94 = .ok (.ior, 1) := by decide +kernel
theorem dX6_family_95 : decode cX6_family 95 = .ok (.istore_n 3, 1) := by decide +kernel
theorem dX6_family_96 : decode cX6_family 96 = .ok (.goto (-66), 3) := by decide +kernel
theorem dX6_family_99 : decode cX6_family 99 = .ok (.iload_n 2, 1) := by decide +kernel
theorem dX6_family_100 : decode cX6_family 100 = .ok (.ifCond .ne 7, 3) := by decide +kernel
theorem dX6_family_103 : decode cX6_family 103 = .ok (.iload_n 3, 1) := by decide +kernel
theorem dX6_family_104 : decode cX6_family 104 = .ok (.goto 18, 3) := by decide +kernel
theorem dX6_family_107 : decode cX6_family 107 = .ok (.iload_n 2, 1) := by decide +kernel
theorem dX6_family_108 : decode cX6_family 108 = .ok (.iconst 1, 1) := by decide +kernel
theorem dX6_family_109 : decode cX6_family 109 = .ok (.if_icmp .ne 11, 3) := by decide +kernel
theorem dX6_family_112 : decode cX6_family 112 = .ok (.aload_n 0, 1) := by decide +kernel
theorem dX6_family_113 : decode cX6_family 113 = .ok (.iload_n 3, 1) := by decide +kernel
theorem dX6_family_114 : decode cX6_family 114 = .ok (.invokevirtual 131, 3) := by decide +kernel
theorem dX6_family_117 : decode cX6_family 117 = .ok (.goto 5, 3) := by decide +kernel
theorem dX6_family_120 : decode cX6_family 120 = .ok (.iload 5, 2) := by decide +kernel
theorem dX6_family_122 : decode cX6_family 122 = .ok (.ireturn, 1) := by decide +kernel
set_option maxRecDepth 20000 in
theorem ggX6_ranked_X6_of : GoodIn wsX6_ranked wsX6_of := goodIn_r _ [7, 8, 13, 14, 15, 16, 17, 18, 19, 20, 21, 22, 23, 24] rfl (by decide +kernel)
set_option maxRecDepth 20000 in
theorem gX6_ranked_X6_of : GoodIn wsX6_ranked (wsV RX6 40 RX6 yX6_of wsX6_of) := goodIn_app (goodIn_of _ (by decide +kernel)) ggX6_ranked_X6_of
set_option maxRecDepth 20000 in
theorem ggX6_ranked_X6_rank : GoodIn wsX6_ranked wsX6_rank := goodIn_r _ [12, 3, 4, 5, 6, 7, 8, 13, 14, 15, 16, 17, 18, 19, 20, 21, 22, 23, 24] rfl (by decide +kernel)
set_option maxRecDepth 20000 in
theorem gX6_ranked_X6_rank : GoodIn wsX6_ranked (wsV RX6 137 RX6 yX6_rank wsX6_rank) := goodIn_app (goodIn_of _ (by decide +kernel)) ggX6_ranked_X6_rank
theorem dX6_ranked_0 : decode cX6_ranked 0 = .ok (.iload_n 1, 1) := by decide +kernel
theorem dX6_ranked_1 : decode cX6_ranked 1 = .ok (.ifCond .ge 6, 3) := by decide +kernel
theorem dX6_ranked_4 : decode cX6_ranked 4 = .ok (.ldc 86, 2) := by decide +kernel
theorem dX6_ranked_6 : decode cX6_ranked 6 = .ok (.ireturn, 1) := by decide +kernel
theorem dX6_ranked_7 : decode cX6_ranked 7 = .ok (.ldc 65, 2) := by decide +kernel
theorem dX6_ranked_9 : decode cX6_ranked 9 = .ok (.istore_n 2, 1) := by decide +kernel
theorem dX6_ranked_10 : decode cX6_ranked 10 = .ok (.iconst 0, 1) := by decide +kernel
theorem dX6_ranked_11 : decode cX6_ranked 11 = .ok (.istore_n 3, 1) := by decide +kernel
theorem dX6_ranked_12 : decode cX6_ranked 12 = .ok (.iload_n 3, 1) := by decide +kernel
theorem dX6_ranked_13 : decode cX6_ranked 13 = .ok (.bipush 8, 2) := by decide +kernel
theorem dX6_ranked_15 : decode cX6_ranked 15 = .ok (.if_icmp .ge 34, 3) := by decide +kernel
theorem dX6_ranked_18 : decode cX6_ranked 18 = .ok (.aload_n 0, 1) := by decide +kernel
theorem dX6_ranked_19 : decode cX6_ranked 19 = .ok (.iload_n 3, 1) := by decide +kernel
theorem dX6_ranked_20 : decode cX6_ranked 20 = .ok (.iconst 0, 1) := by decide +kernel
theorem dX6_ranked_21 : decode cX6_ranked 21 = .ok (.invokevirtual 40, 3) := by decide +kernel
theorem dX6_ranked_24 : decode cX6_ranked 24 = .ok (.iconst 1, 1) := by decide +kernel
theorem dX6_ranked_25 : decode cX6_ranked 25 = .ok (.if_icmp .ne 16, 3) := by decide +kernel
theorem dX6_ranked_28 : decode cX6_ranked 28 = .ok (.aload_n 0, 1) := by decide +kernel
theorem dX6_ranked_29 : decode cX6_ranked 29 = .ok (.iload_n 3, 1) := by decide +kernel
theorem dX6_ranked_30 : decode cX6_ranked 30 = .ok (.invokevirtual 137, 3) := by decide +kernel
theorem dX6_ranked_33 : decode cX6_ranked 33 = .ok (.iload_n 1, 1) := by decide +kernel
theorem dX6_ranked_34 : decode cX6_ranked 34 = .ok (.if_icmp .ne 7, 3) := by decide +kernel
theorem dX6_ranked_37 : decode cX6_ranked 37 = .ok (.iload_n 3, 1) := by decide +kernel
theorem dX6_ranked_38 : decode cX6_ranked 38 = .ok (.goto 4, 3) := by decide +kernel
theorem dX6_ranked_41 : decode cX6_ranked 41 = .ok (.iload_n 2, 1) := by decide +kernel
theorem dX6_ranked_42 : decode cX6_ranked 42 = .ok (.istore_n 2, 1) := by decide +kernel
theorem dX6_ranked_43 : decode cX6_ranked 43 = .ok (.iinc 3 1, 3) := by decide +kernel
theorem dX6_ranked_46 : decode cX6_ranked 46 = .ok (.goto (-34), 3) := by decide +kernel
theorem dX6_ranked_49 : decode cX6_ranked 49 = .ok (.iload_n 2, 1) := by decide +kernel
theorem dX6_ranked_50 : decode cX6_ranked 50 = .ok (.ireturn, 1) := by decide +kernel
set_option maxRecDepth 20000 in
theorem ggX6_living_X6_of : GoodIn wsX6_living wsX6_of := goodIn_r _ [5, 6, 15, 16, 17, 18, 19, 20, 21, 22, 23, 24, 25, 26] rfl (by decide +kernel)
set_option maxRecDepth 20000 in
theorem gX6_living_X6_of : GoodIn wsX6_living (wsV RX6 40 RX6 yX6_of wsX6_of) := goodIn_app (goodIn_of _ (by decide +kernel)) ggX6_living_X6_of
set_option maxRecDepth 20000 in
theorem ggX6_living_X6_filled : GoodIn wsX6_living wsX6_filled := goodIn_r _ [10, 1, 2, 3, 4, 5, 6, 11, 12, 13, 14, 15, 16, 17, 18, 19, 20, 21, 22, 23, 24, 25, 26] rfl (by decide +kernel)
set_option maxRecDepth 20000 in
theorem gX6_living_X6_filled : GoodIn wsX6_living (wsV RX6 128 RX6 yX6_filled wsX6_filled) := goodIn_app (goodIn_of _ (by decide +kernel)) ggX6_living_X6_filled
theorem dX6_living_0 : decode cX6_living 0 = .ok (.iconst 0, 1) := by decide +kernel
theorem dX6_living_1 : decode cX6_living 1 = .ok (.istore_n 2, 1) := by decide +kernel
theorem dX6_living_2 : decode cX6_living 2 = .ok (.iconst 0, 1) := by decide +kernel
theorem dX6_living_3 : decode cX6_living 3 = .ok (.istore_n 3, 1) := by decide +kernel
theorem dX6_living_4 : decode cX6_living 4 = .ok (.iload_n 3, 1) := by decide +kernel
theorem dX6_living_5 : decode cX6_living 5 = .ok (.bipush 8, 2) := by decide +kernel
theorem dX6_living_7 : decode cX6_living 7 = .ok (.if_icmp .ge 52, 3) := by decide +kernel
theorem dX6_living_10 : decode cX6_living 10 = .ok (.iload_n 2, 1) := by decide +kernel
theorem dX6_living_11 : decode cX6_living 11 = .ok (.aload_n 0, 1) := by decide +kernel
theorem dX6_living_12 : decode cX6_living 12 = .ok (.iload_n 3, 1) := by decide +kernel
theorem dX6_living_13 : decode cX6_living 13 = .ok (.iconst 0, 1) := by decide +kernel
theorem dX6_living_14 : decode cX6_living 14 = .ok (.invokevirtual 40, 3) := by decide +kernel
theorem dX6_living_17 : decode cX6_living 17 = .ok (.ifCond .ne 7, 3) := by decide +kernel
theorem dX6_living_20 : decode cX6_living 20 = .ok (.iconst 0, 1) := by decide +kernel
theorem dX6_living_21 : decode cX6_living 21 = .ok (.goto 30, 3) := by decide +kernel
theorem dX6_living_24 : decode cX6_living 24 = .ok (.iload_n 1, 1) := by decide +kernel
theorem dX6_living_25 : decode cX6_living 25 = .ok (.ifCond .ne 7, 3) := by decide +kernel
theorem dX6_living_28 : decode cX6_living 28 = .ok (.iconst 1, 1) := by decide +kernel
theorem dX6_living_29 : decode cX6_living 29 = .ok (.goto 22, 3) := by decide +kernel
theorem dX6_living_32 : decode cX6_living 32 = .ok (.iload_n 1, 1) := by decide +kernel
theorem dX6_living_33 : decode cX6_living 33 = .ok (.iconst 1, 1) := by decide +kernel
theorem dX6_living_34 : decode cX6_living 34 = .ok (.if_icmp .ne 12, 3) := by decide +kernel
theorem dX6_living_37 : decode cX6_living 37 = .ok (.aload_n 0, 1) := by decide +kernel
theorem dX6_living_38 : decode cX6_living 38 = .ok (.iload_n 3, 1) := by decide +kernel
theorem dX6_living_39 : decode cX6_living 39 = .ok (.iconst 1, 1) := by decide +kernel
theorem dX6_living_40 : decode cX6_living 40 = .ok (.invokevirtual 40, 3) := by decide +kernel
theorem dX6_living_43 : decode cX6_living 43 = .ok (.goto 8, 3) := by decide +kernel
theorem dX6_living_46 : decode cX6_living 46 = .ok (.aload_n 0, 1) := by decide +kernel
theorem dX6_living_47 : decode cX6_living 47 = .ok (.iload_n 3, 1) := by decide +kernel
theorem dX6_living_48 : decode cX6_living 48 = .ok (.invokevirtual 128, 3) := by decide +kernel
theorem dX6_living_51 : decode cX6_living 51 = .ok (.iadd, 1) := by decide +kernel
theorem dX6_living_52 : decode cX6_living 52 = .ok (.istore_n 2, 1) := by decide +kernel
theorem dX6_living_53 : decode cX6_living 53 = .ok (.iinc 3 1, 3) := by decide +kernel
theorem dX6_living_56 : decode cX6_living 56 = .ok (.goto (-52), 3) := by decide +kernel
theorem dX6_living_59 : decode cX6_living 59 = .ok (.iload_n 2, 1) := by decide +kernel
theorem dX6_living_60 : decode cX6_living 60 = .ok (.ireturn, 1) := by decide +kernel
set_option maxRecDepth 20000 in
theorem ggX6_over_X6_in : GoodIn wsX6_over wsX6_in := goodIn_r _ [5] rfl (by decide +kernel)
set_option maxRecDepth 20000 in
theorem gX6_over_X6_in : GoodIn wsX6_over (va_wsS RX6 36 yX6_in wsX6_in) := goodIn_app (goodIn_of _ (by decide +kernel)) ggX6_over_X6_in
set_option maxRecDepth 20000 in
theorem ggX6_over_X6_living : GoodIn wsX6_over wsX6_living := goodIn_r _ [9, 10, 11, 12, 4, 13, 14, 15, 16, 17, 18, 19, 20, 21, 22, 23, 24, 25, 26, 27, 28, 29, 30, 31, 32, 33, 34] rfl (by decide +kernel)
set_option maxRecDepth 20000 in
theorem gX6_over_X6_living : GoodIn wsX6_over (wsV RX6 144 RX6 yX6_living wsX6_living) := goodIn_app (goodIn_of _ (by decide +kernel)) ggX6_over_X6_living
theorem dX6_over_0 : decode cX6_over 0 = .ok (.iload_n 1, 1) := by decide +kernel
theorem dX6_over_1 : decode cX6_over 1 = .ok (.iconst 0, 1) := by decide +kernel
theorem dX6_over_2 : decode cX6_over 2 = .ok (.iconst 1, 1) := by decide +kernel
theorem dX6_over_3 : decode cX6_over 3 = .ok (.invokestatic 36, 3) := by decide +kernel
theorem dX6_over_6 : decode cX6_over 6 = .ok (.ifCond .ne 6, 3) := by decide +kernel
theorem dX6_over_9 : decode cX6_over 9 = .ok (.ldc 86, 2) := by decide +kernel
theorem dX6_over_11 : decode cX6_over 11 = .ok (.ireturn, 1) := by decide +kernel
theorem dX6_over_12 : decode cX6_over 12 = .ok (.aload_n 0, 1) := by decide +kernel
theorem dX6_over_13 : decode cX6_over 13 = .ok (.iconst 1, 1) := by decide +kernel
theorem dX6_over_14 : decode cX6_over 14 = .ok (.invokevirtual 144, 3) := by decide +kernel
theorem dX6_over_17 : decode cX6_over 17 = .ok (.istore_n 2, 1) := by decide +kernel
theorem dX6_over_18 : decode cX6_over 18 = .ok (.bipush 30, 2) := by decide +kernel
theorem dX6_over_20 : decode cX6_over 20 = .ok (.istore_n 3, 1) := by decide +kernel
theorem dX6_over_21 : decode cX6_over 21 = .ok (.iload_n 2, 1) := by decide +kernel
theorem dX6_over_22 : decode cX6_over 22 = .ok (.istore 4, 2) := by decide +kernel
theorem dX6_over_24 : decode cX6_over 24 = .ok (.iload 4, 2) := by decide +kernel
theorem dX6_over_26 : decode cX6_over 26 = .ok (.ifCond .le 19, 3) := by decide +kernel
theorem dX6_over_29 : decode cX6_over 29 = .ok (.iload_n 3, 1) := by decide +kernel
theorem dX6_over_30 : decode cX6_over 30 = .ok (.iload 4, 2) := by decide +kernel
theorem dX6_over_32 : decode cX6_over 32 = .ok (.irem, 1) := by decide +kernel
theorem dX6_over_33 : decode cX6_over 33 = .ok (.istore 5, 2) := by decide +kernel
theorem dX6_over_35 : decode cX6_over 35 = .ok (.iload 4, 2) := by decide +kernel
theorem dX6_over_37 : decode cX6_over 37 = .ok (.istore_n 3, 1) := by decide +kernel
theorem dX6_over_38 : decode cX6_over 38 = .ok (.iload 5, 2) := by decide +kernel
theorem dX6_over_40 : decode cX6_over 40 = .ok (.istore 4, 2) := by decide +kernel
theorem dX6_over_42 : decode cX6_over 42 = .ok (.goto (-18), 3) := by decide +kernel
theorem dX6_over_45 : decode cX6_over 45 = .ok (.iload_n 1, 1) := by decide +kernel
theorem dX6_over_46 : decode cX6_over 46 = .ok (.ifCond .ne 7, 3) := by decide +kernel
theorem dX6_over_49 : decode cX6_over 49 = .ok (.iload_n 2, 1) := by decide +kernel
theorem dX6_over_50 : decode cX6_over 50 = .ok (.goto 5, 3) := by decide +kernel
theorem dX6_over_53 : decode cX6_over 53 = .ok (.bipush 30, 2) := by decide +kernel
theorem dX6_over_55 : decode cX6_over 55 = .ok (.iload_n 3, 1) := by decide +kernel
theorem dX6_over_56 : decode cX6_over 56 = .ok (.idiv, 1) := by decide +kernel
theorem dX6_over_57 : decode cX6_over 57 = .ok (.ireturn, 1) := by decide +kernel
set_option maxRecDepth 20000 in
theorem ggX6_shared_X6_owners : GoodIn wsX6_shared wsX6_owners := goodIn_r _ [5, 6, 7, 8, 4, 9, 10, 11, 12, 13, 14, 15, 16, 17, 18, 19, 20, 21, 22, 23, 24, 25, 26, 27, 28, 29, 30] rfl (by decide +kernel)
set_option maxRecDepth 20000 in
theorem gX6_shared_X6_owners : GoodIn wsX6_shared (wsV RX6 54 RX6 yX6_owners wsX6_owners) := goodIn_app (goodIn_of _ (by decide +kernel)) ggX6_shared_X6_owners
theorem dX6_shared_0 : decode cX6_shared 0 = .ok (.iconst 0, 1) := by decide +kernel
theorem dX6_shared_1 : decode cX6_shared 1 = .ok (.istore_n 1, 1) := by decide +kernel
theorem dX6_shared_2 : decode cX6_shared 2 = .ok (.iconst 0, 1) := by decide +kernel
theorem dX6_shared_3 : decode cX6_shared 3 = .ok (.istore_n 2, 1) := by decide +kernel
theorem dX6_shared_4 : decode cX6_shared 4 = .ok (.iload_n 2, 1) := by decide +kernel
theorem dX6_shared_5 : decode cX6_shared 5 = .ok (.bipush 30, 2) := by decide +kernel
theorem dX6_shared_7 : decode cX6_shared 7 = .ok (.if_icmp .ge 26, 3) := by decide +kernel
theorem dX6_shared_10 : decode cX6_shared 10 = .ok (.iload_n 1, 1) := by decide +kernel
theorem dX6_shared_11 : decode cX6_shared 11 = .ok (.aload_n 0, 1) := by decide +kernel
theorem dX6_shared_12 : decode cX6_shared 12 = .ok (.iload_n 2, 1) := by decide +kernel
theorem dX6_shared_13 : decode cX6_shared 13 = .ok (.invokevirtual 54, 3) := by decide +kernel
theorem dX6_shared_16 : decode cX6_shared 16 = .ok (.iconst 1, 1) := by decide +kernel
theorem dX6_shared_17 : decode cX6_shared 17 = .ok (.if_icmp .le 7, 3) := by decide +kernel
theorem dX6_shared_20 : decode cX6_shared 20 = .ok (.iconst 1, 1) := by decide +kernel
theorem dX6_shared_21 : decode cX6_shared 21 = .ok (.goto 4, 3) := by decide +kernel
theorem dX6_shared_24 : decode cX6_shared 24 = .ok (.iconst 0, 1) := by decide +kernel
theorem dX6_shared_25 : decode cX6_shared 25 = .ok (.iadd, 1) := by decide +kernel
theorem dX6_shared_26 : decode cX6_shared 26 = .ok (.istore_n 1, 1) := by decide +kernel
theorem dX6_shared_27 : decode cX6_shared 27 = .ok (.iinc 2 1, 3) := by decide +kernel
theorem dX6_shared_30 : decode cX6_shared 30 = .ok (.goto (-26), 3) := by decide +kernel
theorem dX6_shared_33 : decode cX6_shared 33 = .ok (.iload_n 1, 1) := by decide +kernel
theorem dX6_shared_34 : decode cX6_shared 34 = .ok (.ireturn, 1) := by decide +kernel
set_option maxRecDepth 20000 in
theorem ggX6_count_X6_living : GoodIn wsX6_count wsX6_living := goodIn_r _ [9, 10, 11, 12, 8, 13, 1, 14, 15, 16, 17, 18, 19, 20, 21, 50, 51, 52, 53, 54, 55, 56, 57, 58, 59, 60, 61] rfl (by decide +kernel)
set_option maxRecDepth 20000 in
theorem gX6_count_X6_living : GoodIn wsX6_count (wsV RX6 144 RX6 yX6_living wsX6_living) := goodIn_app (goodIn_of _ (by decide +kernel)) ggX6_count_X6_living
set_option maxRecDepth 20000 in
theorem ggX6_count_X6_free : GoodIn wsX6_count wsX6_free := goodIn_r _ [25, 26, 27, 28, 8, 29, 30, 31, 32, 33, 10, 11, 12, 13, 1, 18, 19, 20, 21, 50, 51, 52, 53, 54, 55, 56, 57, 58, 59, 60, 61] rfl (by decide +kernel)
set_option maxRecDepth 20000 in
theorem gX6_count_X6_free : GoodIn wsX6_count (wsV RX6 58 RX6 yX6_free wsX6_free) := goodIn_app (goodIn_of _ (by decide +kernel)) ggX6_count_X6_free
set_option maxRecDepth 20000 in
theorem ggX6_count_X6_available : GoodIn wsX6_count wsX6_available := goodIn_r _ [37, 22, 23, 24, 8, 25, 26, 27, 28, 29, 30, 31, 32, 33, 10, 11, 12, 13, 1, 18, 19, 20, 21, 38, 39, 40, 41, 50, 51, 52, 53, 54, 55, 56, 57, 58, 59, 60, 61] rfl (by decide +kernel)
set_option maxRecDepth 20000 in
theorem gX6_count_X6_available : GoodIn wsX6_count (wsV RX6 80 RX6 yX6_available wsX6_available) := goodIn_app (goodIn_of _ (by decide +kernel)) ggX6_count_X6_available
set_option maxRecDepth 20000 in
theorem ggX6_count_X6_levelBy : GoodIn wsX6_count wsX6_levelBy := goodIn_r _ [45, 1, 50, 51, 52, 53, 54, 55, 56, 57, 58, 59, 60, 61] rfl (by decide +kernel)
set_option maxRecDepth 20000 in
theorem gX6_count_X6_levelBy : GoodIn wsX6_count (wsV RX6 70 RX6 yX6_levelBy wsX6_levelBy) := goodIn_app (goodIn_of _ (by decide +kernel)) ggX6_count_X6_levelBy
set_option maxRecDepth 20000 in
theorem ggX6_count_X6_promises : GoodIn wsX6_count wsX6_promises := goodIn_r _ [41, 10, 11, 12, 8, 13, 1, 50, 51, 52, 53, 54, 55, 56, 57, 58, 59, 60, 61] rfl (by decide +kernel)
set_option maxRecDepth 20000 in
theorem gX6_count_X6_promises : GoodIn wsX6_count (wsV RX6 62 RX6 yX6_promises wsX6_promises) := goodIn_app (goodIn_of _ (by decide +kernel)) ggX6_count_X6_promises
set_option maxRecDepth 20000 in
theorem ggX6_count_X6_shared : GoodIn wsX6_count wsX6_shared := goodIn_r _ [49, 26, 27, 28, 8, 29, 30, 31, 32, 33, 10, 11, 12, 13, 1, 18, 19, 20, 21, 50, 51, 52, 53, 54, 55, 56, 57, 58, 59, 60, 61] rfl (by decide +kernel)
set_option maxRecDepth 20000 in
theorem gX6_count_X6_shared : GoodIn wsX6_count (wsV RX6 147 RX6 yX6_shared wsX6_shared) := goodIn_app (goodIn_of _ (by decide +kernel)) ggX6_count_X6_shared
theorem dX6_count_0 : decode cX6_count 0 = .ok (.iload_n 1, 1) := by decide +kernel
theorem dX6_count_1 : decode cX6_count 1 = .ok (.tableswitch 180 0 22 #[107, 113, 118, 123, 132, 137, 143, 148, 148, 148, 148, 160, 165, 180, 180, 180, 180, 180, 180, 180, 170, 170, 170], 107) := by decide +kernel
theorem dX6_count_108 : decode cX6_count 108 = .ok (.aload_n 0, 1) := by decide +kernel
theorem dX6_count_109 : decode cX6_count 109 = .ok (.iconst 0, 1) := by decide +kernel
theorem dX6_count_110 : decode cX6_count 110 = .ok (.invokevirtual 144, 3) := by decide +kernel
theorem dX6_count_113 : decode cX6_count 113 = .ok (.ireturn, 1) := by decide +kernel
theorem dX6_count_114 : decode cX6_count 114 = .ok (.aload_n 0, 1) := by decide +kernel
theorem dX6_count_115 : decode cX6_count 115 = .ok (.invokevirtual 58, 3) := by decide +kernel
theorem dX6_count_118 : decode cX6_count 118 = .ok (.ireturn, 1) := by decide +kernel
theorem dX6_count_119 : decode cX6_count 119 = .ok (.aload_n 0, 1) := by decide +kernel
theorem dX6_count_120 : decode cX6_count 120 = .ok (.invokevirtual 80, 3) := by decide +kernel
theorem dX6_count_123 : decode cX6_count 123 = .ok (.ireturn, 1) := by decide +kernel
theorem dX6_count_124 : decode cX6_count 124 = .ok (.aload_n 0, 1) := by decide +kernel
theorem dX6_count_125 : decode cX6_count 125 = .ok (.aload_n 0, 1) := by decide +kernel
theorem dX6_count_126 : decode cX6_count 126 = .ok (.invokevirtual 80, 3) := by decide +kernel
theorem dX6_count_129 : decode cX6_count 129 = .ok (.invokevirtual 70, 3) := by decide +kernel
theorem dX6_count_132 : decode cX6_count 132 = .ok (.ireturn, 1) := by decide +kernel
theorem dX6_count_133 : decode cX6_count 133 = .ok (.aload_n 0, 1) := by decide +kernel
theorem dX6_count_134 : decode cX6_count 134 = .ok (.invokevirtual 62, 3) := by decide +kernel
theorem dX6_count_137 : decode cX6_count 137 = .ok (.ireturn, 1) := by decide +kernel
theorem dX6_count_138 : decode cX6_count 138 = .ok (.aload_n 0, 1) := by decide +kernel
theorem dX6_count_139 : decode cX6_count 139 = .ok (.iconst 2, 1) := by decide +kernel
theorem dX6_count_140 : decode cX6_count 140 = .ok (.invokevirtual 144, 3) := by decide +kernel
theorem dX6_count_143 : decode cX6_count 143 = .ok (.ireturn, 1) := by decide +kernel
theorem dX6_count_144 : decode cX6_count 144 = .ok (.aload_n 0, 1) := by decide +kernel
theorem dX6_count_145 : decode cX6_count 145 = .ok (.invokevirtual 147, 3) := by decide +kernel
theorem dX6_count_148 : decode cX6_count 148 = .ok (.ireturn, 1) := by decide +kernel
theorem dX6_count_149 : decode cX6_count 149 = .ok (.aload_n 0, 1) := by decide +kernel
theorem dX6_count_150 : decode cX6_count 150 = .ok (.getfield 7, 3) := by decide +kernel
theorem dX6_count_153 : decode cX6_count 153 = .ok (.iconst 3, 1) := by decide +kernel
theorem dX6_count_154 : decode cX6_count 154 = .ok (.iload_n 1, 1) := by decide +kernel
theorem dX6_count_155 : decode cX6_count 155 = .ok (.iadd, 1) := by decide +kernel
theorem dX6_count_156 : decode cX6_count 156 = .ok (.bipush 7, 2) := by decide +kernel
theorem dX6_count_158 : decode cX6_count 158 = .ok (.isub, 1) := by decide +kernel
theorem dX6_count_159 : decode cX6_count 159 = .ok (.iaload, 1) := by decide +kernel
theorem dX6_count_160 : decode cX6_count 160 = .ok (.ireturn, 1) := by decide +kernel
theorem dX6_count_161 : decode cX6_count 161 = .ok (.aload_n 0, 1) := by decide +kernel
theorem dX6_count_162 : decode cX6_count 162 = .ok (.getfield 32, 3) := by decide +kernel
theorem dX6_count_165 : decode cX6_count 165 = .ok (.ireturn, 1) := by decide +kernel
theorem dX6_count_166 : decode cX6_count 166 = .ok (.aload_n 0, 1) := by decide +kernel
theorem dX6_count_167 : decode cX6_count 167 = .ok (.getfield 150, 3) := by decide +kernel
theorem dX6_count_170 : decode cX6_count 170 = .ok (.ireturn, 1) := by decide +kernel
theorem dX6_count_171 : decode cX6_count 171 = .ok (.aload_n 0, 1) := by decide +kernel
theorem dX6_count_172 : decode cX6_count 172 = .ok (.getfield 7, 3) := by decide +kernel
theorem dX6_count_175 : decode cX6_count 175 = .ok (.iload_n 1, 1) := by decide +kernel
theorem dX6_count_176 : decode cX6_count 176 = .ok (.bipush 20, 2) := by decide +kernel
theorem dX6_count_178 : decode cX6_count 178 = .ok (.isub, 1) := by decide +kernel
theorem dX6_count_179 : decode cX6_count 179 = .ok (.iaload, 1) := by decide +kernel
theorem dX6_count_180 : decode cX6_count 180 = .ok (.ireturn, 1) := by decide +kernel
theorem dX6_count_181 : decode cX6_count 181 = .ok (.ldc 86, 2) := by decide +kernel
theorem dX6_count_183 : decode cX6_count 183 = .ok (.ireturn, 1) := by decide +kernel
theorem dX6_undo_0 : decode cX6_undo 0 = .ok (.aload_n 0, 1) := by decide +kernel
theorem dX6_undo_1 : decode cX6_undo 1 = .ok (.getfield 32, 3) := by decide +kernel
theorem dX6_undo_4 : decode cX6_undo 4 = .ok (.ifCond .ne 6, 3) := by decide +kernel
theorem dX6_undo_7 : decode cX6_undo 7 = .ok (.ldc 100, 2) := by decide +kernel
theorem dX6_undo_9 : decode cX6_undo 9 = .ok (.ireturn, 1) := by decide +kernel
theorem dX6_undo_10 : decode cX6_undo 10 = .ok (.aload_n 0, 1) := by decide +kernel
theorem dX6_undo_11 : decode cX6_undo 11 = .ok (.dup, 1) := by decide +kernel
theorem dX6_undo_12 : decode cX6_undo 12 = .ok (.getfield 32, 3) := by decide +kernel
theorem dX6_undo_15 : decode cX6_undo 15 = .ok (.iconst 1, 1) := by decide +kernel
theorem dX6_undo_16 : decode cX6_undo 16 = .ok (.isub, 1) := by decide +kernel
theorem dX6_undo_17 : decode cX6_undo 17 = .ok (.putfield 32, 3) := by decide +kernel
theorem dX6_undo_20 : decode cX6_undo 20 = .ok (.iconst 0, 1) := by decide +kernel
theorem dX6_undo_21 : decode cX6_undo 21 = .ok (.istore_n 1, 1) := by decide +kernel
theorem dX6_undo_22 : decode cX6_undo 22 = .ok (.iload_n 1, 1) := by decide +kernel
theorem dX6_undo_23 : decode cX6_undo 23 = .ok (.sipush 443, 3) := by decide +kernel
theorem dX6_undo_26 : decode cX6_undo 26 = .ok (.if_icmp .ge 30, 3) := by decide +kernel
theorem dX6_undo_29 : decode cX6_undo 29 = .ok (.aload_n 0, 1) := by decide +kernel
theorem dX6_undo_30 : decode cX6_undo 30 = .ok (.getfield 7, 3) := by decide +kernel
theorem dX6_undo_33 : decode cX6_undo 33 = .ok (.iload_n 1, 1) := by decide +kernel
theorem dX6_undo_34 : decode cX6_undo 34 = .ok (.aload_n 0, 1) := by decide +kernel
theorem dX6_undo_35 : decode cX6_undo 35 = .ok (.getfield 13, 3) := by decide +kernel
theorem dX6_undo_38 : decode cX6_undo 38 = .ok (.sipush 443, 3) := by decide +kernel
theorem dX6_undo_41 : decode cX6_undo 41 = .ok (.aload_n 0, 1) := by decide +kernel
theorem dX6_undo_42 : decode cX6_undo 42 = .ok (.getfield 32, 3) := by decide +kernel
theorem dX6_undo_45 : decode cX6_undo 45 = .ok (.imul, 1) := by decide +kernel
theorem dX6_undo_46 : decode cX6_undo 46 = .ok (.iload_n 1, 1) := by decide +kernel
theorem dX6_undo_47 : decode cX6_undo 47 = .ok (.iadd, 1) := by decide +kernel
theorem dX6_undo_48 : decode cX6_undo 48 = .ok (.iaload, 1) := by decide +kernel
theorem dX6_undo_49 : decode cX6_undo 49 = .ok (.iastore, 1) := by decide +kernel
theorem dX6_undo_50 : decode cX6_undo 50 = .ok (.iinc 1 1, 3) := by decide +kernel
theorem dX6_undo_53 : decode cX6_undo 53 = .ok (.goto (-31), 3) := by decide +kernel
theorem dX6_undo_56 : decode cX6_undo 56 = .ok (.aload_n 0, 1) := by decide +kernel
theorem dX6_undo_57 : decode cX6_undo 57 = .ok (.getfield 32, 3) := by decide +kernel
theorem dX6_undo_60 : decode cX6_undo 60 = .ok (.ireturn, 1) := by decide +kernel
set_option maxRecDepth 20000 in
theorem ggX6_type_X6_in : GoodIn wsX6_type wsX6_in := goodIn_r _ [8] rfl (by decide +kernel)
set_option maxRecDepth 20000 in
theorem gX6_type_X6_in : GoodIn wsX6_type (va_wsS RX6 36 yX6_in wsX6_in) := goodIn_app (goodIn_of _ (by decide +kernel)) ggX6_type_X6_in
theorem dX6_type_0 : decode cX6_type 0 = .ok (.iload_n 1, 1) := by decide +kernel
theorem dX6_type_1 : decode cX6_type 1 = .ok (.bipush 32, 2) := by decide +kernel
theorem dX6_type_3 : decode cX6_type 3 = .ok (.bipush 126, 2) := by decide +kernel
theorem dX6_type_5 : decode cX6_type 5 = .ok (.invokestatic 36, 3) := by decide +kernel
theorem dX6_type_8 : decode cX6_type 8 = .ok (.ifCond .ne 6, 3) := by decide +kernel
theorem dX6_type_11 : decode cX6_type 11 = .ok (.ldc 86, 2) := by decide +kernel
theorem dX6_type_13 : decode cX6_type 13 = .ok (.ireturn, 1) := by decide +kernel
theorem dX6_type_14 : decode cX6_type 14 = .ok (.aload_n 0, 1) := by decide +kernel
theorem dX6_type_15 : decode cX6_type 15 = .ok (.getfield 150, 3) := by decide +kernel
theorem dX6_type_18 : decode cX6_type 18 = .ok (.bipush 60, 2) := by decide +kernel
theorem dX6_type_20 : decode cX6_type 20 = .ok (.if_icmp .ne 6, 3) := by decide +kernel
theorem dX6_type_23 : decode cX6_type 23 = .ok (.ldc 90, 2) := by decide +kernel
theorem dX6_type_25 : decode cX6_type 25 = .ok (.ireturn, 1) := by decide +kernel
theorem dX6_type_26 : decode cX6_type 26 = .ok (.aload_n 0, 1) := by decide +kernel
theorem dX6_type_27 : decode cX6_type 27 = .ok (.getfield 22, 3) := by decide +kernel
theorem dX6_type_30 : decode cX6_type 30 = .ok (.aload_n 0, 1) := by decide +kernel
theorem dX6_type_31 : decode cX6_type 31 = .ok (.getfield 150, 3) := by decide +kernel
theorem dX6_type_34 : decode cX6_type 34 = .ok (.iload_n 1, 1) := by decide +kernel
theorem dX6_type_35 : decode cX6_type 35 = .ok (.iastore, 1) := by decide +kernel
theorem dX6_type_36 : decode cX6_type 36 = .ok (.aload_n 0, 1) := by decide +kernel
theorem dX6_type_37 : decode cX6_type 37 = .ok (.dup, 1) := by decide +kernel
theorem dX6_type_38 : decode cX6_type 38 = .ok (.getfield 150, 3) := by decide +kernel
theorem dX6_type_41 : decode cX6_type 41 = .ok (.iconst 1, 1) := by decide +kernel
theorem dX6_type_42 : decode cX6_type 42 = .ok (.iadd, 1) := by decide +kernel
theorem dX6_type_43 : decode cX6_type 43 = .ok (.putfield 150, 3) := by decide +kernel
theorem dX6_type_46 : decode cX6_type 46 = .ok (.aload_n 0, 1) := by decide +kernel
theorem dX6_type_47 : decode cX6_type 47 = .ok (.getfield 150, 3) := by decide +kernel
theorem dX6_type_50 : decode cX6_type 50 = .ok (.ireturn, 1) := by decide +kernel
theorem dX6_clearText_0 : decode cX6_clearText 0 = .ok (.aload_n 0, 1) := by decide +kernel
theorem dX6_clearText_1 : decode cX6_clearText 1 = .ok (.getfield 150, 3) := by decide +kernel
theorem dX6_clearText_4 : decode cX6_clearText 4 = .ok (.istore_n 1, 1) := by decide +kernel
theorem dX6_clearText_5 : decode cX6_clearText 5 = .ok (.aload_n 0, 1) := by decide +kernel
theorem dX6_clearText_6 : decode cX6_clearText 6 = .ok (.iconst 0, 1) := by decide +kernel
theorem dX6_clearText_7 : decode cX6_clearText 7 = .ok (.putfield 150, 3) := by decide +kernel
theorem dX6_clearText_10 : decode cX6_clearText 10 = .ok (.iload_n 1, 1) := by decide +kernel
theorem dX6_clearText_11 : decode cX6_clearText 11 = .ok (.ireturn, 1) := by decide +kernel
set_option maxRecDepth 20000 in
theorem ggX6_isAt_X6_in : GoodIn wsX6_isAt wsX6_in := goodIn_r _ [7] rfl (by decide +kernel)
set_option maxRecDepth 20000 in
theorem gX6_isAt_X6_in : GoodIn wsX6_isAt (va_wsS RX6 36 yX6_in wsX6_in) := goodIn_app (goodIn_of _ (by decide +kernel)) ggX6_isAt_X6_in
theorem dX6_isAt_0 : decode cX6_isAt 0 = .ok (.aload_n 0, 1) := by decide +kernel
theorem dX6_isAt_1 : decode cX6_isAt 1 = .ok (.getfield 153, 3) := by decide +kernel
theorem dX6_isAt_4 : decode cX6_isAt 4 = .ok (.aload_n 0, 1) := by decide +kernel
theorem dX6_isAt_5 : decode cX6_isAt 5 = .ok (.getfield 150, 3) := by decide +kernel
theorem dX6_isAt_8 : decode cX6_isAt 8 = .ok (.if_icmp .ge 24, 3) := by decide +kernel
theorem dX6_isAt_11 : decode cX6_isAt 11 = .ok (.aload_n 0, 1) := by decide +kernel
theorem dX6_isAt_12 : decode cX6_isAt 12 = .ok (.getfield 22, 3) := by decide +kernel
theorem dX6_isAt_15 : decode cX6_isAt 15 = .ok (.aload_n 0, 1) := by decide +kernel
theorem dX6_isAt_16 : decode cX6_isAt 16 = .ok (.getfield 153, 3) := by decide +kernel
theorem dX6_isAt_19 : decode cX6_isAt 19 = .ok (.iaload, 1) := by decide +kernel
theorem dX6_isAt_20 : decode cX6_isAt 20 = .ok (.iload_n 1, 1) := by decide +kernel
theorem dX6_isAt_21 : decode cX6_isAt 21 = .ok (.iload_n 2, 1) := by decide +kernel
theorem dX6_isAt_22 : decode cX6_isAt 22 = .ok (.invokestatic 36, 3) := by decide +kernel
theorem dX6_isAt_25 : decode cX6_isAt 25 = .ok (.ifCond .eq 7, 3) := by decide +kernel
theorem dX6_isAt_28 : decode cX6_isAt 28 = .ok (.iconst 1, 1) := by decide +kernel
theorem dX6_isAt_29 : decode cX6_isAt 29 = .ok (.goto 4, 3) := by decide +kernel
theorem dX6_isAt_32 : decode cX6_isAt 32 = .ok (.iconst 0, 1) := by decide +kernel
theorem dX6_isAt_33 : decode cX6_isAt 33 = .ok (.ireturn, 1) := by decide +kernel
set_option maxRecDepth 20000 in
theorem ggX6_number_X6_isAt : GoodIn wsX6_number wsX6_isAt := goodIn_r _ [8, 1, 9, 3, 10, 11, 7, 12, 13, 14, 15, 16, 17, 18, 19, 20, 21, 22, 23, 24] rfl (by decide +kernel)
set_option maxRecDepth 20000 in
theorem gX6_number_X6_isAt : GoodIn wsX6_number (wsV RX6 156 RX6 yX6_isAt wsX6_isAt) := goodIn_app (goodIn_of _ (by decide +kernel)) ggX6_number_X6_isAt
theorem dX6_number_0 : decode cX6_number 0 = .ok (.aload_n 0, 1) := by decide +kernel
theorem dX6_number_1 : decode cX6_number 1 = .ok (.getfield 153, 3) := by decide +kernel
theorem dX6_number_4 : decode cX6_number 4 = .ok (.istore_n 3, 1) := by decide +kernel
theorem dX6_number_5 : decode cX6_number 5 = .ok (.aload_n 0, 1) := by decide +kernel
theorem dX6_number_6 : decode cX6_number 6 = .ok (.getfield 25, 3) := by decide +kernel
theorem dX6_number_9 : decode cX6_number 9 = .ok (.iload_n 1, 1) := by decide +kernel
theorem dX6_number_10 : decode cX6_number 10 = .ok (.iconst 0, 1) := by decide +kernel
theorem dX6_number_11 : decode cX6_number 11 = .ok (.iastore, 1) := by decide +kernel
theorem dX6_number_12 : decode cX6_number 12 = .ok (.aload_n 0, 1) := by decide +kernel
theorem dX6_number_13 : decode cX6_number 13 = .ok (.bipush 48, 2) := by decide +kernel
theorem dX6_number_15 : decode cX6_number 15 = .ok (.bipush 57, 2) := by decide +kernel
theorem dX6_number_17 : decode cX6_number 17 = .ok (.invokevirtual 156, 3) := by decide +kernel
theorem dX6_number_20 : decode cX6_number 20 = .ok (.ifCond .eq 54, 3) := by decide +kernel
theorem dX6_number_23 : decode cX6_number 23 = .ok (.aload_n 0, 1) := by decide +kernel
theorem dX6_number_24 : decode cX6_number 24 = .ok (.getfield 153, 3) := by decide +kernel
theorem dX6_number_27 : decode cX6_number 27 = .ok (.iload_n 3, 1) := by decide +kernel
theorem dX6_number_28 : decode cX6_number 28 = .ok (.isub, 1) := by decide +kernel
theorem dX6_number_29 : decode cX6_number 29 = .ok (.iconst 2, 1) := by decide +kernel
theorem dX6_number_30 : decode cX6_number 30 = .ok (.if_icmp .ge 44, 3) := by decide +kernel
theorem dX6_number_33 : decode cX6_number 33 = .ok (.aload_n 0, 1) := by decide +kernel
theorem dX6_number_34 : decode cX6_number 34 = .ok (.getfield 25, 3) := by decide +kernel
theorem dX6_number_37 : decode cX6_number 37 = .ok (.iload_n 1, 1) := by decide +kernel
theorem dX6_number_38 : decode cX6_number 38 = .ok (.bipush 10, 2) := by decide +kernel
theorem dX6_number_40 : decode cX6_number 40 = .ok (.aload_n 0, 1) := by decide +kernel
theorem dX6_number_41 : decode cX6_number 41 = .ok (.getfield 25, 3) := by decide +kernel
theorem dX6_number_44 : decode cX6_number 44 = .ok (.iload_n 1, 1) := by decide +kernel
theorem dX6_number_45 : decode cX6_number 45 = .ok (.iaload, 1) := by decide +kernel
theorem dX6_number_46 : decode cX6_number 46 = .ok (.imul, 1) := by decide +kernel
theorem dX6_number_47 : decode cX6_number 47 = .ok (.aload_n 0, 1) := by decide +kernel
theorem dX6_number_48 : decode cX6_number 48 = .ok (.getfield 22, 3) := by decide +kernel
theorem dX6_number_51 : decode cX6_number 51 = .ok (.aload_n 0, 1) := by decide +kernel
theorem dX6_number_52 : decode cX6_number 52 = .ok (.getfield 153, 3) := by decide +kernel
theorem dX6_number_55 : decode cX6_number 55 = .ok (.iaload, 1) := by decide +kernel
theorem dX6_number_56 : decode cX6_number 56 = .ok (.iadd, 1) := by decide +kernel
theorem dX6_number_57 : decode cX6_number 57 = .ok (.bipush 48, 2) := by decide +kernel
theorem dX6_number_59 : decode cX6_number 59 = .ok (.isub, 1) := by decide +kernel
theorem dX6_number_60 : decode cX6_number 60 = .ok (.iastore, 1) := by decide +kernel
theorem dX6_number_61 : decode cX6_number 61 = .ok (.aload_n 0, 1) := by decide +kernel
theorem dX6_number_62 : decode cX6_number 62 = .ok (.dup, 1) := by decide +kernel
theorem dX6_number_63 : decode cX6_number 63 = .ok (.getfield 153, 3) := by decide +kernel
theorem dX6_number_66 : decode cX6_number 66 = .ok (.iconst 1, 1) := by decide +kernel
theorem dX6_number_67 : decode cX6_number 67 = .ok (.iadd, 1) := by decide +kernel
theorem dX6_number_68 : decode cX6_number 68 = .ok (.putfield 153, 3) := by decide +kernel
theorem dX6_number_71 : decode cX6_number 71 = .ok (.goto (-59), 3) := by decide +kernel
theorem dX6_number_74 : decode cX6_number 74 = .ok (.aload_n 0, 1) := by decide +kernel
theorem dX6_number_75 : decode cX6_number 75 = .ok (.getfield 153, 3) := by decide +kernel
theorem dX6_number_78 : decode cX6_number 78 = .ok (.iload_n 3, 1) := by decide +kernel
theorem dX6_number_79 : decode cX6_number 79 = .ok (.if_icmp .le 16, 3) := by decide +kernel
theorem dX6_number_82 : decode cX6_number 82 = .ok (.aload_n 0, 1) := by decide +kernel
theorem dX6_number_83 : decode cX6_number 83 = .ok (.iload_n 2, 1) := by decide +kernel
theorem dX6_number_84 : decode cX6_number 84 = .ok (.iload_n 2, 1) := by decide +kernel
theorem dX6_number_85 : decode cX6_number 85 = .ok (.invokevirtual 156, 3) := by decide +kernel
theorem dX6_number_88 : decode cX6_number 88 = .ok (.ifCond .eq 7, 3) := by decide +kernel
theorem dX6_number_91 : decode cX6_number 91 = .ok (.iconst 1, 1) := by decide +kernel
theorem dX6_number_92 : decode cX6_number 92 = .ok (.goto 4, 3) := by decide +kernel
theorem dX6_number_95 : decode cX6_number 95 = .ok (.iconst 0, 1) := by decide +kernel
theorem dX6_number_96 : decode cX6_number 96 = .ok (.istore 4, 2) := by decide +kernel
theorem dX6_number_98 : decode cX6_number 98 = .ok (.aload_n 0, 1) := by decide +kernel
theorem dX6_number_99 : decode cX6_number 99 = .ok (.dup, 1) := by decide +kernel
theorem dX6_number_100 : decode cX6_number 100 = .ok (.getfield 153, 3) := by decide +kernel
theorem dX6_number_103 : decode cX6_number 103 = .ok (.iconst 1, 1) := by decide +kernel
theorem dX6_number_104 : decode cX6_number 104 = .ok (.iadd, 1) := by decide +kernel
theorem dX6_number_105 : decode cX6_number 105 = .ok (.putfield 153, 3) := by decide +kernel
theorem dX6_number_108 : decode cX6_number 108 = .ok (.iload 4, 2) := by decide +kernel
theorem dX6_number_110 : decode cX6_number 110 = .ok (.ireturn, 1) := by decide +kernel
set_option maxRecDepth 20000 in
theorem ggX6_isForm_X6_isAt : GoodIn wsX6_isForm wsX6_isAt := goodIn_r _ [6, 1, 7, 8, 9, 10, 5, 11, 17, 18, 19, 20, 21, 22, 23, 24, 25, 26, 27, 28] rfl (by decide +kernel)
set_option maxRecDepth 20000 in
theorem gX6_isForm_X6_isAt : GoodIn wsX6_isForm (wsV RX6 156 RX6 yX6_isAt wsX6_isAt) := goodIn_app (goodIn_of _ (by decide +kernel)) ggX6_isForm_X6_isAt
set_option maxRecDepth 20000 in
theorem ggX6_isForm_X6_number : GoodIn wsX6_isForm wsX6_number := goodIn_r _ [15, 1, 16, 8, 2, 3, 4, 5, 6, 7, 9, 10, 11, 17, 18, 19, 20, 21, 22, 23, 24, 25, 26, 27, 28] rfl (by decide +kernel)
set_option maxRecDepth 20000 in
theorem gX6_isForm_X6_number : GoodIn wsX6_isForm (wsV RX6 159 RX6 yX6_number wsX6_number) := goodIn_app (goodIn_of _ (by decide +kernel)) ggX6_isForm_X6_number
theorem dX6_isForm_0 : decode cX6_isForm 0 = .ok (.aload_n 0, 1) := by decide +kernel
theorem dX6_isForm_1 : decode cX6_isForm 1 = .ok (.dup, 1) := by decide +kernel
theorem dX6_isForm_2 : decode cX6_isForm 2 = .ok (.getfield 153, 3) := by decide +kernel
theorem dX6_isForm_5 : decode cX6_isForm 5 = .ok (.iconst 1, 1) := by decide +kernel
theorem dX6_isForm_6 : decode cX6_isForm 6 = .ok (.iadd, 1) := by decide +kernel
theorem dX6_isForm_7 : decode cX6_isForm 7 = .ok (.putfield 153, 3) := by decide +kernel
theorem dX6_isForm_10 : decode cX6_isForm 10 = .ok (.iload_n 1, 1) := by decide +kernel
theorem dX6_isForm_11 : decode cX6_isForm 11 = .ok (.bipush 109, 2) := by decide +kernel
theorem dX6_isForm_13 : decode cX6_isForm 13 = .ok (.if_icmp .ne 24, 3) := by decide +kernel
theorem dX6_isForm_16 : decode cX6_isForm 16 = .ok (.aload_n 0, 1) := by decide +kernel
theorem dX6_isForm_17 : decode cX6_isForm 17 = .ok (.bipush 59, 2) := by decide +kernel
theorem dX6_isForm_19 : decode cX6_isForm 19 = .ok (.bipush 59, 2) := by decide +kernel
theorem dX6_isForm_21 : decode cX6_isForm 21 = .ok (.invokevirtual 156, 3) := by decide +kernel
theorem dX6_isForm_24 : decode cX6_isForm 24 = .ok (.istore_n 3, 1) := by decide +kernel
theorem dX6_isForm_25 : decode cX6_isForm 25 = .ok (.aload_n 0, 1) := by decide +kernel
theorem dX6_isForm_26 : decode cX6_isForm 26 = .ok (.dup, 1) := by decide +kernel
theorem dX6_isForm_27 : decode cX6_isForm 27 = .ok (.getfield 153, 3) := by decide +kernel
theorem dX6_isForm_30 : decode cX6_isForm 30 = .ok (.iconst 1, 1) := by decide +kernel
theorem dX6_isForm_31 : decode cX6_isForm 31 = .ok (.iadd, 1) := by decide +kernel
theorem dX6_isForm_32 : decode cX6_isForm 32 = .ok (.putfield 153, 3) := by decide +kernel
theorem dX6_isForm_35 : decode cX6_isForm 35 = .ok (.iload_n 3, 1) := by decide +kernel
theorem dX6_isForm_36 : decode cX6_isForm 36 = .ok (.ireturn, 1) := by decide +kernel
theorem dX6_isForm_37 : decode cX6_isForm 37 = .ok (.iload_n 2, 1) := by decide +kernel
theorem dX6_isForm_38 : decode cX6_isForm 38 = .ok (.ifCond .le 7, 3) := by decide +kernel
theorem dX6_isForm_41 : decode cX6_isForm 41 = .ok (.iconst 1, 1) := by decide +kernel
theorem dX6_isForm_42 : decode cX6_isForm 42 = .ok (.goto 4, 3) := by decide +kernel
theorem dX6_isForm_45 : decode cX6_isForm 45 = .ok (.iconst 0, 1) := by decide +kernel
theorem dX6_isForm_46 : decode cX6_isForm 46 = .ok (.istore_n 3, 1) := by decide +kernel
theorem dX6_isForm_47 : decode cX6_isForm 47 = .ok (.iconst 0, 1) := by decide +kernel
theorem dX6_isForm_48 : decode cX6_isForm 48 = .ok (.istore 4, 2) := by decide +kernel
theorem dX6_isForm_50 : decode cX6_isForm 50 = .ok (.iload 4, 2) := by decide +kernel
theorem dX6_isForm_52 : decode cX6_isForm 52 = .ok (.iload_n 2, 1) := by decide +kernel
theorem dX6_isForm_53 : decode cX6_isForm 53 = .ok (.if_icmp .ge 35, 3) := by decide +kernel
theorem dX6_isForm_56 : decode cX6_isForm 56 = .ok (.iload_n 3, 1) := by decide +kernel
theorem dX6_isForm_57 : decode cX6_isForm 57 = .ok (.ifCond .eq 31, 3) := by decide +kernel
theorem dX6_isForm_60 : decode cX6_isForm 60 = .ok (.aload_n 0, 1) := by decide +kernel
theorem dX6_isForm_61 : decode cX6_isForm 61 = .ok (.iload 4, 2) := by decide +kernel
theorem dX6_isForm_63 : decode cX6_isForm 63 = .ok (.iload 4, 2) := by decide +kernel
theorem dX6_isForm_65 : decode cX6_isForm 65 = .ok (.iload_n 2, 1) := by decide +kernel
theorem dX6_isForm_66 : decode cX6_isForm 66 = .ok (.iconst 1, 1) := by decide +kernel
theorem dX6_isForm_67 : decode cX6_isForm 67 = .ok (.isub, 1) := by decide +kernel
theorem dX6_isForm_68 : decode cX6_isForm 68 = .ok (.if_icmp .ne 8, 3) := by decide +kernel
theorem dX6_isForm_71 : decode cX6_isForm 71 = .ok (.bipush 59, 2) := by decide +kernel
theorem dX6_isForm_73 : decode cX6_isForm 73 = .ok (.goto 5, 3) := by decide +kernel
theorem dX6_isForm_76 : decode cX6_isForm 76 = .ok (.bipush 44, 2) := by decide +kernel
theorem dX6_isForm_78 : decode cX6_isForm 78 = .ok (.invokevirtual 159, 3) := by decide +kernel
theorem dX6_isForm_81 : decode cX6_isForm 81 = .ok (.istore_n 3, 1) := by decide +kernel
theorem dX6_isForm_82 : decode cX6_isForm 82 = .ok (.iinc 4 1, 3) := by decide +kernel
theorem dX6_isForm_85 : decode cX6_isForm 85 = .ok (.goto (-35), 3) := by decide +kernel
theorem dX6_isForm_88 : decode cX6_isForm 88 = .ok (.iload_n 3, 1) := by decide +kernel
theorem dX6_isForm_89 : decode cX6_isForm 89 = .ok (.ireturn, 1) := by decide +kernel
theorem dX6_isDone_0 : decode cX6_isDone 0 = .ok (.aload_n 0, 1) := by decide +kernel
theorem dX6_isDone_1 : decode cX6_isDone 1 = .ok (.dup, 1) := by decide +kernel
theorem dX6_isDone_2 : decode cX6_isDone 2 = .ok (.getfield 162, 3) := by decide +kernel
theorem dX6_isDone_5 : decode cX6_isDone 5 = .ok (.iload_n 1, 1) := by decide +kernel
theorem dX6_isDone_6 : decode cX6_isDone 6 = .ok (.ldc 112, 2) := by decide +kernel
theorem dX6_isDone_8 : decode cX6_isDone 8 = .ok (.if_icmp .ne 7, 3) := by decide +kernel
theorem dX6_isDone_11 : decode cX6_isDone 11 = .ok (.iconst 1, 1) := by decide +kernel
theorem dX6_isDone_12 : decode cX6_isDone 12 = .ok (.goto 4, 3) := by decide +kernel
theorem dX6_isDone_15 : decode cX6_isDone 15 = .ok (.iconst 0, 1) := by decide +kernel
theorem dX6_isDone_16 : decode cX6_isDone 16 = .ok (.iadd, 1) := by decide +kernel
theorem dX6_isDone_17 : decode cX6_isDone 17 = .ok (.putfield 162, 3) := by decide +kernel
theorem dX6_isDone_20 : decode cX6_isDone 20 = .ok (.iload_n 1, 1) := by decide +kernel
theorem dX6_isDone_21 : decode cX6_isDone 21 = .ok (.ldc 100, 2) := by decide +kernel
theorem dX6_isDone_23 : decode cX6_isDone 23 = .ok (.if_icmp .eq 9, 3) := by decide +kernel
theorem dX6_isDone_26 : decode cX6_isDone 26 = .ok (.iload_n 1, 1) := by decide +kernel
theorem dX6_isDone_27 : decode cX6_isDone 27 = .ok (.ldc 90, 2) := by decide +kernel
theorem dX6_isDone_29 : decode cX6_isDone 29 = .ok (.if_icmp .ne 7, 3) := by decide +kernel
theorem dX6_isDone_32 : decode cX6_isDone 32 = .ok (.iconst 3, 1) := by decide +kernel
theorem dX6_isDone_33 : decode cX6_isDone 33 = .ok (.goto 4, 3) := by decide +kernel
theorem dX6_isDone_36 : decode cX6_isDone 36 = .ok (.iconst 0, 1) := by decide +kernel
theorem dX6_isDone_37 : decode cX6_isDone 37 = .ok (.ireturn, 1) := by decide +kernel
set_option maxRecDepth 20000 in
theorem ggX6_does_X6_isForm : GoodIn wsX6_does wsX6_isForm := goodIn_r _ [8, 2, 9, 10, 11, 7, 12, 13, 1, 14, 15, 16, 17, 18, 19, 20, 3, 155, 156, 157, 158, 159, 160, 161, 162, 163, 164, 165, 166] rfl (by decide +kernel)
set_option maxRecDepth 20000 in
theorem gX6_does_X6_isForm : GoodIn wsX6_does (wsV RX6 165 RX6 yX6_isForm wsX6_isForm) := goodIn_app (goodIn_of _ (by decide +kernel)) ggX6_does_X6_isForm
set_option maxRecDepth 20000 in
theorem ggX6_does_X6_isVolume : GoodIn wsX6_does wsX6_isVolume := goodIn_r _ [24, 14, 15, 7, 16, 25, 26, 27, 28, 29, 155, 156, 157, 158, 159, 160, 161, 162, 163, 164, 165, 166] rfl (by decide +kernel)
set_option maxRecDepth 20000 in
theorem gX6_does_X6_isVolume : GoodIn wsX6_does (wsV RX6 44 RX6 yX6_isVolume wsX6_isVolume) := goodIn_app (goodIn_of _ (by decide +kernel)) ggX6_does_X6_isVolume
set_option maxRecDepth 20000 in
theorem ggX6_does_X6_isPlace : GoodIn wsX6_does wsX6_isPlace := goodIn_r _ [33, 21, 22, 23, 7, 24, 14, 15, 16, 25, 26, 27, 28, 29, 155, 156, 157, 158, 159, 160, 161, 162, 163, 164, 165, 166] rfl (by decide +kernel)
set_option maxRecDepth 20000 in
theorem gX6_does_X6_isPlace : GoodIn wsX6_does (wsV RX6 105 RX6 yX6_isPlace wsX6_isPlace) := goodIn_app (goodIn_of _ (by decide +kernel)) ggX6_does_X6_isPlace
set_option maxRecDepth 20000 in
theorem ggX6_does_X6_write : GoodIn wsX6_does wsX6_write := goodIn_r _ [37, 38, 29, 39, 30, 31, 32, 7, 33, 21, 22, 23, 24, 14, 15, 16, 25, 26, 27, 28, 40, 41, 42, 43, 44, 45, 46, 47, 48, 49, 50, 51, 52, 53, 54, 55, 56, 57, 58, 59, 60, 61, 62, 63, 64, 65, 66, 67, 68, 69, 70, 71, 72, 73, 74, 75, 76, 77, 78, 79, 80, 81, 82, 83, 84, 85, 86, 87, 88, 89, 90, 91, 92, 93, 94, 95, 96, 97, 98, 99, 100, 101, 102, 103, 155, 156, 157, 158, 159, 160, 161, 162, 163, 164, 165, 166] rfl (by decide +kernel)
set_option maxRecDepth 20000 in
theorem gX6_does_X6_write : GoodIn wsX6_does (wsV RX6 168 RX6 yX6_write wsX6_write) := goodIn_app (goodIn_of _ (by decide +kernel)) ggX6_does_X6_write
set_option maxRecDepth 20000 in
theorem ggX6_does_X6_isDone : GoodIn wsX6_does wsX6_isDone := goodIn_r _ [107, 108, 39, 109, 110, 155, 156, 157, 158, 159, 160, 161, 162, 163, 164, 165, 166] rfl (by decide +kernel)
set_option maxRecDepth 20000 in
theorem gX6_does_X6_isDone : GoodIn wsX6_does (wsV RX6 172 RX6 yX6_isDone wsX6_isDone) := goodIn_app (goodIn_of _ (by decide +kernel)) ggX6_does_X6_isDone
set_option maxRecDepth 20000 in
theorem ggX6_does_X6_trim : GoodIn wsX6_does wsX6_trim := goodIn_r _ [114, 38, 109, 30, 31, 32, 7, 33, 21, 22, 23, 24, 14, 15, 16, 25, 26, 27, 28, 29, 47, 48, 49, 50, 40, 41, 42, 43, 44, 45, 46, 115, 116, 117, 118, 79, 80, 81, 82, 51, 52, 53, 54, 55, 56, 57, 58, 88, 89, 90, 91, 155, 156, 157, 158, 159, 160, 161, 162, 163, 164, 165, 166] rfl (by decide +kernel)
set_option maxRecDepth 20000 in
theorem gX6_does_X6_trim : GoodIn wsX6_does (wsV RX6 175 RX6 yX6_trim wsX6_trim) := goodIn_app (goodIn_of _ (by decide +kernel)) ggX6_does_X6_trim
set_option maxRecDepth 20000 in
theorem ggX6_does_X6_sweep : GoodIn wsX6_does wsX6_sweep := goodIn_r _ [122, 38, 21, 22, 23, 7, 24, 14, 15, 16, 25, 26, 27, 28, 29, 40, 41, 42, 43, 44, 45, 46, 123, 124, 125, 126, 47, 48, 49, 50, 115, 116, 117, 118, 79, 80, 81, 82, 51, 52, 53, 54, 55, 56, 57, 58, 88, 89, 90, 91, 155, 156, 157, 158, 159, 160, 161, 162, 163, 164, 165, 166] rfl (by decide +kernel)
set_option maxRecDepth 20000 in
theorem gX6_does_X6_sweep : GoodIn wsX6_does (wsV RX6 178 RX6 yX6_sweep wsX6_sweep) := goodIn_app (goodIn_of _ (by decide +kernel)) ggX6_does_X6_sweep
set_option maxRecDepth 20000 in
theorem ggX6_does_X6_share : GoodIn wsX6_does wsX6_share := goodIn_r _ [130, 38, 110, 21, 22, 23, 7, 24, 14, 15, 16, 25, 26, 27, 28, 29, 131, 132, 133, 134, 40, 41, 42, 43, 44, 45, 46, 135, 136, 137, 138, 79, 80, 81, 82, 47, 48, 49, 50, 155, 156, 157, 158, 159, 160, 161, 162, 163, 164, 165, 166] rfl (by decide +kernel)
set_option maxRecDepth 20000 in
theorem gX6_does_X6_share : GoodIn wsX6_does (wsV RX6 181 RX6 yX6_share wsX6_share) := goodIn_app (goodIn_of _ (by decide +kernel)) ggX6_does_X6_share
set_option maxRecDepth 20000 in
theorem ggX6_does_X6_drop : GoodIn wsX6_does wsX6_drop := goodIn_r _ [142, 38, 21, 22, 23, 7, 24, 14, 15, 16, 25, 26, 27, 28, 29, 40, 41, 42, 43, 44, 45, 46, 47, 48, 49, 50, 115, 116, 117, 118, 79, 80, 81, 82, 51, 52, 53, 54, 55, 56, 57, 58, 155, 156, 157, 158, 159, 160, 161, 162, 163, 164, 165, 166] rfl (by decide +kernel)
set_option maxRecDepth 20000 in
theorem gX6_does_X6_drop : GoodIn wsX6_does (wsV RX6 184 RX6 yX6_drop wsX6_drop) := goodIn_app (goodIn_of _ (by decide +kernel)) ggX6_does_X6_drop
set_option maxRecDepth 20000 in
theorem ggX6_does_X6_merge : GoodIn wsX6_does wsX6_merge := goodIn_r _ [146, 40, 41, 42, 7, 43, 44, 45, 46, 29, 147, 148, 149, 150, 51, 52, 53, 54, 55, 56, 57, 58, 25, 26, 27, 28, 47, 48, 49, 50, 151, 152, 153, 154, 79, 80, 81, 82, 155, 156, 157, 158, 159, 160, 161, 162, 163, 164, 165, 166] rfl (by decide +kernel)
set_option maxRecDepth 20000 in
theorem gX6_does_X6_merge : GoodIn wsX6_does (wsV RX6 187 RX6 yX6_merge wsX6_merge) := goodIn_app (goodIn_of _ (by decide +kernel)) ggX6_does_X6_merge
theorem dX6_does_0 : decode cX6_does 0 = .ok (.aload_n 0, 1) := by decide +kernel
theorem dX6_does_1 : decode cX6_does 1 = .ok (.getfield 22, 3) := by decide +kernel
theorem dX6_does_4 : decode cX6_does 4 = .ok (.aload_n 0, 1) := by decide +kernel
theorem dX6_does_5 : decode cX6_does 5 = .ok (.getfield 153, 3) := by decide +kernel
theorem dX6_does_8 : decode cX6_does 8 = .ok (.iaload, 1) := by decide +kernel
theorem dX6_does_9 : decode cX6_does 9 = .ok (.istore_n 1, 1) := by decide +kernel
theorem dX6_does_10 : decode cX6_does 10 = .ok (.iload_n 1, 1) := by decide +kernel
theorem dX6_does_11 : decode cX6_does 11 = .ok (.bipush 119, 2) := by decide +kernel
theorem dX6_does_13 : decode cX6_does 13 = .ok (.if_icmp .ne 7, 3) := by decide +kernel
theorem dX6_does_16 : decode cX6_does 16 = .ok (.iconst 3, 1) := by decide +kernel
theorem dX6_does_17 : decode cX6_does 17 = .ok (.goto 36, 3) := by decide +kernel
theorem dX6_does_20 : decode cX6_does 20 = .ok (.iload_n 1, 1) := by decide +kernel
theorem dX6_does_21 : decode cX6_does 21 = .ok (.bipush 116, 2) := by decide +kernel
theorem dX6_does_23 : decode cX6_does 23 = .ok (.if_icmp .ne 7, 3) := by decide +kernel
theorem dX6_does_26 : decode cX6_does 26 = .ok (.iconst 2, 1) := by decide +kernel
theorem dX6_does_27 : decode cX6_does 27 = .ok (.goto 26, 3) := by decide +kernel
theorem dX6_does_30 : decode cX6_does 30 = .ok (.iload_n 1, 1) := by decide +kernel
theorem dX6_does_31 : decode cX6_does 31 = .ok (.bipush 115, 2) := by decide +kernel
theorem dX6_does_33 : decode cX6_does 33 = .ok (.if_icmp .eq 15, 3) := by decide +kernel
theorem dX6_does_36 : decode cX6_does 36 = .ok (.iload_n 1, 1) := by decide +kernel
theorem dX6_does_37 : decode cX6_does 37 = .ok (.bipush 99, 2) := by decide +kernel
theorem dX6_does_39 : decode cX6_does 39 = .ok (.if_icmp .eq 9, 3) := by decide +kernel
theorem dX6_does_42 : decode cX6_does 42 = .ok (.iload_n 1, 1) := by decide +kernel
theorem dX6_does_43 : decode cX6_does 43 = .ok (.bipush 100, 2) := by decide +kernel
theorem dX6_does_45 : decode cX6_does 45 = .ok (.if_icmp .ne 7, 3) := by decide +kernel
theorem dX6_does_48 : decode cX6_does 48 = .ok (.iconst 1, 1) := by decide +kernel
theorem dX6_does_49 : decode cX6_does 49 = .ok (.goto 4, 3) := by decide +kernel
theorem dX6_does_52 : decode cX6_does 52 = .ok (.iconst 0, 1) := by decide +kernel
theorem dX6_does_53 : decode cX6_does 53 = .ok (.istore_n 2, 1) := by decide +kernel
theorem dX6_does_54 : decode cX6_does 54 = .ok (.aload_n 0, 1) := by decide +kernel
theorem dX6_does_55 : decode cX6_does 55 = .ok (.iload_n 1, 1) := by decide +kernel
theorem dX6_does_56 : decode cX6_does 56 = .ok (.iload_n 2, 1) := by decide +kernel
theorem dX6_does_57 : decode cX6_does 57 = .ok (.invokevirtual 165, 3) := by decide +kernel
theorem dX6_does_60 : decode cX6_does 60 = .ok (.ifCond .ne 5, 3) := by decide +kernel
theorem dX6_does_63 : decode cX6_does 63 = .ok (.iconst 1, 1) := by decide +kernel
theorem dX6_does_64 : decode cX6_does 64 = .ok (.ireturn, 1) := by decide +kernel
theorem dX6_does_65 : decode cX6_does 65 = .ok (.iload_n 2, 1) := by decide +kernel
theorem dX6_does_66 : decode cX6_does 66 = .ok (.ifCond .le 16, 3) := by decide +kernel
theorem dX6_does_69 : decode cX6_does 69 = .ok (.aload_n 0, 1) := by decide +kernel
theorem dX6_does_70 : decode cX6_does 70 = .ok (.aload_n 0, 1) := by decide +kernel
theorem dX6_does_71 : decode cX6_does 71 = .ok (.getfield 25, 3) := by decide +kernel
theorem dX6_does_74 : decode cX6_does 74 = .ok (.iconst 0, 1) := by decide +kernel
theorem dX6_does_75 : decode cX6_does 75 = .ok (.iaload, 1) := by decide +kernel
theorem dX6_does_76 : decode cX6_does 76 = .ok (.invokevirtual 44, 3) := by decide +kernel
theorem dX6_does_79 : decode cX6_does 79 = .ok (.ifCond .eq 27, 3) := by decide +kernel
theorem dX6_does_82 : decode cX6_does 82 = .ok (.iload_n 2, 1) := by decide +kernel
theorem dX6_does_83 : decode cX6_does 83 = .ok (.iconst 1, 1) := by decide +kernel
theorem dX6_does_84 : decode cX6_does 84 = .ok (.if_icmp .le 24, 3) := by decide +kernel
theorem dX6_does_87 : decode cX6_does 87 = .ok (.aload_n 0, 1) := by decide +kernel
theorem dX6_does_88 : decode cX6_does 88 = .ok (.aload_n 0, 1) := by decide +kernel
theorem dX6_does_89 : decode cX6_does 89 = .ok (.getfield 25, 3) := by decide +kernel
theorem dX6_does_92 : decode cX6_does 92 = .ok (.iconst 0, 1) := by decide +kernel
theorem dX6_does_93 : decode cX6_does 93 = .ok (.iaload, 1) := by decide +kernel
theorem dX6_does_94 : decode cX6_does 94 = .ok (.aload_n 0, 1) := by decide +kernel
theorem dX6_does_95 : decode cX6_does 95 = .ok (.getfield 25, 3) := by decide +kernel
theorem dX6_does_98 : decode cX6_does 98 = .ok (.iconst 1, 1) := by decide +kernel
theorem dX6_does_99 : decode cX6_does 99 = .ok (.iaload, 1) := by decide +kernel
theorem dX6_does_100 : decode cX6_does 100 = .ok (.invokevirtual 105, 3) := by decide +kernel
theorem dX6_does_103 : decode cX6_does 103 = .ok (.ifCond .ne 5, 3) := by decide +kernel
theorem dX6_does_106 : decode cX6_does 106 = .ok (.iconst 2, 1) := by decide +kernel
theorem dX6_does_107 : decode cX6_does 107 = .ok (.ireturn, 1) := by decide +kernel
theorem dX6_does_108 : decode cX6_does 108 = .ok (.iload_n 1, 1) := by decide +kernel
theorem dX6_does_109 : decode cX6_does 109 = .ok (.lookupswitch 144 #[(99, 114), (100, 129), (115, 99), (116, 78), (119, 51)], 51) := by decide +kernel
theorem dX6_does_160 : decode cX6_does 160 = .ok (.aload_n 0, 1) := by decide +kernel
theorem dX6_does_161 : decode cX6_does 161 = .ok (.aload_n 0, 1) := by decide +kernel
theorem dX6_does_162 : decode cX6_does 162 = .ok (.aload_n 0, 1) := by decide +kernel
theorem dX6_does_163 : decode cX6_does 163 = .ok (.getfield 25, 3) := by decide +kernel
theorem dX6_does_166 : decode cX6_does 166 = .ok (.iconst 0, 1) := by decide +kernel
theorem dX6_does_167 : decode cX6_does 167 = .ok (.iaload, 1) := by decide +kernel
theorem dX6_does_168 : decode cX6_does 168 = .ok (.aload_n 0, 1) := by decide +kernel
theorem dX6_does_169 : decode cX6_does 169 = .ok (.getfield 25, 3) := by decide +kernel
theorem dX6_does_172 : decode cX6_does 172 = .ok (.iconst 1, 1) := by decide +kernel
theorem dX6_does_173 : decode cX6_does 173 = .ok (.iaload, 1) := by decide +kernel
theorem dX6_does_174 : decode cX6_does 174 = .ok (.aload_n 0, 1) := by decide +kernel
theorem dX6_does_175 : decode cX6_does 175 = .ok (.getfield 25, 3) := by decide +kernel
theorem dX6_does_178 : decode cX6_does 178 = .ok (.iconst 2, 1) := by decide +kernel
theorem dX6_does_179 : decode cX6_does 179 = .ok (.iaload, 1) := by decide +kernel
theorem dX6_does_180 : decode cX6_does 180 = .ok (.invokevirtual 168, 3) := by decide +kernel
theorem dX6_does_183 : decode cX6_does 183 = .ok (.invokevirtual 172, 3) := by decide +kernel
theorem dX6_does_186 : decode cX6_does 186 = .ok (.ireturn, 1) := by decide +kernel
theorem dX6_does_187 : decode cX6_does 187 = .ok (.aload_n 0, 1) := by decide +kernel
theorem dX6_does_188 : decode cX6_does 188 = .ok (.aload_n 0, 1) := by decide +kernel
theorem dX6_does_189 : decode cX6_does 189 = .ok (.aload_n 0, 1) := by decide +kernel
theorem dX6_does_190 : decode cX6_does 190 = .ok (.getfield 25, 3) := by decide +kernel
theorem dX6_does_193 : decode cX6_does 193 = .ok (.iconst 0, 1) := by decide +kernel
theorem dX6_does_194 : decode cX6_does 194 = .ok (.iaload, 1) := by decide +kernel
theorem dX6_does_195 : decode cX6_does 195 = .ok (.aload_n 0, 1) := by decide +kernel
theorem dX6_does_196 : decode cX6_does 196 = .ok (.getfield 25, 3) := by decide +kernel
theorem dX6_does_199 : decode cX6_does 199 = .ok (.iconst 1, 1) := by decide +kernel
theorem dX6_does_200 : decode cX6_does 200 = .ok (.iaload, 1) := by decide +kernel
theorem dX6_does_201 : decode cX6_does 201 = .ok (.invokevirtual 175, 3) := by decide +kernel
theorem dX6_does_204 : decode cX6_does 204 = .ok (.invokevirtual 172, 3) := by decide +kernel
theorem dX6_does_207 : decode cX6_does 207 = .ok (.ireturn, 1) := by decide +kernel
theorem dX6_does_208 : decode cX6_does 208 = .ok (.aload_n 0, 1) := by decide +kernel
theorem dX6_does_209 : decode cX6_does 209 = .ok (.aload_n 0, 1) := by decide +kernel
theorem dX6_does_210 : decode cX6_does 210 = .ok (.aload_n 0, 1) := by decide +kernel
theorem dX6_does_211 : decode cX6_does 211 = .ok (.getfield 25, 3) := by decide +kernel
theorem dX6_does_214 : decode cX6_does 214 = .ok (.iconst 0, 1) := by decide +kernel
theorem dX6_does_215 : decode cX6_does 215 = .ok (.iaload, 1) := by decide +kernel
theorem dX6_does_216 : decode cX6_does 216 = .ok (.invokevirtual 178, 3) := by decide +kernel
theorem dX6_does_219 : decode cX6_does 219 = .ok (.invokevirtual 172, 3) := by decide +kernel
theorem dX6_does_222 : decode cX6_does 222 = .ok (.ireturn, 1) := by decide +kernel
theorem dX6_does_223 : decode cX6_does 223 = .ok (.aload_n 0, 1) := by decide +kernel
theorem dX6_does_224 : decode cX6_does 224 = .ok (.aload_n 0, 1) := by decide +kernel
theorem dX6_does_225 : decode cX6_does 225 = .ok (.aload_n 0, 1) := by decide +kernel
theorem dX6_does_226 : decode cX6_does 226 = .ok (.getfield 25, 3) := by decide +kernel
theorem dX6_does_229 : decode cX6_does 229 = .ok (.iconst 0, 1) := by decide +kernel
theorem dX6_does_230 : decode cX6_does 230 = .ok (.iaload, 1) := by decide +kernel
theorem dX6_does_231 : decode cX6_does 231 = .ok (.invokevirtual 181, 3) := by decide +kernel
theorem dX6_does_234 : decode cX6_does 234 = .ok (.invokevirtual 172, 3) := by decide +kernel
theorem dX6_does_237 : decode cX6_does 237 = .ok (.ireturn, 1) := by decide +kernel
theorem dX6_does_238 : decode cX6_does 238 = .ok (.aload_n 0, 1) := by decide +kernel
theorem dX6_does_239 : decode cX6_does 239 = .ok (.aload_n 0, 1) := by decide +kernel
theorem dX6_does_240 : decode cX6_does 240 = .ok (.aload_n 0, 1) := by decide +kernel
theorem dX6_does_241 : decode cX6_does 241 = .ok (.getfield 25, 3) := by decide +kernel
theorem dX6_does_244 : decode cX6_does 244 = .ok (.iconst 0, 1) := by decide +kernel
theorem dX6_does_245 : decode cX6_does 245 = .ok (.iaload, 1) := by decide +kernel
theorem dX6_does_246 : decode cX6_does 246 = .ok (.invokevirtual 184, 3) := by decide +kernel
theorem dX6_does_249 : decode cX6_does 249 = .ok (.invokevirtual 172, 3) := by decide +kernel
theorem dX6_does_252 : decode cX6_does 252 = .ok (.ireturn, 1) := by decide +kernel
theorem dX6_does_253 : decode cX6_does 253 = .ok (.aload_n 0, 1) := by decide +kernel
theorem dX6_does_254 : decode cX6_does 254 = .ok (.aload_n 0, 1) := by decide +kernel
theorem dX6_does_255 : decode cX6_does 255 = .ok (.invokevirtual 187, 3) := by decide +kernel
theorem dX6_does_258 : decode cX6_does 258 = .ok (.invokevirtual 172, 3) := by decide +kernel
theorem dX6_does_261 : decode cX6_does 261 = .ok (.ireturn, 1) := by decide +kernel
set_option maxRecDepth 20000 in
theorem ggX6_plays_X6_does : GoodIn wsX6_plays wsX6_does := goodIn_r _ [11, 12, 2, 13, 14, 15, 16, 10, 17, 18, 19, 20, 21, 5, 22, 23, 24, 25, 26, 27, 28, 29, 30, 31, 32, 33, 34, 35, 36, 37, 38, 39, 40, 41, 42, 43, 44, 45, 46, 47, 48, 49, 50, 51, 1, 52, 53, 54, 55, 56, 57, 58, 59, 60, 61, 62, 63, 64, 65, 66, 67, 68, 69, 70, 71, 72, 73, 74, 75, 76, 77, 78, 79, 80, 81, 82, 83, 84, 85, 86, 87, 88, 89, 90, 91, 92, 93, 6, 94, 95, 96, 97, 98, 99, 100, 101, 102, 103, 104, 105, 106, 107, 108, 109, 110, 111, 112, 113, 4, 114, 115, 116, 117, 118, 119, 120, 121, 122, 123, 124, 125, 126, 127, 128, 129, 130, 131, 132, 133, 134, 135, 136, 137, 138, 139, 140, 141, 142, 143, 144, 145, 146, 147, 148, 149, 150, 151, 152, 153, 154, 155, 156, 157, 158, 159, 160, 161, 162, 163, 164, 165, 166, 167, 168, 169, 170, 171] rfl (by decide +kernel)
set_option maxRecDepth 20000 in
theorem gX6_plays_X6_does : GoodIn wsX6_plays (wsV RX6 193 RX6 yX6_does wsX6_does) := goodIn_app (goodIn_of _ (by decide +kernel)) ggX6_plays_X6_does
theorem dX6_plays_0 : decode cX6_plays 0 = .ok (.aload_n 0, 1) := by decide +kernel
theorem dX6_plays_1 : decode cX6_plays 1 = .ok (.iconst 1, 1) := by decide +kernel
theorem dX6_plays_2 : decode cX6_plays 2 = .ok (.putfield 28, 3) := by decide +kernel
theorem dX6_plays_5 : decode cX6_plays 5 = .ok (.aload_n 0, 1) := by decide +kernel
theorem dX6_plays_6 : decode cX6_plays 6 = .ok (.iconst 0, 1) := by decide +kernel
theorem dX6_plays_7 : decode cX6_plays 7 = .ok (.putfield 153, 3) := by decide +kernel
theorem dX6_plays_10 : decode cX6_plays 10 = .ok (.aload_n 0, 1) := by decide +kernel
theorem dX6_plays_11 : decode cX6_plays 11 = .ok (.iconst 0, 1) := by decide +kernel
theorem dX6_plays_12 : decode cX6_plays 12 = .ok (.putfield 190, 3) := by decide +kernel
theorem dX6_plays_15 : decode cX6_plays 15 = .ok (.aload_n 0, 1) := by decide +kernel
theorem dX6_plays_16 : decode cX6_plays 16 = .ok (.iconst 0, 1) := by decide +kernel
theorem dX6_plays_17 : decode cX6_plays 17 = .ok (.putfield 162, 3) := by decide +kernel
theorem dX6_plays_20 : decode cX6_plays 20 = .ok (.iconst 0, 1) := by decide +kernel
theorem dX6_plays_21 : decode cX6_plays 21 = .ok (.istore_n 1, 1) := by decide +kernel
theorem dX6_plays_22 : decode cX6_plays 22 = .ok (.aload_n 0, 1) := by decide +kernel
theorem dX6_plays_23 : decode cX6_plays 23 = .ok (.getfield 153, 3) := by decide +kernel
theorem dX6_plays_26 : decode cX6_plays 26 = .ok (.aload_n 0, 1) := by decide +kernel
theorem dX6_plays_27 : decode cX6_plays 27 = .ok (.getfield 150, 3) := by decide +kernel
theorem dX6_plays_30 : decode cX6_plays 30 = .ok (.if_icmp .ge 26, 3) := by decide +kernel
theorem dX6_plays_33 : decode cX6_plays 33 = .ok (.aload_n 0, 1) := by decide +kernel
theorem dX6_plays_34 : decode cX6_plays 34 = .ok (.getfield 190, 3) := by decide +kernel
theorem dX6_plays_37 : decode cX6_plays 37 = .ok (.ifCond .ne 19, 3) := by decide +kernel
theorem dX6_plays_40 : decode cX6_plays 40 = .ok (.aload_n 0, 1) := by decide +kernel
theorem dX6_plays_41 : decode cX6_plays 41 = .ok (.getfield 153, 3) := by decide +kernel
theorem dX6_plays_44 : decode cX6_plays 44 = .ok (.istore_n 1, 1) := by decide +kernel
theorem dX6_plays_45 : decode cX6_plays 45 = .ok (.aload_n 0, 1) := by decide +kernel
theorem dX6_plays_46 : decode cX6_plays 46 = .ok (.aload_n 0, 1) := by decide +kernel
theorem dX6_plays_47 : decode cX6_plays 47 = .ok (.invokevirtual 193, 3) := by decide +kernel
theorem dX6_plays_50 : decode cX6_plays 50 = .ok (.putfield 190, 3) := by decide +kernel
theorem dX6_plays_53 : decode cX6_plays 53 = .ok (.goto (-31), 3) := by decide +kernel
theorem dX6_plays_56 : decode cX6_plays 56 = .ok (.aload_n 0, 1) := by decide +kernel
theorem dX6_plays_57 : decode cX6_plays 57 = .ok (.iconst 0, 1) := by decide +kernel
theorem dX6_plays_58 : decode cX6_plays 58 = .ok (.putfield 28, 3) := by decide +kernel
theorem dX6_plays_61 : decode cX6_plays 61 = .ok (.aload_n 0, 1) := by decide +kernel
theorem dX6_plays_62 : decode cX6_plays 62 = .ok (.getfield 190, 3) := by decide +kernel
theorem dX6_plays_65 : decode cX6_plays 65 = .ok (.ifCond .ne 8, 3) := by decide +kernel
theorem dX6_plays_68 : decode cX6_plays 68 = .ok (.ldc 65, 2) := by decide +kernel
theorem dX6_plays_70 : decode cX6_plays 70 = .ok (.goto 4, 3) := by decide +kernel
theorem dX6_plays_73 : decode cX6_plays 73 = .ok (.iload_n 1, 1) := by decide +kernel
theorem dX6_plays_74 : decode cX6_plays 74 = .ok (.ireturn, 1) := by decide +kernel
set_option maxRecDepth 20000 in
theorem ggX6_fault_X6_in : GoodIn wsX6_fault wsX6_in := goodIn_r _ [9] rfl (by decide +kernel)
set_option maxRecDepth 20000 in
theorem gX6_fault_X6_in : GoodIn wsX6_fault (va_wsS RX6 36 yX6_in wsX6_in) := goodIn_app (goodIn_of _ (by decide +kernel)) ggX6_fault_X6_in
set_option maxRecDepth 20000 in
theorem ggX6_fault_X6_copies : GoodIn wsX6_fault wsX6_copies := goodIn_r _ [12] rfl (by decide +kernel)
set_option maxRecDepth 20000 in
theorem gX6_fault_X6_copies : GoodIn wsX6_fault (va_wsS RX6 140 yX6_copies wsX6_copies) := goodIn_app (goodIn_of _ (by decide +kernel)) ggX6_fault_X6_copies
set_option maxRecDepth 20000 in
theorem ggX6_fault_X6_plays : GoodIn wsX6_fault wsX6_plays := goodIn_r _ [16, 17, 18, 5, 19, 20, 4, 21, 22, 23, 8, 24, 25, 26, 27, 28, 29, 30, 31, 32, 33, 34, 6, 7, 9, 35, 36, 37, 38, 39, 40, 41, 42, 43, 44, 45, 46, 2, 47, 48, 49, 50, 51, 52, 53, 54, 1, 55, 56, 57, 58, 59, 60, 61, 62, 63, 64, 65, 66, 67, 68, 69, 70, 71, 72, 73, 74, 75, 76, 77, 78, 79, 80, 81, 82, 83, 84, 85, 86, 87, 88, 89, 90, 91, 92, 93, 94, 95, 96, 97, 98, 99, 100, 101, 102, 103, 104, 105, 106, 107, 108, 109, 110, 111, 112, 113, 114, 115, 116, 117, 118, 119, 120, 121, 122, 123, 124, 125, 126, 127, 128, 129, 130, 131, 132, 133, 134, 135, 136, 137, 138, 139, 140, 141, 142, 143, 144, 145, 146, 147, 148, 149, 150, 151, 152, 153, 154, 155, 156, 157, 158, 159, 160, 161, 162, 163, 164, 165, 166, 167, 168, 169, 170, 171, 172, 173, 174, 175, 176, 177, 178, 179] rfl (by decide +kernel)
set_option maxRecDepth 20000 in
theorem gX6_fault_X6_plays : GoodIn wsX6_fault (wsV RX6 196 RX6 yX6_plays wsX6_plays) := goodIn_app (goodIn_of _ (by decide +kernel)) ggX6_fault_X6_plays
theorem dX6_fault_0 : decode cX6_fault 0 = .ok (.iload_n 1, 1) := by decide +kernel
theorem dX6_fault_1 : decode cX6_fault 1 = .ok (.iconst 0, 1) := by decide +kernel
theorem dX6_fault_2 : decode cX6_fault 2 = .ok (.iconst 1, 1) := by decide +kernel
theorem dX6_fault_3 : decode cX6_fault 3 = .ok (.invokestatic 36, 3) := by decide +kernel
theorem dX6_fault_6 : decode cX6_fault 6 = .ok (.ifCond .ne 6, 3) := by decide +kernel
theorem dX6_fault_9 : decode cX6_fault 9 = .ok (.ldc 86, 2) := by decide +kernel
theorem dX6_fault_11 : decode cX6_fault 11 = .ok (.ireturn, 1) := by decide +kernel
theorem dX6_fault_12 : decode cX6_fault 12 = .ok (.aload_n 0, 1) := by decide +kernel
theorem dX6_fault_13 : decode cX6_fault 13 = .ok (.getfield 7, 3) := by decide +kernel
theorem dX6_fault_16 : decode cX6_fault 16 = .ok (.aload_n 0, 1) := by decide +kernel
theorem dX6_fault_17 : decode cX6_fault 17 = .ok (.getfield 16, 3) := by decide +kernel
theorem dX6_fault_20 : decode cX6_fault 20 = .ok (.invokestatic 140, 3) := by decide +kernel
theorem dX6_fault_23 : decode cX6_fault 23 = .ok (.aload_n 0, 1) := by decide +kernel
theorem dX6_fault_24 : decode cX6_fault 24 = .ok (.invokevirtual 196, 3) := by decide +kernel
theorem dX6_fault_27 : decode cX6_fault 27 = .ok (.istore_n 2, 1) := by decide +kernel
theorem dX6_fault_28 : decode cX6_fault 28 = .ok (.aload_n 0, 1) := by decide +kernel
theorem dX6_fault_29 : decode cX6_fault 29 = .ok (.getfield 16, 3) := by decide +kernel
theorem dX6_fault_32 : decode cX6_fault 32 = .ok (.aload_n 0, 1) := by decide +kernel
theorem dX6_fault_33 : decode cX6_fault 33 = .ok (.getfield 7, 3) := by decide +kernel
theorem dX6_fault_36 : decode cX6_fault 36 = .ok (.invokestatic 140, 3) := by decide +kernel
theorem dX6_fault_39 : decode cX6_fault 39 = .ok (.iload_n 2, 1) := by decide +kernel
theorem dX6_fault_40 : decode cX6_fault 40 = .ok (.ldc 65, 2) := by decide +kernel
theorem dX6_fault_42 : decode cX6_fault 42 = .ok (.if_icmp .eq 7, 3) := by decide +kernel
theorem dX6_fault_45 : decode cX6_fault 45 = .ok (.iload_n 1, 1) := by decide +kernel
theorem dX6_fault_46 : decode cX6_fault 46 = .ok (.ifCond .ne 7, 3) := by decide +kernel
theorem dX6_fault_49 : decode cX6_fault 49 = .ok (.iload_n 2, 1) := by decide +kernel
theorem dX6_fault_50 : decode cX6_fault 50 = .ok (.goto 7, 3) := by decide +kernel
theorem dX6_fault_53 : decode cX6_fault 53 = .ok (.aload_n 0, 1) := by decide +kernel
theorem dX6_fault_54 : decode cX6_fault 54 = .ok (.getfield 190, 3) := by decide +kernel
theorem dX6_fault_57 : decode cX6_fault 57 = .ok (.ireturn, 1) := by decide +kernel
set_option maxRecDepth 20000 in
theorem ggX6_play_X6_copies : GoodIn wsX6_play wsX6_copies := goodIn_r _ [9] rfl (by decide +kernel)
set_option maxRecDepth 20000 in
theorem gX6_play_X6_copies : GoodIn wsX6_play (va_wsS RX6 140 yX6_copies wsX6_copies) := goodIn_app (goodIn_of _ (by decide +kernel)) ggX6_play_X6_copies
set_option maxRecDepth 20000 in
theorem ggX6_play_X6_plays : GoodIn wsX6_play wsX6_plays := goodIn_r _ [13, 14, 15, 16, 5, 17, 3, 18, 19, 20, 8, 21, 22, 23, 24, 25, 26, 27, 28, 29, 30, 31, 32, 33, 34, 35, 36, 37, 38, 39, 40, 41, 42, 43, 44, 45, 46, 1, 47, 48, 49, 50, 51, 52, 53, 54, 55, 56, 57, 58, 59, 60, 61, 62, 63, 64, 65, 66, 67, 68, 69, 70, 71, 72, 73, 74, 75, 76, 77, 78, 79, 80, 81, 82, 83, 84, 85, 86, 87, 88, 89, 90, 91, 92, 93, 94, 95, 96, 97, 98, 99, 100, 101, 102, 103, 104, 105, 106, 107, 108, 109, 110, 111, 112, 113, 114, 115, 116, 117, 118, 119, 120, 121, 122, 4, 123, 124, 125, 126, 127, 128, 129, 130, 131, 132, 133, 134, 135, 136, 137, 138, 139, 140, 141, 142, 143, 144, 145, 146, 147, 148, 149, 150, 151, 152, 153, 154, 155, 156, 157, 158, 159, 160, 161, 162, 163, 164, 165, 166, 167, 168, 169, 170, 171, 172, 173, 174, 175, 176, 177, 178, 179] rfl (by decide +kernel)
set_option maxRecDepth 20000 in
theorem gX6_play_X6_plays : GoodIn wsX6_play (wsV RX6 196 RX6 yX6_plays wsX6_plays) := goodIn_app (goodIn_of _ (by decide +kernel)) ggX6_play_X6_plays
set_option maxRecDepth 20000 in
theorem ggX6_play_X6_changes : GoodIn wsX6_play wsX6_changes := goodIn_r _ [60, 14, 61, 62, 1, 168, 169, 170, 171, 172, 173, 174, 175, 176, 177, 178, 179] rfl (by decide +kernel)
set_option maxRecDepth 20000 in
theorem gX6_play_X6_changes : GoodIn wsX6_play (wsV RX6 91 RX6 yX6_changes wsX6_changes) := goodIn_app (goodIn_of _ (by decide +kernel)) ggX6_play_X6_changes
theorem dX6_play_0 : decode cX6_play 0 = .ok (.aload_n 0, 1) := by decide +kernel
theorem dX6_play_1 : decode cX6_play 1 = .ok (.getfield 7, 3) := by decide +kernel
theorem dX6_play_4 : decode cX6_play 4 = .ok (.aload_n 0, 1) := by decide +kernel
theorem dX6_play_5 : decode cX6_play 5 = .ok (.getfield 16, 3) := by decide +kernel
theorem dX6_play_8 : decode cX6_play 8 = .ok (.invokestatic 140, 3) := by decide +kernel
theorem dX6_play_11 : decode cX6_play 11 = .ok (.aload_n 0, 1) := by decide +kernel
theorem dX6_play_12 : decode cX6_play 12 = .ok (.invokevirtual 196, 3) := by decide +kernel
theorem dX6_play_15 : decode cX6_play 15 = .ok (.istore_n 1, 1) := by decide +kernel
theorem dX6_play_16 : decode cX6_play 16 = .ok (.aload_n 0, 1) := by decide +kernel
theorem dX6_play_17 : decode cX6_play 17 = .ok (.getfield 16, 3) := by decide +kernel
theorem dX6_play_20 : decode cX6_play 20 = .ok (.aload_n 0, 1) := by decide +kernel
theorem dX6_play_21 : decode cX6_play 21 = .ok (.getfield 7, 3) := by decide +kernel
theorem dX6_play_24 : decode cX6_play 24 = .ok (.invokestatic 140, 3) := by decide +kernel
theorem dX6_play_27 : decode cX6_play 27 = .ok (.iload_n 1, 1) := by decide +kernel
theorem dX6_play_28 : decode cX6_play 28 = .ok (.ldc 65, 2) := by decide +kernel
theorem dX6_play_30 : decode cX6_play 30 = .ok (.if_icmp .eq 6, 3) := by decide +kernel
theorem dX6_play_33 : decode cX6_play 33 = .ok (.ldc 100, 2) := by decide +kernel
theorem dX6_play_35 : decode cX6_play 35 = .ok (.ireturn, 1) := by decide +kernel
theorem dX6_play_36 : decode cX6_play 36 = .ok (.aload_n 0, 1) := by decide +kernel
theorem dX6_play_37 : decode cX6_play 37 = .ok (.invokevirtual 91, 3) := by decide +kernel
theorem dX6_play_40 : decode cX6_play 40 = .ok (.aload_n 0, 1) := by decide +kernel
theorem dX6_play_41 : decode cX6_play 41 = .ok (.invokevirtual 196, 3) := by decide +kernel
theorem dX6_play_44 : decode cX6_play 44 = .ok (.ldc 65, 2) := by decide +kernel
theorem dX6_play_46 : decode cX6_play 46 = .ok (.if_icmp .ne 10, 3) := by decide +kernel
theorem dX6_play_49 : decode cX6_play 49 = .ok (.aload_n 0, 1) := by decide +kernel
theorem dX6_play_50 : decode cX6_play 50 = .ok (.getfield 162, 3) := by decide +kernel
theorem dX6_play_53 : decode cX6_play 53 = .ok (.goto 5, 3) := by decide +kernel
theorem dX6_play_56 : decode cX6_play 56 = .ok (.ldc 65, 2) := by decide +kernel
theorem dX6_play_58 : decode cX6_play 58 = .ok (.ireturn, 1) := by decide +kernel
theorem dJ9_max_7cf53_0 : decode cJ9_max_7cf53 0 = .ok (.iload_n 0, 1) := by decide +kernel
theorem dJ9_max_7cf53_1 : decode cJ9_max_7cf53 1 = .ok (.iload_n 1, 1) := by decide +kernel
theorem dJ9_max_7cf53_2 : decode cJ9_max_7cf53 2 = .ok (.if_icmp .lt 7, 3) := by decide +kernel
theorem dJ9_max_7cf53_5 : decode cJ9_max_7cf53 5 = .ok (.iload_n 0, 1) := by decide +kernel
theorem dJ9_max_7cf53_6 : decode cJ9_max_7cf53 6 = .ok (.goto 4, 3) := by decide +kernel
theorem dJ9_max_7cf53_9 : decode cJ9_max_7cf53 9 = .ok (.iload_n 1, 1) := by decide +kernel
theorem dJ9_max_7cf53_10 : decode cJ9_max_7cf53 10 = .ok (.ireturn, 1) := by decide +kernel
theorem dJ9_min_7cf53_0 : decode cJ9_min_7cf53 0 = .ok (.iload_n 0, 1) := by decide +kernel
theorem dJ9_min_7cf53_1 : decode cJ9_min_7cf53 1 = .ok (.iload_n 1, 1) := by decide +kernel
theorem dJ9_min_7cf53_2 : decode cJ9_min_7cf53 2 = .ok (.if_icmp .gt 7, 3) := by decide +kernel
theorem dJ9_min_7cf53_5 : decode cJ9_min_7cf53 5 = .ok (.iload_n 0, 1) := by decide +kernel
theorem dJ9_min_7cf53_6 : decode cJ9_min_7cf53 6 = .ok (.goto 4, 3) := by decide +kernel
theorem dJ9_min_7cf53_9 : decode cJ9_min_7cf53 9 = .ok (.iload_n 1, 1) := by decide +kernel
theorem dJ9_min_7cf53_10 : decode cJ9_min_7cf53 10 = .ok (.ireturn, 1) := by decide +kernel
