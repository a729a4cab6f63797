set_option maxRecDepth 20000 in
theorem ggX5_init_X1_init : GoodIn wsX5_init wsX1_init := goodIn_r _ [22, 23, 2, 3, 24, 25, 26, 27, 28, 29, 30, 31, 32, 33, 34, 35, 36, 37, 38, 39, 40, 41, 42, 43, 44, 63, 64, 65, 66, 67, 68, 69, 70, 71, 72, 73, 74, 75, 76, 91, 92, 93, 94] rfl (by decide +kernel)
set_option maxRecDepth 20000 in
theorem gX5_init_X1_init : GoodIn wsX5_init (wsX1_init) := ggX5_init_X1_init
set_option maxRecDepth 20000 in
theorem ggX5_init_X0_init : GoodIn wsX5_init wsX0_init := goodIn_r _ [47, 48, 2, 3, 49, 50, 5, 6, 51, 21, 22, 23, 24, 25, 26, 27, 28, 29, 30, 31, 32, 33, 34, 35, 36, 37, 38, 39, 40, 41, 42, 43, 44, 81, 82, 63, 64, 65, 66, 67, 68, 69, 70, 71, 72, 73, 74, 75, 76, 91, 92, 93, 94] rfl (by decide +kernel)
set_option maxRecDepth 20000 in
theorem gX5_init_X0_init : GoodIn wsX5_init (wsX0_init) := ggX5_init_X0_init
set_option maxRecDepth 20000 in
theorem ggX5_init_X3_init : GoodIn wsX5_init wsX3_init := goodIn_r _ [53, 54, 2, 3, 24, 55, 56, 83, 84, 85, 86, 87] rfl (by decide +kernel)
set_option maxRecDepth 20000 in
theorem gX5_init_X3_init_n25 : GoodIn wsX5_init (wsX3_init) := ggX5_init_X3_init
set_option maxRecDepth 20000 in
theorem ggX5_init_X2_init : GoodIn wsX5_init wsX2_init := goodIn_r _ [58, 59, 2, 3, 60, 5, 6, 61, 62, 21, 22, 23, 24, 25, 26, 27, 28, 29, 30, 31, 32, 33, 34, 35, 36, 37, 38, 39, 40, 41, 42, 43, 44, 63, 64, 65, 66, 67, 68, 69, 70, 71, 72, 73, 74, 75, 76, 88, 89, 90, 91, 92, 93, 94] rfl (by decide +kernel)
set_option maxRecDepth 20000 in
theorem gX5_init_X2_init_n32 : GoodIn wsX5_init (wsX2_init) := ggX5_init_X2_init
theorem dX5_init_0 : decode cX5_init 0 = .ok (.aload_n 0, 1) := by decide +kernel
theorem dX5_init_1 : decode cX5_init 1 = .ok (.invokespecial 3, 3) := by decide +kernel
theorem dX5_init_4 : decode cX5_init 4 = .ok (.aload_n 0, 1) := by decide +kernel
theorem dX5_init_5 : decode cX5_init 5 = .ok (.new 9, 3) := by decide +kernel
theorem dX5_init_8 : decode cX5_init 8 = .ok (.dup, 1) := by decide +kernel
theorem dX5_init_9 : decode cX5_init 9 = .ok (.invokespecial 11, 3) := by decide +kernel
theorem dX5_init_12 : decode cX5_init 12 = .ok (.putfield 12, 3) := by decide +kernel
theorem dX5_init_15 : decode cX5_init 15 = .ok (.aload_n 0, 1) := by decide +kernel
theorem dX5_init_16 : decode cX5_init 16 = .ok (.new 16, 3) := by decide +kernel
theorem dX5_init_19 : decode cX5_init 19 = .ok (.dup, 1) := by decide +kernel
theorem dX5_init_20 : decode cX5_init 20 = .ok (.invokespecial 18, 3) := by decide +kernel
theorem dX5_init_23 : decode cX5_init 23 = .ok (.putfield 19, 3) := by decide +kernel
theorem dX5_init_26 : decode cX5_init 26 = .ok (.aload_n 0, 1) := by decide +kernel
theorem dX5_init_27 : decode cX5_init 27 = .ok (.new 23, 3) := by decide +kernel
theorem dX5_init_30 : decode cX5_init 30 = .ok (.dup, 1) := by decide +kernel
theorem dX5_init_31 : decode cX5_init 31 = .ok (.invokespecial 25, 3) := by decide +kernel
theorem dX5_init_34 : decode cX5_init 34 = .ok (.putfield 26, 3) := by decide +kernel
theorem dX5_init_37 : decode cX5_init 37 = .ok (.aload_n 0, 1) := by decide +kernel
theorem dX5_init_38 : decode cX5_init 38 = .ok (.new 30, 3) := by decide +kernel
theorem dX5_init_41 : decode cX5_init 41 = .ok (.dup, 1) := by decide +kernel
theorem dX5_init_42 : decode cX5_init 42 = .ok (.invokespecial 32, 3) := by decide +kernel
theorem dX5_init_45 : decode cX5_init 45 = .ok (.putfield 33, 3) := by decide +kernel
theorem dX5_init_48 : decode cX5_init 48 = .ok (.return_, 1) := by decide +kernel
set_option maxRecDepth 20000 in
theorem ggX5_volume_X0_prepare : GoodIn wsX5_volume wsX0_prepare := goodIn_r _ [7, 8, 9, 10, 11, 6, 12, 13, 14, 15, 16, 17, 18, 19, 20, 21, 22, 23, 24, 25, 26, 27, 28, 29, 30, 31, 32, 33, 34, 35, 36, 37, 38, 39, 40, 41, 42, 43, 44, 45, 46, 81, 82, 83, 84, 85, 86, 87, 88, 89, 90, 91, 92, 93, 94, 95, 96, 97, 98, 99, 100] rfl (by decide +kernel)
set_option maxRecDepth 20000 in
theorem gX5_volume_X0_prepare : GoodIn wsX5_volume (wsV RX5 37 RX0 yX0_prepare wsX0_prepare) := goodIn_app (goodIn_of _ (by decide +kernel)) ggX5_volume_X0_prepare
set_option maxRecDepth 20000 in
theorem ggX5_volume_X1_openVolume : GoodIn wsX5_volume wsX1_openVolume := goodIn_r _ [50, 51, 19, 24, 25, 26, 27, 28, 52, 53, 54, 55, 17, 56, 83, 84, 85, 86, 87, 88, 89, 90, 91, 92, 93, 94, 95, 96] rfl (by decide +kernel)
set_option maxRecDepth 20000 in
theorem gX5_volume_X1_openVolume : GoodIn wsX5_volume (wsV RX5 41 RX1 yX1_openVolume wsX1_openVolume) := goodIn_app (goodIn_of _ (by decide +kernel)) ggX5_volume_X1_openVolume
set_option maxRecDepth 20000 in
theorem ggX5_volume_X5_settle : GoodIn wsX5_volume wsX5_settle := goodIn_r _ [61, 1, 62, 63, 60, 64, 65, 66, 67, 68, 69, 70, 71, 6, 72, 8, 73, 74, 75, 76, 13, 9, 10, 11, 12, 14, 15, 16, 17, 18, 19, 20, 21, 22, 23, 24, 25, 26, 27, 28, 29, 30, 31, 32, 33, 34, 35, 36, 37, 38, 39, 40, 41, 42, 43, 44, 45, 46, 77, 78, 79, 80, 81, 82, 83, 84, 85, 86, 87, 88, 89, 90, 91, 92, 93, 94, 95, 96, 97, 98, 99, 100] rfl (by decide +kernel)
set_option maxRecDepth 20000 in
theorem gX5_volume_X5_settle : GoodIn wsX5_volume (wsV RX5 45 RX5 yX5_settle wsX5_settle) := goodIn_app (goodIn_of _ (by decide +kernel)) ggX5_volume_X5_settle
theorem dX5_volume_0 : decode cX5_volume 0 = .ok (.aload_n 0, 1) := by decide +kernel
theorem dX5_volume_1 : decode cX5_volume 1 = .ok (.getfield 19, 3) := by decide +kernel
theorem dX5_volume_4 : decode cX5_volume 4 = .ok (.aload_n 0, 1) := by decide +kernel
theorem dX5_volume_5 : decode cX5_volume 5 = .ok (.getfield 12, 3) := by decide +kernel
theorem dX5_volume_8 : decode cX5_volume 8 = .ok (.invokevirtual 37, 3) := by decide +kernel
theorem dX5_volume_11 : decode cX5_volume 11 = .ok (.aload_n 0, 1) := by decide +kernel
theorem dX5_volume_12 : decode cX5_volume 12 = .ok (.aload_n 0, 1) := by decide +kernel
theorem dX5_volume_13 : decode cX5_volume 13 = .ok (.getfield 12, 3) := by decide +kernel
theorem dX5_volume_16 : decode cX5_volume 16 = .ok (.iload_n 1, 1) := by decide +kernel
theorem dX5_volume_17 : decode cX5_volume 17 = .ok (.invokevirtual 41, 3) := by decide +kernel
theorem dX5_volume_20 : decode cX5_volume 20 = .ok (.invokevirtual 45, 3) := by decide +kernel
theorem dX5_volume_23 : decode cX5_volume 23 = .ok (.ireturn, 1) := by decide +kernel
set_option maxRecDepth 20000 in
theorem ggX5_share_X0_prepare : GoodIn wsX5_share wsX0_prepare := goodIn_r _ [7, 8, 9, 10, 11, 6, 12, 13, 14, 15, 16, 17, 18, 19, 20, 21, 22, 23, 24, 25, 26, 27, 28, 29, 30, 31, 32, 33, 34, 35, 36, 37, 38, 39, 40, 41, 42, 43, 44, 45, 46, 97, 98, 99, 100, 101, 102, 103, 104, 105, 106, 107, 108, 109, 110, 111, 112, 113, 114, 115, 116] rfl (by decide +kernel)
set_option maxRecDepth 20000 in
theorem gX5_share_X0_prepare : GoodIn wsX5_share (wsV RX5 37 RX0 yX0_prepare wsX0_prepare) := goodIn_app (goodIn_of _ (by decide +kernel)) ggX5_share_X0_prepare
set_option maxRecDepth 20000 in
theorem ggX5_share_X1_cloneVolume : GoodIn wsX5_share wsX1_cloneVolume := goodIn_r _ [50, 51, 19, 26, 29, 31, 52, 53, 54, 17, 55, 56, 57, 58, 59, 24, 25, 27, 28, 60, 61, 62, 63, 64, 65, 66, 67, 68, 69, 70, 71, 72, 99, 100, 101, 102, 103, 104, 105, 106, 107, 108, 109, 110, 111, 112] rfl (by decide +kernel)
set_option maxRecDepth 20000 in
theorem gX5_share_X1_cloneVolume : GoodIn wsX5_share (wsV RX5 48 RX1 yX1_cloneVolume wsX1_cloneVolume) := goodIn_app (goodIn_of _ (by decide +kernel)) ggX5_share_X1_cloneVolume
set_option maxRecDepth 20000 in
theorem ggX5_share_X5_settle : GoodIn wsX5_share wsX5_settle := goodIn_r _ [77, 1, 78, 79, 76, 80, 81, 82, 83, 84, 85, 86, 87, 6, 88, 8, 89, 90, 91, 92, 13, 9, 10, 11, 12, 14, 15, 16, 17, 18, 19, 20, 21, 22, 23, 24, 25, 26, 27, 28, 29, 30, 31, 32, 33, 34, 35, 36, 37, 38, 39, 40, 41, 42, 43, 44, 45, 46, 93, 94, 95, 96, 97, 98, 99, 100, 101, 102, 103, 104, 105, 106, 107, 108, 109, 110, 111, 112, 113, 114, 115, 116] rfl (by decide +kernel)
set_option maxRecDepth 20000 in
theorem gX5_share_X5_settle : GoodIn wsX5_share (wsV RX5 45 RX5 yX5_settle wsX5_settle) := goodIn_app (goodIn_of _ (by decide +kernel)) ggX5_share_X5_settle
theorem dX5_share_0 : decode cX5_share 0 = .ok (.aload_n 0, 1) := by decide +kernel
theorem dX5_share_1 : decode cX5_share 1 = .ok (.getfield 19, 3) := by decide +kernel
theorem dX5_share_4 : decode cX5_share 4 = .ok (.aload_n 0, 1) := by decide +kernel
theorem dX5_share_5 : decode cX5_share 5 = .ok (.getfield 12, 3) := by decide +kernel
theorem dX5_share_8 : decode cX5_share 8 = .ok (.invokevirtual 37, 3) := by decide +kernel
theorem dX5_share_11 : decode cX5_share 11 = .ok (.aload_n 0, 1) := by decide +kernel
theorem dX5_share_12 : decode cX5_share 12 = .ok (.aload_n 0, 1) := by decide +kernel
theorem dX5_share_13 : decode cX5_share 13 = .ok (.getfield 12, 3) := by decide +kernel
theorem dX5_share_16 : decode cX5_share 16 = .ok (.iload_n 1, 1) := by decide +kernel
theorem dX5_share_17 : decode cX5_share 17 = .ok (.invokevirtual 48, 3) := by decide +kernel
theorem dX5_share_20 : decode cX5_share 20 = .ok (.invokevirtual 45, 3) := by decide +kernel
theorem dX5_share_23 : decode cX5_share 23 = .ok (.ireturn, 1) := by decide +kernel
set_option maxRecDepth 20000 in
theorem ggX5_drop_X0_prepare : GoodIn wsX5_drop wsX0_prepare := goodIn_r _ [7, 8, 9, 10, 11, 6, 12, 13, 14, 15, 16, 17, 18, 19, 20, 21, 22, 23, 24, 25, 26, 27, 28, 29, 30, 31, 32, 33, 34, 35, 36, 37, 38, 39, 40, 41, 42, 43, 44, 45, 46, 96, 97, 98, 99, 100, 101, 102, 103, 104, 105, 106, 107, 108, 109, 110, 111, 112, 113, 114, 115] rfl (by decide +kernel)
set_option maxRecDepth 20000 in
theorem gX5_drop_X0_prepare : GoodIn wsX5_drop (wsV RX5 37 RX0 yX0_prepare wsX0_prepare) := goodIn_app (goodIn_of _ (by decide +kernel)) ggX5_drop_X0_prepare
set_option maxRecDepth 20000 in
theorem ggX5_drop_X1_dropVolume : GoodIn wsX5_drop wsX1_dropVolume := goodIn_r _ [50, 51, 26, 25, 19, 52, 53, 54, 17, 55, 56, 57, 58, 59, 29, 31, 36, 60, 61, 62, 63, 64, 65, 66, 67, 68, 69, 70, 71, 98, 99, 100, 101, 102, 103, 104, 105, 106, 107, 108, 109, 110, 111] rfl (by decide +kernel)
set_option maxRecDepth 20000 in
theorem gX5_drop_X1_dropVolume : GoodIn wsX5_drop (wsV RX5 51 RX1 yX1_dropVolume wsX1_dropVolume) := goodIn_app (goodIn_of _ (by decide +kernel)) ggX5_drop_X1_dropVolume
set_option maxRecDepth 20000 in
theorem ggX5_drop_X5_settle : GoodIn wsX5_drop wsX5_settle := goodIn_r _ [76, 1, 77, 78, 75, 79, 80, 81, 82, 83, 84, 85, 86, 6, 87, 8, 88, 89, 90, 91, 13, 9, 10, 11, 12, 14, 15, 16, 17, 18, 19, 20, 21, 22, 23, 24, 25, 26, 27, 28, 29, 30, 31, 32, 33, 34, 35, 36, 37, 38, 39, 40, 41, 42, 43, 44, 45, 46, 92, 93, 94, 95, 96, 97, 98, 99, 100, 101, 102, 103, 104, 105, 106, 107, 108, 109, 110, 111, 112, 113, 114, 115] rfl (by decide +kernel)
set_option maxRecDepth 20000 in
theorem gX5_drop_X5_settle : GoodIn wsX5_drop (wsV RX5 45 RX5 yX5_settle wsX5_settle) := goodIn_app (goodIn_of _ (by decide +kernel)) ggX5_drop_X5_settle
theorem dX5_drop_0 : decode cX5_drop 0 = .ok (.aload_n 0, 1) := by decide +kernel
theorem dX5_drop_1 : decode cX5_drop 1 = .ok (.getfield 19, 3) := by decide +kernel
theorem dX5_drop_4 : decode cX5_drop 4 = .ok (.aload_n 0, 1) := by decide +kernel
theorem dX5_drop_5 : decode cX5_drop 5 = .ok (.getfield 12, 3) := by decide +kernel
theorem dX5_drop_8 : decode cX5_drop 8 = .ok (.invokevirtual 37, 3) := by decide +kernel
theorem dX5_drop_11 : decode cX5_drop 11 = .ok (.aload_n 0, 1) := by decide +kernel
theorem dX5_drop_12 : decode cX5_drop 12 = .ok (.aload_n 0, 1) := by decide +kernel
theorem dX5_drop_13 : decode cX5_drop 13 = .ok (.getfield 12, 3) := by decide +kernel
theorem dX5_drop_16 : decode cX5_drop 16 = .ok (.iload_n 1, 1) := by decide +kernel
theorem dX5_drop_17 : decode cX5_drop 17 = .ok (.invokevirtual 51, 3) := by decide +kernel
theorem dX5_drop_20 : decode cX5_drop 20 = .ok (.invokevirtual 45, 3) := by decide +kernel
theorem dX5_drop_23 : decode cX5_drop 23 = .ok (.ireturn, 1) := by decide +kernel
set_option maxRecDepth 20000 in
theorem ggX5_promise_X0_prepare : GoodIn wsX5_promise wsX0_prepare := goodIn_r _ [7, 8, 9, 10, 11, 6, 12, 13, 14, 15, 16, 17, 18, 19, 20, 21, 22, 23, 24, 25, 26, 27, 28, 29, 30, 31, 32, 33, 34, 35, 36, 37, 38, 39, 40, 41, 42, 43, 44, 45, 46, 113, 114, 115, 116, 117, 118, 119, 120, 121, 122, 123, 124, 125, 126, 127, 128, 129, 130, 131, 132] rfl (by decide +kernel)
set_option maxRecDepth 20000 in
theorem gX5_promise_X0_prepare : GoodIn wsX5_promise (wsV RX5 37 RX0 yX0_prepare wsX0_prepare) := goodIn_app (goodIn_of _ (by decide +kernel)) ggX5_promise_X0_prepare
set_option maxRecDepth 20000 in
theorem ggX5_promise_X1_changePromise : GoodIn wsX5_promise wsX1_changePromise := goodIn_r _ [50, 51, 25, 52, 53, 54, 55, 17, 56, 19, 57, 58, 59, 60, 61, 62, 63, 64, 31, 65, 66, 67, 68, 69, 70, 71, 72, 73, 74, 75, 76, 32, 77, 78, 79, 80, 33, 81, 82, 83, 40, 84, 42, 43, 21, 22, 23, 44, 45, 46, 85, 86, 87, 88, 115, 116, 117, 118, 119, 120, 121, 122, 123, 124, 125, 126, 127, 128, 129, 130, 131, 132] rfl (by decide +kernel)
set_option maxRecDepth 20000 in
theorem gX5_promise_X1_changePromise : GoodIn wsX5_promise (wsV RX5 54 RX1 yX1_changePromise wsX1_changePromise) := goodIn_app (goodIn_of _ (by decide +kernel)) ggX5_promise_X1_changePromise
set_option maxRecDepth 20000 in
theorem ggX5_promise_X5_settle : GoodIn wsX5_promise wsX5_settle := goodIn_r _ [93, 1, 94, 95, 92, 96, 97, 98, 99, 100, 101, 102, 103, 6, 104, 8, 105, 106, 107, 108, 13, 9, 10, 11, 12, 14, 15, 16, 17, 18, 19, 20, 21, 22, 23, 24, 25, 26, 27, 28, 29, 30, 31, 32, 33, 34, 35, 36, 37, 38, 39, 40, 41, 42, 43, 44, 45, 46, 109, 110, 111, 112, 113, 114, 115, 116, 117, 118, 119, 120, 121, 122, 123, 124, 125, 126, 127, 128, 129, 130, 131, 132] rfl (by decide +kernel)
set_option maxRecDepth 20000 in
theorem gX5_promise_X5_settle : GoodIn wsX5_promise (wsV RX5 45 RX5 yX5_settle wsX5_settle) := goodIn_app (goodIn_of _ (by decide +kernel)) ggX5_promise_X5_settle
theorem dX5_promise_0 : decode cX5_promise 0 = .ok (.aload_n 0, 1) := by decide +kernel
theorem dX5_promise_1 : decode cX5_promise 1 = .ok (.getfield 19, 3) := by decide +kernel
theorem dX5_promise_4 : decode cX5_promise 4 = .ok (.aload_n 0, 1) := by decide +kernel
theorem dX5_promise_5 : decode cX5_promise 5 = .ok (.getfield 12, 3) := by decide +kernel
theorem dX5_promise_8 : decode cX5_promise 8 = .ok (.invokevirtual 37, 3) := by decide +kernel
theorem dX5_promise_11 : decode cX5_promise 11 = .ok (.aload_n 0, 1) := by decide +kernel
theorem dX5_promise_12 : decode cX5_promise 12 = .ok (.aload_n 0, 1) := by decide +kernel
theorem dX5_promise_13 : decode cX5_promise 13 = .ok (.getfield 12, 3) := by decide +kernel
theorem dX5_promise_16 : decode cX5_promise 16 = .ok (.iload_n 1, 1) := by decide +kernel
theorem dX5_promise_17 : decode cX5_promise 17 = .ok (.iload_n 2, 1) := by decide +kernel
theorem dX5_promise_18 : decode cX5_promise 18 = .ok (.invokevirtual 54, 3) := by decide +kernel
theorem dX5_promise_21 : decode cX5_promise 21 = .ok (.invokevirtual 45, 3) := by decide +kernel
theorem dX5_promise_24 : decode cX5_promise 24 = .ok (.ireturn, 1) := by decide +kernel
set_option maxRecDepth 20000 in
theorem ggX5_set_X0_prepare : GoodIn wsX5_set wsX0_prepare := goodIn_r _ [7, 8, 9, 10, 11, 6, 12, 13, 14, 15, 16, 17, 18, 19, 20, 21, 22, 23, 24, 25, 26, 27, 28, 29, 30, 31, 32, 33, 34, 35, 36, 37, 38, 39, 40, 41, 42, 43, 44, 45, 46, 112, 113, 114, 115, 116, 117, 118, 119, 120, 121, 122, 123, 124, 125, 126, 127, 128, 129, 130, 131] rfl (by decide +kernel)
set_option maxRecDepth 20000 in
theorem gX5_set_X0_prepare : GoodIn wsX5_set (wsV RX5 37 RX0 yX0_prepare wsX0_prepare) := goodIn_app (goodIn_of _ (by decide +kernel)) ggX5_set_X0_prepare
set_option maxRecDepth 20000 in
theorem ggX5_set_X1_changeSetting : GoodIn wsX5_set wsX1_changeSetting := goodIn_r _ [50, 51, 32, 52, 53, 54, 17, 55, 56, 57, 58, 59, 60, 61, 62, 63, 64, 65, 66, 67, 31, 68, 69, 70, 71, 25, 72, 73, 74, 75, 76, 77, 78, 79, 33, 80, 81, 82, 40, 83, 42, 43, 21, 22, 23, 44, 45, 46, 84, 85, 86, 87, 114, 115, 116, 117, 118, 119, 120, 121, 122, 123, 124, 125, 126, 127, 128, 129, 130, 131] rfl (by decide +kernel)
set_option maxRecDepth 20000 in
theorem gX5_set_X1_changeSetting : GoodIn wsX5_set (wsV RX5 58 RX1 yX1_changeSetting wsX1_changeSetting) := goodIn_app (goodIn_of _ (by decide +kernel)) ggX5_set_X1_changeSetting
set_option maxRecDepth 20000 in
theorem ggX5_set_X5_settle : GoodIn wsX5_set wsX5_settle := goodIn_r _ [92, 1, 93, 94, 91, 95, 96, 97, 98, 99, 100, 101, 102, 6, 103, 8, 104, 105, 106, 107, 13, 9, 10, 11, 12, 14, 15, 16, 17, 18, 19, 20, 21, 22, 23, 24, 25, 26, 27, 28, 29, 30, 31, 32, 33, 34, 35, 36, 37, 38, 39, 40, 41, 42, 43, 44, 45, 46, 108, 109, 110, 111, 112, 113, 114, 115, 116, 117, 118, 119, 120, 121, 122, 123, 124, 125, 126, 127, 128, 129, 130, 131] rfl (by decide +kernel)
set_option maxRecDepth 20000 in
theorem gX5_set_X5_settle : GoodIn wsX5_set (wsV RX5 45 RX5 yX5_settle wsX5_settle) := goodIn_app (goodIn_of _ (by decide +kernel)) ggX5_set_X5_settle
theorem dX5_set_0 : decode cX5_set 0 = .ok (.aload_n 0, 1) := by decide +kernel
theorem dX5_set_1 : decode cX5_set 1 = .ok (.getfield 19, 3) := by decide +kernel
theorem dX5_set_4 : decode cX5_set 4 = .ok (.aload_n 0, 1) := by decide +kernel
theorem dX5_set_5 : decode cX5_set 5 = .ok (.getfield 12, 3) := by decide +kernel
theorem dX5_set_8 : decode cX5_set 8 = .ok (.invokevirtual 37, 3) := by decide +kernel
theorem dX5_set_11 : decode cX5_set 11 = .ok (.aload_n 0, 1) := by decide +kernel
theorem dX5_set_12 : decode cX5_set 12 = .ok (.aload_n 0, 1) := by decide +kernel
theorem dX5_set_13 : decode cX5_set 13 = .ok (.getfield 12, 3) := by decide +kernel
theorem dX5_set_16 : decode cX5_set 16 = .ok (.iload_n 1, 1) := by decide +kernel
theorem dX5_set_17 : decode cX5_set 17 = .ok (.iload_n 2, 1) := by decide +kernel
theorem dX5_set_18 : decode cX5_set 18 = .ok (.invokevirtual 58, 3) := by decide +kernel
theorem dX5_set_21 : decode cX5_set 21 = .ok (.invokevirtual 45, 3) := by decide +kernel
theorem dX5_set_24 : decode cX5_set 24 = .ok (.ireturn, 1) := by decide +kernel
set_option maxRecDepth 20000 in
theorem ggX5_write_X0_prepare : GoodIn wsX5_write wsX0_prepare := goodIn_r _ [7, 8, 9, 10, 11, 6, 12, 13, 14, 15, 16, 17, 18, 19, 20, 21, 22, 23, 24, 25, 26, 27, 28, 29, 30, 31, 32, 33, 34, 35, 36, 37, 38, 39, 40, 41, 42, 43, 44, 45, 46, 156, 157, 158, 159, 160, 161, 162, 163, 164, 165, 166, 167, 168, 169, 170, 171, 172, 173, 174, 175] rfl (by decide +kernel)
set_option maxRecDepth 20000 in
theorem gX5_write_X0_prepare : GoodIn wsX5_write (wsV RX5 37 RX0 yX0_prepare wsX0_prepare) := goodIn_app (goodIn_of _ (by decide +kernel)) ggX5_write_X0_prepare
set_option maxRecDepth 20000 in
theorem ggX5_write_X1_writePlace : GoodIn wsX5_write wsX1_writePlace := goodIn_r _ [50, 51, 31, 30, 25, 24, 52, 29, 53, 54, 55, 17, 56, 19, 57, 58, 59, 60, 61, 62, 63, 64, 65, 66, 67, 68, 69, 70, 71, 72, 73, 74, 75, 76, 77, 78, 79, 80, 81, 82, 83, 84, 85, 86, 87, 88, 32, 89, 90, 91, 92, 93, 94, 95, 96, 97, 98, 99, 100, 101, 102, 103, 104, 27, 34, 33, 105, 106, 107, 40, 108, 42, 43, 21, 22, 23, 44, 45, 46, 109, 110, 111, 112, 113, 114, 115, 116, 117, 118, 119, 36, 120, 121, 122, 123, 28, 35, 124, 125, 126, 127, 128, 129, 130, 131, 158, 159, 160, 161, 162, 163, 164, 165, 166, 167, 168, 169, 170, 171, 172, 173, 174, 175] rfl (by decide +kernel)
set_option maxRecDepth 20000 in
theorem gX5_write_X1_writePlace : GoodIn wsX5_write (wsV RX5 61 RX1 yX1_writePlace wsX1_writePlace) := goodIn_app (goodIn_of _ (by decide +kernel)) ggX5_write_X1_writePlace
set_option maxRecDepth 20000 in
theorem ggX5_write_X5_settle : GoodIn wsX5_write wsX5_settle := goodIn_r _ [136, 1, 137, 138, 135, 139, 140, 141, 142, 143, 144, 145, 146, 6, 147, 8, 148, 149, 150, 151, 13, 9, 10, 11, 12, 14, 15, 16, 17, 18, 19, 20, 21, 22, 23, 24, 25, 26, 27, 28, 29, 30, 31, 32, 33, 34, 35, 36, 37, 38, 39, 40, 41, 42, 43, 44, 45, 46, 152, 153, 154, 155, 156, 157, 158, 159, 160, 161, 162, 163, 164, 165, 166, 167, 168, 169, 170, 171, 172, 173, 174, 175] rfl (by decide +kernel)
set_option maxRecDepth 20000 in
theorem gX5_write_X5_settle : GoodIn wsX5_write (wsV RX5 45 RX5 yX5_settle wsX5_settle) := goodIn_app (goodIn_of _ (by decide +kernel)) ggX5_write_X5_settle
theorem dX5_write_0 : decode cX5_write 0 = .ok (.aload_n 0, 1) := by decide +kernel
theorem dX5_write_1 : decode cX5_write 1 = .ok (.getfield 19, 3) := by decide +kernel
theorem dX5_write_4 : decode cX5_write 4 = .ok (.aload_n 0, 1) := by decide +kernel
theorem dX5_write_5 : decode cX5_write 5 = .ok (.getfield 12, 3) := by decide +kernel
theorem dX5_write_8 : decode cX5_write 8 = .ok (.invokevirtual 37, 3) := by decide +kernel
theorem dX5_write_11 : decode cX5_write 11 = .ok (.aload_n 0, 1) := by decide +kernel
theorem dX5_write_12 : decode cX5_write 12 = .ok (.aload_n 0, 1) := by decide +kernel
theorem dX5_write_13 : decode cX5_write 13 = .ok (.getfield 12, 3) := by decide +kernel
theorem dX5_write_16 : decode cX5_write 16 = .ok (.iload_n 1, 1) := by decide +kernel
theorem dX5_write_17 : decode cX5_write 17 = .ok (.iload_n 2, 1) := by decide +kernel
theorem dX5_write_18 : decode cX5_write 18 = .ok (.iload_n 3, 1) := by decide +kernel
theorem dX5_write_19 : decode cX5_write 19 = .ok (.invokevirtual 61, 3) := by decide +kernel
theorem dX5_write_22 : decode cX5_write 22 = .ok (.invokevirtual 45, 3) := by decide +kernel
theorem dX5_write_25 : decode cX5_write 25 = .ok (.ireturn, 1) := by decide +kernel
set_option maxRecDepth 20000 in
theorem ggX5_trim_X0_prepare : GoodIn wsX5_trim wsX0_prepare := goodIn_r _ [7, 8, 9, 10, 11, 6, 12, 13, 14, 15, 16, 17, 18, 19, 20, 21, 22, 23, 24, 25, 26, 27, 28, 29, 30, 31, 32, 33, 34, 35, 36, 37, 38, 39, 40, 41, 42, 43, 44, 45, 46, 105, 106, 107, 108, 109, 110, 111, 112, 113, 114, 115, 116, 117, 118, 119, 120, 121, 122, 123, 124] rfl (by decide +kernel)
set_option maxRecDepth 20000 in
theorem gX5_trim_X0_prepare : GoodIn wsX5_trim (wsV RX5 37 RX0 yX0_prepare wsX0_prepare) := goodIn_app (goodIn_of _ (by decide +kernel)) ggX5_trim_X0_prepare
set_option maxRecDepth 20000 in
theorem ggX5_trim_X1_trimPlace : GoodIn wsX5_trim wsX1_trimPlace := goodIn_r _ [50, 51, 52, 53, 54, 55, 17, 56, 19, 57, 58, 59, 60, 61, 62, 63, 64, 29, 65, 66, 67, 68, 31, 36, 69, 70, 71, 72, 73, 74, 75, 76, 24, 77, 78, 79, 80, 107, 108, 109, 110, 111, 112, 113, 114, 115, 116, 117, 118, 119, 120] rfl (by decide +kernel)
set_option maxRecDepth 20000 in
theorem gX5_trim_X1_trimPlace : GoodIn wsX5_trim (wsV RX5 65 RX1 yX1_trimPlace wsX1_trimPlace) := goodIn_app (goodIn_of _ (by decide +kernel)) ggX5_trim_X1_trimPlace
set_option maxRecDepth 20000 in
theorem ggX5_trim_X5_settle : GoodIn wsX5_trim wsX5_settle := goodIn_r _ [85, 1, 86, 87, 84, 88, 89, 90, 91, 92, 93, 94, 95, 6, 96, 8, 97, 98, 99, 100, 13, 9, 10, 11, 12, 14, 15, 16, 17, 18, 19, 20, 21, 22, 23, 24, 25, 26, 27, 28, 29, 30, 31, 32, 33, 34, 35, 36, 37, 38, 39, 40, 41, 42, 43, 44, 45, 46, 101, 102, 103, 104, 105, 106, 107, 108, 109, 110, 111, 112, 113, 114, 115, 116, 117, 118, 119, 120, 121, 122, 123, 124] rfl (by decide +kernel)
set_option maxRecDepth 20000 in
theorem gX5_trim_X5_settle : GoodIn wsX5_trim (wsV RX5 45 RX5 yX5_settle wsX5_settle) := goodIn_app (goodIn_of _ (by decide +kernel)) ggX5_trim_X5_settle
theorem dX5_trim_0 : decode cX5_trim 0 = .ok (.aload_n 0, 1) := by decide +kernel
theorem dX5_trim_1 : decode cX5_trim 1 = .ok (.getfield 19, 3) := by decide +kernel
theorem dX5_trim_4 : decode cX5_trim 4 = .ok (.aload_n 0, 1) := by decide +kernel
theorem dX5_trim_5 : decode cX5_trim 5 = .ok (.getfield 12, 3) := by decide +kernel
theorem dX5_trim_8 : decode cX5_trim 8 = .ok (.invokevirtual 37, 3) := by decide +kernel
theorem dX5_trim_11 : decode cX5_trim 11 = .ok (.aload_n 0, 1) := by decide +kernel
theorem dX5_trim_12 : decode cX5_trim 12 = .ok (.aload_n 0, 1) := by decide +kernel
theorem dX5_trim_13 : decode cX5_trim 13 = .ok (.getfield 12, 3) := by decide +kernel
theorem dX5_trim_16 : decode cX5_trim 16 = .ok (.iload_n 1, 1) := by decide +kernel
theorem dX5_trim_17 : decode cX5_trim 17 = .ok (.iload_n 2, 1) := by decide +kernel
theorem dX5_trim_18 : decode cX5_trim 18 = .ok (.invokevirtual 65, 3) := by decide +kernel
theorem dX5_trim_21 : decode cX5_trim 21 = .ok (.invokevirtual 45, 3) := by decide +kernel
theorem dX5_trim_24 : decode cX5_trim 24 = .ok (.ireturn, 1) := by decide +kernel
set_option maxRecDepth 20000 in
theorem ggX5_sweep_X0_prepare : GoodIn wsX5_sweep wsX0_prepare := goodIn_r _ [7, 8, 9, 10, 11, 6, 12, 13, 14, 15, 16, 17, 18, 19, 20, 21, 22, 23, 24, 25, 26, 27, 28, 29, 30, 31, 32, 33, 34, 35, 36, 37, 38, 39, 40, 41, 42, 43, 44, 45, 46, 104, 105, 106, 107, 108, 109, 110, 111, 112, 113, 114, 115, 116, 117, 118, 119, 120, 121, 122, 123] rfl (by decide +kernel)
set_option maxRecDepth 20000 in
theorem gX5_sweep_X0_prepare : GoodIn wsX5_sweep (wsV RX5 37 RX0 yX0_prepare wsX0_prepare) := goodIn_app (goodIn_of _ (by decide +kernel)) ggX5_sweep_X0_prepare
set_option maxRecDepth 20000 in
theorem ggX5_sweep_X1_sweepVolume : GoodIn wsX5_sweep wsX1_sweepVolume := goodIn_r _ [50, 51, 30, 52, 53, 54, 17, 55, 19, 56, 57, 58, 59, 29, 60, 61, 62, 63, 64, 65, 66, 67, 68, 69, 70, 71, 31, 36, 72, 73, 74, 75, 24, 76, 77, 78, 79, 106, 107, 108, 109, 110, 111, 112, 113, 114, 115, 116, 117, 118, 119] rfl (by decide +kernel)
set_option maxRecDepth 20000 in
theorem gX5_sweep_X1_sweepVolume : GoodIn wsX5_sweep (wsV RX5 68 RX1 yX1_sweepVolume wsX1_sweepVolume) := goodIn_app (goodIn_of _ (by decide +kernel)) ggX5_sweep_X1_sweepVolume
set_option maxRecDepth 20000 in
theorem ggX5_sweep_X5_settle : GoodIn wsX5_sweep wsX5_settle := goodIn_r _ [84, 1, 85, 86, 83, 87, 88, 89, 90, 91, 92, 93, 94, 6, 95, 8, 96, 97, 98, 99, 13, 9, 10, 11, 12, 14, 15, 16, 17, 18, 19, 20, 21, 22, 23, 24, 25, 26, 27, 28, 29, 30, 31, 32, 33, 34, 35, 36, 37, 38, 39, 40, 41, 42, 43, 44, 45, 46, 100, 101, 102, 103, 104, 105, 106, 107, 108, 109, 110, 111, 112, 113, 114, 115, 116, 117, 118, 119, 120, 121, 122, 123] rfl (by decide +kernel)
set_option maxRecDepth 20000 in
theorem gX5_sweep_X5_settle : GoodIn wsX5_sweep (wsV RX5 45 RX5 yX5_settle wsX5_settle) := goodIn_app (goodIn_of _ (by decide +kernel)) ggX5_sweep_X5_settle
theorem dX5_sweep_0 : decode cX5_sweep 0 = .ok (.aload_n 0, 1) := by decide +kernel
theorem dX5_sweep_1 : decode cX5_sweep 1 = .ok (.getfield 19, 3) := by decide +kernel
theorem dX5_sweep_4 : decode cX5_sweep 4 = .ok (.aload_n 0, 1) := by decide +kernel
theorem dX5_sweep_5 : decode cX5_sweep 5 = .ok (.getfield 12, 3) := by decide +kernel
theorem dX5_sweep_8 : decode cX5_sweep 8 = .ok (.invokevirtual 37, 3) := by decide +kernel
theorem dX5_sweep_11 : decode cX5_sweep 11 = .ok (.aload_n 0, 1) := by decide +kernel
theorem dX5_sweep_12 : decode cX5_sweep 12 = .ok (.aload_n 0, 1) := by decide +kernel
theorem dX5_sweep_13 : decode cX5_sweep 13 = .ok (.getfield 12, 3) := by decide +kernel
theorem dX5_sweep_16 : decode cX5_sweep 16 = .ok (.iload_n 1, 1) := by decide +kernel
theorem dX5_sweep_17 : decode cX5_sweep 17 = .ok (.invokevirtual 68, 3) := by decide +kernel
theorem dX5_sweep_20 : decode cX5_sweep 20 = .ok (.invokevirtual 45, 3) := by decide +kernel
theorem dX5_sweep_23 : decode cX5_sweep 23 = .ok (.ireturn, 1) := by decide +kernel
set_option maxRecDepth 20000 in
theorem ggX5_merge_X0_prepare : GoodIn wsX5_merge wsX0_prepare := goodIn_r _ [7, 8, 9, 10, 11, 6, 12, 13, 14, 15, 16, 17, 18, 19, 20, 21, 22, 23, 24, 25, 26, 27, 28, 29, 30, 31, 32, 33, 34, 35, 36, 37, 38, 39, 40, 41, 42, 43, 44, 45, 46, 79, 80, 81, 82, 83, 84, 85, 86, 87, 88, 89, 90, 91, 92, 93, 94, 95, 96, 97, 98] rfl (by decide +kernel)
set_option maxRecDepth 20000 in
theorem gX5_merge_X0_prepare : GoodIn wsX5_merge (wsV RX5 37 RX0 yX0_prepare wsX0_prepare) := goodIn_app (goodIn_of _ (by decide +kernel)) ggX5_merge_X0_prepare
set_option maxRecDepth 20000 in
theorem ggX5_merge_X1_mergePieces : GoodIn wsX5_merge wsX1_mergePieces := goodIn_r _ [50, 31, 30, 36, 51, 52, 53, 17, 54, 29, 81, 82, 83, 84, 85, 86, 87, 88, 89, 90, 91, 92, 93, 94] rfl (by decide +kernel)
set_option maxRecDepth 20000 in
theorem gX5_merge_X1_mergePieces : GoodIn wsX5_merge (wsV RX5 71 RX1 yX1_mergePieces wsX1_mergePieces) := goodIn_app (goodIn_of _ (by decide +kernel)) ggX5_merge_X1_mergePieces
set_option maxRecDepth 20000 in
theorem ggX5_merge_X5_settle : GoodIn wsX5_merge wsX5_settle := goodIn_r _ [59, 1, 60, 61, 58, 62, 63, 64, 65, 66, 67, 68, 69, 6, 70, 8, 71, 72, 73, 74, 13, 9, 10, 11, 12, 14, 15, 16, 17, 18, 19, 20, 21, 22, 23, 24, 25, 26, 27, 28, 29, 30, 31, 32, 33, 34, 35, 36, 37, 38, 39, 40, 41, 42, 43, 44, 45, 46, 75, 76, 77, 78, 79, 80, 81, 82, 83, 84, 85, 86, 87, 88, 89, 90, 91, 92, 93, 94, 95, 96, 97, 98] rfl (by decide +kernel)
set_option maxRecDepth 20000 in
theorem gX5_merge_X5_settle : GoodIn wsX5_merge (wsV RX5 45 RX5 yX5_settle wsX5_settle) := goodIn_app (goodIn_of _ (by decide +kernel)) ggX5_merge_X5_settle
theorem dX5_merge_0 : decode cX5_merge 0 = .ok (.aload_n 0, 1) := by decide +kernel
theorem dX5_merge_1 : decode cX5_merge 1 = .ok (.getfield 19, 3) := by decide +kernel
theorem dX5_merge_4 : decode cX5_merge 4 = .ok (.aload_n 0, 1) := by decide +kernel
theorem dX5_merge_5 : decode cX5_merge 5 = .ok (.getfield 12, 3) := by decide +kernel
theorem dX5_merge_8 : decode cX5_merge 8 = .ok (.invokevirtual 37, 3) := by decide +kernel
theorem dX5_merge_11 : decode cX5_merge 11 = .ok (.aload_n 0, 1) := by decide +kernel
theorem dX5_merge_12 : decode cX5_merge 12 = .ok (.aload_n 0, 1) := by decide +kernel
theorem dX5_merge_13 : decode cX5_merge 13 = .ok (.getfield 12, 3) := by decide +kernel
theorem dX5_merge_16 : decode cX5_merge 16 = .ok (.invokevirtual 71, 3) := by decide +kernel
theorem dX5_merge_19 : decode cX5_merge 19 = .ok (.invokevirtual 45, 3) := by decide +kernel
theorem dX5_merge_22 : decode cX5_merge 22 = .ok (.ireturn, 1) := by decide +kernel
set_option maxRecDepth 20000 in
theorem ggX5_read_X1_hasPlace : GoodIn wsX5_read wsX1_hasPlace := goodIn_r _ [8, 9, 10, 11, 12, 7, 13, 33, 34, 35, 36, 37, 38, 39, 40, 41, 42, 43, 44, 45, 46] rfl (by decide +kernel)
set_option maxRecDepth 20000 in
theorem gX5_read_X1_hasPlace : GoodIn wsX5_read (wsV RX5 75 RX1 yX1_hasPlace wsX1_hasPlace) := goodIn_app (goodIn_of _ (by decide +kernel)) ggX5_read_X1_hasPlace
set_option maxRecDepth 20000 in
theorem ggX5_read_X1_pieceAt : GoodIn wsX5_read wsX1_pieceAt := goodIn_r _ [17, 18, 19, 5, 6, 7, 8, 9, 10, 11, 12, 13, 33, 34, 35, 36, 37, 38, 39, 40, 41, 42, 43, 44, 45, 46] rfl (by decide +kernel)
set_option maxRecDepth 20000 in
theorem gX5_read_X1_pieceAt : GoodIn wsX5_read (wsV RX5 80 RX1 yX1_pieceAt wsX1_pieceAt) := goodIn_app (goodIn_of _ (by decide +kernel)) ggX5_read_X1_pieceAt
set_option maxRecDepth 20000 in
theorem ggX5_read_X1_valueOf : GoodIn wsX5_read wsX1_valueOf := goodIn_r _ [23, 24, 25, 26, 27, 7, 28, 33, 34, 35, 36, 37, 38, 39, 40, 41, 42, 43, 44, 45, 46] rfl (by decide +kernel)
set_option maxRecDepth 20000 in
theorem gX5_read_X1_valueOf : GoodIn wsX5_read (wsV RX5 83 RX1 yX1_valueOf wsX1_valueOf) := goodIn_app (goodIn_of _ (by decide +kernel)) ggX5_read_X1_valueOf
theorem dX5_read_0 : decode cX5_read 0 = .ok (.aload_n 0, 1) := by decide +kernel
theorem dX5_read_1 : decode cX5_read 1 = .ok (.getfield 12, 3) := by decide +kernel
theorem dX5_read_4 : decode cX5_read 4 = .ok (.iload_n 1, 1) := by decide +kernel
theorem dX5_read_5 : decode cX5_read 5 = .ok (.iload_n 2, 1) := by decide +kernel
theorem dX5_read_6 : decode cX5_read 6 = .ok (.invokevirtual 75, 3) := by decide +kernel
theorem dX5_read_9 : decode cX5_read 9 = .ok (.ifCond .eq 12, 3) := by decide +kernel
theorem dX5_read_12 : decode cX5_read 12 = .ok (.iload_n 3, 1) := by decide +kernel
theorem dX5_read_13 : decode cX5_read 13 = .ok (.ifCond .lt 8, 3) := by decide +kernel
theorem dX5_read_16 : decode cX5_read 16 = .ok (.iload_n 3, 1) := by decide +kernel
theorem dX5_read_17 : decode cX5_read 17 = .ok (.iconst 1, 1) := by decide +kernel
theorem dX5_read_18 : decode cX5_read 18 = .ok (.if_icmp .le 6, 3) := by decide +kernel
theorem dX5_read_21 : decode cX5_read 21 = .ok (.ldc 79, 2) := by decide +kernel
theorem dX5_read_23 : decode cX5_read 23 = .ok (.ireturn, 1) := by decide +kernel
theorem dX5_read_24 : decode cX5_read 24 = .ok (.aload_n 0, 1) := by decide +kernel
theorem dX5_read_25 : decode cX5_read 25 = .ok (.getfield 12, 3) := by decide +kernel
theorem dX5_read_28 : decode cX5_read 28 = .ok (.iload_n 1, 1) := by decide +kernel
theorem dX5_read_29 : decode cX5_read 29 = .ok (.iload_n 2, 1) := by decide +kernel
theorem dX5_read_30 : decode cX5_read 30 = .ok (.invokevirtual 80, 3) := by decide +kernel
theorem dX5_read_33 : decode cX5_read 33 = .ok (.istore 4, 2) := by decide +kernel
theorem dX5_read_35 : decode cX5_read 35 = .ok (.iload_n 3, 1) := by decide +kernel
theorem dX5_read_36 : decode cX5_read 36 = .ok (.ifCond .ne 13, 3) := by decide +kernel
theorem dX5_read_39 : decode cX5_read 39 = .ok (.aload_n 0, 1) := by decide +kernel
theorem dX5_read_40 : decode cX5_read 40 = .ok (.getfield 12, 3) := by decide +kernel
theorem dX5_read_43 : decode cX5_read 43 = .ok (.iload 4, 2) := by decide +kernel
theorem dX5_read_45 : decode cX5_read 45 = .ok (.invokevirtual 83, 3) := by decide +kernel
theorem dX5_read_48 : decode cX5_read 48 = .ok (.ireturn, 1) := by decide +kernel
theorem dX5_read_49 : decode cX5_read 49 = .ok (.iload 4, 2) := by decide +kernel
theorem dX5_read_51 : decode cX5_read 51 = .ok (.iconst (-1), 1) := by decide +kernel
theorem dX5_read_52 : decode cX5_read 52 = .ok (.if_icmp .ne 8, 3) := by decide +kernel
theorem dX5_read_55 : decode cX5_read 55 = .ok (.ldc 86, 2) := by decide +kernel
theorem dX5_read_57 : decode cX5_read 57 = .ok (.goto 5, 3) := by decide +kernel
theorem dX5_read_60 : decode cX5_read 60 = .ok (.iload 4, 2) := by decide +kernel
theorem dX5_read_62 : decode cX5_read 62 = .ok (.ireturn, 1) := by decide +kernel
set_option maxRecDepth 20000 in
theorem ggX5_volumeOf_X1_lives : GoodIn wsX5_volumeOf wsX1_lives := goodIn_r _ [14, 15, 53, 54, 55, 56, 57, 58, 59, 60, 61, 62, 63, 64, 65, 66] rfl (by decide +kernel)
set_option maxRecDepth 20000 in
theorem gX5_volumeOf_X1_lives : GoodIn wsX5_volumeOf (wsV RX5 87 RX1 yX1_lives wsX1_lives) := goodIn_app (goodIn_of _ (by decide +kernel)) ggX5_volumeOf_X1_lives
set_option maxRecDepth 20000 in
theorem ggX5_volumeOf_X1_placesWithPieces : GoodIn wsX5_volumeOf wsX1_placesWithPieces := goodIn_r _ [19, 20, 21, 22, 13, 23, 24, 25, 26, 27, 28, 15, 29, 11, 12, 14, 53, 54, 55, 56, 57, 58, 59, 60, 61, 62, 63, 64, 65, 66] rfl (by decide +kernel)
set_option maxRecDepth 20000 in
theorem gX5_volumeOf_X1_placesWithPieces : GoodIn wsX5_volumeOf (wsV RX5 95 RX1 yX1_placesWithPieces wsX1_placesWithPieces) := goodIn_app (goodIn_of _ (by decide +kernel)) ggX5_volumeOf_X1_placesWithPieces
set_option maxRecDepth 20000 in
theorem ggX5_volumeOf_X1_piecesOwnedOnlyBy : GoodIn wsX5_volumeOf wsX1_piecesOwnedOnlyBy := goodIn_r _ [33, 34, 35, 36, 37, 13, 38, 20, 21, 22, 23, 24, 25, 26, 27, 28, 15, 29, 11, 12, 14, 53, 54, 55, 56, 57, 58, 59, 60, 61, 62, 63, 64, 65, 66] rfl (by decide +kernel)
set_option maxRecDepth 20000 in
theorem gX5_volumeOf_X1_piecesOwnedOnlyBy : GoodIn wsX5_volumeOf (wsV RX5 98 RX1 yX1_piecesOwnedOnlyBy wsX1_piecesOwnedOnlyBy) := goodIn_app (goodIn_of _ (by decide +kernel)) ggX5_volumeOf_X1_piecesOwnedOnlyBy
set_option maxRecDepth 20000 in
theorem ggX5_volumeOf_X1_clonesOf : GoodIn wsX5_volumeOf wsX1_clonesOf := goodIn_r _ [42, 43, 29, 11, 12, 13, 14, 15, 53, 54, 55, 56, 57, 58, 59, 60, 61, 62, 63, 64, 65, 66] rfl (by decide +kernel)
set_option maxRecDepth 20000 in
theorem gX5_volumeOf_X1_clonesOf : GoodIn wsX5_volumeOf (wsV RX5 110 RX1 yX1_clonesOf wsX1_clonesOf) := goodIn_app (goodIn_of _ (by decide +kernel)) ggX5_volumeOf_X1_clonesOf
set_option maxRecDepth 20000 in
theorem ggX5_volumeOf_X1_rankWith : GoodIn wsX5_volumeOf wsX1_rankWith := goodIn_r _ [47, 48, 29, 11, 12, 13, 14, 15, 53, 54, 55, 56, 57, 58, 59, 60, 61, 62, 63, 64, 65, 66] rfl (by decide +kernel)
set_option maxRecDepth 20000 in
theorem gX5_volumeOf_X1_rankWith : GoodIn wsX5_volumeOf (wsV RX5 113 RX1 yX1_rankWith wsX1_rankWith) := goodIn_app (goodIn_of _ (by decide +kernel)) ggX5_volumeOf_X1_rankWith
theorem dX5_volumeOf_0 : decode cX5_volumeOf 0 = .ok (.aload_n 0, 1) := by decide +kernel
theorem dX5_volumeOf_1 : decode cX5_volumeOf 1 = .ok (.getfield 12, 3) := by decide +kernel
theorem dX5_volumeOf_4 : decode cX5_volumeOf 4 = .ok (.iload_n 1, 1) := by decide +kernel
theorem dX5_volumeOf_5 : decode cX5_volumeOf 5 = .ok (.invokevirtual 87, 3) := by decide +kernel
theorem dX5_volumeOf_8 : decode cX5_volumeOf 8 = .ok (.ifCond .ne 6, 3) := by decide +kernel
theorem dX5_volumeOf_11 : decode cX5_volumeOf 11 = .ok (.ldc 79, 2) := by decide +kernel
theorem dX5_volumeOf_13 : decode cX5_volumeOf 13 = .ok (.ireturn, 1) := by decide +kernel
theorem dX5_volumeOf_14 : decode cX5_volumeOf 14 = .ok (.iload_n 2, 1) := by decide +kernel
theorem dX5_volumeOf_15 : decode cX5_volumeOf 15 = .ok (.tableswitch 178 0 9 #[53, 63, 72, 83, 93, 103, 131, 140, 158, 168], 53) := by decide +kernel
theorem dX5_volumeOf_68 : decode cX5_volumeOf 68 = .ok (.aload_n 0, 1) := by decide +kernel
theorem dX5_volumeOf_69 : decode cX5_volumeOf 69 = .ok (.getfield 12, 3) := by decide +kernel
theorem dX5_volumeOf_72 : decode cX5_volumeOf 72 = .ok (.getfield 91, 3) := by decide +kernel
theorem dX5_volumeOf_75 : decode cX5_volumeOf 75 = .ok (.iload_n 1, 1) := by decide +kernel
theorem dX5_volumeOf_76 : decode cX5_volumeOf 76 = .ok (.iaload, 1) := by decide +kernel
theorem dX5_volumeOf_77 : decode cX5_volumeOf 77 = .ok (.ireturn, 1) := by decide +kernel
theorem dX5_volumeOf_78 : decode cX5_volumeOf 78 = .ok (.aload_n 0, 1) := by decide +kernel
theorem dX5_volumeOf_79 : decode cX5_volumeOf 79 = .ok (.getfield 12, 3) := by decide +kernel
theorem dX5_volumeOf_82 : decode cX5_volumeOf 82 = .ok (.iload_n 1, 1) := by decide +kernel
theorem dX5_volumeOf_83 : decode cX5_volumeOf 83 = .ok (.invokevirtual 95, 3) := by decide +kernel
theorem dX5_volumeOf_86 : decode cX5_volumeOf 86 = .ok (.ireturn, 1) := by decide +kernel
theorem dX5_volumeOf_87 : decode cX5_volumeOf 87 = .ok (.aload_n 0, 1) := by decide +kernel
theorem dX5_volumeOf_88 : decode cX5_volumeOf 88 = .ok (.getfield 12, 3) := by decide +kernel
theorem dX5_volumeOf_91 : decode cX5_volumeOf 91 = .ok (.iconst 1, 1) := by decide +kernel
theorem dX5_volumeOf_92 : decode cX5_volumeOf 92 = .ok (.iload_n 1, 1) := by decide +kernel
theorem dX5_volumeOf_93 : decode cX5_volumeOf 93 = .ok (.ishl, 1) := by decide +kernel
theorem dX5_volumeOf_94 : decode cX5_volumeOf 94 = .ok (.invokevirtual 98, 3) := by decide +kernel
theorem dX5_volumeOf_97 : decode cX5_volumeOf 97 = .ok (.ireturn, 1) := by decide +kernel
theorem dX5_volumeOf_98 : decode cX5_volumeOf 98 = .ok (.aload_n 0, 1) := by decide +kernel
theorem dX5_volumeOf_99 : decode cX5_volumeOf 99 = .ok (.getfield 12, 3) := by decide +kernel
theorem dX5_volumeOf_102 : decode cX5_volumeOf 102 = .ok (.getfield 101, 3) := by decide +kernel
theorem dX5_volumeOf_105 : decode cX5_volumeOf 105 = .ok (.iload_n 1, 1) := by decide +kernel
theorem dX5_volumeOf_106 : decode cX5_volumeOf 106 = .ok (.iaload, 1) := by decide +kernel
theorem dX5_volumeOf_107 : decode cX5_volumeOf 107 = .ok (.ireturn, 1) := by decide +kernel
theorem dX5_volumeOf_108 : decode cX5_volumeOf 108 = .ok (.aload_n 0, 1) := by decide +kernel
theorem dX5_volumeOf_109 : decode cX5_volumeOf 109 = .ok (.getfield 12, 3) := by decide +kernel
theorem dX5_volumeOf_112 : decode cX5_volumeOf 112 = .ok (.getfield 104, 3) := by decide +kernel
theorem dX5_volumeOf_115 : decode cX5_volumeOf 115 = .ok (.iload_n 1, 1) := by decide +kernel
theorem dX5_volumeOf_116 : decode cX5_volumeOf 116 = .ok (.iaload, 1) := by decide +kernel
theorem dX5_volumeOf_117 : decode cX5_volumeOf 117 = .ok (.ireturn, 1) := by decide +kernel
theorem dX5_volumeOf_118 : decode cX5_volumeOf 118 = .ok (.aload_n 0, 1) := by decide +kernel
theorem dX5_volumeOf_119 : decode cX5_volumeOf 119 = .ok (.getfield 12, 3) := by decide +kernel
theorem dX5_volumeOf_122 : decode cX5_volumeOf 122 = .ok (.getfield 107, 3) := by decide +kernel
theorem dX5_volumeOf_125 : decode cX5_volumeOf 125 = .ok (.iload_n 1, 1) := by decide +kernel
theorem dX5_volumeOf_126 : decode cX5_volumeOf 126 = .ok (.iaload, 1) := by decide +kernel
theorem dX5_volumeOf_127 : decode cX5_volumeOf 127 = .ok (.iconst (-1), 1) := by decide +kernel
theorem dX5_volumeOf_128 : decode cX5_volumeOf 128 = .ok (.if_icmp .ne 8, 3) := by decide +kernel
theorem dX5_volumeOf_131 : decode cX5_volumeOf 131 = .ok (.ldc 86, 2) := by decide +kernel
theorem dX5_volumeOf_133 : decode cX5_volumeOf 133 = .ok (.goto 12, 3) := by decide +kernel
theorem dX5_volumeOf_136 : decode cX5_volumeOf 136 = .ok (.aload_n 0, 1) := by decide +kernel
theorem dX5_volumeOf_137 : decode cX5_volumeOf 137 = .ok (.getfield 12, 3) := by decide +kernel
theorem dX5_volumeOf_140 : decode cX5_volumeOf 140 = .ok (.getfield 107, 3) := by decide +kernel
theorem dX5_volumeOf_143 : decode cX5_volumeOf 143 = .ok (.iload_n 1, 1) := by decide +kernel
theorem dX5_volumeOf_144 : decode cX5_volumeOf 144 = .ok (.iaload, 1) := by decide +kernel
theorem dX5_volumeOf_145 : decode cX5_volumeOf 145 = .ok (.ireturn, 1) := by decide +kernel
theorem dX5_volumeOf_146 : decode cX5_volumeOf 146 = .ok (.aload_n 0, 1) := by decide +kernel
theorem dX5_volumeOf_147 : decode cX5_volumeOf 147 = .ok (.getfield 12, 3) := by decide +kernel
theorem dX5_volumeOf_150 : decode cX5_volumeOf 150 = .ok (.iload_n 1, 1) := by decide +kernel
theorem dX5_volumeOf_151 : decode cX5_volumeOf 151 = .ok (.invokevirtual 110, 3) := by decide +kernel
theorem dX5_volumeOf_154 : decode cX5_volumeOf 154 = .ok (.ireturn, 1) := by decide +kernel
theorem dX5_volumeOf_155 : decode cX5_volumeOf 155 = .ok (.aload_n 0, 1) := by decide +kernel
theorem dX5_volumeOf_156 : decode cX5_volumeOf 156 = .ok (.getfield 12, 3) := by decide +kernel
theorem dX5_volumeOf_159 : decode cX5_volumeOf 159 = .ok (.iload_n 1, 1) := by decide +kernel
theorem dX5_volumeOf_160 : decode cX5_volumeOf 160 = .ok (.aload_n 0, 1) := by decide +kernel
theorem dX5_volumeOf_161 : decode cX5_volumeOf 161 = .ok (.getfield 12, 3) := by decide +kernel
theorem dX5_volumeOf_164 : decode cX5_volumeOf 164 = .ok (.getfield 101, 3) := by decide +kernel
theorem dX5_volumeOf_167 : decode cX5_volumeOf 167 = .ok (.iload_n 1, 1) := by decide +kernel
theorem dX5_volumeOf_168 : decode cX5_volumeOf 168 = .ok (.iaload, 1) := by decide +kernel
theorem dX5_volumeOf_169 : decode cX5_volumeOf 169 = .ok (.invokevirtual 113, 3) := by decide +kernel
theorem dX5_volumeOf_172 : decode cX5_volumeOf 172 = .ok (.ireturn, 1) := by decide +kernel
theorem dX5_volumeOf_173 : decode cX5_volumeOf 173 = .ok (.aload_n 0, 1) := by decide +kernel
theorem dX5_volumeOf_174 : decode cX5_volumeOf 174 = .ok (.getfield 12, 3) := by decide +kernel
theorem dX5_volumeOf_177 : decode cX5_volumeOf 177 = .ok (.getfield 116, 3) := by decide +kernel
theorem dX5_volumeOf_180 : decode cX5_volumeOf 180 = .ok (.iload_n 1, 1) := by decide +kernel
theorem dX5_volumeOf_181 : decode cX5_volumeOf 181 = .ok (.iaload, 1) := by decide +kernel
theorem dX5_volumeOf_182 : decode cX5_volumeOf 182 = .ok (.ireturn, 1) := by decide +kernel
theorem dX5_volumeOf_183 : decode cX5_volumeOf 183 = .ok (.aload_n 0, 1) := by decide +kernel
theorem dX5_volumeOf_184 : decode cX5_volumeOf 184 = .ok (.getfield 12, 3) := by decide +kernel
theorem dX5_volumeOf_187 : decode cX5_volumeOf 187 = .ok (.getfield 119, 3) := by decide +kernel
theorem dX5_volumeOf_190 : decode cX5_volumeOf 190 = .ok (.iload_n 1, 1) := by decide +kernel
theorem dX5_volumeOf_191 : decode cX5_volumeOf 191 = .ok (.iaload, 1) := by decide +kernel
theorem dX5_volumeOf_192 : decode cX5_volumeOf 192 = .ok (.ireturn, 1) := by decide +kernel
theorem dX5_volumeOf_193 : decode cX5_volumeOf 193 = .ok (.ldc 79, 2) := by decide +kernel
theorem dX5_volumeOf_195 : decode cX5_volumeOf 195 = .ok (.ireturn, 1) := by decide +kernel
set_option maxRecDepth 20000 in
theorem ggX5_pieceOf_X1_isPiece : GoodIn wsX5_pieceOf wsX1_isPiece := goodIn_r _ [10] rfl (by decide +kernel)
set_option maxRecDepth 20000 in
theorem gX5_pieceOf_X1_isPiece : GoodIn wsX5_pieceOf (wsV RX5 122 RX1 yX1_isPiece wsX1_isPiece) := goodIn_app (goodIn_of _ (by decide +kernel)) ggX5_pieceOf_X1_isPiece
set_option maxRecDepth 20000 in
theorem ggX5_pieceOf_X1_volumesThatOwn : GoodIn wsX5_pieceOf wsX1_volumesThatOwn := goodIn_r _ [14, 15, 16, 17, 9, 18, 19, 20, 21, 22, 23, 24, 25, 26, 27, 28, 33, 34, 35, 36, 37, 38, 39, 40, 41, 42, 43, 44, 45, 46] rfl (by decide +kernel)
set_option maxRecDepth 20000 in
theorem gX5_pieceOf_X1_volumesThatOwn : GoodIn wsX5_pieceOf (wsV RX5 131 RX1 yX1_volumesThatOwn wsX1_volumesThatOwn) := goodIn_app (goodIn_of _ (by decide +kernel)) ggX5_pieceOf_X1_volumesThatOwn
theorem dX5_pieceOf_0 : decode cX5_pieceOf 0 = .ok (.aload_n 0, 1) := by decide +kernel
theorem dX5_pieceOf_1 : decode cX5_pieceOf 1 = .ok (.getfield 12, 3) := by decide +kernel
theorem dX5_pieceOf_4 : decode cX5_pieceOf 4 = .ok (.iload_n 1, 1) := by decide +kernel
theorem dX5_pieceOf_5 : decode cX5_pieceOf 5 = .ok (.invokevirtual 122, 3) := by decide +kernel
theorem dX5_pieceOf_8 : decode cX5_pieceOf 8 = .ok (.ifCond .eq 12, 3) := by decide +kernel
theorem dX5_pieceOf_11 : decode cX5_pieceOf 11 = .ok (.iload_n 2, 1) := by decide +kernel
theorem dX5_pieceOf_12 : decode cX5_pieceOf 12 = .ok (.ifCond .lt 8, 3) := by decide +kernel
theorem dX5_pieceOf_15 : decode cX5_pieceOf 15 = .ok (.iload_n 2, 1) := by decide +kernel
theorem dX5_pieceOf_16 : decode cX5_pieceOf 16 = .ok (.iconst 2, 1) := by decide +kernel
theorem dX5_pieceOf_17 : decode cX5_pieceOf 17 = .ok (.if_icmp .le 6, 3) := by decide +kernel
theorem dX5_pieceOf_20 : decode cX5_pieceOf 20 = .ok (.ldc 79, 2) := by decide +kernel
theorem dX5_pieceOf_22 : decode cX5_pieceOf 22 = .ok (.ireturn, 1) := by decide +kernel
theorem dX5_pieceOf_23 : decode cX5_pieceOf 23 = .ok (.aload_n 0, 1) := by decide +kernel
theorem dX5_pieceOf_24 : decode cX5_pieceOf 24 = .ok (.getfield 12, 3) := by decide +kernel
theorem dX5_pieceOf_27 : decode cX5_pieceOf 27 = .ok (.getfield 125, 3) := by decide +kernel
theorem dX5_pieceOf_30 : decode cX5_pieceOf 30 = .ok (.iload_n 1, 1) := by decide +kernel
theorem dX5_pieceOf_31 : decode cX5_pieceOf 31 = .ok (.iaload, 1) := by decide +kernel
theorem dX5_pieceOf_32 : decode cX5_pieceOf 32 = .ok (.ifCond .ne 6, 3) := by decide +kernel
theorem dX5_pieceOf_35 : decode cX5_pieceOf 35 = .ok (.ldc 86, 2) := by decide +kernel
theorem dX5_pieceOf_37 : decode cX5_pieceOf 37 = .ok (.ireturn, 1) := by decide +kernel
theorem dX5_pieceOf_38 : decode cX5_pieceOf 38 = .ok (.iload_n 2, 1) := by decide +kernel
theorem dX5_pieceOf_39 : decode cX5_pieceOf 39 = .ok (.lookupswitch 45 #[(0, 25), (1, 35)], 25) := by decide +kernel
theorem dX5_pieceOf_64 : decode cX5_pieceOf 64 = .ok (.aload_n 0, 1) := by decide +kernel
theorem dX5_pieceOf_65 : decode cX5_pieceOf 65 = .ok (.getfield 12, 3) := by decide +kernel
theorem dX5_pieceOf_68 : decode cX5_pieceOf 68 = .ok (.getfield 128, 3) := by decide +kernel
theorem dX5_pieceOf_71 : decode cX5_pieceOf 71 = .ok (.iload_n 1, 1) := by decide +kernel
theorem dX5_pieceOf_72 : decode cX5_pieceOf 72 = .ok (.iaload, 1) := by decide +kernel
theorem dX5_pieceOf_73 : decode cX5_pieceOf 73 = .ok (.ireturn, 1) := by decide +kernel
theorem dX5_pieceOf_74 : decode cX5_pieceOf 74 = .ok (.aload_n 0, 1) := by decide +kernel
theorem dX5_pieceOf_75 : decode cX5_pieceOf 75 = .ok (.getfield 12, 3) := by decide +kernel
theorem dX5_pieceOf_78 : decode cX5_pieceOf 78 = .ok (.getfield 125, 3) := by decide +kernel
theorem dX5_pieceOf_81 : decode cX5_pieceOf 81 = .ok (.iload_n 1, 1) := by decide +kernel
theorem dX5_pieceOf_82 : decode cX5_pieceOf 82 = .ok (.iaload, 1) := by decide +kernel
theorem dX5_pieceOf_83 : decode cX5_pieceOf 83 = .ok (.ireturn, 1) := by decide +kernel
theorem dX5_pieceOf_84 : decode cX5_pieceOf 84 = .ok (.aload_n 0, 1) := by decide +kernel
theorem dX5_pieceOf_85 : decode cX5_pieceOf 85 = .ok (.getfield 12, 3) := by decide +kernel
theorem dX5_pieceOf_88 : decode cX5_pieceOf 88 = .ok (.iload_n 1, 1) := by decide +kernel
theorem dX5_pieceOf_89 : decode cX5_pieceOf 89 = .ok (.invokevirtual 131, 3) := by decide +kernel
theorem dX5_pieceOf_92 : decode cX5_pieceOf 92 = .ok (.ireturn, 1) := by decide +kernel
set_option maxRecDepth 20000 in
theorem ggX5_warningOf_X4_tell : GoodIn wsX5_warningOf wsX4_tell := goodIn_r _ [8, 9, 10, 11, 12, 13, 32, 33, 34, 35] rfl (by decide +kernel)
set_option maxRecDepth 20000 in
theorem gX5_warningOf_X4_tell : GoodIn wsX5_warningOf (wsV RX5 138 RX4 yX4_tell wsX4_tell) := goodIn_app (goodIn_of _ (by decide +kernel)) ggX5_warningOf_X4_tell
theorem dX5_warningOf_0 : decode cX5_warningOf 0 = .ok (.iload_n 1, 1) := by decide +kernel
theorem dX5_warningOf_1 : decode cX5_warningOf 1 = .ok (.ifCond .lt 12, 3) := by decide +kernel
theorem dX5_warningOf_4 : decode cX5_warningOf 4 = .ok (.iload_n 2, 1) := by decide +kernel
theorem dX5_warningOf_5 : decode cX5_warningOf 5 = .ok (.ifCond .lt 8, 3) := by decide +kernel
theorem dX5_warningOf_8 : decode cX5_warningOf 8 = .ok (.iload_n 2, 1) := by decide +kernel
theorem dX5_warningOf_9 : decode cX5_warningOf 9 = .ok (.iconst 2, 1) := by decide +kernel
theorem dX5_warningOf_10 : decode cX5_warningOf 10 = .ok (.if_icmp .le 6, 3) := by decide +kernel
theorem dX5_warningOf_13 : decode cX5_warningOf 13 = .ok (.ldc 79, 2) := by decide +kernel
theorem dX5_warningOf_15 : decode cX5_warningOf 15 = .ok (.ireturn, 1) := by decide +kernel
theorem dX5_warningOf_16 : decode cX5_warningOf 16 = .ok (.aload_n 0, 1) := by decide +kernel
theorem dX5_warningOf_17 : decode cX5_warningOf 17 = .ok (.getfield 12, 3) := by decide +kernel
theorem dX5_warningOf_20 : decode cX5_warningOf 20 = .ok (.getfield 134, 3) := by decide +kernel
theorem dX5_warningOf_23 : decode cX5_warningOf 23 = .ok (.iload_n 1, 1) := by decide +kernel
theorem dX5_warningOf_24 : decode cX5_warningOf 24 = .ok (.iload_n 2, 1) := by decide +kernel
theorem dX5_warningOf_25 : decode cX5_warningOf 25 = .ok (.invokevirtual 138, 3) := by decide +kernel
theorem dX5_warningOf_28 : decode cX5_warningOf 28 = .ok (.ireturn, 1) := by decide +kernel
set_option maxRecDepth 20000 in
theorem ggX5_couldGet_X1_lives : GoodIn wsX5_couldGet wsX1_lives := goodIn_r _ [7, 8, 54, 55, 56, 57, 58, 59, 60, 61, 62, 63, 64, 65, 66, 67] rfl (by decide +kernel)
set_option maxRecDepth 20000 in
theorem gX5_couldGet_X1_lives : GoodIn wsX5_couldGet (wsV RX5 87 RX1 yX1_lives wsX1_lives) := goodIn_app (goodIn_of _ (by decide +kernel)) ggX5_couldGet_X1_lives
set_option maxRecDepth 20000 in
theorem ggX5_couldGet_X1_piecesInReach : GoodIn wsX5_couldGet wsX1_piecesInReach := goodIn_r _ [12, 13, 14, 15, 4, 5, 6, 7, 8, 16, 17, 18, 19, 20, 21, 22, 23, 24, 25, 26, 27, 28, 29, 30, 31, 32, 33, 34, 35, 36, 37, 38, 39, 40, 41, 42, 43, 44, 45, 46, 47, 48, 49, 54, 55, 56, 57, 58, 59, 60, 61, 62, 63, 64, 65, 66, 67] rfl (by decide +kernel)
set_option maxRecDepth 20000 in
theorem gX5_couldGet_X1_piecesInReach : GoodIn wsX5_couldGet (wsV RX5 143 RX1 yX1_piecesInReach wsX1_piecesInReach) := goodIn_app (goodIn_of _ (by decide +kernel)) ggX5_couldGet_X1_piecesInReach
theorem dX5_couldGet_0 : decode cX5_couldGet 0 = .ok (.aload_n 0, 1) := by decide +kernel
theorem dX5_couldGet_1 : decode cX5_couldGet 1 = .ok (.getfield 12, 3) := by decide +kernel
theorem dX5_couldGet_4 : decode cX5_couldGet 4 = .ok (.iload_n 1, 1) := by decide +kernel
theorem dX5_couldGet_5 : decode cX5_couldGet 5 = .ok (.invokevirtual 87, 3) := by decide +kernel
theorem dX5_couldGet_8 : decode cX5_couldGet 8 = .ok (.ifCond .eq 14, 3) := by decide +kernel
theorem dX5_couldGet_11 : decode cX5_couldGet 11 = .ok (.aload_n 0, 1) := by decide +kernel
theorem dX5_couldGet_12 : decode cX5_couldGet 12 = .ok (.getfield 12, 3) := by decide +kernel
theorem dX5_couldGet_15 : decode cX5_couldGet 15 = .ok (.iload_n 1, 1) := by decide +kernel
theorem dX5_couldGet_16 : decode cX5_couldGet 16 = .ok (.invokevirtual 143, 3) := by decide +kernel
theorem dX5_couldGet_19 : decode cX5_couldGet 19 = .ok (.goto 5, 3) := by decide +kernel
theorem dX5_couldGet_22 : decode cX5_couldGet 22 = .ok (.ldc 79, 2) := by decide +kernel
theorem dX5_couldGet_24 : decode cX5_couldGet 24 = .ok (.ireturn, 1) := by decide +kernel
set_option maxRecDepth 20000 in
theorem ggX5_couldFree_X1_copyFrom : GoodIn wsX5_couldFree wsX1_copyFrom := goodIn_r _ [8, 9, 10, 11, 12, 13, 14, 15, 16, 17, 18, 19, 20, 21, 22, 23, 24, 25, 26, 27, 28, 29, 30, 31, 32, 33, 34, 35, 36, 86, 87, 88, 89, 90, 91, 92, 93, 94, 95, 96, 97, 98, 99, 100, 101, 102, 103] rfl (by decide +kernel)
set_option maxRecDepth 20000 in
theorem gX5_couldFree_X1_copyFrom : GoodIn wsX5_couldFree (wsV RX5 149 RX1 yX1_copyFrom wsX1_copyFrom) := goodIn_app (goodIn_of _ (by decide +kernel)) ggX5_couldFree_X1_copyFrom
set_option maxRecDepth 20000 in
theorem ggX5_couldFree_X1_mergePieces : GoodIn wsX5_couldFree wsX1_mergePieces := goodIn_r _ [40, 21, 20, 26, 41, 42, 43, 7, 44, 19, 86, 87, 88, 89, 90, 91, 92, 93, 94, 95, 96, 97, 98, 99] rfl (by decide +kernel)
set_option maxRecDepth 20000 in
theorem gX5_couldFree_X1_mergePieces : GoodIn wsX5_couldFree (wsV RX5 71 RX1 yX1_mergePieces wsX1_mergePieces) := goodIn_app (goodIn_of _ (by decide +kernel)) ggX5_couldFree_X1_mergePieces
set_option maxRecDepth 20000 in
theorem ggX5_couldFree_X1_sweepVolume : GoodIn wsX5_couldFree wsX1_sweepVolume := goodIn_r _ [48, 49, 20, 50, 51, 52, 7, 53, 9, 54, 55, 56, 57, 19, 58, 59, 60, 61, 62, 63, 64, 65, 66, 67, 68, 69, 21, 26, 70, 71, 72, 73, 14, 74, 75, 76, 77, 86, 87, 88, 89, 90, 91, 92, 93, 94, 95, 96, 97, 98, 99] rfl (by decide +kernel)
set_option maxRecDepth 20000 in
theorem gX5_couldFree_X1_sweepVolume : GoodIn wsX5_couldFree (wsV RX5 68 RX1 yX1_sweepVolume wsX1_sweepVolume) := goodIn_app (goodIn_of _ (by decide +kernel)) ggX5_couldFree_X1_sweepVolume
set_option maxRecDepth 20000 in
theorem ggX5_couldFree_X1_lives : GoodIn wsX5_couldFree wsX1_lives := goodIn_r _ [53, 9, 86, 87, 88, 89, 90, 91, 92, 93, 94, 95, 96, 97, 98, 99] rfl (by decide +kernel)
set_option maxRecDepth 20000 in
theorem gX5_couldFree_X1_lives : GoodIn wsX5_couldFree (wsV RX5 87 RX1 yX1_lives wsX1_lives) := goodIn_app (goodIn_of _ (by decide +kernel)) ggX5_couldFree_X1_lives
theorem dX5_couldFree_0 : decode cX5_couldFree 0 = .ok (.aload_n 0, 1) := by decide +kernel
theorem dX5_couldFree_1 : decode cX5_couldFree 1 = .ok (.getfield 33, 3) := by decide +kernel
theorem dX5_couldFree_4 : decode cX5_couldFree 4 = .ok (.getfield 146, 3) := by decide +kernel
theorem dX5_couldFree_7 : decode cX5_couldFree 7 = .ok (.astore_n 2, 1) := by decide +kernel
theorem dX5_couldFree_8 : decode cX5_couldFree 8 = .ok (.aload_n 2, 1) := by decide +kernel
theorem dX5_couldFree_9 : decode cX5_couldFree 9 = .ok (.aload_n 0, 1) := by decide +kernel
theorem dX5_couldFree_10 : decode cX5_couldFree 10 = .ok (.getfield 12, 3) := by decide +kernel
theorem dX5_couldFree_13 : decode cX5_couldFree 13 = .ok (.invokevirtual 149, 3) := by decide +kernel
theorem dX5_couldFree_16 : decode cX5_couldFree 16 = .ok (.iload_n 1, 1) := by decide +kernel
theorem dX5_couldFree_17 : decode cX5_couldFree 17 = .ok (.iconst (-1), 1) := by decide +kernel
theorem dX5_couldFree_18 : decode cX5_couldFree 18 = .ok (.if_icmp .ne 8, 3) := by decide +kernel
theorem dX5_couldFree_21 : decode cX5_couldFree 21 = .ok (.aload_n 2, 1) := by decide +kernel
theorem dX5_couldFree_22 : decode cX5_couldFree 22 = .ok (.invokevirtual 71, 3) := by decide +kernel
theorem dX5_couldFree_25 : decode cX5_couldFree 25 = .ok (.ireturn, 1) := by decide +kernel
theorem dX5_couldFree_26 : decode cX5_couldFree 26 = .ok (.iload_n 1, 1) := by decide +kernel
theorem dX5_couldFree_27 : decode cX5_couldFree 27 = .ok (.bipush (-2), 2) := by decide +kernel
theorem dX5_couldFree_29 : decode cX5_couldFree 29 = .ok (.if_icmp .eq 9, 3) := by decide +kernel
theorem dX5_couldFree_32 : decode cX5_couldFree 32 = .ok (.aload_n 2, 1) := by decide +kernel
theorem dX5_couldFree_33 : decode cX5_couldFree 33 = .ok (.iload_n 1, 1) := by decide +kernel
theorem dX5_couldFree_34 : decode cX5_couldFree 34 = .ok (.invokevirtual 68, 3) := by decide +kernel
theorem dX5_couldFree_37 : decode cX5_couldFree 37 = .ok (.ireturn, 1) := by decide +kernel
theorem dX5_couldFree_38 : decode cX5_couldFree 38 = .ok (.iconst 0, 1) := by decide +kernel
theorem dX5_couldFree_39 : decode cX5_couldFree 39 = .ok (.istore_n 3, 1) := by decide +kernel
theorem dX5_couldFree_40 : decode cX5_couldFree 40 = .ok (.iconst 0, 1) := by decide +kernel
theorem dX5_couldFree_41 : decode cX5_couldFree 41 = .ok (.istore 4, 2) := by decide +kernel
theorem dX5_couldFree_43 : decode cX5_couldFree 43 = .ok (.iload 4, 2) := by decide +kernel
theorem dX5_couldFree_45 : decode cX5_couldFree 45 = .ok (.bipush 8, 2) := by decide +kernel
theorem dX5_couldFree_47 : decode cX5_couldFree 47 = .ok (.if_icmp .ge 27, 3) := by decide +kernel
theorem dX5_couldFree_50 : decode cX5_couldFree 50 = .ok (.aload_n 2, 1) := by decide +kernel
theorem dX5_couldFree_51 : decode cX5_couldFree 51 = .ok (.iload 4, 2) := by decide +kernel
theorem dX5_couldFree_53 : decode cX5_couldFree 53 = .ok (.invokevirtual 87, 3) := by decide +kernel
theorem dX5_couldFree_56 : decode cX5_couldFree 56 = .ok (.ifCond .eq 12, 3) := by decide +kernel
theorem dX5_couldFree_59 : decode cX5_couldFree 59 = .ok (.iload_n 3, 1) := by decide +kernel
theorem dX5_couldFree_60 : decode cX5_couldFree 60 = .ok (.aload_n 2, 1) := by decide +kernel
theorem dX5_couldFree_61 : decode cX5_couldFree 61 = .ok (.iload 4, 2) := by decide +kernel
theorem dX5_couldFree_63 : decode cX5_couldFree 63 = .ok (.invokevirtual 68, 3) := by decide +kernel
theorem dX5_couldFree_66 : decode cX5_couldFree 66 = .ok (.iadd, 1) := by decide +kernel
theorem dX5_couldFree_67 : decode cX5_couldFree 67 = .ok (.istore_n 3, 1) := by decide +kernel
theorem dX5_couldFree_68 : decode cX5_couldFree 68 = .ok (.iinc 4 1, 3) := by decide +kernel
theorem dX5_couldFree_71 : decode cX5_couldFree 71 = .ok (.goto (-28), 3) := by decide +kernel
theorem dX5_couldFree_74 : decode cX5_couldFree 74 = .ok (.iload_n 3, 1) := by decide +kernel
theorem dX5_couldFree_75 : decode cX5_couldFree 75 = .ok (.aload_n 2, 1) := by decide +kernel
theorem dX5_couldFree_76 : decode cX5_couldFree 76 = .ok (.invokevirtual 71, 3) := by decide +kernel
theorem dX5_couldFree_79 : decode cX5_couldFree 79 = .ok (.iadd, 1) := by decide +kernel
theorem dX5_couldFree_80 : decode cX5_couldFree 80 = .ok (.ireturn, 1) := by decide +kernel
set_option maxRecDepth 20000 in
theorem ggX5_family_X1_lives : GoodIn wsX5_family wsX1_lives := goodIn_r _ [7, 8, 49, 50, 51, 52, 53, 54, 55, 56, 57, 58, 59, 60, 61, 62] rfl (by decide +kernel)
set_option maxRecDepth 20000 in
theorem gX5_family_X1_lives : GoodIn wsX5_family (wsV RX5 87 RX1 yX1_lives wsX1_lives) := goodIn_app (goodIn_of _ (by decide +kernel)) ggX5_family_X1_lives
set_option maxRecDepth 20000 in
theorem ggX5_family_X1_familyOf : GoodIn wsX5_family wsX1_familyOf := goodIn_r _ [12, 13, 14, 15, 6, 16, 17, 18, 4, 5, 7, 8, 49, 50, 51, 52, 53, 54, 55, 56, 57, 58, 59, 60, 61, 62] rfl (by decide +kernel)
set_option maxRecDepth 20000 in
theorem gX5_family_X1_familyOf : GoodIn wsX5_family (wsV RX5 152 RX1 yX1_familyOf wsX1_familyOf) := goodIn_app (goodIn_of _ (by decide +kernel)) ggX5_family_X1_familyOf
set_option maxRecDepth 20000 in
theorem ggX5_family_X1_piecesOwnedOnlyBy : GoodIn wsX5_family wsX1_piecesOwnedOnlyBy := goodIn_r _ [22, 23, 24, 25, 26, 6, 27, 28, 29, 30, 31, 32, 33, 34, 35, 36, 8, 18, 4, 5, 7, 49, 50, 51, 52, 53, 54, 55, 56, 57, 58, 59, 60, 61, 62] rfl (by decide +kernel)
set_option maxRecDepth 20000 in
theorem gX5_family_X1_piecesOwnedOnlyBy : GoodIn wsX5_family (wsV RX5 98 RX1 yX1_piecesOwnedOnlyBy wsX1_piecesOwnedOnlyBy) := goodIn_app (goodIn_of _ (by decide +kernel)) ggX5_family_X1_piecesOwnedOnlyBy
set_option maxRecDepth 20000 in
theorem ggX5_family_X1_longestLineFrom : GoodIn wsX5_family wsX1_longestLineFrom := goodIn_r _ [40, 41, 42, 43, 44, 13, 14, 15, 6, 16, 17, 18, 4, 5, 7, 8, 49, 50, 51, 52, 53, 54, 55, 56, 57, 58, 59, 60, 61, 62] rfl (by decide +kernel)
set_option maxRecDepth 20000 in
theorem gX5_family_X1_longestLineFrom : GoodIn wsX5_family (wsV RX5 155 RX1 yX1_longestLineFrom wsX1_longestLineFrom) := goodIn_app (goodIn_of _ (by decide +kernel)) ggX5_family_X1_longestLineFrom
theorem dX5_family_0 : decode cX5_family 0 = .ok (.aload_n 0, 1) := by decide +kernel
theorem dX5_family_1 : decode cX5_family 1 = .ok (.getfield 12, 3) := by decide +kernel
theorem dX5_family_4 : decode cX5_family 4 = .ok (.iload_n 1, 1) := by decide +kernel
theorem dX5_family_5 : decode cX5_family 5 = .ok (.invokevirtual 87, 3) := by decide +kernel
theorem dX5_family_8 : decode cX5_family 8 = .ok (.ifCond .ne 6, 3) := by decide +kernel
theorem dX5_family_11 : decode cX5_family 11 = .ok (.ldc 79, 2) := by decide +kernel
theorem dX5_family_13 : decode cX5_family 13 = .ok (.ireturn, 1) := by decide +kernel
theorem dX5_family_14 : decode cX5_family 14 = .ok (.iload_n 2, 1) := by decide +kernel
theorem dX5_family_15 : decode cX5_family 15 = .ok (.tableswitch 59 0 2 #[25, 34, 50], 25) := by decide +kernel
theorem dX5_family_40 : decode cX5_family 40 = .ok (.aload_n 0, 1) := by decide +kernel
theorem dX5_family_41 : decode cX5_family 41 = .ok (.getfield 12, 3) := by decide +kernel
theorem dX5_family_44 : decode cX5_family 44 = .ok (.iload_n 1, 1) := by decide +kernel
theorem dX5_family_45 : decode cX5_family 45 = .ok (.invokevirtual 152, 3) := by decide +kernel
theorem dX5_family_48 : decode cX5_family 48 = .ok (.ireturn, 1) := by decide +kernel
theorem dX5_family_49 : decode cX5_family 49 = .ok (.aload_n 0, 1) := by decide +kernel
theorem dX5_family_50 : decode cX5_family 50 = .ok (.getfield 12, 3) := by decide +kernel
theorem dX5_family_53 : decode cX5_family 53 = .ok (.aload_n 0, 1) := by decide +kernel
theorem dX5_family_54 : decode cX5_family 54 = .ok (.getfield 12, 3) := by decide +kernel
theorem dX5_family_57 : decode cX5_family 57 = .ok (.iload_n 1, 1) := by decide +kernel
theorem dX5_family_58 : decode cX5_family 58 = .ok (.invokevirtual 152, 3) := by decide +kernel
theorem dX5_family_61 : decode cX5_family 61 = .ok (.invokevirtual 98, 3) := by decide +kernel
theorem dX5_family_64 : decode cX5_family 64 = .ok (.ireturn, 1) := by decide +kernel
theorem dX5_family_65 : decode cX5_family 65 = .ok (.aload_n 0, 1) := by decide +kernel
theorem dX5_family_66 : decode cX5_family 66 = .ok (.getfield 12, 3) := by decide +kernel
theorem dX5_family_69 : decode cX5_family 69 = .ok (.iload_n 1, 1) := by decide +kernel
theorem dX5_family_70 : decode cX5_family 70 = .ok (.invokevirtual 155, 3) := by decide +kernel
theorem dX5_family_73 : decode cX5_family 73 = .ok (.ireturn, 1) := by decide +kernel
theorem dX5_family_74 : decode cX5_family 74 = .ok (.ldc 79, 2) := by decide +kernel
theorem dX5_family_76 : decode cX5_family 76 = .ok (.ireturn, 1) := by decide +kernel
set_option maxRecDepth 20000 in
theorem ggX5_ranked_X1_volumeWithRank : GoodIn wsX5_ranked wsX1_volumeWithRank := goodIn_r _ [7, 8, 9, 10, 11, 12, 6, 13, 14, 15, 16, 17, 18, 23, 24, 25, 26, 27, 28, 29, 30, 31, 32, 33, 34, 35, 36] rfl (by decide +kernel)
set_option maxRecDepth 20000 in
theorem gX5_ranked_X1_volumeWithRank : GoodIn wsX5_ranked (wsV RX5 158 RX1 yX1_volumeWithRank wsX1_volumeWithRank) := goodIn_app (goodIn_of _ (by decide +kernel)) ggX5_ranked_X1_volumeWithRank
theorem dX5_ranked_0 : decode cX5_ranked 0 = .ok (.iload_n 1, 1) := by decide +kernel
theorem dX5_ranked_1 : decode cX5_ranked 1 = .ok (.ifCond .ge 8, 3) := by decide +kernel
theorem dX5_ranked_4 : decode cX5_ranked 4 = .ok (.ldc 79, 2) := by decide +kernel
theorem dX5_ranked_6 : decode cX5_ranked 6 = .ok (.goto 11, 3) := by decide +kernel
theorem dX5_ranked_9 : decode cX5_ranked 9 = .ok (.aload_n 0, 1) := by decide +kernel
theorem dX5_ranked_10 : decode cX5_ranked 10 = .ok (.getfield 12, 3) := by decide +kernel
theorem dX5_ranked_13 : decode cX5_ranked 13 = .ok (.iload_n 1, 1) := by decide +kernel
theorem dX5_ranked_14 : decode cX5_ranked 14 = .ok (.invokevirtual 158, 3) := by decide +kernel
theorem dX5_ranked_17 : decode cX5_ranked 17 = .ok (.ireturn, 1) := by decide +kernel
set_option maxRecDepth 20000 in
theorem ggX5_over_X1_allSizes : GoodIn wsX5_over wsX1_allSizes := goodIn_r _ [7, 8, 13, 14, 15, 16, 17, 18, 19, 20, 21, 22, 23, 24, 25, 26] rfl (by decide +kernel)
set_option maxRecDepth 20000 in
theorem gX5_over_X1_allSizes : GoodIn wsX5_over (wsV RX5 161 RX1 yX1_allSizes wsX1_allSizes) := goodIn_app (goodIn_of _ (by decide +kernel)) ggX5_over_X1_allSizes
theorem dX5_over_0 : decode cX5_over 0 = .ok (.iload_n 1, 1) := by decide +kernel
theorem dX5_over_1 : decode cX5_over 1 = .ok (.ifCond .lt 8, 3) := by decide +kernel
theorem dX5_over_4 : decode cX5_over 4 = .ok (.iload_n 1, 1) := by decide +kernel
theorem dX5_over_5 : decode cX5_over 5 = .ok (.iconst 1, 1) := by decide +kernel
theorem dX5_over_6 : decode cX5_over 6 = .ok (.if_icmp .le 6, 3) := by decide +kernel
theorem dX5_over_9 : decode cX5_over 9 = .ok (.ldc 79, 2) := by decide +kernel
theorem dX5_over_11 : decode cX5_over 11 = .ok (.ireturn, 1) := by decide +kernel
theorem dX5_over_12 : decode cX5_over 12 = .ok (.aload_n 0, 1) := by decide +kernel
theorem dX5_over_13 : decode cX5_over 13 = .ok (.getfield 12, 3) := by decide +kernel
theorem dX5_over_16 : decode cX5_over 16 = .ok (.invokevirtual 161, 3) := by decide +kernel
theorem dX5_over_19 : decode cX5_over 19 = .ok (.istore_n 2, 1) := by decide +kernel
theorem dX5_over_20 : decode cX5_over 20 = .ok (.iload_n 1, 1) := by decide +kernel
theorem dX5_over_21 : decode cX5_over 21 = .ok (.ifCond .ne 7, 3) := by decide +kernel
theorem dX5_over_24 : decode cX5_over 24 = .ok (.iload_n 2, 1) := by decide +kernel
theorem dX5_over_25 : decode cX5_over 25 = .ok (.goto 5, 3) := by decide +kernel
theorem dX5_over_28 : decode cX5_over 28 = .ok (.bipush 30, 2) := by decide +kernel
theorem dX5_over_30 : decode cX5_over 30 = .ok (.istore_n 3, 1) := by decide +kernel
theorem dX5_over_31 : decode cX5_over 31 = .ok (.bipush 30, 2) := by decide +kernel
theorem dX5_over_33 : decode cX5_over 33 = .ok (.istore 4, 2) := by decide +kernel
theorem dX5_over_35 : decode cX5_over 35 = .ok (.iload 4, 2) := by decide +kernel
theorem dX5_over_37 : decode cX5_over 37 = .ok (.iconst 1, 1) := by decide +kernel
theorem dX5_over_38 : decode cX5_over 38 = .ok (.if_icmp .le 29, 3) := by decide +kernel
theorem dX5_over_41 : decode cX5_over 41 = .ok (.iload_n 2, 1) := by decide +kernel
theorem dX5_over_42 : decode cX5_over 42 = .ok (.iload 4, 2) := by decide +kernel
theorem dX5_over_44 : decode cX5_over 44 = .ok (.irem, 1) := by decide +kernel
theorem dX5_over_45 : decode cX5_over 45 = .ok (.ifCond .ne 16, 3) := by decide +kernel
theorem dX5_over_48 : decode cX5_over 48 = .ok (.bipush 30, 2) := by decide +kernel
theorem dX5_over_50 : decode cX5_over 50 = .ok (.iload 4, 2) := by decide +kernel
theorem dX5_over_52 : decode cX5_over 52 = .ok (.irem, 1) := by decide +kernel
theorem dX5_over_53 : decode cX5_over 53 = .ok (.ifCond .ne 8, 3) := by decide +kernel
theorem dX5_over_56 : decode cX5_over 56 = .ok (.iload_n 3, 1) := by decide +kernel
theorem dX5_over_57 : decode cX5_over 57 = .ok (.iload 4, 2) := by decide +kernel
theorem dX5_over_59 : decode cX5_over 59 = .ok (.idiv, 1) := by decide +kernel
theorem dX5_over_60 : decode cX5_over 60 = .ok (.ireturn, 1) := by decide +kernel
theorem dX5_over_61 : decode cX5_over 61 = .ok (.iinc 4 (-1), 3) := by decide +kernel
theorem dX5_over_64 : decode cX5_over 64 = .ok (.goto (-29), 3) := by decide +kernel
theorem dX5_over_67 : decode cX5_over 67 = .ok (.iload_n 3, 1) := by decide +kernel
theorem dX5_over_68 : decode cX5_over 68 = .ok (.ireturn, 1) := by decide +kernel
set_option maxRecDepth 20000 in
theorem ggX5_count_X1_volumesThatLive : GoodIn wsX5_count wsX1_volumesThatLive := goodIn_r _ [17, 18, 19, 20, 16, 21, 22, 61, 62, 63, 64, 65, 66, 67, 68, 69, 70, 71, 72, 73, 74] rfl (by decide +kernel)
set_option maxRecDepth 20000 in
theorem gX5_count_X1_volumesThatLive : GoodIn wsX5_count (wsV RX5 164 RX1 yX1_volumesThatLive wsX1_volumesThatLive) := goodIn_app (goodIn_of _ (by decide +kernel)) ggX5_count_X1_volumesThatLive
set_option maxRecDepth 20000 in
theorem ggX5_count_X1_freePieces : GoodIn wsX5_count wsX1_freePieces := goodIn_r _ [26, 27, 61, 62, 63, 64, 65, 66, 67, 68, 69, 70, 71, 72, 73, 74] rfl (by decide +kernel)
set_option maxRecDepth 20000 in
theorem gX5_count_X1_freePieces : GoodIn wsX5_count (wsV RX5 167 RX1 yX1_freePieces wsX1_freePieces) := goodIn_app (goodIn_of _ (by decide +kernel)) ggX5_count_X1_freePieces
set_option maxRecDepth 20000 in
theorem ggX5_count_X1_available : GoodIn wsX5_count wsX1_available := goodIn_r _ [31, 32, 24, 25, 16, 26, 27, 33, 34, 35, 36, 37, 61, 62, 63, 64, 65, 66, 67, 68, 69, 70, 71, 72, 73, 74] rfl (by decide +kernel)
set_option maxRecDepth 20000 in
theorem gX5_count_X1_available : GoodIn wsX5_count (wsV RX5 170 RX1 yX1_available wsX1_available) := goodIn_app (goodIn_of _ (by decide +kernel)) ggX5_count_X1_available
set_option maxRecDepth 20000 in
theorem ggX5_count_X1_level : GoodIn wsX5_count wsX1_level := goodIn_r _ [41, 42, 29, 30, 16, 31, 32, 24, 25, 26, 27, 33, 34, 35, 36, 37, 43, 44, 45, 46, 47, 61, 62, 63, 64, 65, 66, 67, 68, 69, 70, 71, 72, 73, 74] rfl (by decide +kernel)
set_option maxRecDepth 20000 in
theorem gX5_count_X1_level : GoodIn wsX5_count (wsV RX5 173 RX1 yX1_level wsX1_level) := goodIn_app (goodIn_of _ (by decide +kernel)) ggX5_count_X1_level
set_option maxRecDepth 20000 in
theorem ggX5_count_X1_allPromises : GoodIn wsX5_count wsX1_allPromises := goodIn_r _ [36, 37, 61, 62, 63, 64, 65, 66, 67, 68, 69, 70, 71, 72, 73, 74] rfl (by decide +kernel)
set_option maxRecDepth 20000 in
theorem gX5_count_X1_allPromises : GoodIn wsX5_count (wsV RX5 176 RX1 yX1_allPromises wsX1_allPromises) := goodIn_app (goodIn_of _ (by decide +kernel)) ggX5_count_X1_allPromises
set_option maxRecDepth 20000 in
theorem ggX5_count_X1_allOwners : GoodIn wsX5_count wsX1_allOwners := goodIn_r _ [52, 27, 61, 62, 63, 64, 65, 66, 67, 68, 69, 70, 71, 72, 73, 74] rfl (by decide +kernel)
set_option maxRecDepth 20000 in
theorem gX5_count_X1_allOwners : GoodIn wsX5_count (wsV RX5 179 RX1 yX1_allOwners wsX1_allOwners) := goodIn_app (goodIn_of _ (by decide +kernel)) ggX5_count_X1_allOwners
set_option maxRecDepth 20000 in
theorem ggX5_count_X1_sharedPieces : GoodIn wsX5_count wsX1_sharedPieces := goodIn_r _ [56, 27, 61, 62, 63, 64, 65, 66, 67, 68, 69, 70, 71, 72, 73, 74] rfl (by decide +kernel)
set_option maxRecDepth 20000 in
theorem gX5_count_X1_sharedPieces : GoodIn wsX5_count (wsV RX5 182 RX1 yX1_sharedPieces wsX1_sharedPieces) := goodIn_app (goodIn_of _ (by decide +kernel)) ggX5_count_X1_sharedPieces
theorem dX5_count_0 : decode cX5_count 0 = .ok (.iload_n 1, 1) := by decide +kernel
theorem dX5_count_1 : decode cX5_count 1 = .ok (.tableswitch 244 0 22 #[107, 115, 123, 131, 139, 147, 155, 163, 171, 179, 187, 198, 206, 244, 244, 244, 244, 244, 244, 244, 214, 224, 234], 107) := by decide +kernel
theorem dX5_count_108 : decode cX5_count 108 = .ok (.aload_n 0, 1) := by decide +kernel
theorem dX5_count_109 : decode cX5_count 109 = .ok (.getfield 12, 3) := by decide +kernel
theorem dX5_count_112 : decode cX5_count 112 = .ok (.invokevirtual 164, 3) := by decide +kernel
theorem dX5_count_115 : decode cX5_count 115 = .ok (.ireturn, 1) := by decide +kernel
theorem dX5_count_116 : decode cX5_count 116 = .ok (.aload_n 0, 1) := by decide +kernel
theorem dX5_count_117 : decode cX5_count 117 = .ok (.getfield 12, 3) := by decide +kernel
theorem dX5_count_120 : decode cX5_count 120 = .ok (.invokevirtual 167, 3) := by decide +kernel
theorem dX5_count_123 : decode cX5_count 123 = .ok (.ireturn, 1) := by decide +kernel
theorem dX5_count_124 : decode cX5_count 124 = .ok (.aload_n 0, 1) := by decide +kernel
theorem dX5_count_125 : decode cX5_count 125 = .ok (.getfield 12, 3) := by decide +kernel
theorem dX5_count_128 : decode cX5_count 128 = .ok (.invokevirtual 170, 3) := by decide +kernel
theorem dX5_count_131 : decode cX5_count 131 = .ok (.ireturn, 1) := by decide +kernel
theorem dX5_count_132 : decode cX5_count 132 = .ok (.aload_n 0, 1) := by decide +kernel
theorem dX5_count_133 : decode cX5_count 133 = .ok (.getfield 12, 3) := by decide +kernel
theorem dX5_count_136 : decode cX5_count 136 = .ok (.invokevirtual 173, 3) := by decide +kernel
theorem dX5_count_139 : decode cX5_count 139 = .ok (.ireturn, 1) := by decide +kernel
theorem dX5_count_140 : decode cX5_count 140 = .ok (.aload_n 0, 1) := by decide +kernel
theorem dX5_count_141 : decode cX5_count 141 = .ok (.getfield 12, 3) := by decide +kernel
theorem dX5_count_144 : decode cX5_count 144 = .ok (.invokevirtual 176, 3) := by decide +kernel
theorem dX5_count_147 : decode cX5_count 147 = .ok (.ireturn, 1) := by decide +kernel
theorem dX5_count_148 : decode cX5_count 148 = .ok (.aload_n 0, 1) := by decide +kernel
theorem dX5_count_149 : decode cX5_count 149 = .ok (.getfield 12, 3) := by decide +kernel
theorem dX5_count_152 : decode cX5_count 152 = .ok (.invokevirtual 179, 3) := by decide +kernel
theorem dX5_count_155 : decode cX5_count 155 = .ok (.ireturn, 1) := by decide +kernel
theorem dX5_count_156 : decode cX5_count 156 = .ok (.aload_n 0, 1) := by decide +kernel
theorem dX5_count_157 : decode cX5_count 157 = .ok (.getfield 12, 3) := by decide +kernel
theorem dX5_count_160 : decode cX5_count 160 = .ok (.invokevirtual 182, 3) := by decide +kernel
theorem dX5_count_163 : decode cX5_count 163 = .ok (.ireturn, 1) := by decide +kernel
theorem dX5_count_164 : decode cX5_count 164 = .ok (.aload_n 0, 1) := by decide +kernel
theorem dX5_count_165 : decode cX5_count 165 = .ok (.getfield 12, 3) := by decide +kernel
theorem dX5_count_168 : decode cX5_count 168 = .ok (.getfield 185, 3) := by decide +kernel
theorem dX5_count_171 : decode cX5_count 171 = .ok (.ireturn, 1) := by decide +kernel
theorem dX5_count_172 : decode cX5_count 172 = .ok (.aload_n 0, 1) := by decide +kernel
theorem dX5_count_173 : decode cX5_count 173 = .ok (.getfield 12, 3) := by decide +kernel
theorem dX5_count_176 : decode cX5_count 176 = .ok (.getfield 189, 3) := by decide +kernel
theorem dX5_count_179 : decode cX5_count 179 = .ok (.ireturn, 1) := by decide +kernel
theorem dX5_count_180 : decode cX5_count 180 = .ok (.aload_n 0, 1) := by decide +kernel
theorem dX5_count_181 : decode cX5_count 181 = .ok (.getfield 12, 3) := by decide +kernel
theorem dX5_count_184 : decode cX5_count 184 = .ok (.getfield 192, 3) := by decide +kernel
theorem dX5_count_187 : decode cX5_count 187 = .ok (.ireturn, 1) := by decide +kernel
theorem dX5_count_188 : decode cX5_count 188 = .ok (.aload_n 0, 1) := by decide +kernel
theorem dX5_count_189 : decode cX5_count 189 = .ok (.getfield 12, 3) := by decide +kernel
theorem dX5_count_192 : decode cX5_count 192 = .ok (.getfield 134, 3) := by decide +kernel
theorem dX5_count_195 : decode cX5_count 195 = .ok (.getfield 195, 3) := by decide +kernel
theorem dX5_count_198 : decode cX5_count 198 = .ok (.ireturn, 1) := by decide +kernel
theorem dX5_count_199 : decode cX5_count 199 = .ok (.aload_n 0, 1) := by decide +kernel
theorem dX5_count_200 : decode cX5_count 200 = .ok (.getfield 19, 3) := by decide +kernel
theorem dX5_count_203 : decode cX5_count 203 = .ok (.getfield 198, 3) := by decide +kernel
theorem dX5_count_206 : decode cX5_count 206 = .ok (.ireturn, 1) := by decide +kernel
theorem dX5_count_207 : decode cX5_count 207 = .ok (.aload_n 0, 1) := by decide +kernel
theorem dX5_count_208 : decode cX5_count 208 = .ok (.getfield 26, 3) := by decide +kernel
theorem dX5_count_211 : decode cX5_count 211 = .ok (.getfield 199, 3) := by decide +kernel
theorem dX5_count_214 : decode cX5_count 214 = .ok (.ireturn, 1) := by decide +kernel
theorem dX5_count_215 : decode cX5_count 215 = .ok (.aload_n 0, 1) := by decide +kernel
theorem dX5_count_216 : decode cX5_count 216 = .ok (.getfield 12, 3) := by decide +kernel
theorem dX5_count_219 : decode cX5_count 219 = .ok (.getfield 202, 3) := by decide +kernel
theorem dX5_count_222 : decode cX5_count 222 = .ok (.iconst 0, 1) := by decide +kernel
theorem dX5_count_223 : decode cX5_count 223 = .ok (.iaload, 1) := by decide +kernel
theorem dX5_count_224 : decode cX5_count 224 = .ok (.ireturn, 1) := by decide +kernel
theorem dX5_count_225 : decode cX5_count 225 = .ok (.aload_n 0, 1) := by decide +kernel
theorem dX5_count_226 : decode cX5_count 226 = .ok (.getfield 12, 3) := by decide +kernel
theorem dX5_count_229 : decode cX5_count 229 = .ok (.getfield 202, 3) := by decide +kernel
theorem dX5_count_232 : decode cX5_count 232 = .ok (.iconst 1, 1) := by decide +kernel
theorem dX5_count_233 : decode cX5_count 233 = .ok (.iaload, 1) := by decide +kernel
theorem dX5_count_234 : decode cX5_count 234 = .ok (.ireturn, 1) := by decide +kernel
theorem dX5_count_235 : decode cX5_count 235 = .ok (.aload_n 0, 1) := by decide +kernel
theorem dX5_count_236 : decode cX5_count 236 = .ok (.getfield 12, 3) := by decide +kernel
theorem dX5_count_239 : decode cX5_count 239 = .ok (.getfield 202, 3) := by decide +kernel
theorem dX5_count_242 : decode cX5_count 242 = .ok (.iconst 2, 1) := by decide +kernel
theorem dX5_count_243 : decode cX5_count 243 = .ok (.iaload, 1) := by decide +kernel
theorem dX5_count_244 : decode cX5_count 244 = .ok (.ireturn, 1) := by decide +kernel
theorem dX5_count_245 : decode cX5_count 245 = .ok (.ldc 79, 2) := by decide +kernel
theorem dX5_count_247 : decode cX5_count 247 = .ok (.ireturn, 1) := by decide +kernel
set_option maxRecDepth 20000 in
theorem ggX5_undo_X0_restore : GoodIn wsX5_undo wsX0_restore := goodIn_r _ [9, 10, 11, 12, 13, 14, 15, 16, 17, 18, 19, 20, 21, 22, 23, 24, 25, 26, 27, 28, 29, 30, 31, 32, 33, 34, 35, 36, 37, 38, 39, 40, 41, 42, 43, 44, 49, 50, 51, 52, 53, 54, 55, 56, 57, 58, 59, 60, 61, 62, 63, 64, 65, 66, 67, 68] rfl (by decide +kernel)
set_option maxRecDepth 20000 in
theorem gX5_undo_X0_restore : GoodIn wsX5_undo (wsV RX5 205 RX0 yX0_restore wsX0_restore) := goodIn_app (goodIn_of _ (by decide +kernel)) ggX5_undo_X0_restore
theorem dX5_undo_0 : decode cX5_undo 0 = .ok (.aload_n 0, 1) := by decide +kernel
theorem dX5_undo_1 : decode cX5_undo 1 = .ok (.getfield 19, 3) := by decide +kernel
theorem dX5_undo_4 : decode cX5_undo 4 = .ok (.aload_n 0, 1) := by decide +kernel
theorem dX5_undo_5 : decode cX5_undo 5 = .ok (.getfield 12, 3) := by decide +kernel
theorem dX5_undo_8 : decode cX5_undo 8 = .ok (.invokevirtual 205, 3) := by decide +kernel
theorem dX5_undo_11 : decode cX5_undo 11 = .ok (.ifCond .eq 13, 3) := by decide +kernel
theorem dX5_undo_14 : decode cX5_undo 14 = .ok (.aload_n 0, 1) := by decide +kernel
theorem dX5_undo_15 : decode cX5_undo 15 = .ok (.getfield 19, 3) := by decide +kernel
theorem dX5_undo_18 : decode cX5_undo 18 = .ok (.getfield 198, 3) := by decide +kernel
theorem dX5_undo_21 : decode cX5_undo 21 = .ok (.goto 5, 3) := by decide +kernel
theorem dX5_undo_24 : decode cX5_undo 24 = .ok (.ldc 209, 2) := by decide +kernel
theorem dX5_undo_26 : decode cX5_undo 26 = .ok (.ireturn, 1) := by decide +kernel
set_option maxRecDepth 20000 in
theorem ggX5_type_X3_append : GoodIn wsX5_type wsX3_append := goodIn_r _ [9, 10, 11, 16, 17, 18, 19, 20] rfl (by decide +kernel)
set_option maxRecDepth 20000 in
theorem gX5_type_X3_append : GoodIn wsX5_type (wsV RX5 210 RX3 yX3_append wsX3_append) := goodIn_app (goodIn_of _ (by decide +kernel)) ggX5_type_X3_append
theorem dX5_type_0 : decode cX5_type 0 = .ok (.iload_n 1, 1) := by decide +kernel
theorem dX5_type_1 : decode cX5_type 1 = .ok (.bipush 32, 2) := by decide +kernel
theorem dX5_type_3 : decode cX5_type 3 = .ok (.if_icmp .lt 9, 3) := by decide +kernel
theorem dX5_type_6 : decode cX5_type 6 = .ok (.iload_n 1, 1) := by decide +kernel
theorem dX5_type_7 : decode cX5_type 7 = .ok (.bipush 126, 2) := by decide +kernel
theorem dX5_type_9 : decode cX5_type 9 = .ok (.if_icmp .le 6, 3) := by decide +kernel
theorem dX5_type_12 : decode cX5_type 12 = .ok (.ldc 79, 2) := by decide +kernel
theorem dX5_type_14 : decode cX5_type 14 = .ok (.ireturn, 1) := by decide +kernel
theorem dX5_type_15 : decode cX5_type 15 = .ok (.aload_n 0, 1) := by decide +kernel
theorem dX5_type_16 : decode cX5_type 16 = .ok (.getfield 26, 3) := by decide +kernel
theorem dX5_type_19 : decode cX5_type 19 = .ok (.iload_n 1, 1) := by decide +kernel
theorem dX5_type_20 : decode cX5_type 20 = .ok (.invokevirtual 210, 3) := by decide +kernel
theorem dX5_type_23 : decode cX5_type 23 = .ok (.ifCond .eq 13, 3) := by decide +kernel
theorem dX5_type_26 : decode cX5_type 26 = .ok (.aload_n 0, 1) := by decide +kernel
theorem dX5_type_27 : decode cX5_type 27 = .ok (.getfield 26, 3) := by decide +kernel
theorem dX5_type_30 : decode cX5_type 30 = .ok (.getfield 199, 3) := by decide +kernel
theorem dX5_type_33 : decode cX5_type 33 = .ok (.goto 5, 3) := by decide +kernel
theorem dX5_type_36 : decode cX5_type 36 = .ok (.ldc 213, 2) := by decide +kernel
theorem dX5_type_38 : decode cX5_type 38 = .ok (.ireturn, 1) := by decide +kernel
theorem dX5_clearText_0 : decode cX5_clearText 0 = .ok (.aload_n 0, 1) := by decide +kernel
theorem dX5_clearText_1 : decode cX5_clearText 1 = .ok (.getfield 26, 3) := by decide +kernel
theorem dX5_clearText_4 : decode cX5_clearText 4 = .ok (.getfield 199, 3) := by decide +kernel
theorem dX5_clearText_7 : decode cX5_clearText 7 = .ok (.istore_n 1, 1) := by decide +kernel
theorem dX5_clearText_8 : decode cX5_clearText 8 = .ok (.aload_n 0, 1) := by decide +kernel
theorem dX5_clearText_9 : decode cX5_clearText 9 = .ok (.getfield 26, 3) := by decide +kernel
theorem dX5_clearText_12 : decode cX5_clearText 12 = .ok (.iconst 0, 1) := by decide +kernel
theorem dX5_clearText_13 : decode cX5_clearText 13 = .ok (.putfield 199, 3) := by decide +kernel
theorem dX5_clearText_16 : decode cX5_clearText 16 = .ok (.iload_n 1, 1) := by decide +kernel
theorem dX5_clearText_17 : decode cX5_clearText 17 = .ok (.ireturn, 1) := by decide +kernel
set_option maxRecDepth 20000 in
theorem ggX5_fault_X2_perform : GoodIn wsX5_fault wsX2_perform := goodIn_r _ [12, 13, 14, 15, 16, 17, 18, 19, 20, 21, 22, 23, 24, 25, 26, 27, 28, 29, 30, 31, 32, 33, 34, 35, 36, 37, 38, 39, 40, 41, 42, 43, 44, 45, 46, 47, 48, 49, 50, 51, 52, 53, 54, 55, 56, 57, 58, 59, 60, 61, 62, 63, 64, 65, 66, 67, 68, 69, 70, 71, 72, 73, 74, 75, 76, 77, 78, 79, 80, 81, 82, 83, 11, 84, 85, 86, 87, 88, 89, 90, 91, 92, 93, 94, 95, 96, 97, 98, 99, 100, 101, 102, 103, 104, 105, 106, 107, 108, 109, 110, 111, 112, 113, 114, 115, 116, 117, 118, 119, 120, 121, 122, 123, 124, 125, 126, 127, 128, 129, 130, 131, 132, 133, 134, 135, 136, 137, 138, 139, 140, 141, 142, 143, 144, 145, 146, 147, 148, 149, 150, 151, 152, 153, 154, 155, 156, 157, 158, 159, 160, 161, 162, 163, 164, 165, 166, 167, 168, 169, 170, 171, 172, 173, 174, 175, 176, 177, 178, 179, 180, 181, 182, 183, 184, 185, 186, 187, 188, 189, 190, 191, 192, 193, 194, 195, 196, 197, 198, 199, 200, 201, 202, 203, 204, 205, 206, 207, 208, 209, 210, 211, 212, 213, 214, 1, 215, 216, 6, 221, 222, 223, 224, 225, 226, 227, 228, 229, 230, 231, 232, 233, 234, 235, 236, 237, 238, 239, 240, 241, 242, 243, 244, 245, 246] rfl (by decide +kernel)
set_option maxRecDepth 20000 in
theorem gX5_fault_X2_perform : GoodIn wsX5_fault (wsV RX5 214 RX2 yX2_perform wsX2_perform) := goodIn_app (goodIn_of _ (by decide +kernel)) ggX5_fault_X2_perform
theorem dX5_fault_0 : decode cX5_fault 0 = .ok (.iload_n 1, 1) := by decide +kernel
theorem dX5_fault_1 : decode cX5_fault 1 = .ok (.ifCond .lt 8, 3) := by decide +kernel
theorem dX5_fault_4 : decode cX5_fault 4 = .ok (.iload_n 1, 1) := by decide +kernel
theorem dX5_fault_5 : decode cX5_fault 5 = .ok (.iconst 1, 1) := by decide +kernel
theorem dX5_fault_6 : decode cX5_fault 6 = .ok (.if_icmp .le 6, 3) := by decide +kernel
theorem dX5_fault_9 : decode cX5_fault 9 = .ok (.ldc 79, 2) := by decide +kernel
theorem dX5_fault_11 : decode cX5_fault 11 = .ok (.ireturn, 1) := by decide +kernel
theorem dX5_fault_12 : decode cX5_fault 12 = .ok (.aload_n 0, 1) := by decide +kernel
theorem dX5_fault_13 : decode cX5_fault 13 = .ok (.getfield 33, 3) := by decide +kernel
theorem dX5_fault_16 : decode cX5_fault 16 = .ok (.aload_n 0, 1) := by decide +kernel
theorem dX5_fault_17 : decode cX5_fault 17 = .ok (.getfield 26, 3) := by decide +kernel
theorem dX5_fault_20 : decode cX5_fault 20 = .ok (.aload_n 0, 1) := by decide +kernel
theorem dX5_fault_21 : decode cX5_fault 21 = .ok (.getfield 12, 3) := by decide +kernel
theorem dX5_fault_24 : decode cX5_fault 24 = .ok (.invokevirtual 214, 3) := by decide +kernel
theorem dX5_fault_27 : decode cX5_fault 27 = .ok (.aload_n 0, 1) := by decide +kernel
theorem dX5_fault_28 : decode cX5_fault 28 = .ok (.getfield 33, 3) := by decide +kernel
theorem dX5_fault_31 : decode cX5_fault 31 = .ok (.getfield 218, 3) := by decide +kernel
theorem dX5_fault_34 : decode cX5_fault 34 = .ok (.ifCond .ne 6, 3) := by decide +kernel
theorem dX5_fault_37 : decode cX5_fault 37 = .ok (.ldc 86, 2) := by decide +kernel
theorem dX5_fault_39 : decode cX5_fault 39 = .ok (.ireturn, 1) := by decide +kernel
theorem dX5_fault_40 : decode cX5_fault 40 = .ok (.iload_n 1, 1) := by decide +kernel
theorem dX5_fault_41 : decode cX5_fault 41 = .ok (.ifCond .ne 13, 3) := by decide +kernel
theorem dX5_fault_44 : decode cX5_fault 44 = .ok (.aload_n 0, 1) := by decide +kernel
theorem dX5_fault_45 : decode cX5_fault 45 = .ok (.getfield 33, 3) := by decide +kernel
theorem dX5_fault_48 : decode cX5_fault 48 = .ok (.getfield 221, 3) := by decide +kernel
theorem dX5_fault_51 : decode cX5_fault 51 = .ok (.goto 10, 3) := by decide +kernel
theorem dX5_fault_54 : decode cX5_fault 54 = .ok (.aload_n 0, 1) := by decide +kernel
theorem dX5_fault_55 : decode cX5_fault 55 = .ok (.getfield 33, 3) := by decide +kernel
theorem dX5_fault_58 : decode cX5_fault 58 = .ok (.getfield 218, 3) := by decide +kernel
theorem dX5_fault_61 : decode cX5_fault 61 = .ok (.ireturn, 1) := by decide +kernel
set_option maxRecDepth 20000 in
theorem ggX5_play_X2_perform : GoodIn wsX5_play wsX2_perform := goodIn_r _ [13, 14, 15, 16, 17, 18, 19, 20, 21, 22, 23, 24, 25, 26, 27, 28, 29, 30, 31, 32, 33, 34, 35, 36, 37, 38, 39, 40, 41, 42, 43, 44, 45, 46, 47, 48, 49, 50, 51, 52, 53, 54, 55, 56, 57, 58, 59, 60, 61, 62, 63, 64, 65, 66, 67, 68, 69, 70, 71, 72, 73, 74, 75, 76, 77, 78, 79, 80, 81, 82, 83, 84, 12, 85, 86, 87, 88, 89, 90, 91, 92, 93, 94, 95, 96, 97, 98, 99, 100, 101, 102, 103, 104, 105, 106, 107, 108, 109, 110, 111, 112, 113, 114, 115, 116, 117, 118, 119, 120, 121, 122, 123, 124, 125, 126, 127, 128, 129, 130, 131, 132, 133, 134, 135, 136, 137, 138, 139, 140, 141, 142, 143, 144, 145, 146, 147, 148, 149, 150, 151, 152, 153, 154, 155, 156, 157, 158, 159, 160, 161, 162, 163, 164, 165, 166, 167, 168, 169, 170, 171, 172, 173, 174, 175, 176, 177, 178, 179, 180, 181, 182, 183, 184, 185, 186, 187, 188, 189, 190, 191, 192, 193, 194, 195, 196, 197, 198, 199, 200, 201, 202, 203, 204, 205, 206, 207, 208, 209, 210, 211, 212, 213, 214, 215, 216, 5, 217, 218, 249, 250, 251, 266, 267, 268, 269, 270, 252, 253, 254, 255, 256, 257, 258, 259, 260, 261, 262, 263, 264, 265, 271, 272, 273, 274] rfl (by decide +kernel)
set_option maxRecDepth 20000 in
theorem gX5_play_X2_perform : GoodIn wsX5_play (wsV RX5 214 RX2 yX2_perform wsX2_perform) := goodIn_app (goodIn_of _ (by decide +kernel)) ggX5_play_X2_perform
set_option maxRecDepth 20000 in
theorem ggX5_play_X0_prepare : GoodIn wsX5_play wsX0_prepare := goodIn_r _ [223, 224, 225, 226, 227, 222, 228, 229, 230, 20, 21, 22, 23, 24, 25, 26, 27, 28, 29, 30, 31, 32, 33, 34, 35, 36, 37, 38, 39, 40, 41, 42, 43, 44, 45, 46, 47, 48, 49, 50, 51, 275, 276, 252, 253, 254, 255, 256, 257, 258, 259, 260, 261, 262, 263, 264, 265, 271, 272, 273, 274] rfl (by decide +kernel)
set_option maxRecDepth 20000 in
theorem gX5_play_X0_prepare : GoodIn wsX5_play (wsV RX5 37 RX0 yX0_prepare wsX0_prepare) := goodIn_app (goodIn_of _ (by decide +kernel)) ggX5_play_X0_prepare
set_option maxRecDepth 20000 in
theorem ggX5_play_X1_copyFrom : GoodIn wsX5_play wsX1_copyFrom := goodIn_r _ [23, 24, 25, 26, 27, 28, 29, 30, 31, 32, 33, 34, 35, 36, 37, 38, 39, 40, 41, 42, 43, 44, 45, 46, 47, 48, 49, 50, 51, 252, 253, 254, 255, 256, 257, 258, 259, 260, 261, 262, 263, 264, 265, 271, 272, 273, 274] rfl (by decide +kernel)
set_option maxRecDepth 20000 in
theorem gX5_play_X1_copyFrom : GoodIn wsX5_play (wsV RX5 149 RX1 yX1_copyFrom wsX1_copyFrom) := goodIn_app (goodIn_of _ (by decide +kernel)) ggX5_play_X1_copyFrom
set_option maxRecDepth 20000 in
theorem ggX5_play_X5_settle : GoodIn wsX5_play wsX5_settle := goodIn_r _ [235, 8, 236, 213, 214, 215, 216, 5, 217, 218, 237, 238, 239, 222, 240, 224, 241, 242, 243, 244, 229, 225, 226, 227, 228, 230, 20, 21, 22, 23, 24, 25, 26, 27, 28, 29, 30, 31, 32, 33, 34, 35, 36, 37, 38, 39, 40, 41, 42, 43, 44, 45, 46, 47, 48, 49, 50, 51, 245, 246, 247, 248, 275, 276, 252, 253, 254, 255, 256, 257, 258, 259, 260, 261, 262, 263, 264, 265, 271, 272, 273, 274] rfl (by decide +kernel)
set_option maxRecDepth 20000 in
theorem gX5_play_X5_settle : GoodIn wsX5_play (wsV RX5 45 RX5 yX5_settle wsX5_settle) := goodIn_app (goodIn_of _ (by decide +kernel)) ggX5_play_X5_settle
theorem dX5_play_0 : decode cX5_play 0 = .ok (.aload_n 0, 1) := by decide +kernel
theorem dX5_play_1 : decode cX5_play 1 = .ok (.getfield 33, 3) := by decide +kernel
theorem dX5_play_4 : decode cX5_play 4 = .ok (.aload_n 0, 1) := by decide +kernel
theorem dX5_play_5 : decode cX5_play 5 = .ok (.getfield 26, 3) := by decide +kernel
theorem dX5_play_8 : decode cX5_play 8 = .ok (.aload_n 0, 1) := by decide +kernel
theorem dX5_play_9 : decode cX5_play 9 = .ok (.getfield 12, 3) := by decide +kernel
theorem dX5_play_12 : decode cX5_play 12 = .ok (.invokevirtual 214, 3) := by decide +kernel
theorem dX5_play_15 : decode cX5_play 15 = .ok (.aload_n 0, 1) := by decide +kernel
theorem dX5_play_16 : decode cX5_play 16 = .ok (.getfield 33, 3) := by decide +kernel
theorem dX5_play_19 : decode cX5_play 19 = .ok (.getfield 218, 3) := by decide +kernel
theorem dX5_play_22 : decode cX5_play 22 = .ok (.ifCond .eq 6, 3) := by decide +kernel
theorem dX5_play_25 : decode cX5_play 25 = .ok (.ldc 209, 2) := by decide +kernel
theorem dX5_play_27 : decode cX5_play 27 = .ok (.ireturn, 1) := by decide +kernel
theorem dX5_play_28 : decode cX5_play 28 = .ok (.aload_n 0, 1) := by decide +kernel
theorem dX5_play_29 : decode cX5_play 29 = .ok (.getfield 33, 3) := by decide +kernel
theorem dX5_play_32 : decode cX5_play 32 = .ok (.getfield 146, 3) := by decide +kernel
theorem dX5_play_35 : decode cX5_play 35 = .ok (.getfield 185, 3) := by decide +kernel
theorem dX5_play_38 : decode cX5_play 38 = .ok (.aload_n 0, 1) := by decide +kernel
theorem dX5_play_39 : decode cX5_play 39 = .ok (.getfield 12, 3) := by decide +kernel
theorem dX5_play_42 : decode cX5_play 42 = .ok (.getfield 185, 3) := by decide +kernel
theorem dX5_play_45 : decode cX5_play 45 = .ok (.isub, 1) := by decide +kernel
theorem dX5_play_46 : decode cX5_play 46 = .ok (.istore_n 1, 1) := by decide +kernel
theorem dX5_play_47 : decode cX5_play 47 = .ok (.aload_n 0, 1) := by decide +kernel
theorem dX5_play_48 : decode cX5_play 48 = .ok (.getfield 19, 3) := by decide +kernel
theorem dX5_play_51 : decode cX5_play 51 = .ok (.aload_n 0, 1) := by decide +kernel
theorem dX5_play_52 : decode cX5_play 52 = .ok (.getfield 12, 3) := by decide +kernel
theorem dX5_play_55 : decode cX5_play 55 = .ok (.invokevirtual 37, 3) := by decide +kernel
theorem dX5_play_58 : decode cX5_play 58 = .ok (.aload_n 0, 1) := by decide +kernel
theorem dX5_play_59 : decode cX5_play 59 = .ok (.getfield 12, 3) := by decide +kernel
theorem dX5_play_62 : decode cX5_play 62 = .ok (.aload_n 0, 1) := by decide +kernel
theorem dX5_play_63 : decode cX5_play 63 = .ok (.getfield 33, 3) := by decide +kernel
theorem dX5_play_66 : decode cX5_play 66 = .ok (.getfield 146, 3) := by decide +kernel
theorem dX5_play_69 : decode cX5_play 69 = .ok (.invokevirtual 149, 3) := by decide +kernel
theorem dX5_play_72 : decode cX5_play 72 = .ok (.aload_n 0, 1) := by decide +kernel
theorem dX5_play_73 : decode cX5_play 73 = .ok (.iload_n 1, 1) := by decide +kernel
theorem dX5_play_74 : decode cX5_play 74 = .ok (.invokevirtual 45, 3) := by decide +kernel
theorem dX5_play_77 : decode cX5_play 77 = .ok (.ireturn, 1) := by decide +kernel
set_option maxRecDepth 20000 in
theorem ggX5_settle_X5_isError : GoodIn wsX5_settle wsX5_isError := goodIn_r _ [5, 6, 7, 8, 9] rfl (by decide +kernel)
set_option maxRecDepth 20000 in
theorem gX5_settle_X5_isError : GoodIn wsX5_settle (va_wsS RX5 224 yX5_isError wsX5_isError) := goodIn_app (goodIn_of _ (by decide +kernel)) ggX5_settle_X5_isError
set_option maxRecDepth 20000 in
theorem ggX5_settle_X0_keepPrepared : GoodIn wsX5_settle wsX0_keepPrepared := goodIn_r _ [14, 15, 16, 17, 18, 13, 19, 20, 21, 22, 23, 24, 25, 26, 27, 28, 29, 30, 31, 32, 33, 34, 35, 36, 37, 38, 39, 40, 41, 42, 43, 44, 45, 46, 47, 48, 49, 50, 51, 52, 53, 54, 55, 56, 57, 62, 63, 64, 65, 66, 67, 68, 69, 70, 71, 72, 73, 74, 75, 76, 77, 78, 79, 80, 81] rfl (by decide +kernel)
set_option maxRecDepth 20000 in
theorem gX5_settle_X0_keepPrepared : GoodIn wsX5_settle (wsV RX5 227 RX0 yX0_keepPrepared wsX0_keepPrepared) := goodIn_app (goodIn_of _ (by decide +kernel)) ggX5_settle_X0_keepPrepared
theorem dX5_settle_0 : decode cX5_settle 0 = .ok (.iload_n 1, 1) := by decide +kernel
theorem dX5_settle_1 : decode cX5_settle 1 = .ok (.invokestatic 224, 3) := by decide +kernel
theorem dX5_settle_4 : decode cX5_settle 4 = .ok (.ifCond .ne 10, 3) := by decide +kernel
theorem dX5_settle_7 : decode cX5_settle 7 = .ok (.aload_n 0, 1) := by decide +kernel
theorem dX5_settle_8 : decode cX5_settle 8 = .ok (.getfield 19, 3) := by decide +kernel
theorem dX5_settle_11 : decode cX5_settle 11 = .ok (.invokevirtual 227, 3) := by decide +kernel
theorem dX5_settle_14 : decode cX5_settle 14 = .ok (.iload_n 1, 1) := by decide +kernel
theorem dX5_settle_15 : decode cX5_settle 15 = .ok (.ireturn, 1) := by decide +kernel
theorem dX5_isError_0 : decode cX5_isError 0 = .ok (.iload_n 0, 1) := by decide +kernel
theorem dX5_isError_1 : decode cX5_isError 1 = .ok (.ldc 79, 2) := by decide +kernel
theorem dX5_isError_3 : decode cX5_isError 3 = .ok (.if_icmp .eq 21, 3) := by decide +kernel
theorem dX5_isError_6 : decode cX5_isError 6 = .ok (.iload_n 0, 1) := by decide +kernel
theorem dX5_isError_7 : decode cX5_isError 7 = .ok (.ldc 209, 2) := by decide +kernel
theorem dX5_isError_9 : decode cX5_isError 9 = .ok (.if_icmp .eq 15, 3) := by decide +kernel
theorem dX5_isError_12 : decode cX5_isError 12 = .ok (.iload_n 0, 1) := by decide +kernel
theorem dX5_isError_13 : decode cX5_isError 13 = .ok (.ldc 213, 2) := by decide +kernel
theorem dX5_isError_15 : decode cX5_isError 15 = .ok (.if_icmp .eq 9, 3) := by decide +kernel
theorem dX5_isError_18 : decode cX5_isError 18 = .ok (.iload_n 0, 1) := by decide +kernel
theorem dX5_isError_19 : decode cX5_isError 19 = .ok (.ldc 86, 2) := by decide +kernel
theorem dX5_isError_21 : decode cX5_isError 21 = .ok (.if_icmp .ne 7, 3) := by decide +kernel
theorem dX5_isError_24 : decode cX5_isError 24 = .ok (.iconst 1, 1) := by decide +kernel
theorem dX5_isError_25 : decode cX5_isError 25 = .ok (.goto 4, 3) := by decide +kernel
theorem dX5_isError_28 : decode cX5_isError 28 = .ok (.iconst 0, 1) := by decide +kernel
theorem dX5_isError_29 : decode cX5_isError 29 = .ok (.ireturn, 1) := by decide +kernel
