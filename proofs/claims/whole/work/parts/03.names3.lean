theorem dX11_tear_20 : decode cX11_tear 20 = .ok (.iconst 0, 1) := by decide +kernel
theorem dX11_tear_21 : decode cX11_tear 21 = .ok (.putfield 121, 3) := by decide +kernel
theorem dX11_tear_24 : decode cX11_tear 24 = .ok (.aload_n 0, 1) := by decide +kernel
theorem dX11_tear_25 : decode cX11_tear 25 = .ok (.getfield 82, 3) := by decide +kernel
theorem dX11_tear_28 : decode cX11_tear 28 = .ok (.iconst 0, 1) := by decide +kernel
theorem dX11_tear_29 : decode cX11_tear 29 = .ok (.putfield 124, 3) := by decide +kernel
theorem dX11_tear_32 : decode cX11_tear 32 = .ok (.iload_n 1, 1) := by decide +kernel
theorem dX11_tear_33 : decode cX11_tear 33 = .ok (.ireturn, 1) := by decide +kernel
set_option maxRecDepth 20000 in
theorem ggX11_judge_X8_get : GoodIn wsX11_judge wsX8_get := goodIn_r _ [7, 8, 9, 10, 11, 12, 39] (by decide +kernel) (by decide +kernel)
set_option maxRecDepth 20000 in
theorem gX11_judge_X8_get : GoodIn wsX11_judge (wsV RX11 138 RX8 yX8_get wsX8_get) := goodIn_app (goodIn_of _ (by decide +kernel)) ggX11_judge_X8_get
set_option maxRecDepth 20000 in
theorem ggX11_judge_J6_bitCount_0f7a4 : GoodIn wsX11_judge wsJ6_bitCount_0f7a4 := goodIn_r _ [16, 17, 18, 19] (by decide +kernel) (by decide +kernel)
set_option maxRecDepth 20000 in
theorem gX11_judge_J6_bitCount_0f7a4 : GoodIn wsX11_judge (va_wsS RX11 267 yJ6_bitCount_0f7a4 wsJ6_bitCount_0f7a4) := goodIn_app (goodIn_of _ (by decide +kernel)) ggX11_judge_J6_bitCount_0f7a4
set_option maxRecDepth 20000 in
theorem ggX11_judge_X0_firstOtherThan : GoodIn wsX11_judge wsX0_firstOtherThan := goodIn_r _ [24, 25, 26, 27, 10, 11, 12, 40, 41] (by decide +kernel) (by decide +kernel)
set_option maxRecDepth 20000 in
theorem gX11_judge_X0_firstOtherThan : GoodIn wsX11_judge (wsV RX11 272 RX0 yX0_firstOtherThan wsX0_firstOtherThan) := goodIn_app (goodIn_of _ (by decide +kernel)) ggX11_judge_X0_firstOtherThan
theorem dX11_judge_0 : decode cX11_judge 0 = .ok (.aload_n 0, 1) := by decide +kernel
theorem dX11_judge_1 : decode cX11_judge 1 = .ok (.getfield 82, 3) := by decide +kernel
theorem dX11_judge_4 : decode cX11_judge 4 = .ok (.aload_n 0, 1) := by decide +kernel
theorem dX11_judge_5 : decode cX11_judge 5 = .ok (.getfield 35, 3) := by decide +kernel
theorem dX11_judge_8 : decode cX11_judge 8 = .ok (.iconst 4, 1) := by decide +kernel
theorem dX11_judge_9 : decode cX11_judge 9 = .ok (.invokevirtual 138, 3) := by decide +kernel
theorem dX11_judge_12 : decode cX11_judge 12 = .ok (.invokestatic 267, 3) := by decide +kernel
theorem dX11_judge_15 : decode cX11_judge 15 = .ok (.invokevirtual 272, 3) := by decide +kernel
theorem dX11_judge_18 : decode cX11_judge 18 = .ok (.ireturn, 1) := by decide +kernel
theorem dX11_seed_0 : decode cX11_seed 0 = .ok (.iload_n 1, 1) := by decide +kernel
theorem dX11_seed_1 : decode cX11_seed 1 = .ok (.ifCond .ge 6, 3) := by decide +kernel
theorem dX11_seed_4 : decode cX11_seed 4 = .ok (.ldc 91, 2) := by decide +kernel
theorem dX11_seed_6 : decode cX11_seed 6 = .ok (.ireturn, 1) := by decide +kernel
theorem dX11_seed_7 : decode cX11_seed 7 = .ok (.aload_n 0, 1) := by decide +kernel
theorem dX11_seed_8 : decode cX11_seed 8 = .ok (.getfield 275, 3) := by decide +kernel
theorem dX11_seed_11 : decode cX11_seed 11 = .ok (.istore_n 2, 1) := by decide +kernel
theorem dX11_seed_12 : decode cX11_seed 12 = .ok (.aload_n 0, 1) := by decide +kernel
theorem dX11_seed_13 : decode cX11_seed 13 = .ok (.iload_n 1, 1) := by decide +kernel
theorem dX11_seed_14 : decode cX11_seed 14 = .ok (.putfield 275, 3) := by decide +kernel
theorem dX11_seed_17 : decode cX11_seed 17 = .ok (.iload_n 2, 1) := by decide +kernel
theorem dX11_seed_18 : decode cX11_seed 18 = .ok (.ireturn, 1) := by decide +kernel
set_option maxRecDepth 20000 in
theorem ggX11_keep_X11_imageAt : GoodIn wsX11_keep wsX11_imageAt := goodIn_r _ [12, 13, 39, 40, 41, 42, 43, 44, 45, 46, 47, 48, 49] (by decide +kernel) (by decide +kernel)
set_option maxRecDepth 20000 in
theorem gX11_keep_X11_imageAt : GoodIn wsX11_keep (wsV RX11 278 RX11 yX11_imageAt wsX11_imageAt) := goodIn_app (goodIn_of _ (by decide +kernel)) ggX11_keep_X11_imageAt
set_option maxRecDepth 20000 in
theorem ggX11_keep_X8_take : GoodIn wsX11_keep wsX8_take := goodIn_r _ [18, 19, 20, 21, 22, 23, 24, 25, 26, 27, 28, 29, 50] (by decide +kernel) (by decide +kernel)
set_option maxRecDepth 20000 in
theorem gX11_keep_X8_take : GoodIn wsX11_keep (wsV RX11 283 RX8 yX8_take wsX8_take) := goodIn_app (goodIn_of _ (by decide +kernel)) ggX11_keep_X8_take
set_option maxRecDepth 20000 in
theorem ggX11_keep_X4_forget : GoodIn wsX11_keep wsX4_forget := goodIn_r _ [34, 35, 51, 52, 53] (by decide +kernel) (by decide +kernel)
set_option maxRecDepth 20000 in
theorem gX11_keep_X4_forget : GoodIn wsX11_keep (wsV RX11 115 RX4 yX4_forget wsX4_forget) := goodIn_app (goodIn_of _ (by decide +kernel)) ggX11_keep_X4_forget
theorem dX11_keep_0 : decode cX11_keep 0 = .ok (.aload_n 0, 1) := by decide +kernel
theorem dX11_keep_1 : decode cX11_keep 1 = .ok (.iload_n 1, 1) := by decide +kernel
theorem dX11_keep_2 : decode cX11_keep 2 = .ok (.invokevirtual 278, 3) := by decide +kernel
theorem dX11_keep_5 : decode cX11_keep 5 = .ok (.astore_n 2, 1) := by decide +kernel
theorem dX11_keep_6 : decode cX11_keep 6 = .ok (.aload_n 2, 1) := by decide +kernel
theorem dX11_keep_7 : decode cX11_keep 7 = .ok (.ifnonnull 6, 3) := by decide +kernel
theorem dX11_keep_10 : decode cX11_keep 10 = .ok (.ldc 146, 2) := by decide +kernel
theorem dX11_keep_12 : decode cX11_keep 12 = .ok (.ireturn, 1) := by decide +kernel
theorem dX11_keep_13 : decode cX11_keep 13 = .ok (.aload_n 2, 1) := by decide +kernel
theorem dX11_keep_14 : decode cX11_keep 14 = .ok (.getfield 282, 3) := by decide +kernel
theorem dX11_keep_17 : decode cX11_keep 17 = .ok (.aload_n 0, 1) := by decide +kernel
theorem dX11_keep_18 : decode cX11_keep 18 = .ok (.getfield 35, 3) := by decide +kernel
theorem dX11_keep_21 : decode cX11_keep 21 = .ok (.invokevirtual 283, 3) := by decide +kernel
theorem dX11_keep_24 : decode cX11_keep 24 = .ok (.aload_n 2, 1) := by decide +kernel
theorem dX11_keep_25 : decode cX11_keep 25 = .ok (.aload_n 0, 1) := by decide +kernel
theorem dX11_keep_26 : decode cX11_keep 26 = .ok (.getfield 275, 3) := by decide +kernel
theorem dX11_keep_29 : decode cX11_keep 29 = .ok (.putfield 285, 3) := by decide +kernel
theorem dX11_keep_32 : decode cX11_keep 32 = .ok (.aload_n 2, 1) := by decide +kernel
theorem dX11_keep_33 : decode cX11_keep 33 = .ok (.iconst 1, 1) := by decide +kernel
theorem dX11_keep_34 : decode cX11_keep 34 = .ok (.putfield 288, 3) := by decide +kernel
theorem dX11_keep_37 : decode cX11_keep 37 = .ok (.aload_n 0, 1) := by decide +kernel
theorem dX11_keep_38 : decode cX11_keep 38 = .ok (.getfield 42, 3) := by decide +kernel
theorem dX11_keep_41 : decode cX11_keep 41 = .ok (.invokevirtual 115, 3) := by decide +kernel
theorem dX11_keep_44 : decode cX11_keep 44 = .ok (.iconst 1, 1) := by decide +kernel
theorem dX11_keep_45 : decode cX11_keep 45 = .ok (.ireturn, 1) := by decide +kernel
set_option maxRecDepth 20000 in
theorem ggX11_goBack_X11_imageAt : GoodIn wsX11_goBack wsX11_imageAt := goodIn_r _ [13, 14, 40, 41, 42, 43, 44, 45, 46, 47, 48, 49, 50] (by decide +kernel) (by decide +kernel)
set_option maxRecDepth 20000 in
theorem gX11_goBack_X11_imageAt : GoodIn wsX11_goBack (wsV RX11 278 RX11 yX11_imageAt wsX11_imageAt) := goodIn_app (goodIn_of _ (by decide +kernel)) ggX11_goBack_X11_imageAt
set_option maxRecDepth 20000 in
theorem ggX11_goBack_X8_take : GoodIn wsX11_goBack wsX8_take := goodIn_r _ [19, 20, 21, 22, 23, 24, 25, 26, 27, 28, 29, 30, 51] (by decide +kernel) (by decide +kernel)
set_option maxRecDepth 20000 in
theorem gX11_goBack_X8_take : GoodIn wsX11_goBack (wsV RX11 283 RX8 yX8_take wsX8_take) := goodIn_app (goodIn_of _ (by decide +kernel)) ggX11_goBack_X8_take
set_option maxRecDepth 20000 in
theorem ggX11_goBack_X4_forget : GoodIn wsX11_goBack wsX4_forget := goodIn_r _ [35, 36, 52, 53, 54] (by decide +kernel) (by decide +kernel)
set_option maxRecDepth 20000 in
theorem gX11_goBack_X4_forget : GoodIn wsX11_goBack (wsV RX11 115 RX4 yX4_forget wsX4_forget) := goodIn_app (goodIn_of _ (by decide +kernel)) ggX11_goBack_X4_forget
theorem dX11_goBack_0 : decode cX11_goBack 0 = .ok (.aload_n 0, 1) := by decide +kernel
theorem dX11_goBack_1 : decode cX11_goBack 1 = .ok (.iload_n 1, 1) := by decide +kernel
theorem dX11_goBack_2 : decode cX11_goBack 2 = .ok (.invokevirtual 278, 3) := by decide +kernel
theorem dX11_goBack_5 : decode cX11_goBack 5 = .ok (.astore_n 2, 1) := by decide +kernel
theorem dX11_goBack_6 : decode cX11_goBack 6 = .ok (.aload_n 2, 1) := by decide +kernel
theorem dX11_goBack_7 : decode cX11_goBack 7 = .ok (.ifnonnull 6, 3) := by decide +kernel
theorem dX11_goBack_10 : decode cX11_goBack 10 = .ok (.ldc 146, 2) := by decide +kernel
theorem dX11_goBack_12 : decode cX11_goBack 12 = .ok (.ireturn, 1) := by decide +kernel
theorem dX11_goBack_13 : decode cX11_goBack 13 = .ok (.aload_n 2, 1) := by decide +kernel
theorem dX11_goBack_14 : decode cX11_goBack 14 = .ok (.getfield 288, 3) := by decide +kernel
theorem dX11_goBack_17 : decode cX11_goBack 17 = .ok (.ifCond .ne 6, 3) := by decide +kernel
theorem dX11_goBack_20 : decode cX11_goBack 20 = .ok (.ldc 193, 2) := by decide +kernel
theorem dX11_goBack_22 : decode cX11_goBack 22 = .ok (.ireturn, 1) := by decide +kernel
theorem dX11_goBack_23 : decode cX11_goBack 23 = .ok (.aload_n 0, 1) := by decide +kernel
theorem dX11_goBack_24 : decode cX11_goBack 24 = .ok (.getfield 35, 3) := by decide +kernel
theorem dX11_goBack_27 : decode cX11_goBack 27 = .ok (.aload_n 2, 1) := by decide +kernel
theorem dX11_goBack_28 : decode cX11_goBack 28 = .ok (.getfield 282, 3) := by decide +kernel
theorem dX11_goBack_31 : decode cX11_goBack 31 = .ok (.invokevirtual 283, 3) := by decide +kernel
theorem dX11_goBack_34 : decode cX11_goBack 34 = .ok (.aload_n 0, 1) := by decide +kernel
theorem dX11_goBack_35 : decode cX11_goBack 35 = .ok (.aload_n 2, 1) := by decide +kernel
theorem dX11_goBack_36 : decode cX11_goBack 36 = .ok (.getfield 285, 3) := by decide +kernel
theorem dX11_goBack_39 : decode cX11_goBack 39 = .ok (.putfield 275, 3) := by decide +kernel
theorem dX11_goBack_42 : decode cX11_goBack 42 = .ok (.aload_n 0, 1) := by decide +kernel
theorem dX11_goBack_43 : decode cX11_goBack 43 = .ok (.getfield 42, 3) := by decide +kernel
theorem dX11_goBack_46 : decode cX11_goBack 46 = .ok (.invokevirtual 115, 3) := by decide +kernel
theorem dX11_goBack_49 : decode cX11_goBack 49 = .ok (.iconst 1, 1) := by decide +kernel
theorem dX11_goBack_50 : decode cX11_goBack 50 = .ok (.ireturn, 1) := by decide +kernel
theorem dX11_isOutside_0 : decode cX11_isOutside 0 = .ok (.iload_n 0, 1) := by decide +kernel
theorem dX11_isOutside_1 : decode cX11_isOutside 1 = .ok (.ifCond .lt 8, 3) := by decide +kernel
theorem dX11_isOutside_4 : decode cX11_isOutside 4 = .ok (.iload_n 0, 1) := by decide +kernel
theorem dX11_isOutside_5 : decode cX11_isOutside 5 = .ok (.iload_n 1, 1) := by decide +kernel
theorem dX11_isOutside_6 : decode cX11_isOutside 6 = .ok (.if_icmp .le 7, 3) := by decide +kernel
theorem dX11_isOutside_9 : decode cX11_isOutside 9 = .ok (.iconst 1, 1) := by decide +kernel
theorem dX11_isOutside_10 : decode cX11_isOutside 10 = .ok (.goto 4, 3) := by decide +kernel
theorem dX11_isOutside_13 : decode cX11_isOutside 13 = .ok (.iconst 0, 1) := by decide +kernel
theorem dX11_isOutside_14 : decode cX11_isOutside 14 = .ok (.ireturn, 1) := by decide +kernel
set_option maxRecDepth 20000 in
theorem ggX11_isFullOfMornings_X8_get : GoodIn wsX11_isFullOfMornings wsX8_get := goodIn_r _ [6, 7, 8, 9, 10, 11, 23] (by decide +kernel) (by decide +kernel)
set_option maxRecDepth 20000 in
theorem gX11_isFullOfMornings_X8_get : GoodIn wsX11_isFullOfMornings (wsV RX11 138 RX8 yX8_get wsX8_get) := goodIn_app (goodIn_of _ (by decide +kernel)) ggX11_isFullOfMornings_X8_get
theorem dX11_isFullOfMornings_0 : decode cX11_isFullOfMornings 0 = .ok (.aload_n 0, 1) := by decide +kernel
theorem dX11_isFullOfMornings_1 : decode cX11_isFullOfMornings 1 = .ok (.getfield 35, 3) := by decide +kernel
theorem dX11_isFullOfMornings_4 : decode cX11_isFullOfMornings 4 = .ok (.iconst 1, 1) := by decide +kernel
theorem dX11_isFullOfMornings_5 : decode cX11_isFullOfMornings 5 = .ok (.invokevirtual 138, 3) := by decide +kernel
theorem dX11_isFullOfMornings_8 : decode cX11_isFullOfMornings 8 = .ok (.sipush 9000, 3) := by decide +kernel
theorem dX11_isFullOfMornings_11 : decode cX11_isFullOfMornings 11 = .ok (.if_icmp .le 7, 3) := by decide +kernel
theorem dX11_isFullOfMornings_14 : decode cX11_isFullOfMornings 14 = .ok (.iconst 1, 1) := by decide +kernel
theorem dX11_isFullOfMornings_15 : decode cX11_isFullOfMornings 15 = .ok (.goto 4, 3) := by decide +kernel
theorem dX11_isFullOfMornings_18 : decode cX11_isFullOfMornings 18 = .ok (.iconst 0, 1) := by decide +kernel
theorem dX11_isFullOfMornings_19 : decode cX11_isFullOfMornings 19 = .ok (.ireturn, 1) := by decide +kernel
set_option maxRecDepth 20000 in
theorem ggX11_change_X8_get : GoodIn wsX11_change wsX8_get := goodIn_r _ [7, 8, 9, 10, 11, 12, 49] (by decide +kernel) (by decide +kernel)
set_option maxRecDepth 20000 in
theorem gX11_change_X8_get : GoodIn wsX11_change (wsV RX11 138 RX8 yX8_get wsX8_get) := goodIn_app (goodIn_of _ (by decide +kernel)) ggX11_change_X8_get
set_option maxRecDepth 20000 in
theorem ggX11_change_X4_push : GoodIn wsX11_change wsX4_push := goodIn_r _ [17, 18, 19, 20, 21, 22, 23, 24, 25, 26, 27, 11, 28, 29, 10, 12, 30, 31, 32, 49, 50, 51, 52] (by decide +kernel) (by decide +kernel)
set_option maxRecDepth 20000 in
theorem gX11_change_X4_push : GoodIn wsX11_change (wsV RX11 178 RX4 yX4_push wsX4_push) := goodIn_app (goodIn_of _ (by decide +kernel)) ggX11_change_X4_push
set_option maxRecDepth 20000 in
theorem ggX11_change_X8_put : GoodIn wsX11_change wsX8_put := goodIn_r _ [36, 8, 37, 31, 11, 32, 49] (by decide +kernel) (by decide +kernel)
set_option maxRecDepth 20000 in
theorem gX11_change_X8_put : GoodIn wsX11_change (wsV RX11 197 RX8 yX8_put wsX8_put) := goodIn_app (goodIn_of _ (by decide +kernel)) ggX11_change_X8_put
theorem dX11_change_0 : decode cX11_change 0 = .ok (.aload_n 0, 1) := by decide +kernel
theorem dX11_change_1 : decode cX11_change 1 = .ok (.getfield 35, 3) := by decide +kernel
theorem dX11_change_4 : decode cX11_change 4 = .ok (.iload_n 1, 1) := by decide +kernel
theorem dX11_change_5 : decode cX11_change 5 = .ok (.invokevirtual 138, 3) := by decide +kernel
theorem dX11_change_8 : decode cX11_change 8 = .ok (.istore_n 3, 1) := by decide +kernel
theorem dX11_change_9 : decode cX11_change 9 = .ok (.aload_n 0, 1) := by decide +kernel
theorem dX11_change_10 : decode cX11_change 10 = .ok (.getfield 42, 3) := by decide +kernel
theorem dX11_change_13 : decode cX11_change 13 = .ok (.aload_n 0, 1) := by decide +kernel
theorem dX11_change_14 : decode cX11_change 14 = .ok (.getfield 35, 3) := by decide +kernel
theorem dX11_change_17 : decode cX11_change 17 = .ok (.invokevirtual 178, 3) := by decide +kernel
theorem dX11_change_20 : decode cX11_change 20 = .ok (.aload_n 0, 1) := by decide +kernel
theorem dX11_change_21 : decode cX11_change 21 = .ok (.getfield 35, 3) := by decide +kernel
theorem dX11_change_24 : decode cX11_change 24 = .ok (.iload_n 1, 1) := by decide +kernel
theorem dX11_change_25 : decode cX11_change 25 = .ok (.iload_n 2, 1) := by decide +kernel
theorem dX11_change_26 : decode cX11_change 26 = .ok (.invokevirtual 197, 3) := by decide +kernel
theorem dX11_change_29 : decode cX11_change 29 = .ok (.iload_n 3, 1) := by decide +kernel
theorem dX11_change_30 : decode cX11_change 30 = .ok (.ireturn, 1) := by decide +kernel
set_option maxRecDepth 20000 in
theorem ggX11_swear_X8_get : GoodIn wsX11_swear wsX8_get := goodIn_r _ [9, 10, 11, 12, 13, 14, 77] (by decide +kernel) (by decide +kernel)
set_option maxRecDepth 20000 in
theorem gX11_swear_X8_get : GoodIn wsX11_swear (wsV RX11 138 RX8 yX8_get wsX8_get) := goodIn_app (goodIn_of _ (by decide +kernel)) ggX11_swear_X8_get
set_option maxRecDepth 20000 in
theorem ggX11_swear_X8_put : GoodIn wsX11_swear wsX8_put := goodIn_r _ [18, 10, 19, 20, 13, 21, 77] (by decide +kernel) (by decide +kernel)
set_option maxRecDepth 20000 in
theorem gX11_swear_X8_put : GoodIn wsX11_swear (wsV RX11 197 RX8 yX8_put wsX8_put) := goodIn_app (goodIn_of _ (by decide +kernel)) ggX11_swear_X8_put
set_option maxRecDepth 20000 in
theorem ggX11_swear_X2_hearers : GoodIn wsX11_swear wsX2_hearers := goodIn_r _ [26, 27, 28, 29, 30, 31, 25, 32, 33, 34, 35, 36, 12, 13, 14, 37, 38, 39, 40, 41, 42, 43, 44, 45, 46, 47, 48, 78, 79, 67, 68, 69, 70, 71, 72, 73, 74, 75, 76, 77] (by decide +kernel) (by decide +kernel)
set_option maxRecDepth 20000 in
theorem gX11_swear_X2_hearers : GoodIn wsX11_swear (wsV RX11 292 RX2 yX2_hearers wsX2_hearers) := goodIn_app (goodIn_of _ (by decide +kernel)) ggX11_swear_X2_hearers
set_option maxRecDepth 20000 in
theorem ggX11_swear_X2_saying : GoodIn wsX11_swear wsX2_saying := goodIn_r _ [52, 27, 53, 54, 55, 36, 12, 13, 14, 29, 30, 31, 25, 32, 33, 34, 35, 37, 38, 39, 40, 41, 42, 43, 44, 45, 46, 47, 48, 78, 79, 67, 68, 69, 70, 71, 72, 73, 74, 75, 76, 77] (by decide +kernel) (by decide +kernel)
set_option maxRecDepth 20000 in
theorem gX11_swear_X2_saying : GoodIn wsX11_swear (wsV RX11 208 RX2 yX2_saying wsX2_saying) := goodIn_app (goodIn_of _ (by decide +kernel)) ggX11_swear_X2_saying
theorem dX11_swear_0 : decode cX11_swear 0 = .ok (.aload_n 0, 1) := by decide +kernel
theorem dX11_swear_1 : decode cX11_swear 1 = .ok (.getfield 35, 3) := by decide +kernel
theorem dX11_swear_4 : decode cX11_swear 4 = .ok (.iconst 1, 1) := by decide +kernel
theorem dX11_swear_5 : decode cX11_swear 5 = .ok (.aload_n 0, 1) := by decide +kernel
theorem dX11_swear_6 : decode cX11_swear 6 = .ok (.getfield 35, 3) := by decide +kernel
theorem dX11_swear_9 : decode cX11_swear 9 = .ok (.iconst 1, 1) := by decide +kernel
theorem dX11_swear_10 : decode cX11_swear 10 = .ok (.invokevirtual 138, 3) := by decide +kernel
theorem dX11_swear_13 : decode cX11_swear 13 = .ok (.iconst 1, 1) := by decide +kernel
theorem dX11_swear_14 : decode cX11_swear 14 = .ok (.iadd, 1) := by decide +kernel
theorem dX11_swear_15 : decode cX11_swear 15 = .ok (.invokevirtual 197, 3) := by decide +kernel
theorem dX11_swear_18 : decode cX11_swear 18 = .ok (.aload_n 0, 1) := by decide +kernel
theorem dX11_swear_19 : decode cX11_swear 19 = .ok (.getfield 35, 3) := by decide +kernel
theorem dX11_swear_22 : decode cX11_swear 22 = .ok (.iconst 2, 1) := by decide +kernel
theorem dX11_swear_23 : decode cX11_swear 23 = .ok (.iload_n 1, 1) := by decide +kernel
theorem dX11_swear_24 : decode cX11_swear 24 = .ok (.invokevirtual 197, 3) := by decide +kernel
theorem dX11_swear_27 : decode cX11_swear 27 = .ok (.aload_n 0, 1) := by decide +kernel
theorem dX11_swear_28 : decode cX11_swear 28 = .ok (.getfield 35, 3) := by decide +kernel
theorem dX11_swear_31 : decode cX11_swear 31 = .ok (.iconst 3, 1) := by decide +kernel
theorem dX11_swear_32 : decode cX11_swear 32 = .ok (.iload_n 2, 1) := by decide +kernel
theorem dX11_swear_33 : decode cX11_swear 33 = .ok (.invokevirtual 197, 3) := by decide +kernel
theorem dX11_swear_36 : decode cX11_swear 36 = .ok (.aload_n 0, 1) := by decide +kernel
theorem dX11_swear_37 : decode cX11_swear 37 = .ok (.getfield 35, 3) := by decide +kernel
theorem dX11_swear_40 : decode cX11_swear 40 = .ok (.iconst 4, 1) := by decide +kernel
theorem dX11_swear_41 : decode cX11_swear 41 = .ok (.aload_n 0, 1) := by decide +kernel
theorem dX11_swear_42 : decode cX11_swear 42 = .ok (.getfield 57, 3) := by decide +kernel
theorem dX11_swear_45 : decode cX11_swear 45 = .ok (.iload_n 1, 1) := by decide +kernel
theorem dX11_swear_46 : decode cX11_swear 46 = .ok (.iload_n 2, 1) := by decide +kernel
theorem dX11_swear_47 : decode cX11_swear 47 = .ok (.iconst 0, 1) := by decide +kernel
theorem dX11_swear_48 : decode cX11_swear 48 = .ok (.invokevirtual 292, 3) := by decide +kernel
theorem dX11_swear_51 : decode cX11_swear 51 = .ok (.invokevirtual 197, 3) := by decide +kernel
theorem dX11_swear_54 : decode cX11_swear 54 = .ok (.aload_n 0, 1) := by decide +kernel
theorem dX11_swear_55 : decode cX11_swear 55 = .ok (.getfield 35, 3) := by decide +kernel
theorem dX11_swear_58 : decode cX11_swear 58 = .ok (.iconst 5, 1) := by decide +kernel
theorem dX11_swear_59 : decode cX11_swear 59 = .ok (.aload_n 0, 1) := by decide +kernel
theorem dX11_swear_60 : decode cX11_swear 60 = .ok (.getfield 57, 3) := by decide +kernel
theorem dX11_swear_63 : decode cX11_swear 63 = .ok (.iload_n 1, 1) := by decide +kernel
theorem dX11_swear_64 : decode cX11_swear 64 = .ok (.iload_n 2, 1) := by decide +kernel
theorem dX11_swear_65 : decode cX11_swear 65 = .ok (.iconst 5, 1) := by decide +kernel
theorem dX11_swear_66 : decode cX11_swear 66 = .ok (.invokevirtual 292, 3) := by decide +kernel
theorem dX11_swear_69 : decode cX11_swear 69 = .ok (.invokevirtual 197, 3) := by decide +kernel
theorem dX11_swear_72 : decode cX11_swear 72 = .ok (.iconst 0, 1) := by decide +kernel
theorem dX11_swear_73 : decode cX11_swear 73 = .ok (.istore_n 3, 1) := by decide +kernel
theorem dX11_swear_74 : decode cX11_swear 74 = .ok (.iload_n 3, 1) := by decide +kernel
theorem dX11_swear_75 : decode cX11_swear 75 = .ok (.aload_n 0, 1) := by decide +kernel
theorem dX11_swear_76 : decode cX11_swear 76 = .ok (.getfield 19, 3) := by decide +kernel
theorem dX11_swear_79 : decode cX11_swear 79 = .ok (.getfield 135, 3) := by decide +kernel
theorem dX11_swear_82 : decode cX11_swear 82 = .ok (.if_icmp .ge 30, 3) := by decide +kernel
theorem dX11_swear_85 : decode cX11_swear 85 = .ok (.aload_n 0, 1) := by decide +kernel
theorem dX11_swear_86 : decode cX11_swear 86 = .ok (.getfield 35, 3) := by decide +kernel
theorem dX11_swear_89 : decode cX11_swear 89 = .ok (.bipush 21, 2) := by decide +kernel
theorem dX11_swear_91 : decode cX11_swear 91 = .ok (.iload_n 3, 1) := by decide +kernel
theorem dX11_swear_92 : decode cX11_swear 92 = .ok (.iadd, 1) := by decide +kernel
theorem dX11_swear_93 : decode cX11_swear 93 = .ok (.aload_n 0, 1) := by decide +kernel
theorem dX11_swear_94 : decode cX11_swear 94 = .ok (.getfield 57, 3) := by decide +kernel
theorem dX11_swear_97 : decode cX11_swear 97 = .ok (.iload_n 3, 1) := by decide +kernel
theorem dX11_swear_98 : decode cX11_swear 98 = .ok (.iload_n 1, 1) := by decide +kernel
theorem dX11_swear_99 : decode cX11_swear 99 = .ok (.iload_n 2, 1) := by decide +kernel
theorem dX11_swear_100 : decode cX11_swear 100 = .ok (.invokevirtual 208, 3) := by decide +kernel
theorem dX11_swear_103 : decode cX11_swear 103 = .ok (.invokevirtual 197, 3) := by decide +kernel
theorem dX11_swear_106 : decode cX11_swear 106 = .ok (.iinc 3 1, 3) := by decide +kernel
theorem dX11_swear_109 : decode cX11_swear 109 = .ok (.goto (-35), 3) := by decide +kernel
theorem dX11_swear_112 : decode cX11_swear 112 = .ok (.return_, 1) := by decide +kernel
theorem dX11_draw_0 : decode cX11_draw 0 = .ok (.iload_n 1, 1) := by decide +kernel
theorem dX11_draw_1 : decode cX11_draw 1 = .ok (.ifCond .gt 5, 3) := by decide +kernel
theorem dX11_draw_4 : decode cX11_draw 4 = .ok (.iconst 0, 1) := by decide +kernel
theorem dX11_draw_5 : decode cX11_draw 5 = .ok (.ireturn, 1) := by decide +kernel
theorem dX11_draw_6 : decode cX11_draw 6 = .ok (.aload_n 0, 1) := by decide +kernel
theorem dX11_draw_7 : decode cX11_draw 7 = .ok (.aload_n 0, 1) := by decide +kernel
theorem dX11_draw_8 : decode cX11_draw 8 = .ok (.getfield 275, 3) := by decide +kernel
theorem dX11_draw_11 : decode cX11_draw 11 = .ok (.i2l, 1) := by decide +kernel
theorem dX11_draw_12 : decode cX11_draw 12 = .ok (.ldc2_w 295, 3) := by decide +kernel
theorem dX11_draw_15 : decode cX11_draw 15 = .ok (.lmul, 1) := by decide +kernel
theorem dX11_draw_16 : decode cX11_draw 16 = .ok (.ldc2_w 297, 3) := by decide +kernel
theorem dX11_draw_19 : decode cX11_draw 19 = .ok (.ladd, 1) := by decide +kernel
theorem dX11_draw_20 : decode cX11_draw 20 = .ok (.ldc2_w 299, 3) := by decide +kernel
theorem dX11_draw_23 : decode cX11_draw 23 = .ok (.lrem, 1) := by decide +kernel
theorem dX11_draw_24 : decode cX11_draw 24 = .ok (.l2i, 1) := by decide +kernel
theorem dX11_draw_25 : decode cX11_draw 25 = .ok (.putfield 275, 3) := by decide +kernel
theorem dX11_draw_28 : decode cX11_draw 28 = .ok (.aload_n 0, 1) := by decide +kernel
theorem dX11_draw_29 : decode cX11_draw 29 = .ok (.getfield 275, 3) := by decide +kernel
theorem dX11_draw_32 : decode cX11_draw 32 = .ok (.ldc_w 301, 3) := by decide +kernel
theorem dX11_draw_35 : decode cX11_draw 35 = .ok (.idiv, 1) := by decide +kernel
theorem dX11_draw_36 : decode cX11_draw 36 = .ok (.iload_n 1, 1) := by decide +kernel
theorem dX11_draw_37 : decode cX11_draw 37 = .ok (.irem, 1) := by decide +kernel
theorem dX11_draw_38 : decode cX11_draw 38 = .ok (.ireturn, 1) := by decide +kernel
theorem dX11_imageAt_0 : decode cX11_imageAt 0 = .ok (.iload_n 1, 1) := by decide +kernel
theorem dX11_imageAt_1 : decode cX11_imageAt 1 = .ok (.ifCond .lt 21, 3) := by decide +kernel
theorem dX11_imageAt_4 : decode cX11_imageAt 4 = .ok (.iload_n 1, 1) := by decide +kernel
theorem dX11_imageAt_5 : decode cX11_imageAt 5 = .ok (.aload_n 0, 1) := by decide +kernel
theorem dX11_imageAt_6 : decode cX11_imageAt 6 = .ok (.getfield 48, 3) := by decide +kernel
theorem dX11_imageAt_9 : decode cX11_imageAt 9 = .ok (.arraylength, 1) := by decide +kernel
theorem dX11_imageAt_10 : decode cX11_imageAt 10 = .ok (.if_icmp .ge 12, 3) := by decide +kernel
theorem dX11_imageAt_13 : decode cX11_imageAt 13 = .ok (.aload_n 0, 1) := by decide +kernel
theorem dX11_imageAt_14 : decode cX11_imageAt 14 = .ok (.getfield 48, 3) := by decide +kernel
theorem dX11_imageAt_17 : decode cX11_imageAt 17 = .ok (.iload_n 1, 1) := by decide +kernel
theorem dX11_imageAt_18 : decode cX11_imageAt 18 = .ok (.aaload, 1) := by decide +kernel
theorem dX11_imageAt_19 : decode cX11_imageAt 19 = .ok (.goto 4, 3) := by decide +kernel
theorem dX11_imageAt_22 : decode cX11_imageAt 22 = .ok (.aconst_null, 1) := by decide +kernel
theorem dX11_imageAt_23 : decode cX11_imageAt 23 = .ok (.areturn, 1) := by decide +kernel
set_option maxRecDepth 20000 in
theorem ggX11_forgetImages_X11_imageAt : GoodIn wsX11_forgetImages wsX11_imageAt := goodIn_r _ [7, 1, 8, 9, 10, 11, 12, 13, 14, 15, 16, 17, 18] (by decide +kernel) (by decide +kernel)
set_option maxRecDepth 20000 in
theorem gX11_forgetImages_X11_imageAt : GoodIn wsX11_forgetImages (wsV RX11 278 RX11 yX11_imageAt wsX11_imageAt) := goodIn_app (goodIn_of _ (by decide +kernel)) ggX11_forgetImages_X11_imageAt
theorem dX11_forgetImages_0 : decode cX11_forgetImages 0 = .ok (.iconst 0, 1) := by decide +kernel
theorem dX11_forgetImages_1 : decode cX11_forgetImages 1 = .ok (.istore_n 1, 1) := by decide +kernel
theorem dX11_forgetImages_2 : decode cX11_forgetImages 2 = .ok (.iload_n 1, 1) := by decide +kernel
theorem dX11_forgetImages_3 : decode cX11_forgetImages 3 = .ok (.aload_n 0, 1) := by decide +kernel
theorem dX11_forgetImages_4 : decode cX11_forgetImages 4 = .ok (.getfield 48, 3) := by decide +kernel
theorem dX11_forgetImages_7 : decode cX11_forgetImages 7 = .ok (.arraylength, 1) := by decide +kernel
theorem dX11_forgetImages_8 : decode cX11_forgetImages 8 = .ok (.if_icmp .ge 24, 3) := by decide +kernel
theorem dX11_forgetImages_11 : decode cX11_forgetImages 11 = .ok (.aload_n 0, 1) := by decide +kernel
theorem dX11_forgetImages_12 : decode cX11_forgetImages 12 = .ok (.iload_n 1, 1) := by decide +kernel
theorem dX11_forgetImages_13 : decode cX11_forgetImages 13 = .ok (.invokevirtual 278, 3) := by decide +kernel
theorem dX11_forgetImages_16 : decode cX11_forgetImages 16 = .ok (.astore_n 2, 1) := by decide +kernel
theorem dX11_forgetImages_17 : decode cX11_forgetImages 17 = .ok (.aload_n 2, 1) := by decide +kernel
theorem dX11_forgetImages_18 : decode cX11_forgetImages 18 = .ok (.ifnull 8, 3) := by decide +kernel
theorem dX11_forgetImages_21 : decode cX11_forgetImages 21 = .ok (.aload_n 2, 1) := by decide +kernel
theorem dX11_forgetImages_22 : decode cX11_forgetImages 22 = .ok (.iconst 0, 1) := by decide +kernel
theorem dX11_forgetImages_23 : decode cX11_forgetImages 23 = .ok (.putfield 288, 3) := by decide +kernel
theorem dX11_forgetImages_26 : decode cX11_forgetImages 26 = .ok (.iinc 1 1, 3) := by decide +kernel
theorem dX11_forgetImages_29 : decode cX11_forgetImages 29 = .ok (.goto (-27), 3) := by decide +kernel
theorem dX11_forgetImages_32 : decode cX11_forgetImages 32 = .ok (.return_, 1) := by decide +kernel
set_option maxRecDepth 20000 in
theorem ggX12_init_X12_clearNow : GoodIn wsX12_init wsX12_clearNow := goodIn_r _ [30, 9, 31, 32, 33, 34, 35, 36, 37, 38, 39, 40, 41, 42, 43, 44, 45, 46, 47, 48, 49, 50, 51, 52, 53, 54, 55, 56, 57, 58, 59, 60, 61, 62, 63, 64, 65] (by decide +kernel) (by decide +kernel)
set_option maxRecDepth 20000 in
theorem gX12_init_X12_clearNow : GoodIn wsX12_init (wsV RX12 72 RX12 yX12_clearNow wsX12_clearNow) := goodIn_app (goodIn_of _ (by decide +kernel)) ggX12_init_X12_clearNow
theorem dX12_init_0 : decode cX12_init 0 = .ok (.aload_n 0, 1) := by decide +kernel
theorem dX12_init_1 : decode cX12_init 1 = .ok (.invokespecial 1, 3) := by decide +kernel
theorem dX12_init_4 : decode cX12_init 4 = .ok (.aload_n 0, 1) := by decide +kernel
theorem dX12_init_5 : decode cX12_init 5 = .ok (.bipush 6, 2) := by decide +kernel
theorem dX12_init_7 : decode cX12_init 7 = .ok (.newarray .int, 2) := by decide +kernel
theorem dX12_init_9 : decode cX12_init 9 = .ok (.putfield 7, 3) := by decide +kernel
theorem dX12_init_12 : decode cX12_init 12 = .ok (.aload_n 0, 1) := by decide +kernel
theorem dX12_init_13 : decode cX12_init 13 = .ok (.bipush 6, 2) := by decide +kernel
theorem dX12_init_15 : decode cX12_init 15 = .ok (.newarray .int, 2) := by decide +kernel
theorem dX12_init_17 : decode cX12_init 17 = .ok (.putfield 13, 3) := by decide +kernel
theorem dX12_init_20 : decode cX12_init 20 = .ok (.aload_n 0, 1) := by decide +kernel
theorem dX12_init_21 : decode cX12_init 21 = .ok (.bipush 7, 2) := by decide +kernel
theorem dX12_init_23 : decode cX12_init 23 = .ok (.newarray .int, 2) := by decide +kernel
theorem dX12_init_25 : decode cX12_init 25 = .ok (.putfield 16, 3) := by decide +kernel
theorem dX12_init_28 : decode cX12_init 28 = .ok (.aload_n 0, 1) := by decide +kernel
theorem dX12_init_29 : decode cX12_init 29 = .ok (.bipush 7, 2) := by decide +kernel
theorem dX12_init_31 : decode cX12_init 31 = .ok (.newarray .int, 2) := by decide +kernel
theorem dX12_init_33 : decode cX12_init 33 = .ok (.putfield 19, 3) := by decide +kernel
theorem dX12_init_36 : decode cX12_init 36 = .ok (.aload_n 0, 1) := by decide +kernel
theorem dX12_init_37 : decode cX12_init 37 = .ok (.bipush 28, 2) := by decide +kernel
theorem dX12_init_39 : decode cX12_init 39 = .ok (.newarray .int, 2) := by decide +kernel
theorem dX12_init_41 : decode cX12_init 41 = .ok (.putfield 22, 3) := by decide +kernel
theorem dX12_init_44 : decode cX12_init 44 = .ok (.aload_n 0, 1) := by decide +kernel
theorem dX12_init_45 : decode cX12_init 45 = .ok (.sipush 240, 3) := by decide +kernel
theorem dX12_init_48 : decode cX12_init 48 = .ok (.newarray .int, 2) := by decide +kernel
theorem dX12_init_50 : decode cX12_init 50 = .ok (.putfield 25, 3) := by decide +kernel
theorem dX12_init_53 : decode cX12_init 53 = .ok (.aload_n 0, 1) := by decide +kernel
theorem dX12_init_54 : decode cX12_init 54 = .ok (.iconst (-1), 1) := by decide +kernel
theorem dX12_init_55 : decode cX12_init 55 = .ok (.putfield 28, 3) := by decide +kernel
theorem dX12_init_58 : decode cX12_init 58 = .ok (.aload_n 0, 1) := by decide +kernel
theorem dX12_init_59 : decode cX12_init 59 = .ok (.bipush 8, 2) := by decide +kernel
theorem dX12_init_61 : decode cX12_init 61 = .ok (.newarray .int, 2) := by decide +kernel
theorem dX12_init_63 : decode cX12_init 63 = .ok (.putfield 32, 3) := by decide +kernel
theorem dX12_init_66 : decode cX12_init 66 = .ok (.aload_n 0, 1) := by decide +kernel
theorem dX12_init_67 : decode cX12_init 67 = .ok (.bipush 6, 2) := by decide +kernel
theorem dX12_init_69 : decode cX12_init 69 = .ok (.newarray .int, 2) := by decide +kernel
theorem dX12_init_71 : decode cX12_init 71 = .ok (.putfield 35, 3) := by decide +kernel
theorem dX12_init_74 : decode cX12_init 74 = .ok (.aload_n 0, 1) := by decide +kernel
theorem dX12_init_75 : decode cX12_init 75 = .ok (.bipush 6, 2) := by decide +kernel
theorem dX12_init_77 : decode cX12_init 77 = .ok (.newarray .int, 2) := by decide +kernel
theorem dX12_init_79 : decode cX12_init 79 = .ok (.putfield 38, 3) := by decide +kernel
theorem dX12_init_82 : decode cX12_init 82 = .ok (.aload_n 0, 1) := by decide +kernel
theorem dX12_init_83 : decode cX12_init 83 = .ok (.bipush 7, 2) := by decide +kernel
theorem dX12_init_85 : decode cX12_init 85 = .ok (.newarray .int, 2) := by decide +kernel
theorem dX12_init_87 : decode cX12_init 87 = .ok (.putfield 41, 3) := by decide +kernel
theorem dX12_init_90 : decode cX12_init 90 = .ok (.aload_n 0, 1) := by decide +kernel
theorem dX12_init_91 : decode cX12_init 91 = .ok (.bipush 7, 2) := by decide +kernel
theorem dX12_init_93 : decode cX12_init 93 = .ok (.newarray .int, 2) := by decide +kernel
theorem dX12_init_95 : decode cX12_init 95 = .ok (.putfield 44, 3) := by decide +kernel
theorem dX12_init_98 : decode cX12_init 98 = .ok (.aload_n 0, 1) := by decide +kernel
theorem dX12_init_99 : decode cX12_init 99 = .ok (.bipush 7, 2) := by decide +kernel
theorem dX12_init_101 : decode cX12_init 101 = .ok (.newarray .int, 2) := by decide +kernel
theorem dX12_init_103 : decode cX12_init 103 = .ok (.putfield 47, 3) := by decide +kernel
theorem dX12_init_106 : decode cX12_init 106 = .ok (.aload_n 0, 1) := by decide +kernel
theorem dX12_init_107 : decode cX12_init 107 = .ok (.sipush 560, 3) := by decide +kernel
theorem dX12_init_110 : decode cX12_init 110 = .ok (.newarray .int, 2) := by decide +kernel
theorem dX12_init_112 : decode cX12_init 112 = .ok (.putfield 50, 3) := by decide +kernel
theorem dX12_init_115 : decode cX12_init 115 = .ok (.aload_n 0, 1) := by decide +kernel
theorem dX12_init_116 : decode cX12_init 116 = .ok (.bipush 8, 2) := by decide +kernel
theorem dX12_init_118 : decode cX12_init 118 = .ok (.newarray .int, 2) := by decide +kernel
theorem dX12_init_120 : decode cX12_init 120 = .ok (.putfield 53, 3) := by decide +kernel
theorem dX12_init_123 : decode cX12_init 123 = .ok (.aload_n 0, 1) := by decide +kernel
theorem dX12_init_124 : decode cX12_init 124 = .ok (.bipush 8, 2) := by decide +kernel
theorem dX12_init_126 : decode cX12_init 126 = .ok (.newarray .int, 2) := by decide +kernel
theorem dX12_init_128 : decode cX12_init 128 = .ok (.putfield 56, 3) := by decide +kernel
theorem dX12_init_131 : decode cX12_init 131 = .ok (.aload_n 0, 1) := by decide +kernel
theorem dX12_init_132 : decode cX12_init 132 = .ok (.bipush 12, 2) := by decide +kernel
theorem dX12_init_134 : decode cX12_init 134 = .ok (.newarray .int, 2) := by decide +kernel
theorem dX12_init_136 : decode cX12_init 136 = .ok (.putfield 59, 3) := by decide +kernel
theorem dX12_init_139 : decode cX12_init 139 = .ok (.aload_n 0, 1) := by decide +kernel
theorem dX12_init_140 : decode cX12_init 140 = .ok (.bipush 15, 2) := by decide +kernel
theorem dX12_init_142 : decode cX12_init 142 = .ok (.newarray .int, 2) := by decide +kernel
theorem dX12_init_144 : decode cX12_init 144 = .ok (.putfield 62, 3) := by decide +kernel
theorem dX12_init_147 : decode cX12_init 147 = .ok (.aload_n 0, 1) := by decide +kernel
theorem dX12_init_148 : decode cX12_init 148 = .ok (.bipush 58, 2) := by decide +kernel
theorem dX12_init_150 : decode cX12_init 150 = .ok (.newarray .int, 2) := by decide +kernel
theorem dX12_init_152 : decode cX12_init 152 = .ok (.putfield 65, 3) := by decide +kernel
theorem dX12_init_155 : decode cX12_init 155 = .ok (.aload_n 0, 1) := by decide +kernel
theorem dX12_init_156 : decode cX12_init 156 = .ok (.iconst 2, 1) := by decide +kernel
theorem dX12_init_157 : decode cX12_init 157 = .ok (.newarray .boolean, 2) := by decide +kernel
theorem dX12_init_159 : decode cX12_init 159 = .ok (.putfield 68, 3) := by decide +kernel
theorem dX12_init_162 : decode cX12_init 162 = .ok (.aload_n 0, 1) := by decide +kernel
theorem dX12_init_163 : decode cX12_init 163 = .ok (.invokevirtual 72, 3) := by decide +kernel
theorem dX12_init_166 : decode cX12_init 166 = .ok (.return_, 1) := by decide +kernel
theorem dX12_clearNow_0 : decode cX12_clearNow 0 = .ok (.iconst 0, 1) := by decide +kernel
theorem dX12_clearNow_1 : decode cX12_clearNow 1 = .ok (.istore_n 1, 1) := by decide +kernel
theorem dX12_clearNow_2 : decode cX12_clearNow 2 = .ok (.iload_n 1, 1) := by decide +kernel
theorem dX12_clearNow_3 : decode cX12_clearNow 3 = .ok (.bipush 28, 2) := by decide +kernel
theorem dX12_clearNow_5 : decode cX12_clearNow 5 = .ok (.if_icmp .ge 16, 3) := by decide +kernel
theorem dX12_clearNow_8 : decode cX12_clearNow 8 = .ok (.aload_n 0, 1) := by decide +kernel
theorem dX12_clearNow_9 : decode cX12_clearNow 9 = .ok (.getfield 22, 3) := by decide +kernel
theorem dX12_clearNow_12 : decode cX12_clearNow 12 = .ok (.iload_n 1, 1) := by decide +kernel
theorem dX12_clearNow_13 : decode cX12_clearNow 13 = .ok (.iconst 0, 1) := by decide +kernel
theorem dX12_clearNow_14 : decode cX12_clearNow 14 = .ok (.iastore, 1) := by decide +kernel
theorem dX12_clearNow_15 : decode cX12_clearNow 15 = .ok (.iinc 1 1, 3) := by decide +kernel
theorem dX12_clearNow_18 : decode cX12_clearNow 18 = .ok (.goto (-16), 3) := by decide +kernel
theorem dX12_clearNow_21 : decode cX12_clearNow 21 = .ok (.aload_n 0, 1) := by decide +kernel
theorem dX12_clearNow_22 : decode cX12_clearNow 22 = .ok (.getfield 22, 3) := by decide +kernel
theorem dX12_clearNow_25 : decode cX12_clearNow 25 = .ok (.bipush 8, 2) := by decide +kernel
theorem dX12_clearNow_27 : decode cX12_clearNow 27 = .ok (.bipush 9, 2) := by decide +kernel
theorem dX12_clearNow_29 : decode cX12_clearNow 29 = .ok (.iastore, 1) := by decide +kernel
theorem dX12_clearNow_30 : decode cX12_clearNow 30 = .ok (.aload_n 0, 1) := by decide +kernel
theorem dX12_clearNow_31 : decode cX12_clearNow 31 = .ok (.getfield 22, 3) := by decide +kernel
theorem dX12_clearNow_34 : decode cX12_clearNow 34 = .ok (.bipush 17, 2) := by decide +kernel
theorem dX12_clearNow_36 : decode cX12_clearNow 36 = .ok (.iconst (-1), 1) := by decide +kernel
theorem dX12_clearNow_37 : decode cX12_clearNow 37 = .ok (.iastore, 1) := by decide +kernel
theorem dX12_clearNow_38 : decode cX12_clearNow 38 = .ok (.aload_n 0, 1) := by decide +kernel
theorem dX12_clearNow_39 : decode cX12_clearNow 39 = .ok (.getfield 22, 3) := by decide +kernel
theorem dX12_clearNow_42 : decode cX12_clearNow 42 = .ok (.bipush 18, 2) := by decide +kernel
theorem dX12_clearNow_44 : decode cX12_clearNow 44 = .ok (.iconst (-1), 1) := by decide +kernel
theorem dX12_clearNow_45 : decode cX12_clearNow 45 = .ok (.iastore, 1) := by decide +kernel
theorem dX12_clearNow_46 : decode cX12_clearNow 46 = .ok (.iconst 0, 1) := by decide +kernel
theorem dX12_clearNow_47 : decode cX12_clearNow 47 = .ok (.istore_n 1, 1) := by decide +kernel
theorem dX12_clearNow_48 : decode cX12_clearNow 48 = .ok (.iload_n 1, 1) := by decide +kernel
theorem dX12_clearNow_49 : decode cX12_clearNow 49 = .ok (.bipush 7, 2) := by decide +kernel
theorem dX12_clearNow_51 : decode cX12_clearNow 51 = .ok (.if_icmp .ge 19, 3) := by decide +kernel
theorem dX12_clearNow_54 : decode cX12_clearNow 54 = .ok (.aload_n 0, 1) := by decide +kernel
theorem dX12_clearNow_55 : decode cX12_clearNow 55 = .ok (.getfield 22, 3) := by decide +kernel
theorem dX12_clearNow_58 : decode cX12_clearNow 58 = .ok (.bipush 21, 2) := by decide +kernel
theorem dX12_clearNow_60 : decode cX12_clearNow 60 = .ok (.iload_n 1, 1) := by decide +kernel
theorem dX12_clearNow_61 : decode cX12_clearNow 61 = .ok (.iadd, 1) := by decide +kernel
theorem dX12_clearNow_62 : decode cX12_clearNow 62 = .ok (.iconst (-1), 1) := by decide +kernel
theorem dX12_clearNow_63 : decode cX12_clearNow 63 = .ok (.iastore, 1) := by decide +kernel
theorem dX12_clearNow_64 : decode cX12_clearNow 64 = .ok (.iinc 1 1, 3) := by decide +kernel
theorem dX12_clearNow_67 : decode cX12_clearNow 67 = .ok (.goto (-19), 3) := by decide +kernel
theorem dX12_clearNow_70 : decode cX12_clearNow 70 = .ok (.return_, 1) := by decide +kernel
theorem dX12_in_0 : decode cX12_in 0 = .ok (.lload_n 0, 1) := by decide +kernel
theorem dX12_in_1 : decode cX12_in 1 = .ok (.lload_n 2, 1) := by decide +kernel
theorem dX12_in_2 : decode cX12_in 2 = .ok (.lcmp, 1) := by decide +kernel
theorem dX12_in_3 : decode cX12_in 3 = .ok (.ifCond .lt 14, 3) := by decide +kernel
theorem dX12_in_6 : decode cX12_in 6 = .ok (.lload_n 0, 1) := by decide +kernel
theorem dX12_in_7 : decode cX12_in 7 = .ok (.lload 4, 2) := by decide +kernel
theorem dX12_in_9 : decode cX12_in 9 = .ok (.lcmp, 1) := by decide +kernel
theorem dX12_in_10 : decode cX12_in 10 = .ok (.ifCond .gt 7, 3) := by decide +kernel
theorem dX12_in_13 : decode cX12_in 13 = .ok (.iconst 1, 1) := by decide +kernel
theorem dX12_in_14 : decode cX12_in 14 = .ok (.goto 4, 3) := by decide +kernel
theorem dX12_in_17 : decode cX12_in 17 = .ok (.iconst 0, 1) := by decide +kernel
theorem dX12_in_18 : decode cX12_in 18 = .ok (.ireturn, 1) := by decide +kernel
theorem dX12_has_0 : decode cX12_has 0 = .ok (.iload_n 0, 1) := by decide +kernel
theorem dX12_has_1 : decode cX12_has 1 = .ok (.iload_n 1, 1) := by decide +kernel
theorem dX12_has_2 : decode cX12_has 2 = .ok (.ishr, 1) := by decide +kernel
theorem dX12_has_3 : decode cX12_has 3 = .ok (.iconst 1, 1) := by decide +kernel
theorem dX12_has_4 : decode cX12_has 4 = .ok (.iand, 1) := by decide +kernel
theorem dX12_has_5 : decode cX12_has 5 = .ok (.iconst 1, 1) := by decide +kernel
theorem dX12_has_6 : decode cX12_has 6 = .ok (.if_icmp .ne 7, 3) := by decide +kernel
theorem dX12_has_9 : decode cX12_has 9 = .ok (.iconst 1, 1) := by decide +kernel
theorem dX12_has_10 : decode cX12_has 10 = .ok (.goto 4, 3) := by decide +kernel
theorem dX12_has_13 : decode cX12_has 13 = .ok (.iconst 0, 1) := by decide +kernel
theorem dX12_has_14 : decode cX12_has 14 = .ok (.ireturn, 1) := by decide +kernel
theorem dX12_bits_0 : decode cX12_bits 0 = .ok (.iconst 0, 1) := by decide +kernel
theorem dX12_bits_1 : decode cX12_bits 1 = .ok (.istore_n 1, 1) := by decide +kernel
theorem dX12_bits_2 : decode cX12_bits 2 = .ok (.iconst 0, 1) := by decide +kernel
theorem dX12_bits_3 : decode cX12_bits 3 = .ok (.istore_n 2, 1) := by decide +kernel
theorem dX12_bits_4 : decode cX12_bits 4 = .ok (.iload_n 2, 1) := by decide +kernel
theorem dX12_bits_5 : decode cX12_bits 5 = .ok (.bipush 9, 2) := by decide +kernel
theorem dX12_bits_7 : decode cX12_bits 7 = .ok (.if_icmp .ge 17, 3) := by decide +kernel
theorem dX12_bits_10 : decode cX12_bits 10 = .ok (.iload_n 1, 1) := by decide +kernel
theorem dX12_bits_11 : decode cX12_bits 11 = .ok (.iload_n 0, 1) := by decide +kernel
theorem dX12_bits_12 : decode cX12_bits 12 = .ok (.iload_n 2, 1) := by decide +kernel
theorem dX12_bits_13 : decode cX12_bits 13 = .ok (.ishr, 1) := by decide +kernel
theorem dX12_bits_14 : decode cX12_bits 14 = .ok (.iconst 1, 1) := by decide +kernel
theorem dX12_bits_15 : decode cX12_bits 15 = .ok (.iand, 1) := by decide +kernel
theorem dX12_bits_16 : decode cX12_bits 16 = .ok (.iadd, 1) := by decide +kernel
theorem dX12_bits_17 : decode cX12_bits 17 = .ok (.istore_n 1, 1) := by decide +kernel
theorem dX12_bits_18 : decode cX12_bits 18 = .ok (.iinc 2 1, 3) := by decide +kernel
theorem dX12_bits_21 : decode cX12_bits 21 = .ok (.goto (-17), 3) := by decide +kernel
theorem dX12_bits_24 : decode cX12_bits 24 = .ok (.iload_n 1, 1) := by decide +kernel
theorem dX12_bits_25 : decode cX12_bits 25 = .ok (.ireturn, 1) := by decide +kernel
theorem dX12_places_0 : decode cX12_places 0 = .ok (.aload_n 0, 1) := by decide +kernel
theorem dX12_places_1 : decode cX12_places 1 = .ok (.getfield 75, 3) := by decide +kernel
theorem dX12_places_4 : decode cX12_places 4 = .ok (.ifCond .ne 7, 3) := by decide +kernel
theorem dX12_places_7 : decode cX12_places 7 = .ok (.iconst 0, 1) := by decide +kernel
theorem dX12_places_8 : decode cX12_places 8 = .ok (.goto 9, 3) := by decide +kernel
theorem dX12_places_11 : decode cX12_places 11 = .ok (.aload_n 0, 1) := by decide +kernel
theorem dX12_places_12 : decode cX12_places 12 = .ok (.getfield 75, 3) := by decide +kernel
theorem dX12_places_15 : decode cX12_places 15 = .ok (.iconst 1, 1) := by decide +kernel
theorem dX12_places_16 : decode cX12_places 16 = .ok (.iadd, 1) := by decide +kernel
theorem dX12_places_17 : decode cX12_places 17 = .ok (.ireturn, 1) := by decide +kernel
set_option maxRecDepth 20000 in
theorem ggX12_isPlace_X12_places : GoodIn wsX12_isPlace wsX12_places := goodIn_r _ [5, 6, 10, 11, 12, 13, 14, 15, 16, 17, 18, 19, 20, 21, 22, 23, 24, 25, 26, 27, 28, 29, 30, 31, 32, 33, 34, 35, 36, 37, 38, 39, 40, 41, 42, 43, 44] (by decide +kernel) (by decide +kernel)
set_option maxRecDepth 20000 in
theorem gX12_isPlace_X12_places : GoodIn wsX12_isPlace (wsV RX12 78 RX12 yX12_places wsX12_places) := goodIn_app (goodIn_of _ (by decide +kernel)) ggX12_isPlace_X12_places
set_option maxRecDepth 20000 in
theorem ggX12_isPlace_X12_in : GoodIn wsX12_isPlace wsX12_in := goodIn_r _ [9] (by decide +kernel) (by decide +kernel)
set_option maxRecDepth 20000 in
theorem gX12_isPlace_X12_in : GoodIn wsX12_isPlace (va_wsS RX12 82 yX12_in wsX12_in) := goodIn_app (goodIn_of _ (by decide +kernel)) ggX12_isPlace_X12_in
theorem dX12_isPlace_0 : decode cX12_isPlace 0 = .ok (.iload_n 1, 1) := by decide +kernel
theorem dX12_isPlace_1 : decode cX12_isPlace 1 = .ok (.i2l, 1) := by decide +kernel
theorem dX12_isPlace_2 : decode cX12_isPlace 2 = .ok (.lconst 0, 1) := by decide +kernel
theorem dX12_isPlace_3 : decode cX12_isPlace 3 = .ok (.aload_n 0, 1) := by decide +kernel
theorem dX12_isPlace_4 : decode cX12_isPlace 4 = .ok (.invokevirtual 78, 3) := by decide +kernel
theorem dX12_isPlace_7 : decode cX12_isPlace 7 = .ok (.iconst 1, 1) := by decide +kernel
theorem dX12_isPlace_8 : decode cX12_isPlace 8 = .ok (.isub, 1) := by decide +kernel
theorem dX12_isPlace_9 : decode cX12_isPlace 9 = .ok (.i2l, 1) := by decide +kernel
theorem dX12_isPlace_10 : decode cX12_isPlace 10 = .ok (.invokestatic 82, 3) := by decide +kernel
theorem dX12_isPlace_13 : decode cX12_isPlace 13 = .ok (.ireturn, 1) := by decide +kernel
set_option maxRecDepth 20000 in
theorem ggX12_isPlaces_X12_places : GoodIn wsX12_isPlaces wsX12_places := goodIn_r _ [5, 6, 10, 11, 12, 13, 14, 15, 16, 17, 18, 19, 20, 21, 22, 23, 24, 25, 26, 27, 28, 29, 30, 31, 32, 33, 34, 35, 36, 37, 38, 39, 40, 41, 42, 43, 44] (by decide +kernel) (by decide +kernel)
set_option maxRecDepth 20000 in
theorem gX12_isPlaces_X12_places : GoodIn wsX12_isPlaces (wsV RX12 78 RX12 yX12_places wsX12_places) := goodIn_app (goodIn_of _ (by decide +kernel)) ggX12_isPlaces_X12_places
set_option maxRecDepth 20000 in
theorem ggX12_isPlaces_X12_in : GoodIn wsX12_isPlaces wsX12_in := goodIn_r _ [9] (by decide +kernel) (by decide +kernel)
set_option maxRecDepth 20000 in
theorem gX12_isPlaces_X12_in : GoodIn wsX12_isPlaces (va_wsS RX12 82 yX12_in wsX12_in) := goodIn_app (goodIn_of _ (by decide +kernel)) ggX12_isPlaces_X12_in
theorem dX12_isPlaces_0 : decode cX12_isPlaces 0 = .ok (.iload_n 1, 1) := by decide +kernel
theorem dX12_isPlaces_1 : decode cX12_isPlaces 1 = .ok (.i2l, 1) := by decide +kernel
theorem dX12_isPlaces_2 : decode cX12_isPlaces 2 = .ok (.lconst 0, 1) := by decide +kernel
theorem dX12_isPlaces_3 : decode cX12_isPlaces 3 = .ok (.iconst 1, 1) := by decide +kernel
theorem dX12_isPlaces_4 : decode cX12_isPlaces 4 = .ok (.aload_n 0, 1) := by decide +kernel
theorem dX12_isPlaces_5 : decode cX12_isPlaces 5 = .ok (.invokevirtual 78, 3) := by decide +kernel
theorem dX12_isPlaces_8 : decode cX12_isPlaces 8 = .ok (.ishl, 1) := by decide +kernel
theorem dX12_isPlaces_9 : decode cX12_isPlaces 9 = .ok (.iconst 1, 1) := by decide +kernel
theorem dX12_isPlaces_10 : decode cX12_isPlaces 10 = .ok (.isub, 1) := by decide +kernel
theorem dX12_isPlaces_11 : decode cX12_isPlaces 11 = .ok (.i2l, 1) := by decide +kernel
theorem dX12_isPlaces_12 : decode cX12_isPlaces 12 = .ok (.invokestatic 82, 3) := by decide +kernel
theorem dX12_isPlaces_15 : decode cX12_isPlaces 15 = .ok (.ireturn, 1) := by decide +kernel
set_option maxRecDepth 20000 in
theorem ggX12_isSound_X12_in : GoodIn wsX12_isSound wsX12_in := goodIn_r _ [5] (by decide +kernel) (by decide +kernel)
set_option maxRecDepth 20000 in
theorem gX12_isSound_X12_in : GoodIn wsX12_isSound (va_wsS RX12 82 yX12_in wsX12_in) := goodIn_app (goodIn_of _ (by decide +kernel)) ggX12_isSound_X12_in
theorem dX12_isSound_0 : decode cX12_isSound 0 = .ok (.iload_n 1, 1) := by decide +kernel
theorem dX12_isSound_1 : decode cX12_isSound 1 = .ok (.i2l, 1) := by decide +kernel
theorem dX12_isSound_2 : decode cX12_isSound 2 = .ok (.lconst 0, 1) := by decide +kernel
theorem dX12_isSound_3 : decode cX12_isSound 3 = .ok (.aload_n 0, 1) := by decide +kernel
theorem dX12_isSound_4 : decode cX12_isSound 4 = .ok (.getfield 86, 3) := by decide +kernel
theorem dX12_isSound_7 : decode cX12_isSound 7 = .ok (.iconst 1, 1) := by decide +kernel
theorem dX12_isSound_8 : decode cX12_isSound 8 = .ok (.isub, 1) := by decide +kernel
theorem dX12_isSound_9 : decode cX12_isSound 9 = .ok (.i2l, 1) := by decide +kernel
theorem dX12_isSound_10 : decode cX12_isSound 10 = .ok (.invokestatic 82, 3) := by decide +kernel
theorem dX12_isSound_13 : decode cX12_isSound 13 = .ok (.ireturn, 1) := by decide +kernel
set_option maxRecDepth 20000 in
theorem ggX12_isWitness_X12_in : GoodIn wsX12_isWitness wsX12_in := goodIn_r _ [5] (by decide +kernel) (by decide +kernel)
set_option maxRecDepth 20000 in
theorem gX12_isWitness_X12_in : GoodIn wsX12_isWitness (va_wsS RX12 82 yX12_in wsX12_in) := goodIn_app (goodIn_of _ (by decide +kernel)) ggX12_isWitness_X12_in
theorem dX12_isWitness_0 : decode cX12_isWitness 0 = .ok (.iload_n 1, 1) := by decide +kernel
theorem dX12_isWitness_1 : decode cX12_isWitness 1 = .ok (.i2l, 1) := by decide +kernel
theorem dX12_isWitness_2 : decode cX12_isWitness 2 = .ok (.lconst 0, 1) := by decide +kernel
theorem dX12_isWitness_3 : decode cX12_isWitness 3 = .ok (.aload_n 0, 1) := by decide +kernel
theorem dX12_isWitness_4 : decode cX12_isWitness 4 = .ok (.getfield 89, 3) := by decide +kernel
theorem dX12_isWitness_7 : decode cX12_isWitness 7 = .ok (.iconst 1, 1) := by decide +kernel
theorem dX12_isWitness_8 : decode cX12_isWitness 8 = .ok (.isub, 1) := by decide +kernel
theorem dX12_isWitness_9 : decode cX12_isWitness 9 = .ok (.i2l, 1) := by decide +kernel
theorem dX12_isWitness_10 : decode cX12_isWitness 10 = .ok (.invokestatic 82, 3) := by decide +kernel
theorem dX12_isWitness_13 : decode cX12_isWitness 13 = .ok (.ireturn, 1) := by decide +kernel
set_option maxRecDepth 20000 in
theorem ggX12_feed_X12_in : GoodIn wsX12_feed wsX12_in := goodIn_r _ [9] (by decide +kernel) (by decide +kernel)
set_option maxRecDepth 20000 in
theorem gX12_feed_X12_in : GoodIn wsX12_feed (va_wsS RX12 82 yX12_in wsX12_in) := goodIn_app (goodIn_of _ (by decide +kernel)) ggX12_feed_X12_in
theorem dX12_feed_0 : decode cX12_feed 0 = .ok (.iload_n 1, 1) := by decide +kernel
theorem dX12_feed_1 : decode cX12_feed 1 = .ok (.i2l, 1) := by decide +kernel
theorem dX12_feed_2 : decode cX12_feed 2 = .ok (.lconst 0, 1) := by decide +kernel
theorem dX12_feed_3 : decode cX12_feed 3 = .ok (.ldc2_w 92, 3) := by decide +kernel
theorem dX12_feed_6 : decode cX12_feed 6 = .ok (.invokestatic 82, 3) := by decide +kernel
theorem dX12_feed_9 : decode cX12_feed 9 = .ok (.ifCond .ne 6, 3) := by decide +kernel
theorem dX12_feed_12 : decode cX12_feed 12 = .ok (.ldc 94, 2) := by decide +kernel
theorem dX12_feed_14 : decode cX12_feed 14 = .ok (.ireturn, 1) := by decide +kernel
theorem dX12_feed_15 : decode cX12_feed 15 = .ok (.aload_n 0, 1) := by decide +kernel
theorem dX12_feed_16 : decode cX12_feed 16 = .ok (.getfield 95, 3) := by decide +kernel
theorem dX12_feed_19 : decode cX12_feed 19 = .ok (.sipush 240, 3) := by decide +kernel
theorem dX12_feed_22 : decode cX12_feed 22 = .ok (.if_icmp .ne 6, 3) := by decide +kernel
theorem dX12_feed_25 : decode cX12_feed 25 = .ok (.ldc 98, 2) := by decide +kernel
theorem dX12_feed_27 : decode cX12_feed 27 = .ok (.ireturn, 1) := by decide +kernel
theorem dX12_feed_28 : decode cX12_feed 28 = .ok (.aload_n 0, 1) := by decide +kernel
theorem dX12_feed_29 : decode cX12_feed 29 = .ok (.getfield 25, 3) := by decide +kernel
theorem dX12_feed_32 : decode cX12_feed 32 = .ok (.aload_n 0, 1) := by decide +kernel
theorem dX12_feed_33 : decode cX12_feed 33 = .ok (.getfield 95, 3) := by decide +kernel
theorem dX12_feed_36 : decode cX12_feed 36 = .ok (.iload_n 1, 1) := by decide +kernel
theorem dX12_feed_37 : decode cX12_feed 37 = .ok (.iastore, 1) := by decide +kernel
theorem dX12_feed_38 : decode cX12_feed 38 = .ok (.aload_n 0, 1) := by decide +kernel
theorem dX12_feed_39 : decode cX12_feed 39 = .ok (.dup, 1) := by decide +kernel
theorem dX12_feed_40 : decode cX12_feed 40 = .ok (.getfield 95, 3) := by decide +kernel
theorem dX12_feed_43 : decode cX12_feed 43 = .ok (.iconst 1, 1) := by decide +kernel
theorem dX12_feed_44 : decode cX12_feed 44 = .ok (.iadd, 1) := by decide +kernel
theorem dX12_feed_45 : decode cX12_feed 45 = .ok (.putfield 95, 3) := by decide +kernel
theorem dX12_feed_48 : decode cX12_feed 48 = .ok (.aload_n 0, 1) := by decide +kernel
theorem dX12_feed_49 : decode cX12_feed 49 = .ok (.getfield 95, 3) := by decide +kernel
theorem dX12_feed_52 : decode cX12_feed 52 = .ok (.ireturn, 1) := by decide +kernel
theorem dX12_here_0 : decode cX12_here 0 = .ok (.aload_n 0, 1) := by decide +kernel
theorem dX12_here_1 : decode cX12_here 1 = .ok (.getfield 99, 3) := by decide +kernel
theorem dX12_here_4 : decode cX12_here 4 = .ok (.aload_n 0, 1) := by decide +kernel
theorem dX12_here_5 : decode cX12_here 5 = .ok (.getfield 95, 3) := by decide +kernel
theorem dX12_here_8 : decode cX12_here 8 = .ok (.if_icmp .ge 30, 3) := by decide +kernel
theorem dX12_here_11 : decode cX12_here 11 = .ok (.aload_n 0, 1) := by decide +kernel
theorem dX12_here_12 : decode cX12_here 12 = .ok (.getfield 25, 3) := by decide +kernel
theorem dX12_here_15 : decode cX12_here 15 = .ok (.aload_n 0, 1) := by decide +kernel
theorem dX12_here_16 : decode cX12_here 16 = .ok (.getfield 99, 3) := by decide +kernel
theorem dX12_here_19 : decode cX12_here 19 = .ok (.iaload, 1) := by decide +kernel
theorem dX12_here_20 : decode cX12_here 20 = .ok (.bipush 32, 2) := by decide +kernel
theorem dX12_here_22 : decode cX12_here 22 = .ok (.if_icmp .ne 16, 3) := by decide +kernel
theorem dX12_here_25 : decode cX12_here 25 = .ok (.aload_n 0, 1) := by decide +kernel
theorem dX12_here_26 : decode cX12_here 26 = .ok (.dup, 1) := by decide +kernel
theorem dX12_here_27 : decode cX12_here 27 = .ok (.getfield 99, 3) := by decide +kernel
theorem dX12_here_30 : decode cX12_here 30 = .ok (.iconst 1, 1) := by decide +kernel
theorem dX12_here_31 : decode cX12_here 31 = .ok (.iadd, 1) := by decide +kernel
theorem dX12_here_32 : decode cX12_here 32 = .ok (.putfield 99, 3) := by decide +kernel
theorem dX12_here_35 : decode cX12_here 35 = .ok (.goto (-35), 3) := by decide +kernel
theorem dX12_here_38 : decode cX12_here 38 = .ok (.aload_n 0, 1) := by decide +kernel
theorem dX12_here_39 : decode cX12_here 39 = .ok (.getfield 99, 3) := by decide +kernel
theorem dX12_here_42 : decode cX12_here 42 = .ok (.aload_n 0, 1) := by decide +kernel
theorem dX12_here_43 : decode cX12_here 43 = .ok (.getfield 95, 3) := by decide +kernel
theorem dX12_here_46 : decode cX12_here 46 = .ok (.if_icmp .ge 15, 3) := by decide +kernel
theorem dX12_here_49 : decode cX12_here 49 = .ok (.aload_n 0, 1) := by decide +kernel
theorem dX12_here_50 : decode cX12_here 50 = .ok (.getfield 25, 3) := by decide +kernel
theorem dX12_here_53 : decode cX12_here 53 = .ok (.aload_n 0, 1) := by decide +kernel
theorem dX12_here_54 : decode cX12_here 54 = .ok (.getfield 99, 3) := by decide +kernel
theorem dX12_here_57 : decode cX12_here 57 = .ok (.iaload, 1) := by decide +kernel
theorem dX12_here_58 : decode cX12_here 58 = .ok (.goto 4, 3) := by decide +kernel
theorem dX12_here_61 : decode cX12_here 61 = .ok (.iconst (-1), 1) := by decide +kernel
theorem dX12_here_62 : decode cX12_here 62 = .ok (.ireturn, 1) := by decide +kernel
theorem dX12_fails_0 : decode cX12_fails 0 = .ok (.aload_n 0, 1) := by decide +kernel
theorem dX12_fails_1 : decode cX12_fails 1 = .ok (.iload_n 2, 1) := by decide +kernel
theorem dX12_fails_2 : decode cX12_fails 2 = .ok (.putfield 28, 3) := by decide +kernel
theorem dX12_fails_5 : decode cX12_fails 5 = .ok (.iload_n 1, 1) := by decide +kernel
theorem dX12_fails_6 : decode cX12_fails 6 = .ok (.ireturn, 1) := by decide +kernel
set_option maxRecDepth 20000 in
theorem ggX12_takeNumber_X12_here : GoodIn wsX12_takeNumber wsX12_here := goodIn_r _ [12, 3, 6, 7, 21, 22, 23, 24, 25, 26, 27, 28, 29, 30, 31, 32, 33, 34, 35, 36, 37, 38, 39, 40, 41, 42, 43, 44, 45, 46, 47, 48, 49, 50, 51, 52, 53, 54, 55] (by decide +kernel) (by decide +kernel)
set_option maxRecDepth 20000 in
theorem gX12_takeNumber_X12_here : GoodIn wsX12_takeNumber (wsV RX12 102 RX12 yX12_here wsX12_here) := goodIn_app (goodIn_of _ (by decide +kernel)) ggX12_takeNumber_X12_here
set_option maxRecDepth 20000 in
theorem ggX12_takeNumber_X12_in : GoodIn wsX12_takeNumber wsX12_in := goodIn_r _ [15] (by decide +kernel) (by decide +kernel)
set_option maxRecDepth 20000 in
theorem gX12_takeNumber_X12_in : GoodIn wsX12_takeNumber (va_wsS RX12 82 yX12_in wsX12_in) := goodIn_app (goodIn_of _ (by decide +kernel)) ggX12_takeNumber_X12_in
set_option maxRecDepth 20000 in
theorem ggX12_takeNumber_X12_fails : GoodIn wsX12_takeNumber wsX12_fails := goodIn_r _ [19, 20, 21, 22, 23, 24, 25, 26, 27, 28, 29, 30, 31, 32, 33, 34, 35, 36, 37, 38, 39, 40, 41, 42, 43, 44, 45, 46, 47, 48, 49, 50, 51, 52, 53, 54, 55] (by decide +kernel) (by decide +kernel)
set_option maxRecDepth 20000 in
theorem gX12_takeNumber_X12_fails : GoodIn wsX12_takeNumber (wsV RX12 109 RX12 yX12_fails wsX12_fails) := goodIn_app (goodIn_of _ (by decide +kernel)) ggX12_takeNumber_X12_fails
theorem dX12_takeNumber_0 : decode cX12_takeNumber 0 = .ok (.aload_n 0, 1) := by decide +kernel
theorem dX12_takeNumber_1 : decode cX12_takeNumber 1 = .ok (.invokevirtual 102, 3) := by decide +kernel
theorem dX12_takeNumber_4 : decode cX12_takeNumber 4 = .ok (.istore_n 3, 1) := by decide +kernel
theorem dX12_takeNumber_5 : decode cX12_takeNumber 5 = .ok (.iload_n 3, 1) := by decide +kernel
theorem dX12_takeNumber_6 : decode cX12_takeNumber 6 = .ok (.i2l, 1) := by decide +kernel
theorem dX12_takeNumber_7 : decode cX12_takeNumber 7 = .ok (.ldc2_w 105, 3) := by decide +kernel
theorem dX12_takeNumber_10 : decode cX12_takeNumber 10 = .ok (.ldc2_w 107, 3) := by decide +kernel
theorem dX12_takeNumber_13 : decode cX12_takeNumber 13 = .ok (.invokestatic 82, 3) := by decide +kernel
theorem dX12_takeNumber_16 : decode cX12_takeNumber 16 = .ok (.ifCond .ne 13, 3) := by decide +kernel
theorem dX12_takeNumber_19 : decode cX12_takeNumber 19 = .ok (.aload_n 0, 1) := by decide +kernel
theorem dX12_takeNumber_20 : decode cX12_takeNumber 20 = .ok (.iconst 1, 1) := by decide +kernel
theorem dX12_takeNumber_21 : decode cX12_takeNumber 21 = .ok (.aload_n 0, 1) := by decide +kernel
theorem dX12_takeNumber_22 : decode cX12_takeNumber 22 = .ok (.getfield 99, 3) := by decide +kernel
theorem dX12_takeNumber_25 : decode cX12_takeNumber 25 = .ok (.invokevirtual 109, 3) := by decide +kernel
theorem dX12_takeNumber_28 : decode cX12_takeNumber 28 = .ok (.ireturn, 1) := by decide +kernel
theorem dX12_takeNumber_29 : decode cX12_takeNumber 29 = .ok (.aload_n 0, 1) := by decide +kernel
theorem dX12_takeNumber_30 : decode cX12_takeNumber 30 = .ok (.aload_n 0, 1) := by decide +kernel
theorem dX12_takeNumber_31 : decode cX12_takeNumber 31 = .ok (.getfield 99, 3) := by decide +kernel
theorem dX12_takeNumber_34 : decode cX12_takeNumber 34 = .ok (.putfield 113, 3) := by decide +kernel
theorem dX12_takeNumber_37 : decode cX12_takeNumber 37 = .ok (.aload_n 0, 1) := by decide +kernel
theorem dX12_takeNumber_38 : decode cX12_takeNumber 38 = .ok (.iconst 0, 1) := by decide +kernel
theorem dX12_takeNumber_39 : decode cX12_takeNumber 39 = .ok (.putfield 116, 3) := by decide +kernel
theorem dX12_takeNumber_42 : decode cX12_takeNumber 42 = .ok (.aload_n 0, 1) := by decide +kernel
theorem dX12_takeNumber_43 : decode cX12_takeNumber 43 = .ok (.getfield 99, 3) := by decide +kernel
theorem dX12_takeNumber_46 : decode cX12_takeNumber 46 = .ok (.aload_n 0, 1) := by decide +kernel
theorem dX12_takeNumber_47 : decode cX12_takeNumber 47 = .ok (.getfield 95, 3) := by decide +kernel
theorem dX12_takeNumber_50 : decode cX12_takeNumber 50 = .ok (.if_icmp .ge 79, 3) := by decide +kernel
theorem dX12_takeNumber_53 : decode cX12_takeNumber 53 = .ok (.aload_n 0, 1) := by decide +kernel
theorem dX12_takeNumber_54 : decode cX12_takeNumber 54 = .ok (.getfield 25, 3) := by decide +kernel
theorem dX12_takeNumber_57 : decode cX12_takeNumber 57 = .ok (.aload_n 0, 1) := by decide +kernel
theorem dX12_takeNumber_58 : decode cX12_takeNumber 58 = .ok (.getfield 99, 3) := by decide +kernel
theorem dX12_takeNumber_61 : decode cX12_takeNumber 61 = .ok (.iaload, 1) := by decide +kernel
theorem dX12_takeNumber_62 : decode cX12_takeNumber 62 = .ok (.i2l, 1) := by decide +kernel
theorem dX12_takeNumber_63 : decode cX12_takeNumber 63 = .ok (.ldc2_w 105, 3) := by decide +kernel
theorem dX12_takeNumber_66 : decode cX12_takeNumber 66 = .ok (.ldc2_w 107, 3) := by decide +kernel
theorem dX12_takeNumber_69 : decode cX12_takeNumber 69 = .ok (.invokestatic 82, 3) := by decide +kernel
theorem dX12_takeNumber_72 : decode cX12_takeNumber 72 = .ok (.ifCond .eq 57, 3) := by decide +kernel
theorem dX12_takeNumber_75 : decode cX12_takeNumber 75 = .ok (.aload_n 0, 1) := by decide +kernel
theorem dX12_takeNumber_76 : decode cX12_takeNumber 76 = .ok (.aload_n 0, 1) := by decide +kernel
theorem dX12_takeNumber_77 : decode cX12_takeNumber 77 = .ok (.getfield 116, 3) := by decide +kernel
theorem dX12_takeNumber_80 : decode cX12_takeNumber 80 = .ok (.sipush 10000, 3) := by decide +kernel
theorem dX12_takeNumber_83 : decode cX12_takeNumber 83 = .ok (.if_icmp .le 10, 3) := by decide +kernel
theorem dX12_takeNumber_86 : decode cX12_takeNumber 86 = .ok (.aload_n 0, 1) := by decide +kernel
theorem dX12_takeNumber_87 : decode cX12_takeNumber 87 = .ok (.getfield 116, 3) := by decide +kernel
theorem dX12_takeNumber_90 : decode cX12_takeNumber 90 = .ok (.goto 23, 3) := by decide +kernel
theorem dX12_takeNumber_93 : decode cX12_takeNumber 93 = .ok (.bipush 10, 2) := by decide +kernel
theorem dX12_takeNumber_95 : decode cX12_takeNumber 95 = .ok (.aload_n 0, 1) := by decide +kernel
theorem dX12_takeNumber_96 : decode cX12_takeNumber 96 = .ok (.getfield 116, 3) := by decide +kernel
theorem dX12_takeNumber_99 : decode cX12_takeNumber 99 = .ok (.imul, 1) := by decide +kernel
theorem dX12_takeNumber_100 : decode cX12_takeNumber 100 = .ok (.aload_n 0, 1) := by decide +kernel
theorem dX12_takeNumber_101 : decode cX12_takeNumber 101 = .ok (.getfield 25, 3) := by decide +kernel
theorem dX12_takeNumber_104 : decode cX12_takeNumber 104 = .ok (.aload_n 0, 1) := by decide +kernel
theorem dX12_takeNumber_105 : decode cX12_takeNumber 105 = .ok (.getfield 99, 3) := by decide +kernel
theorem dX12_takeNumber_108 : decode cX12_takeNumber 108 = .ok (.iaload, 1) := by decide +kernel
theorem dX12_takeNumber_109 : decode cX12_takeNumber 109 = .ok (.iadd, 1) := by decide +kernel
theorem dX12_takeNumber_110 : decode cX12_takeNumber 110 = .ok (.bipush 48, 2) := by decide +kernel
theorem dX12_takeNumber_112 : decode cX12_takeNumber 112 = .ok (.isub, 1) := by decide +kernel
theorem dX12_takeNumber_113 : decode cX12_takeNumber 113 = .ok (.putfield 116, 3) := by decide +kernel
theorem dX12_takeNumber_116 : decode cX12_takeNumber 116 = .ok (.aload_n 0, 1) := by decide +kernel
theorem dX12_takeNumber_117 : decode cX12_takeNumber 117 = .ok (.dup, 1) := by decide +kernel
theorem dX12_takeNumber_118 : decode cX12_takeNumber 118 = .ok (.getfield 99, 3) := by decide +kernel
theorem dX12_takeNumber_121 : decode cX12_takeNumber 121 = .ok (.iconst 1, 1) := by decide +kernel
theorem dX12_takeNumber_122 : decode cX12_takeNumber 122 = .ok (.iadd, 1) := by decide +kernel
theorem dX12_takeNumber_123 : decode cX12_takeNumber 123 = .ok (.putfield 99, 3) := by decide +kernel
theorem dX12_takeNumber_126 : decode cX12_takeNumber 126 = .ok (.goto (-84), 3) := by decide +kernel
theorem dX12_takeNumber_129 : decode cX12_takeNumber 129 = .ok (.aload_n 0, 1) := by decide +kernel
theorem dX12_takeNumber_130 : decode cX12_takeNumber 130 = .ok (.getfield 99, 3) := by decide +kernel
theorem dX12_takeNumber_133 : decode cX12_takeNumber 133 = .ok (.aload_n 0, 1) := by decide +kernel
theorem dX12_takeNumber_134 : decode cX12_takeNumber 134 = .ok (.getfield 113, 3) := by decide +kernel
theorem dX12_takeNumber_137 : decode cX12_takeNumber 137 = .ok (.isub, 1) := by decide +kernel
theorem dX12_takeNumber_138 : decode cX12_takeNumber 138 = .ok (.iconst 3, 1) := by decide +kernel
theorem dX12_takeNumber_139 : decode cX12_takeNumber 139 = .ok (.if_icmp .gt 18, 3) := by decide +kernel
theorem dX12_takeNumber_142 : decode cX12_takeNumber 142 = .ok (.aload_n 0, 1) := by decide +kernel
theorem dX12_takeNumber_143 : decode cX12_takeNumber 143 = .ok (.getfield 116, 3) := by decide +kernel
theorem dX12_takeNumber_146 : decode cX12_takeNumber 146 = .ok (.i2l, 1) := by decide +kernel
theorem dX12_takeNumber_147 : decode cX12_takeNumber 147 = .ok (.iload_n 1, 1) := by decide +kernel
theorem dX12_takeNumber_148 : decode cX12_takeNumber 148 = .ok (.i2l, 1) := by decide +kernel
theorem dX12_takeNumber_149 : decode cX12_takeNumber 149 = .ok (.iload_n 2, 1) := by decide +kernel
theorem dX12_takeNumber_150 : decode cX12_takeNumber 150 = .ok (.i2l, 1) := by decide +kernel
theorem dX12_takeNumber_151 : decode cX12_takeNumber 151 = .ok (.invokestatic 82, 3) := by decide +kernel
theorem dX12_takeNumber_154 : decode cX12_takeNumber 154 = .ok (.ifCond .ne 15, 3) := by decide +kernel
theorem dX12_takeNumber_157 : decode cX12_takeNumber 157 = .ok (.aload_n 0, 1) := by decide +kernel
theorem dX12_takeNumber_158 : decode cX12_takeNumber 158 = .ok (.iconst 2, 1) := by decide +kernel
theorem dX12_takeNumber_159 : decode cX12_takeNumber 159 = .ok (.aload_n 0, 1) := by decide +kernel
theorem dX12_takeNumber_160 : decode cX12_takeNumber 160 = .ok (.getfield 113, 3) := by decide +kernel
theorem dX12_takeNumber_163 : decode cX12_takeNumber 163 = .ok (.invokevirtual 109, 3) := by decide +kernel
theorem dX12_takeNumber_166 : decode cX12_takeNumber 166 = .ok (.goto 4, 3) := by decide +kernel
theorem dX12_takeNumber_169 : decode cX12_takeNumber 169 = .ok (.iconst 0, 1) := by decide +kernel
theorem dX12_takeNumber_170 : decode cX12_takeNumber 170 = .ok (.ireturn, 1) := by decide +kernel
set_option maxRecDepth 20000 in
theorem ggX12_into_X12_takeNumber : GoodIn wsX12_into wsX12_takeNumber := goodIn_r _ [6, 7, 8, 9, 10, 1, 11, 12, 13, 14, 15, 5, 16, 17, 18, 19, 20, 21, 22, 23, 24, 25, 26, 27, 28, 29, 30, 31, 32, 33, 34, 35, 36, 37, 38, 39, 40, 41, 42, 43, 44, 45, 46, 47, 48, 49, 50, 51, 52, 53, 54, 55, 56, 57, 58, 59] (by decide +kernel) (by decide +kernel)
set_option maxRecDepth 20000 in
theorem gX12_into_X12_takeNumber : GoodIn wsX12_into (wsV RX12 119 RX12 yX12_takeNumber wsX12_takeNumber) := goodIn_app (goodIn_of _ (by decide +kernel)) ggX12_into_X12_takeNumber
theorem dX12_into_0 : decode cX12_into 0 = .ok (.aload_n 0, 1) := by decide +kernel
theorem dX12_into_1 : decode cX12_into 1 = .ok (.iload_n 3, 1) := by decide +kernel
theorem dX12_into_2 : decode cX12_into 2 = .ok (.iload 4, 2) := by decide +kernel
theorem dX12_into_4 : decode cX12_into 4 = .ok (.invokevirtual 119, 3) := by decide +kernel
theorem dX12_into_7 : decode cX12_into 7 = .ok (.istore 5, 2) := by decide +kernel
theorem dX12_into_9 : decode cX12_into 9 = .ok (.aload_n 1, 1) := by decide +kernel
theorem dX12_into_10 : decode cX12_into 10 = .ok (.iload_n 2, 1) := by decide +kernel
theorem dX12_into_11 : decode cX12_into 11 = .ok (.aload_n 0, 1) := by decide +kernel
theorem dX12_into_12 : decode cX12_into 12 = .ok (.getfield 116, 3) := by decide +kernel
theorem dX12_into_15 : decode cX12_into 15 = .ok (.iastore, 1) := by decide +kernel
theorem dX12_into_16 : decode cX12_into 16 = .ok (.iload 5, 2) := by decide +kernel
theorem dX12_into_18 : decode cX12_into 18 = .ok (.ireturn, 1) := by decide +kernel
set_option maxRecDepth 20000 in
theorem ggX12_takeWalls_X12_into : GoodIn wsX12_takeWalls wsX12_into := goodIn_r _ [8, 9, 10, 11, 12, 7, 13, 14, 15, 3, 16, 17, 18, 19, 20, 21, 22, 23, 24, 25, 26, 27, 28, 29, 30, 31, 32, 33, 34, 35, 36, 37, 38, 39, 40, 41, 42, 43, 44, 45, 46, 47, 48, 49, 50, 51, 52, 53, 54, 55, 56, 57, 58, 59, 60, 61, 62, 63, 64, 65] (by decide +kernel) (by decide +kernel)
set_option maxRecDepth 20000 in
theorem gX12_takeWalls_X12_into : GoodIn wsX12_takeWalls (wsV RX12 122 RX12 yX12_into wsX12_into) := goodIn_app (goodIn_of _ (by decide +kernel)) ggX12_takeWalls_X12_into
set_option maxRecDepth 20000 in
theorem ggX12_takeWalls_X12_here : GoodIn wsX12_takeWalls wsX12_here := goodIn_r _ [22, 3, 17, 18, 31, 32, 33, 34, 35, 36, 37, 38, 39, 40, 41, 42, 43, 44, 45, 46, 47, 48, 49, 50, 51, 52, 53, 54, 55, 56, 57, 58, 59, 60, 61, 62, 63, 64, 65] (by decide +kernel) (by decide +kernel)
set_option maxRecDepth 20000 in
theorem gX12_takeWalls_X12_here : GoodIn wsX12_takeWalls (wsV RX12 102 RX12 yX12_here wsX12_here) := goodIn_app (goodIn_of _ (by decide +kernel)) ggX12_takeWalls_X12_here
set_option maxRecDepth 20000 in
theorem ggX12_takeWalls_X12_fails : GoodIn wsX12_takeWalls wsX12_fails := goodIn_r _ [29, 30, 31, 32, 33, 34, 35, 36, 37, 38, 39, 40, 41, 42, 43, 44, 45, 46, 47, 48, 49, 50, 51, 52, 53, 54, 55, 56, 57, 58, 59, 60, 61, 62, 63, 64, 65] (by decide +kernel) (by decide +kernel)
set_option maxRecDepth 20000 in
theorem gX12_takeWalls_X12_fails : GoodIn wsX12_takeWalls (wsV RX12 109 RX12 yX12_fails wsX12_fails) := goodIn_app (goodIn_of _ (by decide +kernel)) ggX12_takeWalls_X12_fails
theorem dX12_takeWalls_0 : decode cX12_takeWalls 0 = .ok (.aload_n 0, 1) := by decide +kernel
theorem dX12_takeWalls_1 : decode cX12_takeWalls 1 = .ok (.aload_n 0, 1) := by decide +kernel
theorem dX12_takeWalls_2 : decode cX12_takeWalls 2 = .ok (.getfield 32, 3) := by decide +kernel
theorem dX12_takeWalls_5 : decode cX12_takeWalls 5 = .ok (.iconst 0, 1) := by decide +kernel
theorem dX12_takeWalls_6 : decode cX12_takeWalls 6 = .ok (.iconst 0, 1) := by decide +kernel
theorem dX12_takeWalls_7 : decode cX12_takeWalls 7 = .ok (.bipush 20, 2) := by decide +kernel
theorem dX12_takeWalls_9 : decode cX12_takeWalls 9 = .ok (.invokevirtual 122, 3) := by decide +kernel
theorem dX12_takeWalls_12 : decode cX12_takeWalls 12 = .ok (.istore_n 1, 1) := by decide +kernel
theorem dX12_takeWalls_13 : decode cX12_takeWalls 13 = .ok (.aload_n 0, 1) := by decide +kernel
theorem dX12_takeWalls_14 : decode cX12_takeWalls 14 = .ok (.iconst 1, 1) := by decide +kernel
theorem dX12_takeWalls_15 : decode cX12_takeWalls 15 = .ok (.putfield 126, 3) := by decide +kernel
theorem dX12_takeWalls_18 : decode cX12_takeWalls 18 = .ok (.iload_n 1, 1) := by decide +kernel
theorem dX12_takeWalls_19 : decode cX12_takeWalls 19 = .ok (.ifCond .ne 70, 3) := by decide +kernel
theorem dX12_takeWalls_22 : decode cX12_takeWalls 22 = .ok (.aload_n 0, 1) := by decide +kernel
theorem dX12_takeWalls_23 : decode cX12_takeWalls 23 = .ok (.invokevirtual 102, 3) := by decide +kernel
theorem dX12_takeWalls_26 : decode cX12_takeWalls 26 = .ok (.bipush 44, 2) := by decide +kernel
theorem dX12_takeWalls_28 : decode cX12_takeWalls 28 = .ok (.if_icmp .ne 61, 3) := by decide +kernel
theorem dX12_takeWalls_31 : decode cX12_takeWalls 31 = .ok (.aload_n 0, 1) := by decide +kernel
theorem dX12_takeWalls_32 : decode cX12_takeWalls 32 = .ok (.getfield 126, 3) := by decide +kernel
theorem dX12_takeWalls_35 : decode cX12_takeWalls 35 = .ok (.bipush 8, 2) := by decide +kernel
theorem dX12_takeWalls_37 : decode cX12_takeWalls 37 = .ok (.if_icmp .ne 13, 3) := by decide +kernel
theorem dX12_takeWalls_40 : decode cX12_takeWalls 40 = .ok (.aload_n 0, 1) := by decide +kernel
theorem dX12_takeWalls_41 : decode cX12_takeWalls 41 = .ok (.iconst 1, 1) := by decide +kernel
theorem dX12_takeWalls_42 : decode cX12_takeWalls 42 = .ok (.aload_n 0, 1) := by decide +kernel
theorem dX12_takeWalls_43 : decode cX12_takeWalls 43 = .ok (.getfield 99, 3) := by decide +kernel
theorem dX12_takeWalls_46 : decode cX12_takeWalls 46 = .ok (.invokevirtual 109, 3) := by decide +kernel
theorem dX12_takeWalls_49 : decode cX12_takeWalls 49 = .ok (.ireturn, 1) := by decide +kernel
theorem dX12_takeWalls_50 : decode cX12_takeWalls 50 = .ok (.aload_n 0, 1) := by decide +kernel
theorem dX12_takeWalls_51 : decode cX12_takeWalls 51 = .ok (.dup, 1) := by decide +kernel
theorem dX12_takeWalls_52 : decode cX12_takeWalls 52 = .ok (.getfield 99, 3) := by decide +kernel
theorem dX12_takeWalls_55 : decode cX12_takeWalls 55 = .ok (.iconst 1, 1) := by decide +kernel
theorem dX12_takeWalls_56 : decode cX12_takeWalls 56 = .ok (.iadd, 1) := by decide +kernel
theorem dX12_takeWalls_57 : decode cX12_takeWalls 57 = .ok (.putfield 99, 3) := by decide +kernel
theorem dX12_takeWalls_60 : decode cX12_takeWalls 60 = .ok (.aload_n 0, 1) := by decide +kernel
theorem dX12_takeWalls_61 : decode cX12_takeWalls 61 = .ok (.aload_n 0, 1) := by decide +kernel
theorem dX12_takeWalls_62 : decode cX12_takeWalls 62 = .ok (.getfield 32, 3) := by decide +kernel
theorem dX12_takeWalls_65 : decode cX12_takeWalls 65 = .ok (.aload_n 0, 1) := by decide +kernel
theorem dX12_takeWalls_66 : decode cX12_takeWalls 66 = .ok (.getfield 126, 3) := by decide +kernel
theorem dX12_takeWalls_69 : decode cX12_takeWalls 69 = .ok (.iconst 0, 1) := by decide +kernel
theorem dX12_takeWalls_70 : decode cX12_takeWalls 70 = .ok (.bipush 20, 2) := by decide +kernel
theorem dX12_takeWalls_72 : decode cX12_takeWalls 72 = .ok (.invokevirtual 122, 3) := by decide +kernel
theorem dX12_takeWalls_75 : decode cX12_takeWalls 75 = .ok (.istore_n 1, 1) := by decide +kernel
theorem dX12_takeWalls_76 : decode cX12_takeWalls 76 = .ok (.aload_n 0, 1) := by decide +kernel
theorem dX12_takeWalls_77 : decode cX12_takeWalls 77 = .ok (.dup, 1) := by decide +kernel
theorem dX12_takeWalls_78 : decode cX12_takeWalls 78 = .ok (.getfield 126, 3) := by decide +kernel
theorem dX12_takeWalls_81 : decode cX12_takeWalls 81 = .ok (.iconst 1, 1) := by decide +kernel
theorem dX12_takeWalls_82 : decode cX12_takeWalls 82 = .ok (.iadd, 1) := by decide +kernel
theorem dX12_takeWalls_83 : decode cX12_takeWalls 83 = .ok (.putfield 126, 3) := by decide +kernel
theorem dX12_takeWalls_86 : decode cX12_takeWalls 86 = .ok (.goto (-68), 3) := by decide +kernel
theorem dX12_takeWalls_89 : decode cX12_takeWalls 89 = .ok (.iload_n 1, 1) := by decide +kernel
theorem dX12_takeWalls_90 : decode cX12_takeWalls 90 = .ok (.ireturn, 1) := by decide +kernel
set_option maxRecDepth 20000 in
theorem ggX12_takeWind_X12_takeNumber : GoodIn wsX12_takeWind wsX12_takeNumber := goodIn_r _ [7, 8, 9, 10, 11, 1, 12, 13, 14, 15, 16, 6, 17, 18, 19, 20, 21, 22, 23, 24, 25, 26, 27, 28, 29, 30, 31, 32, 33, 34, 35, 36, 37, 38, 39, 40, 41, 42, 43, 44, 45, 46, 47, 48, 49, 50, 51, 52, 53, 54, 55, 56, 57, 58, 59, 60] (by decide +kernel) (by decide +kernel)
set_option maxRecDepth 20000 in
theorem gX12_takeWind_X12_takeNumber : GoodIn wsX12_takeWind (wsV RX12 119 RX12 yX12_takeNumber wsX12_takeNumber) := goodIn_app (goodIn_of _ (by decide +kernel)) ggX12_takeWind_X12_takeNumber
theorem dX12_takeWind_0 : decode cX12_takeWind 0 = .ok (.aload_n 0, 1) := by decide +kernel
theorem dX12_takeWind_1 : decode cX12_takeWind 1 = .ok (.iconst 0, 1) := by decide +kernel
theorem dX12_takeWind_2 : decode cX12_takeWind 2 = .ok (.bipush 18, 2) := by decide +kernel
theorem dX12_takeWind_4 : decode cX12_takeWind 4 = .ok (.invokevirtual 119, 3) := by decide +kernel
theorem dX12_takeWind_7 : decode cX12_takeWind 7 = .ok (.istore_n 1, 1) := by decide +kernel
theorem dX12_takeWind_8 : decode cX12_takeWind 8 = .ok (.aload_n 0, 1) := by decide +kernel
theorem dX12_takeWind_9 : decode cX12_takeWind 9 = .ok (.aload_n 0, 1) := by decide +kernel
theorem dX12_takeWind_10 : decode cX12_takeWind 10 = .ok (.getfield 116, 3) := by decide +kernel
theorem dX12_takeWind_13 : decode cX12_takeWind 13 = .ok (.putfield 129, 3) := by decide +kernel
theorem dX12_takeWind_16 : decode cX12_takeWind 16 = .ok (.iload_n 1, 1) := by decide +kernel
theorem dX12_takeWind_17 : decode cX12_takeWind 17 = .ok (.ireturn, 1) := by decide +kernel
set_option maxRecDepth 20000 in
theorem ggX12_takeSound_X12_into : GoodIn wsX12_takeSound wsX12_into := goodIn_r _ [8, 9, 10, 11, 12, 7, 13, 14, 15, 16, 17, 18, 19, 20, 21, 22, 23, 24, 25, 26, 27, 28, 29, 30, 31, 32, 33, 34, 35, 36, 37, 38, 39, 40, 41, 42, 43, 44, 45, 46, 47, 48, 49, 50, 51, 52, 53, 54, 55, 56, 57, 58, 59, 60, 61, 62, 63, 64, 65, 66] (by decide +kernel) (by decide +kernel)
set_option maxRecDepth 20000 in
theorem gX12_takeSound_X12_into : GoodIn wsX12_takeSound (wsV RX12 122 RX12 yX12_into wsX12_into) := goodIn_app (goodIn_of _ (by decide +kernel)) ggX12_takeSound_X12_into
theorem dX12_takeSound_0 : decode cX12_takeSound 0 = .ok (.aload_n 0, 1) := by decide +kernel
theorem dX12_takeSound_1 : decode cX12_takeSound 1 = .ok (.getfield 132, 3) := by decide +kernel
theorem dX12_takeSound_4 : decode cX12_takeSound 4 = .ok (.istore_n 1, 1) := by decide +kernel
theorem dX12_takeSound_5 : decode cX12_takeSound 5 = .ok (.aload_n 0, 1) := by decide +kernel
theorem dX12_takeSound_6 : decode cX12_takeSound 6 = .ok (.dup, 1) := by decide +kernel
theorem dX12_takeSound_7 : decode cX12_takeSound 7 = .ok (.getfield 132, 3) := by decide +kernel
theorem dX12_takeSound_10 : decode cX12_takeSound 10 = .ok (.iconst 1, 1) := by decide +kernel
theorem dX12_takeSound_11 : decode cX12_takeSound 11 = .ok (.iadd, 1) := by decide +kernel
theorem dX12_takeSound_12 : decode cX12_takeSound 12 = .ok (.putfield 132, 3) := by decide +kernel
theorem dX12_takeSound_15 : decode cX12_takeSound 15 = .ok (.aload_n 0, 1) := by decide +kernel
theorem dX12_takeSound_16 : decode cX12_takeSound 16 = .ok (.aload_n 0, 1) := by decide +kernel
theorem dX12_takeSound_17 : decode cX12_takeSound 17 = .ok (.getfield 35, 3) := by decide +kernel
theorem dX12_takeSound_20 : decode cX12_takeSound 20 = .ok (.iload_n 1, 1) := by decide +kernel
theorem dX12_takeSound_21 : decode cX12_takeSound 21 = .ok (.iconst 0, 1) := by decide +kernel
theorem dX12_takeSound_22 : decode cX12_takeSound 22 = .ok (.bipush 60, 2) := by decide +kernel
theorem dX12_takeSound_24 : decode cX12_takeSound 24 = .ok (.invokevirtual 122, 3) := by decide +kernel
theorem dX12_takeSound_27 : decode cX12_takeSound 27 = .ok (.istore_n 2, 1) := by decide +kernel
theorem dX12_takeSound_28 : decode cX12_takeSound 28 = .ok (.iload_n 2, 1) := by decide +kernel
theorem dX12_takeSound_29 : decode cX12_takeSound 29 = .ok (.ifCond .le 7, 3) := by decide +kernel
theorem dX12_takeSound_32 : decode cX12_takeSound 32 = .ok (.iload_n 2, 1) := by decide +kernel
theorem dX12_takeSound_33 : decode cX12_takeSound 33 = .ok (.goto 15, 3) := by decide +kernel
theorem dX12_takeSound_36 : decode cX12_takeSound 36 = .ok (.aload_n 0, 1) := by decide +kernel
theorem dX12_takeSound_37 : decode cX12_takeSound 37 = .ok (.aload_n 0, 1) := by decide +kernel
theorem dX12_takeSound_38 : decode cX12_takeSound 38 = .ok (.getfield 38, 3) := by decide +kernel
theorem dX12_takeSound_41 : decode cX12_takeSound 41 = .ok (.iload_n 1, 1) := by decide +kernel
theorem dX12_takeSound_42 : decode cX12_takeSound 42 = .ok (.iconst 0, 1) := by decide +kernel
theorem dX12_takeSound_43 : decode cX12_takeSound 43 = .ok (.bipush 9, 2) := by decide +kernel
theorem dX12_takeSound_45 : decode cX12_takeSound 45 = .ok (.invokevirtual 122, 3) := by decide +kernel
theorem dX12_takeSound_48 : decode cX12_takeSound 48 = .ok (.ireturn, 1) := by decide +kernel
set_option maxRecDepth 20000 in
theorem ggX12_takeWitness_X12_into : GoodIn wsX12_takeWitness wsX12_into := goodIn_r _ [10, 11, 12, 13, 14, 9, 15, 16, 17, 18, 19, 20, 21, 22, 23, 24, 25, 26, 27, 28, 29, 30, 31, 32, 33, 34, 35, 36, 37, 38, 39, 40, 41, 42, 43, 44, 45, 46, 47, 48, 49, 50, 51, 52, 53, 54, 55, 56, 57, 58, 59, 60, 61, 62, 63, 64, 65, 66, 67, 68] (by decide +kernel) (by decide +kernel)
set_option maxRecDepth 20000 in
theorem gX12_takeWitness_X12_into : GoodIn wsX12_takeWitness (wsV RX12 122 RX12 yX12_into wsX12_into) := goodIn_app (goodIn_of _ (by decide +kernel)) ggX12_takeWitness_X12_into
theorem dX12_takeWitness_0 : decode cX12_takeWitness 0 = .ok (.aload_n 0, 1) := by decide +kernel
theorem dX12_takeWitness_1 : decode cX12_takeWitness 1 = .ok (.getfield 135, 3) := by decide +kernel
theorem dX12_takeWitness_4 : decode cX12_takeWitness 4 = .ok (.istore_n 1, 1) := by decide +kernel
theorem dX12_takeWitness_5 : decode cX12_takeWitness 5 = .ok (.aload_n 0, 1) := by decide +kernel
theorem dX12_takeWitness_6 : decode cX12_takeWitness 6 = .ok (.dup, 1) := by decide +kernel
theorem dX12_takeWitness_7 : decode cX12_takeWitness 7 = .ok (.getfield 135, 3) := by decide +kernel
theorem dX12_takeWitness_10 : decode cX12_takeWitness 10 = .ok (.iconst 1, 1) := by decide +kernel
theorem dX12_takeWitness_11 : decode cX12_takeWitness 11 = .ok (.iadd, 1) := by decide +kernel
theorem dX12_takeWitness_12 : decode cX12_takeWitness 12 = .ok (.putfield 135, 3) := by decide +kernel
theorem dX12_takeWitness_15 : decode cX12_takeWitness 15 = .ok (.aload_n 0, 1) := by decide +kernel
theorem dX12_takeWitness_16 : decode cX12_takeWitness 16 = .ok (.aload_n 0, 1) := by decide +kernel
theorem dX12_takeWitness_17 : decode cX12_takeWitness 17 = .ok (.getfield 41, 3) := by decide +kernel
theorem dX12_takeWitness_20 : decode cX12_takeWitness 20 = .ok (.iload_n 1, 1) := by decide +kernel
theorem dX12_takeWitness_21 : decode cX12_takeWitness 21 = .ok (.iconst 0, 1) := by decide +kernel
theorem dX12_takeWitness_22 : decode cX12_takeWitness 22 = .ok (.aload_n 0, 1) := by decide +kernel
theorem dX12_takeWitness_23 : decode cX12_takeWitness 23 = .ok (.getfield 126, 3) := by decide +kernel
theorem dX12_takeWitness_26 : decode cX12_takeWitness 26 = .ok (.invokevirtual 122, 3) := by decide +kernel
theorem dX12_takeWitness_29 : decode cX12_takeWitness 29 = .ok (.istore_n 2, 1) := by decide +kernel
theorem dX12_takeWitness_30 : decode cX12_takeWitness 30 = .ok (.iload_n 2, 1) := by decide +kernel
theorem dX12_takeWitness_31 : decode cX12_takeWitness 31 = .ok (.ifCond .le 7, 3) := by decide +kernel
theorem dX12_takeWitness_34 : decode cX12_takeWitness 34 = .ok (.iload_n 2, 1) := by decide +kernel
theorem dX12_takeWitness_35 : decode cX12_takeWitness 35 = .ok (.goto 15, 3) := by decide +kernel
theorem dX12_takeWitness_38 : decode cX12_takeWitness 38 = .ok (.aload_n 0, 1) := by decide +kernel
theorem dX12_takeWitness_39 : decode cX12_takeWitness 39 = .ok (.aload_n 0, 1) := by decide +kernel
theorem dX12_takeWitness_40 : decode cX12_takeWitness 40 = .ok (.getfield 44, 3) := by decide +kernel
theorem dX12_takeWitness_43 : decode cX12_takeWitness 43 = .ok (.iload_n 1, 1) := by decide +kernel
theorem dX12_takeWitness_44 : decode cX12_takeWitness 44 = .ok (.iconst 0, 1) := by decide +kernel
theorem dX12_takeWitness_45 : decode cX12_takeWitness 45 = .ok (.bipush 30, 2) := by decide +kernel
theorem dX12_takeWitness_47 : decode cX12_takeWitness 47 = .ok (.invokevirtual 122, 3) := by decide +kernel
theorem dX12_takeWitness_50 : decode cX12_takeWitness 50 = .ok (.istore_n 2, 1) := by decide +kernel
theorem dX12_takeWitness_51 : decode cX12_takeWitness 51 = .ok (.iload_n 2, 1) := by decide +kernel
theorem dX12_takeWitness_52 : decode cX12_takeWitness 52 = .ok (.ifCond .le 7, 3) := by decide +kernel
theorem dX12_takeWitness_55 : decode cX12_takeWitness 55 = .ok (.iload_n 2, 1) := by decide +kernel
theorem dX12_takeWitness_56 : decode cX12_takeWitness 56 = .ok (.goto 14, 3) := by decide +kernel
theorem dX12_takeWitness_59 : decode cX12_takeWitness 59 = .ok (.aload_n 0, 1) := by decide +kernel
theorem dX12_takeWitness_60 : decode cX12_takeWitness 60 = .ok (.aload_n 0, 1) := by decide +kernel
theorem dX12_takeWitness_61 : decode cX12_takeWitness 61 = .ok (.getfield 47, 3) := by decide +kernel
theorem dX12_takeWitness_64 : decode cX12_takeWitness 64 = .ok (.iload_n 1, 1) := by decide +kernel
theorem dX12_takeWitness_65 : decode cX12_takeWitness 65 = .ok (.iconst 0, 1) := by decide +kernel
theorem dX12_takeWitness_66 : decode cX12_takeWitness 66 = .ok (.iconst 2, 1) := by decide +kernel
theorem dX12_takeWitness_67 : decode cX12_takeWitness 67 = .ok (.invokevirtual 122, 3) := by decide +kernel
theorem dX12_takeWitness_70 : decode cX12_takeWitness 70 = .ok (.ireturn, 1) := by decide +kernel
set_option maxRecDepth 20000 in
theorem ggX12_takeClause_X12_here : GoodIn wsX12_takeClause wsX12_here := goodIn_r _ [10, 2, 11, 12, 55, 56, 57, 58, 59, 60, 61, 62, 63, 64, 65, 66, 67, 68, 69, 70, 71, 72, 73, 74, 75, 76, 77, 78, 79, 80, 81, 82, 83, 84, 85, 86, 87, 88, 89] (by decide +kernel) (by decide +kernel)
set_option maxRecDepth 20000 in
theorem gX12_takeClause_X12_here : GoodIn wsX12_takeClause (wsV RX12 102 RX12 yX12_here wsX12_here) := goodIn_app (goodIn_of _ (by decide +kernel)) ggX12_takeClause_X12_here
set_option maxRecDepth 20000 in
theorem ggX12_takeClause_X12_fails : GoodIn wsX12_takeClause wsX12_fails := goodIn_r _ [16, 17, 55, 56, 57, 58, 59, 60, 61, 62, 63, 64, 65, 66, 67, 68, 69, 70, 71, 72, 73, 74, 75, 76, 77, 78, 79, 80, 81, 82, 83, 84, 85, 86, 87, 88, 89] (by decide +kernel) (by decide +kernel)
set_option maxRecDepth 20000 in
theorem gX12_takeClause_X12_fails : GoodIn wsX12_takeClause (wsV RX12 109 RX12 yX12_fails wsX12_fails) := goodIn_app (goodIn_of _ (by decide +kernel)) ggX12_takeClause_X12_fails
set_option maxRecDepth 20000 in
theorem ggX12_takeClause_X12_takeWalls : GoodIn wsX12_takeClause wsX12_takeWalls := goodIn_r _ [21, 22, 1, 2, 23, 24, 25, 9, 26, 27, 28, 29, 30, 31, 32, 33, 34, 11, 12, 6, 7, 8, 10, 35, 36, 37, 13, 14, 15, 16, 17, 55, 56, 57, 58, 59, 60, 61, 62, 63, 64, 65, 66, 67, 68, 69, 70, 71, 72, 73, 74, 75, 76, 77, 78, 79, 80, 81, 82, 83, 84, 85, 86, 87, 88, 89] (by decide +kernel) (by decide +kernel)
set_option maxRecDepth 20000 in
theorem gX12_takeClause_X12_takeWalls : GoodIn wsX12_takeClause (wsV RX12 138 RX12 yX12_takeWalls wsX12_takeWalls) := goodIn_app (goodIn_of _ (by decide +kernel)) ggX12_takeClause_X12_takeWalls
set_option maxRecDepth 20000 in
theorem ggX12_takeClause_X12_takeWind : GoodIn wsX12_takeClause wsX12_takeWind := goodIn_r _ [41, 27, 3, 28, 29, 30, 9, 31, 32, 33, 2, 34, 11, 12, 6, 7, 8, 10, 35, 36, 37, 13, 14, 15, 16, 17, 55, 56, 57, 58, 59, 60, 61, 62, 63, 64, 65, 66, 67, 68, 69, 70, 71, 72, 73, 74, 75, 76, 77, 78, 79, 80, 81, 82, 83, 84, 85, 86, 87, 88, 89] (by decide +kernel) (by decide +kernel)
set_option maxRecDepth 20000 in
theorem gX12_takeClause_X12_takeWind : GoodIn wsX12_takeClause (wsV RX12 141 RX12 yX12_takeWind wsX12_takeWind) := goodIn_app (goodIn_of _ (by decide +kernel)) ggX12_takeClause_X12_takeWind
set_option maxRecDepth 20000 in
theorem ggX12_takeClause_X12_takeSound : GoodIn wsX12_takeClause wsX12_takeSound := goodIn_r _ [45, 4, 46, 47, 23, 24, 25, 9, 26, 27, 28, 29, 30, 31, 32, 33, 2, 34, 11, 12, 6, 7, 8, 10, 35, 36, 37, 13, 14, 15, 16, 17, 55, 56, 57, 58, 59, 60, 61, 62, 63, 64, 65, 66, 67, 68, 69, 70, 71, 72, 73, 74, 75, 76, 77, 78, 79, 80, 81, 82, 83, 84, 85, 86, 87, 88, 89] (by decide +kernel) (by decide +kernel)
set_option maxRecDepth 20000 in
theorem gX12_takeClause_X12_takeSound : GoodIn wsX12_takeClause (wsV RX12 144 RX12 yX12_takeSound wsX12_takeSound) := goodIn_app (goodIn_of _ (by decide +kernel)) ggX12_takeClause_X12_takeSound
set_option maxRecDepth 20000 in
theorem ggX12_takeClause_X12_takeWitness : GoodIn wsX12_takeClause wsX12_takeWitness := goodIn_r _ [51, 5, 52, 1, 53, 54, 23, 24, 25, 9, 26, 27, 28, 29, 30, 31, 32, 33, 2, 34, 11, 12, 6, 7, 8, 10, 35, 36, 37, 13, 14, 15, 16, 17, 55, 56, 57, 58, 59, 60, 61, 62, 63, 64, 65, 66, 67, 68, 69, 70, 71, 72, 73, 74, 75, 76, 77, 78, 79, 80, 81, 82, 83, 84, 85, 86, 87, 88, 89] (by decide +kernel) (by decide +kernel)
set_option maxRecDepth 20000 in
theorem gX12_takeClause_X12_takeWitness : GoodIn wsX12_takeClause (wsV RX12 147 RX12 yX12_takeWitness wsX12_takeWitness) := goodIn_app (goodIn_of _ (by decide +kernel)) ggX12_takeClause_X12_takeWitness
theorem dX12_takeClause_0 : decode cX12_takeClause 0 = .ok (.aload_n 0, 1) := by decide +kernel
theorem dX12_takeClause_1 : decode cX12_takeClause 1 = .ok (.invokevirtual 102, 3) := by decide +kernel
theorem dX12_takeClause_4 : decode cX12_takeClause 4 = .ok (.istore_n 1, 1) := by decide +kernel
theorem dX12_takeClause_5 : decode cX12_takeClause 5 = .ok (.iload_n 1, 1) := by decide +kernel
theorem dX12_takeClause_6 : decode cX12_takeClause 6 = .ok (.bipush 104, 2) := by decide +kernel
theorem dX12_takeClause_8 : decode cX12_takeClause 8 = .ok (.if_icmp .ne 7, 3) := by decide +kernel
theorem dX12_takeClause_11 : decode cX12_takeClause 11 = .ok (.iconst 0, 1) := by decide +kernel
theorem dX12_takeClause_12 : decode cX12_takeClause 12 = .ok (.goto 34, 3) := by decide +kernel
theorem dX12_takeClause_15 : decode cX12_takeClause 15 = .ok (.iload_n 1, 1) := by decide +kernel
theorem dX12_takeClause_16 : decode cX12_takeClause 16 = .ok (.bipush 118, 2) := by decide +kernel
theorem dX12_takeClause_18 : decode cX12_takeClause 18 = .ok (.if_icmp .ne 7, 3) := by decide +kernel
theorem dX12_takeClause_21 : decode cX12_takeClause 21 = .ok (.iconst 1, 1) := by decide +kernel
theorem dX12_takeClause_22 : decode cX12_takeClause 22 = .ok (.goto 24, 3) := by decide +kernel
theorem dX12_takeClause_25 : decode cX12_takeClause 25 = .ok (.iload_n 1, 1) := by decide +kernel
theorem dX12_takeClause_26 : decode cX12_takeClause 26 = .ok (.bipush 115, 2) := by decide +kernel
theorem dX12_takeClause_28 : decode cX12_takeClause 28 = .ok (.if_icmp .ne 7, 3) := by decide +kernel
theorem dX12_takeClause_31 : decode cX12_takeClause 31 = .ok (.iconst 2, 1) := by decide +kernel
theorem dX12_takeClause_32 : decode cX12_takeClause 32 = .ok (.goto 14, 3) := by decide +kernel
theorem dX12_takeClause_35 : decode cX12_takeClause 35 = .ok (.iload_n 1, 1) := by decide +kernel
theorem dX12_takeClause_36 : decode cX12_takeClause 36 = .ok (.bipush 119, 2) := by decide +kernel
theorem dX12_takeClause_38 : decode cX12_takeClause 38 = .ok (.if_icmp .ne 7, 3) := by decide +kernel
theorem dX12_takeClause_41 : decode cX12_takeClause 41 = .ok (.iconst 3, 1) := by decide +kernel
theorem dX12_takeClause_42 : decode cX12_takeClause 42 = .ok (.goto 4, 3) := by decide +kernel
theorem dX12_takeClause_45 : decode cX12_takeClause 45 = .ok (.iconst (-1), 1) := by decide +kernel
theorem dX12_takeClause_46 : decode cX12_takeClause 46 = .ok (.istore_n 2, 1) := by decide +kernel
theorem dX12_takeClause_47 : decode cX12_takeClause 47 = .ok (.iload_n 2, 1) := by decide +kernel
theorem dX12_takeClause_48 : decode cX12_takeClause 48 = .ok (.ifCond .lt 14, 3) := by decide +kernel
theorem dX12_takeClause_51 : decode cX12_takeClause 51 = .ok (.iload_n 2, 1) := by decide +kernel
theorem dX12_takeClause_52 : decode cX12_takeClause 52 = .ok (.ifCond .le 20, 3) := by decide +kernel
theorem dX12_takeClause_55 : decode cX12_takeClause 55 = .ok (.aload_n 0, 1) := by decide +kernel
theorem dX12_takeClause_56 : decode cX12_takeClause 56 = .ok (.getfield 126, 3) := by decide +kernel
theorem dX12_takeClause_59 : decode cX12_takeClause 59 = .ok (.ifCond .ne 13, 3) := by decide +kernel
theorem dX12_takeClause_62 : decode cX12_takeClause 62 = .ok (.aload_n 0, 1) := by decide +kernel
theorem dX12_takeClause_63 : decode cX12_takeClause 63 = .ok (.iconst 1, 1) := by decide +kernel
theorem dX12_takeClause_64 : decode cX12_takeClause 64 = .ok (.aload_n 0, 1) := by decide +kernel
theorem dX12_takeClause_65 : decode cX12_takeClause 65 = .ok (.getfield 99, 3) := by decide +kernel
theorem dX12_takeClause_68 : decode cX12_takeClause 68 = .ok (.invokevirtual 109, 3) := by decide +kernel
theorem dX12_takeClause_71 : decode cX12_takeClause 71 = .ok (.ireturn, 1) := by decide +kernel
theorem dX12_takeClause_72 : decode cX12_takeClause 72 = .ok (.iload_n 2, 1) := by decide +kernel
theorem dX12_takeClause_73 : decode cX12_takeClause 73 = .ok (.ifCond .ne 18, 3) := by decide +kernel
theorem dX12_takeClause_76 : decode cX12_takeClause 76 = .ok (.aload_n 0, 1) := by decide +kernel
theorem dX12_takeClause_77 : decode cX12_takeClause 77 = .ok (.getfield 126, 3) := by decide +kernel
theorem dX12_takeClause_80 : decode cX12_takeClause 80 = .ok (.ifCond .le 7, 3) := by decide +kernel
theorem dX12_takeClause_83 : decode cX12_takeClause 83 = .ok (.iconst 1, 1) := by decide +kernel
theorem dX12_takeClause_84 : decode cX12_takeClause 84 = .ok (.goto 63, 3) := by decide +kernel
theorem dX12_takeClause_87 : decode cX12_takeClause 87 = .ok (.iconst 0, 1) := by decide +kernel
theorem dX12_takeClause_88 : decode cX12_takeClause 88 = .ok (.goto 59, 3) := by decide +kernel
theorem dX12_takeClause_91 : decode cX12_takeClause 91 = .ok (.iload_n 2, 1) := by decide +kernel
theorem dX12_takeClause_92 : decode cX12_takeClause 92 = .ok (.iconst 1, 1) := by decide +kernel
theorem dX12_takeClause_93 : decode cX12_takeClause 93 = .ok (.if_icmp .ne 18, 3) := by decide +kernel
theorem dX12_takeClause_96 : decode cX12_takeClause 96 = .ok (.aload_n 0, 1) := by decide +kernel
theorem dX12_takeClause_97 : decode cX12_takeClause 97 = .ok (.getfield 129, 3) := by decide +kernel
theorem dX12_takeClause_100 : decode cX12_takeClause 100 = .ok (.ifCond .lt 7, 3) := by decide +kernel
theorem dX12_takeClause_103 : decode cX12_takeClause 103 = .ok (.iconst 1, 1) := by decide +kernel
theorem dX12_takeClause_104 : decode cX12_takeClause 104 = .ok (.goto 43, 3) := by decide +kernel
theorem dX12_takeClause_107 : decode cX12_takeClause 107 = .ok (.iconst 0, 1) := by decide +kernel
theorem dX12_takeClause_108 : decode cX12_takeClause 108 = .ok (.goto 39, 3) := by decide +kernel
theorem dX12_takeClause_111 : decode cX12_takeClause 111 = .ok (.iload_n 2, 1) := by decide +kernel
theorem dX12_takeClause_112 : decode cX12_takeClause 112 = .ok (.iconst 2, 1) := by decide +kernel
theorem dX12_takeClause_113 : decode cX12_takeClause 113 = .ok (.if_icmp .ne 20, 3) := by decide +kernel
theorem dX12_takeClause_116 : decode cX12_takeClause 116 = .ok (.aload_n 0, 1) := by decide +kernel
theorem dX12_takeClause_117 : decode cX12_takeClause 117 = .ok (.getfield 132, 3) := by decide +kernel
theorem dX12_takeClause_120 : decode cX12_takeClause 120 = .ok (.bipush 6, 2) := by decide +kernel
theorem dX12_takeClause_122 : decode cX12_takeClause 122 = .ok (.if_icmp .ne 7, 3) := by decide +kernel
theorem dX12_takeClause_125 : decode cX12_takeClause 125 = .ok (.iconst 1, 1) := by decide +kernel
theorem dX12_takeClause_126 : decode cX12_takeClause 126 = .ok (.goto 21, 3) := by decide +kernel
theorem dX12_takeClause_129 : decode cX12_takeClause 129 = .ok (.iconst 0, 1) := by decide +kernel
theorem dX12_takeClause_130 : decode cX12_takeClause 130 = .ok (.goto 17, 3) := by decide +kernel
theorem dX12_takeClause_133 : decode cX12_takeClause 133 = .ok (.aload_n 0, 1) := by decide +kernel
theorem dX12_takeClause_134 : decode cX12_takeClause 134 = .ok (.getfield 135, 3) := by decide +kernel
theorem dX12_takeClause_137 : decode cX12_takeClause 137 = .ok (.bipush 7, 2) := by decide +kernel
theorem dX12_takeClause_139 : decode cX12_takeClause 139 = .ok (.if_icmp .ne 7, 3) := by decide +kernel
theorem dX12_takeClause_142 : decode cX12_takeClause 142 = .ok (.iconst 1, 1) := by decide +kernel
theorem dX12_takeClause_143 : decode cX12_takeClause 143 = .ok (.goto 4, 3) := by decide +kernel
theorem dX12_takeClause_146 : decode cX12_takeClause 146 = .ok (.iconst 0, 1) := by decide +kernel
theorem dX12_takeClause_147 : decode cX12_takeClause 147 = .ok (.istore_n 3, 1) := by decide +kernel
theorem dX12_takeClause_148 : decode cX12_takeClause 148 = .ok (.iload_n 3, 1) := by decide +kernel
theorem dX12_takeClause_149 : decode cX12_takeClause 149 = .ok (.ifCond .eq 13, 3) := by decide +kernel
theorem dX12_takeClause_152 : decode cX12_takeClause 152 = .ok (.aload_n 0, 1) := by decide +kernel
theorem dX12_takeClause_153 : decode cX12_takeClause 153 = .ok (.iconst 3, 1) := by decide +kernel
theorem dX12_takeClause_154 : decode cX12_takeClause 154 = .ok (.aload_n 0, 1) := by decide +kernel
theorem dX12_takeClause_155 : decode cX12_takeClause 155 = .ok (.getfield 99, 3) := by decide +kernel
theorem dX12_takeClause_158 : decode cX12_takeClause 158 = .ok (.invokevirtual 109, 3) := by decide +kernel
theorem dX12_takeClause_161 : decode cX12_takeClause 161 = .ok (.ireturn, 1) := by decide +kernel
theorem dX12_takeClause_162 : decode cX12_takeClause 162 = .ok (.aload_n 0, 1) := by decide +kernel
theorem dX12_takeClause_163 : decode cX12_takeClause 163 = .ok (.dup, 1) := by decide +kernel
theorem dX12_takeClause_164 : decode cX12_takeClause 164 = .ok (.getfield 99, 3) := by decide +kernel
theorem dX12_takeClause_167 : decode cX12_takeClause 167 = .ok (.iconst 1, 1) := by decide +kernel
theorem dX12_takeClause_168 : decode cX12_takeClause 168 = .ok (.iadd, 1) := by decide +kernel
theorem dX12_takeClause_169 : decode cX12_takeClause 169 = .ok (.putfield 99, 3) := by decide +kernel
theorem dX12_takeClause_172 : decode cX12_takeClause 172 = .ok (.iload_n 2, 1) := by decide +kernel
theorem dX12_takeClause_173 : decode cX12_takeClause 173 = .ok (.ifCond .ne 10, 3) := by decide +kernel
theorem dX12_takeClause_176 : decode cX12_takeClause 176 = .ok (.aload_n 0, 1) := by decide +kernel
theorem dX12_takeClause_177 : decode cX12_takeClause 177 = .ok (.invokevirtual 138, 3) := by decide +kernel
theorem dX12_takeClause_180 : decode cX12_takeClause 180 = .ok (.goto 31, 3) := by decide +kernel
theorem dX12_takeClause_183 : decode cX12_takeClause 183 = .ok (.iload_n 2, 1) := by decide +kernel
theorem dX12_takeClause_184 : decode cX12_takeClause 184 = .ok (.iconst 1, 1) := by decide +kernel
theorem dX12_takeClause_185 : decode cX12_takeClause 185 = .ok (.if_icmp .ne 10, 3) := by decide +kernel
theorem dX12_takeClause_188 : decode cX12_takeClause 188 = .ok (.aload_n 0, 1) := by decide +kernel
theorem dX12_takeClause_189 : decode cX12_takeClause 189 = .ok (.invokevirtual 141, 3) := by decide +kernel
theorem dX12_takeClause_192 : decode cX12_takeClause 192 = .ok (.goto 19, 3) := by decide +kernel
theorem dX12_takeClause_195 : decode cX12_takeClause 195 = .ok (.iload_n 2, 1) := by decide +kernel
theorem dX12_takeClause_196 : decode cX12_takeClause 196 = .ok (.iconst 2, 1) := by decide +kernel
theorem dX12_takeClause_197 : decode cX12_takeClause 197 = .ok (.if_icmp .ne 10, 3) := by decide +kernel
theorem dX12_takeClause_200 : decode cX12_takeClause 200 = .ok (.aload_n 0, 1) := by decide +kernel
theorem dX12_takeClause_201 : decode cX12_takeClause 201 = .ok (.invokevirtual 144, 3) := by decide +kernel
theorem dX12_takeClause_204 : decode cX12_takeClause 204 = .ok (.goto 7, 3) := by decide +kernel
theorem dX12_takeClause_207 : decode cX12_takeClause 207 = .ok (.aload_n 0, 1) := by decide +kernel
theorem dX12_takeClause_208 : decode cX12_takeClause 208 = .ok (.invokevirtual 147, 3) := by decide +kernel
theorem dX12_takeClause_211 : decode cX12_takeClause 211 = .ok (.istore 4, 2) := by decide +kernel
theorem dX12_takeClause_213 : decode cX12_takeClause 213 = .ok (.iload 4, 2) := by decide +kernel
theorem dX12_takeClause_215 : decode cX12_takeClause 215 = .ok (.ifCond .ne 22, 3) := by decide +kernel
theorem dX12_takeClause_218 : decode cX12_takeClause 218 = .ok (.aload_n 0, 1) := by decide +kernel
theorem dX12_takeClause_219 : decode cX12_takeClause 219 = .ok (.invokevirtual 102, 3) := by decide +kernel
theorem dX12_takeClause_222 : decode cX12_takeClause 222 = .ok (.bipush 59, 2) := by decide +kernel
theorem dX12_takeClause_224 : decode cX12_takeClause 224 = .ok (.if_icmp .eq 13, 3) := by decide +kernel
theorem dX12_takeClause_227 : decode cX12_takeClause 227 = .ok (.aload_n 0, 1) := by decide +kernel
theorem dX12_takeClause_228 : decode cX12_takeClause 228 = .ok (.iconst 1, 1) := by decide +kernel
theorem dX12_takeClause_229 : decode cX12_takeClause 229 = .ok (.aload_n 0, 1) := by decide +kernel
theorem dX12_takeClause_230 : decode cX12_takeClause 230 = .ok (.getfield 99, 3) := by decide +kernel
theorem dX12_takeClause_233 : decode cX12_takeClause 233 = .ok (.invokevirtual 109, 3) := by decide +kernel
theorem dX12_takeClause_236 : decode cX12_takeClause 236 = .ok (.ireturn, 1) := by decide +kernel
theorem dX12_takeClause_237 : decode cX12_takeClause 237 = .ok (.aload_n 0, 1) := by decide +kernel
theorem dX12_takeClause_238 : decode cX12_takeClause 238 = .ok (.dup, 1) := by decide +kernel
theorem dX12_takeClause_239 : decode cX12_takeClause 239 = .ok (.getfield 99, 3) := by decide +kernel
theorem dX12_takeClause_242 : decode cX12_takeClause 242 = .ok (.iconst 1, 1) := by decide +kernel
theorem dX12_takeClause_243 : decode cX12_takeClause 243 = .ok (.iadd, 1) := by decide +kernel
theorem dX12_takeClause_244 : decode cX12_takeClause 244 = .ok (.putfield 99, 3) := by decide +kernel
theorem dX12_takeClause_247 : decode cX12_takeClause 247 = .ok (.iload 4, 2) := by decide +kernel
theorem dX12_takeClause_249 : decode cX12_takeClause 249 = .ok (.ireturn, 1) := by decide +kernel
set_option maxRecDepth 20000 in
theorem ggX12_takeRead_X12_clearNow : GoodIn wsX12_takeRead wsX12_clearNow := goodIn_r _ [23, 7, 24, 25, 26, 27, 28, 29, 30, 31, 32, 33, 34, 35, 36, 37, 38, 39, 40, 41, 42, 43, 44, 45, 46, 47, 48, 49, 50, 51, 52, 53, 54, 55, 56, 57, 58] (by decide +kernel) (by decide +kernel)
set_option maxRecDepth 20000 in
theorem gX12_takeRead_X12_clearNow : GoodIn wsX12_takeRead (wsV RX12 72 RX12 yX12_clearNow wsX12_clearNow) := goodIn_app (goodIn_of _ (by decide +kernel)) ggX12_takeRead_X12_clearNow
theorem dX12_takeRead_0 : decode cX12_takeRead 0 = .ok (.aload_n 0, 1) := by decide +kernel
theorem dX12_takeRead_1 : decode cX12_takeRead 1 = .ok (.aload_n 0, 1) := by decide +kernel
theorem dX12_takeRead_2 : decode cX12_takeRead 2 = .ok (.getfield 126, 3) := by decide +kernel
theorem dX12_takeRead_5 : decode cX12_takeRead 5 = .ok (.putfield 75, 3) := by decide +kernel
theorem dX12_takeRead_8 : decode cX12_takeRead 8 = .ok (.aload_n 0, 1) := by decide +kernel
theorem dX12_takeRead_9 : decode cX12_takeRead 9 = .ok (.aload_n 0, 1) := by decide +kernel
theorem dX12_takeRead_10 : decode cX12_takeRead 10 = .ok (.getfield 132, 3) := by decide +kernel
theorem dX12_takeRead_13 : decode cX12_takeRead 13 = .ok (.putfield 86, 3) := by decide +kernel
theorem dX12_takeRead_16 : decode cX12_takeRead 16 = .ok (.aload_n 0, 1) := by decide +kernel
theorem dX12_takeRead_17 : decode cX12_takeRead 17 = .ok (.aload_n 0, 1) := by decide +kernel
theorem dX12_takeRead_18 : decode cX12_takeRead 18 = .ok (.getfield 135, 3) := by decide +kernel
theorem dX12_takeRead_21 : decode cX12_takeRead 21 = .ok (.putfield 89, 3) := by decide +kernel
theorem dX12_takeRead_24 : decode cX12_takeRead 24 = .ok (.aload_n 0, 1) := by decide +kernel
theorem dX12_takeRead_25 : decode cX12_takeRead 25 = .ok (.invokevirtual 72, 3) := by decide +kernel
theorem dX12_takeRead_28 : decode cX12_takeRead 28 = .ok (.iconst 0, 1) := by decide +kernel
theorem dX12_takeRead_29 : decode cX12_takeRead 29 = .ok (.istore_n 1, 1) := by decide +kernel
theorem dX12_takeRead_30 : decode cX12_takeRead 30 = .ok (.iload_n 1, 1) := by decide +kernel
theorem dX12_takeRead_31 : decode cX12_takeRead 31 = .ok (.aload_n 0, 1) := by decide +kernel
theorem dX12_takeRead_32 : decode cX12_takeRead 32 = .ok (.getfield 75, 3) := by decide +kernel
theorem dX12_takeRead_35 : decode cX12_takeRead 35 = .ok (.if_icmp .ge 21, 3) := by decide +kernel
theorem dX12_takeRead_38 : decode cX12_takeRead 38 = .ok (.aload_n 0, 1) := by decide +kernel
theorem dX12_takeRead_39 : decode cX12_takeRead 39 = .ok (.getfield 22, 3) := by decide +kernel
theorem dX12_takeRead_42 : decode cX12_takeRead 42 = .ok (.iload_n 1, 1) := by decide +kernel
theorem dX12_takeRead_43 : decode cX12_takeRead 43 = .ok (.aload_n 0, 1) := by decide +kernel
theorem dX12_takeRead_44 : decode cX12_takeRead 44 = .ok (.getfield 32, 3) := by decide +kernel
theorem dX12_takeRead_47 : decode cX12_takeRead 47 = .ok (.iload_n 1, 1) := by decide +kernel
theorem dX12_takeRead_48 : decode cX12_takeRead 48 = .ok (.iaload, 1) := by decide +kernel
theorem dX12_takeRead_49 : decode cX12_takeRead 49 = .ok (.iastore, 1) := by decide +kernel
theorem dX12_takeRead_50 : decode cX12_takeRead 50 = .ok (.iinc 1 1, 3) := by decide +kernel
theorem dX12_takeRead_53 : decode cX12_takeRead 53 = .ok (.goto (-23), 3) := by decide +kernel
theorem dX12_takeRead_56 : decode cX12_takeRead 56 = .ok (.aload_n 0, 1) := by decide +kernel
theorem dX12_takeRead_57 : decode cX12_takeRead 57 = .ok (.getfield 22, 3) := by decide +kernel
theorem dX12_takeRead_60 : decode cX12_takeRead 60 = .ok (.bipush 8, 2) := by decide +kernel
theorem dX12_takeRead_62 : decode cX12_takeRead 62 = .ok (.aload_n 0, 1) := by decide +kernel
theorem dX12_takeRead_63 : decode cX12_takeRead 63 = .ok (.getfield 129, 3) := by decide +kernel
theorem dX12_takeRead_66 : decode cX12_takeRead 66 = .ok (.ifCond .ge 8, 3) := by decide +kernel
theorem dX12_takeRead_69 : decode cX12_takeRead 69 = .ok (.bipush 9, 2) := by decide +kernel
theorem dX12_takeRead_71 : decode cX12_takeRead 71 = .ok (.goto 7, 3) := by decide +kernel
theorem dX12_takeRead_74 : decode cX12_takeRead 74 = .ok (.aload_n 0, 1) := by decide +kernel
theorem dX12_takeRead_75 : decode cX12_takeRead 75 = .ok (.getfield 129, 3) := by decide +kernel
theorem dX12_takeRead_78 : decode cX12_takeRead 78 = .ok (.iastore, 1) := by decide +kernel
theorem dX12_takeRead_79 : decode cX12_takeRead 79 = .ok (.iconst 0, 1) := by decide +kernel
theorem dX12_takeRead_80 : decode cX12_takeRead 80 = .ok (.istore_n 1, 1) := by decide +kernel
theorem dX12_takeRead_81 : decode cX12_takeRead 81 = .ok (.iload_n 1, 1) := by decide +kernel
theorem dX12_takeRead_82 : decode cX12_takeRead 82 = .ok (.aload_n 0, 1) := by decide +kernel
theorem dX12_takeRead_83 : decode cX12_takeRead 83 = .ok (.getfield 86, 3) := by decide +kernel
theorem dX12_takeRead_86 : decode cX12_takeRead 86 = .ok (.if_icmp .ge 33, 3) := by decide +kernel
theorem dX12_takeRead_89 : decode cX12_takeRead 89 = .ok (.aload_n 0, 1) := by decide +kernel
theorem dX12_takeRead_90 : decode cX12_takeRead 90 = .ok (.getfield 7, 3) := by decide +kernel
theorem dX12_takeRead_93 : decode cX12_takeRead 93 = .ok (.iload_n 1, 1) := by decide +kernel
theorem dX12_takeRead_94 : decode cX12_takeRead 94 = .ok (.aload_n 0, 1) := by decide +kernel
theorem dX12_takeRead_95 : decode cX12_takeRead 95 = .ok (.getfield 35, 3) := by decide +kernel
theorem dX12_takeRead_98 : decode cX12_takeRead 98 = .ok (.iload_n 1, 1) := by decide +kernel
theorem dX12_takeRead_99 : decode cX12_takeRead 99 = .ok (.iaload, 1) := by decide +kernel
theorem dX12_takeRead_100 : decode cX12_takeRead 100 = .ok (.iastore, 1) := by decide +kernel
theorem dX12_takeRead_101 : decode cX12_takeRead 101 = .ok (.aload_n 0, 1) := by decide +kernel
theorem dX12_takeRead_102 : decode cX12_takeRead 102 = .ok (.getfield 13, 3) := by decide +kernel
theorem dX12_takeRead_105 : decode cX12_takeRead 105 = .ok (.iload_n 1, 1) := by decide +kernel
theorem dX12_takeRead_106 : decode cX12_takeRead 106 = .ok (.aload_n 0, 1) := by decide +kernel
theorem dX12_takeRead_107 : decode cX12_takeRead 107 = .ok (.getfield 38, 3) := by decide +kernel
theorem dX12_takeRead_110 : decode cX12_takeRead 110 = .ok (.iload_n 1, 1) := by decide +kernel
theorem dX12_takeRead_111 : decode cX12_takeRead 111 = .ok (.iaload, 1) := by decide +kernel
theorem dX12_takeRead_112 : decode cX12_takeRead 112 = .ok (.iastore, 1) := by decide +kernel
theorem dX12_takeRead_113 : decode cX12_takeRead 113 = .ok (.iinc 1 1, 3) := by decide +kernel
theorem dX12_takeRead_116 : decode cX12_takeRead 116 = .ok (.goto (-35), 3) := by decide +kernel
theorem dX12_takeRead_119 : decode cX12_takeRead 119 = .ok (.iconst 0, 1) := by decide +kernel
theorem dX12_takeRead_120 : decode cX12_takeRead 120 = .ok (.istore_n 1, 1) := by decide +kernel
theorem dX12_takeRead_121 : decode cX12_takeRead 121 = .ok (.iload_n 1, 1) := by decide +kernel
theorem dX12_takeRead_122 : decode cX12_takeRead 122 = .ok (.aload_n 0, 1) := by decide +kernel
theorem dX12_takeRead_123 : decode cX12_takeRead 123 = .ok (.getfield 89, 3) := by decide +kernel
theorem dX12_takeRead_126 : decode cX12_takeRead 126 = .ok (.if_icmp .ge 48, 3) := by decide +kernel
theorem dX12_takeRead_129 : decode cX12_takeRead 129 = .ok (.aload_n 0, 1) := by decide +kernel
theorem dX12_takeRead_130 : decode cX12_takeRead 130 = .ok (.getfield 22, 3) := by decide +kernel
theorem dX12_takeRead_133 : decode cX12_takeRead 133 = .ok (.bipush 9, 2) := by decide +kernel
theorem dX12_takeRead_135 : decode cX12_takeRead 135 = .ok (.iload_n 1, 1) := by decide +kernel
theorem dX12_takeRead_136 : decode cX12_takeRead 136 = .ok (.iadd, 1) := by decide +kernel
theorem dX12_takeRead_137 : decode cX12_takeRead 137 = .ok (.aload_n 0, 1) := by decide +kernel
theorem dX12_takeRead_138 : decode cX12_takeRead 138 = .ok (.getfield 41, 3) := by decide +kernel
theorem dX12_takeRead_141 : decode cX12_takeRead 141 = .ok (.iload_n 1, 1) := by decide +kernel
theorem dX12_takeRead_142 : decode cX12_takeRead 142 = .ok (.iaload, 1) := by decide +kernel
theorem dX12_takeRead_143 : decode cX12_takeRead 143 = .ok (.iastore, 1) := by decide +kernel
theorem dX12_takeRead_144 : decode cX12_takeRead 144 = .ok (.aload_n 0, 1) := by decide +kernel
theorem dX12_takeRead_145 : decode cX12_takeRead 145 = .ok (.getfield 16, 3) := by decide +kernel
theorem dX12_takeRead_148 : decode cX12_takeRead 148 = .ok (.iload_n 1, 1) := by decide +kernel
theorem dX12_takeRead_149 : decode cX12_takeRead 149 = .ok (.aload_n 0, 1) := by decide +kernel
theorem dX12_takeRead_150 : decode cX12_takeRead 150 = .ok (.getfield 44, 3) := by decide +kernel
theorem dX12_takeRead_153 : decode cX12_takeRead 153 = .ok (.iload_n 1, 1) := by decide +kernel
theorem dX12_takeRead_154 : decode cX12_takeRead 154 = .ok (.iaload, 1) := by decide +kernel
theorem dX12_takeRead_155 : decode cX12_takeRead 155 = .ok (.iastore, 1) := by decide +kernel
theorem dX12_takeRead_156 : decode cX12_takeRead 156 = .ok (.aload_n 0, 1) := by decide +kernel
theorem dX12_takeRead_157 : decode cX12_takeRead 157 = .ok (.getfield 19, 3) := by decide +kernel
theorem dX12_takeRead_160 : decode cX12_takeRead 160 = .ok (.iload_n 1, 1) := by decide +kernel
theorem dX12_takeRead_161 : decode cX12_takeRead 161 = .ok (.aload_n 0, 1) := by decide +kernel
theorem dX12_takeRead_162 : decode cX12_takeRead 162 = .ok (.getfield 47, 3) := by decide +kernel
theorem dX12_takeRead_165 : decode cX12_takeRead 165 = .ok (.iload_n 1, 1) := by decide +kernel
theorem dX12_takeRead_166 : decode cX12_takeRead 166 = .ok (.iaload, 1) := by decide +kernel
theorem dX12_takeRead_167 : decode cX12_takeRead 167 = .ok (.iastore, 1) := by decide +kernel
theorem dX12_takeRead_168 : decode cX12_takeRead 168 = .ok (.iinc 1 1, 3) := by decide +kernel
theorem dX12_takeRead_171 : decode cX12_takeRead 171 = .ok (.goto (-50), 3) := by decide +kernel
theorem dX12_takeRead_174 : decode cX12_takeRead 174 = .ok (.return_, 1) := by decide +kernel
set_option maxRecDepth 20000 in
theorem ggX12_house_X12_here : GoodIn wsX12_house wsX12_here := goodIn_r _ [16, 2, 7, 17, 83, 84, 85, 86, 87, 88, 89, 90, 91, 92, 93, 94, 95, 96, 97, 98, 99, 100, 101, 102, 103, 104, 105, 106, 107, 108, 109, 110, 111, 112, 113, 114, 115, 116, 117] (by decide +kernel) (by decide +kernel)
set_option maxRecDepth 20000 in
theorem gX12_house_X12_here : GoodIn wsX12_house (wsV RX12 102 RX12 yX12_here wsX12_here) := goodIn_app (goodIn_of _ (by decide +kernel)) ggX12_house_X12_here
set_option maxRecDepth 20000 in
theorem ggX12_house_X12_takeClause : GoodIn wsX12_house wsX12_takeClause := goodIn_r _ [21, 3, 2, 4, 5, 6, 12, 13, 14, 15, 16, 7, 17, 22, 23, 24, 25, 1, 26, 27, 28, 29, 30, 31, 32, 33, 34, 35, 36, 37, 38, 39, 40, 41, 42, 43, 44, 45, 46, 47, 48, 49, 50, 51, 52, 53, 54, 55, 56, 57, 58, 59, 60, 61, 62, 83, 84, 85, 86, 87, 88, 89, 90, 91, 92, 93, 94, 95, 96, 97, 98, 99, 100, 101, 102, 103, 104, 105, 106, 107, 108, 109, 110, 111, 112, 113, 114, 115, 116, 117] (by decide +kernel) (by decide +kernel)
set_option maxRecDepth 20000 in
theorem gX12_house_X12_takeClause : GoodIn wsX12_house (wsV RX12 150 RX12 yX12_takeClause wsX12_takeClause) := goodIn_app (goodIn_of _ (by decide +kernel)) ggX12_house_X12_takeClause
set_option maxRecDepth 20000 in
theorem ggX12_house_X12_takeRead : GoodIn wsX12_house wsX12_takeRead := goodIn_r _ [66, 3, 67, 5, 68, 6, 69, 70, 30, 4, 71, 54, 72, 55, 60, 73, 61, 74, 62, 75, 76, 77, 15, 78, 83, 84, 85, 86, 87, 88, 89, 90, 91, 92, 93, 94, 95, 96, 97, 98, 99, 100, 101, 102, 103, 104, 105, 106, 107, 108, 109, 110, 111, 112, 113, 114, 115, 116, 117] (by decide +kernel) (by decide +kernel)
set_option maxRecDepth 20000 in
theorem gX12_house_X12_takeRead : GoodIn wsX12_house (wsV RX12 153 RX12 yX12_takeRead wsX12_takeRead) := goodIn_app (goodIn_of _ (by decide +kernel)) ggX12_house_X12_takeRead
set_option maxRecDepth 20000 in
theorem ggX12_house_X12_places : GoodIn wsX12_house wsX12_places := goodIn_r _ [82, 67, 83, 84, 85, 86, 87, 88, 89, 90, 91, 92, 93, 94, 95, 96, 97, 98, 99, 100, 101, 102, 103, 104, 105, 106, 107, 108, 109, 110, 111, 112, 113, 114, 115, 116, 117] (by decide +kernel) (by decide +kernel)
set_option maxRecDepth 20000 in
theorem gX12_house_X12_places : GoodIn wsX12_house (wsV RX12 78 RX12 yX12_places wsX12_places) := goodIn_app (goodIn_of _ (by decide +kernel)) ggX12_house_X12_places
theorem dX12_house_0 : decode cX12_house 0 = .ok (.aload_n 0, 1) := by decide +kernel
theorem dX12_house_1 : decode cX12_house 1 = .ok (.iconst (-1), 1) := by decide +kernel
theorem dX12_house_2 : decode cX12_house 2 = .ok (.putfield 28, 3) := by decide +kernel
theorem dX12_house_5 : decode cX12_house 5 = .ok (.aload_n 0, 1) := by decide +kernel
theorem dX12_house_6 : decode cX12_house 6 = .ok (.iconst 0, 1) := by decide +kernel
theorem dX12_house_7 : decode cX12_house 7 = .ok (.putfield 99, 3) := by decide +kernel
theorem dX12_house_10 : decode cX12_house 10 = .ok (.aload_n 0, 1) := by decide +kernel
theorem dX12_house_11 : decode cX12_house 11 = .ok (.iconst 0, 1) := by decide +kernel
theorem dX12_house_12 : decode cX12_house 12 = .ok (.putfield 126, 3) := by decide +kernel
theorem dX12_house_15 : decode cX12_house 15 = .ok (.aload_n 0, 1) := by decide +kernel
theorem dX12_house_16 : decode cX12_house 16 = .ok (.iconst (-1), 1) := by decide +kernel
theorem dX12_house_17 : decode cX12_house 17 = .ok (.putfield 129, 3) := by decide +kernel
theorem dX12_house_20 : decode cX12_house 20 = .ok (.aload_n 0, 1) := by decide +kernel
theorem dX12_house_21 : decode cX12_house 21 = .ok (.iconst 0, 1) := by decide +kernel
theorem dX12_house_22 : decode cX12_house 22 = .ok (.putfield 132, 3) := by decide +kernel
theorem dX12_house_25 : decode cX12_house 25 = .ok (.aload_n 0, 1) := by decide +kernel
theorem dX12_house_26 : decode cX12_house 26 = .ok (.iconst 0, 1) := by decide +kernel
theorem dX12_house_27 : decode cX12_house 27 = .ok (.putfield 135, 3) := by decide +kernel
theorem dX12_house_30 : decode cX12_house 30 = .ok (.iconst 0, 1) := by decide +kernel
theorem dX12_house_31 : decode cX12_house 31 = .ok (.istore_n 1, 1) := by decide +kernel
theorem dX12_house_32 : decode cX12_house 32 = .ok (.iload_n 1, 1) := by decide +kernel
theorem dX12_house_33 : decode cX12_house 33 = .ok (.ifCond .ne 18, 3) := by decide +kernel
theorem dX12_house_36 : decode cX12_house 36 = .ok (.aload_n 0, 1) := by decide +kernel
theorem dX12_house_37 : decode cX12_house 37 = .ok (.invokevirtual 102, 3) := by decide +kernel
theorem dX12_house_40 : decode cX12_house 40 = .ok (.ifCond .lt 11, 3) := by decide +kernel
theorem dX12_house_43 : decode cX12_house 43 = .ok (.aload_n 0, 1) := by decide +kernel
theorem dX12_house_44 : decode cX12_house 44 = .ok (.invokevirtual 150, 3) := by decide +kernel
theorem dX12_house_47 : decode cX12_house 47 = .ok (.istore_n 1, 1) := by decide +kernel
theorem dX12_house_48 : decode cX12_house 48 = .ok (.goto (-16), 3) := by decide +kernel
theorem dX12_house_51 : decode cX12_house 51 = .ok (.aload_n 0, 1) := by decide +kernel
theorem dX12_house_52 : decode cX12_house 52 = .ok (.iconst 0, 1) := by decide +kernel
theorem dX12_house_53 : decode cX12_house 53 = .ok (.putfield 95, 3) := by decide +kernel
theorem dX12_house_56 : decode cX12_house 56 = .ok (.iload_n 1, 1) := by decide +kernel
theorem dX12_house_57 : decode cX12_house 57 = .ok (.ifCond .le 8, 3) := by decide +kernel
theorem dX12_house_60 : decode cX12_house 60 = .ok (.bipush (-10), 2) := by decide +kernel
theorem dX12_house_62 : decode cX12_house 62 = .ok (.iload_n 1, 1) := by decide +kernel
theorem dX12_house_63 : decode cX12_house 63 = .ok (.isub, 1) := by decide +kernel
theorem dX12_house_64 : decode cX12_house 64 = .ok (.ireturn, 1) := by decide +kernel
theorem dX12_house_65 : decode cX12_house 65 = .ok (.aload_n 0, 1) := by decide +kernel
theorem dX12_house_66 : decode cX12_house 66 = .ok (.invokevirtual 153, 3) := by decide +kernel
theorem dX12_house_69 : decode cX12_house 69 = .ok (.aload_n 0, 1) := by decide +kernel
theorem dX12_house_70 : decode cX12_house 70 = .ok (.iconst 0, 1) := by decide +kernel
theorem dX12_house_71 : decode cX12_house 71 = .ok (.putfield 156, 3) := by decide +kernel
theorem dX12_house_74 : decode cX12_house 74 = .ok (.aload_n 0, 1) := by decide +kernel
theorem dX12_house_75 : decode cX12_house 75 = .ok (.iconst 0, 1) := by decide +kernel
theorem dX12_house_76 : decode cX12_house 76 = .ok (.putfield 159, 3) := by decide +kernel
theorem dX12_house_79 : decode cX12_house 79 = .ok (.aload_n 0, 1) := by decide +kernel
theorem dX12_house_80 : decode cX12_house 80 = .ok (.iconst 0, 1) := by decide +kernel
theorem dX12_house_81 : decode cX12_house 81 = .ok (.putfield 162, 3) := by decide +kernel
theorem dX12_house_84 : decode cX12_house 84 = .ok (.aload_n 0, 1) := by decide +kernel
theorem dX12_house_85 : decode cX12_house 85 = .ok (.getfield 68, 3) := by decide +kernel
theorem dX12_house_88 : decode cX12_house 88 = .ok (.iconst 0, 1) := by decide +kernel
theorem dX12_house_89 : decode cX12_house 89 = .ok (.iconst 0, 1) := by decide +kernel
theorem dX12_house_90 : decode cX12_house 90 = .ok (.bastore, 1) := by decide +kernel
theorem dX12_house_91 : decode cX12_house 91 = .ok (.aload_n 0, 1) := by decide +kernel
theorem dX12_house_92 : decode cX12_house 92 = .ok (.getfield 68, 3) := by decide +kernel
theorem dX12_house_95 : decode cX12_house 95 = .ok (.iconst 1, 1) := by decide +kernel
theorem dX12_house_96 : decode cX12_house 96 = .ok (.iconst 0, 1) := by decide +kernel
theorem dX12_house_97 : decode cX12_house 97 = .ok (.bastore, 1) := by decide +kernel
theorem dX12_house_98 : decode cX12_house 98 = .ok (.aload_n 0, 1) := by decide +kernel
theorem dX12_house_99 : decode cX12_house 99 = .ok (.invokevirtual 78, 3) := by decide +kernel
theorem dX12_house_102 : decode cX12_house 102 = .ok (.ireturn, 1) := by decide +kernel
theorem dX12_fault_0 : decode cX12_fault 0 = .ok (.aload_n 0, 1) := by decide +kernel
theorem dX12_fault_1 : decode cX12_fault 1 = .ok (.getfield 28, 3) := by decide +kernel
theorem dX12_fault_4 : decode cX12_fault 4 = .ok (.ireturn, 1) := by decide +kernel
set_option maxRecDepth 20000 in
theorem ggX12_told_X12_places : GoodIn wsX12_told wsX12_places := goodIn_r _ [13, 14, 15, 16, 17, 18, 19, 20, 21, 22, 23, 24, 25, 26, 27, 28, 29, 30, 31, 32, 33, 34, 35, 36, 37, 38, 39, 40, 41, 42, 43, 44, 45, 46, 47, 48, 49] (by decide +kernel) (by decide +kernel)
set_option maxRecDepth 20000 in
theorem gX12_told_X12_places : GoodIn wsX12_told (wsV RX12 78 RX12 yX12_places wsX12_places) := goodIn_app (goodIn_of _ (by decide +kernel)) ggX12_told_X12_places
theorem dX12_told_0 : decode cX12_told 0 = .ok (.iload_n 1, 1) := by decide +kernel
theorem dX12_told_1 : decode cX12_told 1 = .ok (.tableswitch 150 0 12 #[67, 72, 77, 82, 87, 95, 103, 111, 119, 127, 135, 140, 145], 67) := by decide +kernel
theorem dX12_told_68 : decode cX12_told 68 = .ok (.aload_n 0, 1) := by decide +kernel
theorem dX12_told_69 : decode cX12_told 69 = .ok (.invokevirtual 78, 3) := by decide +kernel
theorem dX12_told_72 : decode cX12_told 72 = .ok (.ireturn, 1) := by decide +kernel
theorem dX12_told_73 : decode cX12_told 73 = .ok (.aload_n 0, 1) := by decide +kernel
theorem dX12_told_74 : decode cX12_told 74 = .ok (.getfield 86, 3) := by decide +kernel
theorem dX12_told_77 : decode cX12_told 77 = .ok (.ireturn, 1) := by decide +kernel
theorem dX12_told_78 : decode cX12_told 78 = .ok (.aload_n 0, 1) := by decide +kernel
theorem dX12_told_79 : decode cX12_told 79 = .ok (.getfield 89, 3) := by decide +kernel
theorem dX12_told_82 : decode cX12_told 82 = .ok (.ireturn, 1) := by decide +kernel
theorem dX12_told_83 : decode cX12_told 83 = .ok (.aload_n 0, 1) := by decide +kernel
theorem dX12_told_84 : decode cX12_told 84 = .ok (.getfield 95, 3) := by decide +kernel
theorem dX12_told_87 : decode cX12_told 87 = .ok (.ireturn, 1) := by decide +kernel
theorem dX12_told_88 : decode cX12_told 88 = .ok (.aload_n 0, 1) := by decide +kernel
theorem dX12_told_89 : decode cX12_told 89 = .ok (.getfield 22, 3) := by decide +kernel
theorem dX12_told_92 : decode cX12_told 92 = .ok (.bipush 8, 2) := by decide +kernel
theorem dX12_told_94 : decode cX12_told 94 = .ok (.iaload, 1) := by decide +kernel
theorem dX12_told_95 : decode cX12_told 95 = .ok (.ireturn, 1) := by decide +kernel
theorem dX12_told_96 : decode cX12_told 96 = .ok (.aload_n 0, 1) := by decide +kernel
theorem dX12_told_97 : decode cX12_told 97 = .ok (.getfield 22, 3) := by decide +kernel
theorem dX12_told_100 : decode cX12_told 100 = .ok (.bipush 16, 2) := by decide +kernel
theorem dX12_told_102 : decode cX12_told 102 = .ok (.iaload, 1) := by decide +kernel
theorem dX12_told_103 : decode cX12_told 103 = .ok (.ireturn, 1) := by decide +kernel
theorem dX12_told_104 : decode cX12_told 104 = .ok (.aload_n 0, 1) := by decide +kernel
theorem dX12_told_105 : decode cX12_told 105 = .ok (.getfield 22, 3) := by decide +kernel
theorem dX12_told_108 : decode cX12_told 108 = .ok (.bipush 17, 2) := by decide +kernel
theorem dX12_told_110 : decode cX12_told 110 = .ok (.iaload, 1) := by decide +kernel
theorem dX12_told_111 : decode cX12_told 111 = .ok (.ireturn, 1) := by decide +kernel
theorem dX12_told_112 : decode cX12_told 112 = .ok (.aload_n 0, 1) := by decide +kernel
theorem dX12_told_113 : decode cX12_told 113 = .ok (.getfield 22, 3) := by decide +kernel
theorem dX12_told_116 : decode cX12_told 116 = .ok (.bipush 18, 2) := by decide +kernel
theorem dX12_told_118 : decode cX12_told 118 = .ok (.iaload, 1) := by decide +kernel
theorem dX12_told_119 : decode cX12_told 119 = .ok (.ireturn, 1) := by decide +kernel
theorem dX12_told_120 : decode cX12_told 120 = .ok (.aload_n 0, 1) := by decide +kernel
theorem dX12_told_121 : decode cX12_told 121 = .ok (.getfield 22, 3) := by decide +kernel
theorem dX12_told_124 : decode cX12_told 124 = .ok (.bipush 19, 2) := by decide +kernel
theorem dX12_told_126 : decode cX12_told 126 = .ok (.iaload, 1) := by decide +kernel
theorem dX12_told_127 : decode cX12_told 127 = .ok (.ireturn, 1) := by decide +kernel
theorem dX12_told_128 : decode cX12_told 128 = .ok (.aload_n 0, 1) := by decide +kernel
theorem dX12_told_129 : decode cX12_told 129 = .ok (.getfield 22, 3) := by decide +kernel
theorem dX12_told_132 : decode cX12_told 132 = .ok (.bipush 20, 2) := by decide +kernel
theorem dX12_told_134 : decode cX12_told 134 = .ok (.iaload, 1) := by decide +kernel
theorem dX12_told_135 : decode cX12_told 135 = .ok (.ireturn, 1) := by decide +kernel
theorem dX12_told_136 : decode cX12_told 136 = .ok (.aload_n 0, 1) := by decide +kernel
theorem dX12_told_137 : decode cX12_told 137 = .ok (.getfield 156, 3) := by decide +kernel
theorem dX12_told_140 : decode cX12_told 140 = .ok (.ireturn, 1) := by decide +kernel
theorem dX12_told_141 : decode cX12_told 141 = .ok (.aload_n 0, 1) := by decide +kernel
theorem dX12_told_142 : decode cX12_told 142 = .ok (.getfield 159, 3) := by decide +kernel
theorem dX12_told_145 : decode cX12_told 145 = .ok (.ireturn, 1) := by decide +kernel
theorem dX12_told_146 : decode cX12_told 146 = .ok (.aload_n 0, 1) := by decide +kernel
theorem dX12_told_147 : decode cX12_told 147 = .ok (.getfield 162, 3) := by decide +kernel
theorem dX12_told_150 : decode cX12_told 150 = .ok (.ireturn, 1) := by decide +kernel
theorem dX12_told_151 : decode cX12_told 151 = .ok (.ldc 94, 2) := by decide +kernel
theorem dX12_told_153 : decode cX12_told 153 = .ok (.ireturn, 1) := by decide +kernel
set_option maxRecDepth 20000 in
theorem ggX12_thick_X12_in : GoodIn wsX12_thick wsX12_in := goodIn_r _ [7] (by decide +kernel) (by decide +kernel)
set_option maxRecDepth 20000 in
theorem gX12_thick_X12_in : GoodIn wsX12_thick (va_wsS RX12 82 yX12_in wsX12_in) := goodIn_app (goodIn_of _ (by decide +kernel)) ggX12_thick_X12_in
theorem dX12_thick_0 : decode cX12_thick 0 = .ok (.iload_n 1, 1) := by decide +kernel
theorem dX12_thick_1 : decode cX12_thick 1 = .ok (.i2l, 1) := by decide +kernel
theorem dX12_thick_2 : decode cX12_thick 2 = .ok (.lconst 0, 1) := by decide +kernel
theorem dX12_thick_3 : decode cX12_thick 3 = .ok (.aload_n 0, 1) := by decide +kernel
theorem dX12_thick_4 : decode cX12_thick 4 = .ok (.getfield 75, 3) := by decide +kernel
theorem dX12_thick_7 : decode cX12_thick 7 = .ok (.iconst 1, 1) := by decide +kernel
theorem dX12_thick_8 : decode cX12_thick 8 = .ok (.isub, 1) := by decide +kernel
theorem dX12_thick_9 : decode cX12_thick 9 = .ok (.i2l, 1) := by decide +kernel
theorem dX12_thick_10 : decode cX12_thick 10 = .ok (.invokestatic 82, 3) := by decide +kernel
theorem dX12_thick_13 : decode cX12_thick 13 = .ok (.ifCond .eq 12, 3) := by decide +kernel
theorem dX12_thick_16 : decode cX12_thick 16 = .ok (.aload_n 0, 1) := by decide +kernel
theorem dX12_thick_17 : decode cX12_thick 17 = .ok (.getfield 22, 3) := by decide +kernel
theorem dX12_thick_20 : decode cX12_thick 20 = .ok (.iload_n 1, 1) := by decide +kernel
theorem dX12_thick_21 : decode cX12_thick 21 = .ok (.iaload, 1) := by decide +kernel
theorem dX12_thick_22 : decode cX12_thick 22 = .ok (.goto 5, 3) := by decide +kernel
theorem dX12_thick_25 : decode cX12_thick 25 = .ok (.ldc 165, 2) := by decide +kernel
theorem dX12_thick_27 : decode cX12_thick 27 = .ok (.ireturn, 1) := by decide +kernel
set_option maxRecDepth 20000 in
theorem ggX12_sound_X12_isSound : GoodIn wsX12_sound wsX12_isSound := goodIn_r _ [9, 10, 11, 12, 8, 13, 14, 15, 16, 17, 18, 19, 20, 21, 22, 23, 24, 25, 26, 27, 28, 29, 30, 31, 32, 33, 34, 35, 36, 37, 38, 39, 40, 41, 42, 43, 44, 45, 46, 47, 48] (by decide +kernel) (by decide +kernel)
set_option maxRecDepth 20000 in
theorem gX12_sound_X12_isSound : GoodIn wsX12_sound (wsV RX12 166 RX12 yX12_isSound wsX12_isSound) := goodIn_app (goodIn_of _ (by decide +kernel)) ggX12_sound_X12_isSound
theorem dX12_sound_0 : decode cX12_sound 0 = .ok (.aload_n 0, 1) := by decide +kernel
theorem dX12_sound_1 : decode cX12_sound 1 = .ok (.iload_n 1, 1) := by decide +kernel
theorem dX12_sound_2 : decode cX12_sound 2 = .ok (.invokevirtual 166, 3) := by decide +kernel
theorem dX12_sound_5 : decode cX12_sound 5 = .ok (.ifCond .ne 6, 3) := by decide +kernel
theorem dX12_sound_8 : decode cX12_sound 8 = .ok (.ldc 165, 2) := by decide +kernel
theorem dX12_sound_10 : decode cX12_sound 10 = .ok (.ireturn, 1) := by decide +kernel
theorem dX12_sound_11 : decode cX12_sound 11 = .ok (.iload_n 2, 1) := by decide +kernel
theorem dX12_sound_12 : decode cX12_sound 12 = .ok (.ifCond .ne 12, 3) := by decide +kernel
theorem dX12_sound_15 : decode cX12_sound 15 = .ok (.aload_n 0, 1) := by decide +kernel
theorem dX12_sound_16 : decode cX12_sound 16 = .ok (.getfield 7, 3) := by decide +kernel
theorem dX12_sound_19 : decode cX12_sound 19 = .ok (.iload_n 1, 1) := by decide +kernel
theorem dX12_sound_20 : decode cX12_sound 20 = .ok (.iaload, 1) := by decide +kernel
theorem dX12_sound_21 : decode cX12_sound 21 = .ok (.goto 19, 3) := by decide +kernel
theorem dX12_sound_24 : decode cX12_sound 24 = .ok (.iload_n 2, 1) := by decide +kernel
theorem dX12_sound_25 : decode cX12_sound 25 = .ok (.iconst 1, 1) := by decide +kernel
theorem dX12_sound_26 : decode cX12_sound 26 = .ok (.if_icmp .ne 12, 3) := by decide +kernel
theorem dX12_sound_29 : decode cX12_sound 29 = .ok (.aload_n 0, 1) := by decide +kernel
theorem dX12_sound_30 : decode cX12_sound 30 = .ok (.getfield 13, 3) := by decide +kernel
theorem dX12_sound_33 : decode cX12_sound 33 = .ok (.iload_n 1, 1) := by decide +kernel
theorem dX12_sound_34 : decode cX12_sound 34 = .ok (.iaload, 1) := by decide +kernel
theorem dX12_sound_35 : decode cX12_sound 35 = .ok (.goto 5, 3) := by decide +kernel
theorem dX12_sound_38 : decode cX12_sound 38 = .ok (.ldc 94, 2) := by decide +kernel
theorem dX12_sound_40 : decode cX12_sound 40 = .ok (.ireturn, 1) := by decide +kernel
set_option maxRecDepth 20000 in
theorem ggX12_witness_X12_isWitness : GoodIn wsX12_witness wsX12_isWitness := goodIn_r _ [10, 11, 12, 13, 9, 14, 15, 16, 17, 18, 19, 20, 21, 22, 23, 24, 25, 26, 27, 28, 29, 30, 31, 32, 33, 34, 35, 36, 37, 38, 39, 40, 41, 42, 43, 44, 45, 46, 47, 48, 49] (by decide +kernel) (by decide +kernel)
set_option maxRecDepth 20000 in
theorem gX12_witness_X12_isWitness : GoodIn wsX12_witness (wsV RX12 170 RX12 yX12_isWitness wsX12_isWitness) := goodIn_app (goodIn_of _ (by decide +kernel)) ggX12_witness_X12_isWitness
theorem dX12_witness_0 : decode cX12_witness 0 = .ok (.aload_n 0, 1) := by decide +kernel
theorem dX12_witness_1 : decode cX12_witness 1 = .ok (.iload_n 1, 1) := by decide +kernel
theorem dX12_witness_2 : decode cX12_witness 2 = .ok (.invokevirtual 170, 3) := by decide +kernel
theorem dX12_witness_5 : decode cX12_witness 5 = .ok (.ifCond .ne 6, 3) := by decide +kernel
theorem dX12_witness_8 : decode cX12_witness 8 = .ok (.ldc 165, 2) := by decide +kernel
theorem dX12_witness_10 : decode cX12_witness 10 = .ok (.ireturn, 1) := by decide +kernel
theorem dX12_witness_11 : decode cX12_witness 11 = .ok (.iload_n 2, 1) := by decide +kernel
theorem dX12_witness_12 : decode cX12_witness 12 = .ok (.tableswitch 66 0 3 #[32, 42, 49, 56], 32) := by decide +kernel
theorem dX12_witness_44 : decode cX12_witness 44 = .ok (.aload_n 0, 1) := by decide +kernel
theorem dX12_witness_45 : decode cX12_witness 45 = .ok (.getfield 22, 3) := by decide +kernel
theorem dX12_witness_48 : decode cX12_witness 48 = .ok (.bipush 9, 2) := by decide +kernel
theorem dX12_witness_50 : decode cX12_witness 50 = .ok (.iload_n 1, 1) := by decide +kernel
theorem dX12_witness_51 : decode cX12_witness 51 = .ok (.iadd, 1) := by decide +kernel
theorem dX12_witness_52 : decode cX12_witness 52 = .ok (.iaload, 1) := by decide +kernel
theorem dX12_witness_53 : decode cX12_witness 53 = .ok (.ireturn, 1) := by decide +kernel
theorem dX12_witness_54 : decode cX12_witness 54 = .ok (.aload_n 0, 1) := by decide +kernel
theorem dX12_witness_55 : decode cX12_witness 55 = .ok (.getfield 16, 3) := by decide +kernel
theorem dX12_witness_58 : decode cX12_witness 58 = .ok (.iload_n 1, 1) := by decide +kernel
theorem dX12_witness_59 : decode cX12_witness 59 = .ok (.iaload, 1) := by decide +kernel
theorem dX12_witness_60 : decode cX12_witness 60 = .ok (.ireturn, 1) := by decide +kernel
theorem dX12_witness_61 : decode cX12_witness 61 = .ok (.aload_n 0, 1) := by decide +kernel
theorem dX12_witness_62 : decode cX12_witness 62 = .ok (.getfield 19, 3) := by decide +kernel
theorem dX12_witness_65 : decode cX12_witness 65 = .ok (.iload_n 1, 1) := by decide +kernel
theorem dX12_witness_66 : decode cX12_witness 66 = .ok (.iaload, 1) := by decide +kernel
theorem dX12_witness_67 : decode cX12_witness 67 = .ok (.ireturn, 1) := by decide +kernel
theorem dX12_witness_68 : decode cX12_witness 68 = .ok (.aload_n 0, 1) := by decide +kernel
theorem dX12_witness_69 : decode cX12_witness 69 = .ok (.getfield 22, 3) := by decide +kernel
theorem dX12_witness_72 : decode cX12_witness 72 = .ok (.bipush 21, 2) := by decide +kernel
theorem dX12_witness_74 : decode cX12_witness 74 = .ok (.iload_n 1, 1) := by decide +kernel
theorem dX12_witness_75 : decode cX12_witness 75 = .ok (.iadd, 1) := by decide +kernel
theorem dX12_witness_76 : decode cX12_witness 76 = .ok (.iaload, 1) := by decide +kernel
theorem dX12_witness_77 : decode cX12_witness 77 = .ok (.ireturn, 1) := by decide +kernel
theorem dX12_witness_78 : decode cX12_witness 78 = .ok (.ldc 94, 2) := by decide +kernel
theorem dX12_witness_80 : decode cX12_witness 80 = .ok (.ireturn, 1) := by decide +kernel
theorem dX12_loudAt_0 : decode cX12_loudAt 0 = .ok (.iload_n 2, 1) := by decide +kernel
theorem dX12_loudAt_1 : decode cX12_loudAt 1 = .ok (.iload_n 3, 1) := by decide +kernel
theorem dX12_loudAt_2 : decode cX12_loudAt 2 = .ok (.if_icmp .ge 7, 3) := by decide +kernel
theorem dX12_loudAt_5 : decode cX12_loudAt 5 = .ok (.iload_n 2, 1) := by decide +kernel
theorem dX12_loudAt_6 : decode cX12_loudAt 6 = .ok (.goto 4, 3) := by decide +kernel
theorem dX12_loudAt_9 : decode cX12_loudAt 9 = .ok (.iload_n 3, 1) := by decide +kernel
theorem dX12_loudAt_10 : decode cX12_loudAt 10 = .ok (.istore 4, 2) := by decide +kernel
theorem dX12_loudAt_12 : decode cX12_loudAt 12 = .ok (.iload_n 2, 1) := by decide +kernel
theorem dX12_loudAt_13 : decode cX12_loudAt 13 = .ok (.iload_n 3, 1) := by decide +kernel
theorem dX12_loudAt_14 : decode cX12_loudAt 14 = .ok (.if_icmp .ge 7, 3) := by decide +kernel
theorem dX12_loudAt_17 : decode cX12_loudAt 17 = .ok (.iload_n 3, 1) := by decide +kernel
theorem dX12_loudAt_18 : decode cX12_loudAt 18 = .ok (.goto 4, 3) := by decide +kernel
theorem dX12_loudAt_21 : decode cX12_loudAt 21 = .ok (.iload_n 2, 1) := by decide +kernel
theorem dX12_loudAt_22 : decode cX12_loudAt 22 = .ok (.istore 5, 2) := by decide +kernel
theorem dX12_loudAt_24 : decode cX12_loudAt 24 = .ok (.aload_n 0, 1) := by decide +kernel
theorem dX12_loudAt_25 : decode cX12_loudAt 25 = .ok (.getfield 7, 3) := by decide +kernel
theorem dX12_loudAt_28 : decode cX12_loudAt 28 = .ok (.iload_n 1, 1) := by decide +kernel
theorem dX12_loudAt_29 : decode cX12_loudAt 29 = .ok (.iaload, 1) := by decide +kernel
theorem dX12_loudAt_30 : decode cX12_loudAt 30 = .ok (.iload 5, 2) := by decide +kernel
theorem dX12_loudAt_32 : decode cX12_loudAt 32 = .ok (.iload 4, 2) := by decide +kernel
theorem dX12_loudAt_34 : decode cX12_loudAt 34 = .ok (.isub, 1) := by decide +kernel
theorem dX12_loudAt_35 : decode cX12_loudAt 35 = .ok (.isub, 1) := by decide +kernel
theorem dX12_loudAt_36 : decode cX12_loudAt 36 = .ok (.aload_n 0, 1) := by decide +kernel
theorem dX12_loudAt_37 : decode cX12_loudAt 37 = .ok (.getfield 22, 3) := by decide +kernel
theorem dX12_loudAt_40 : decode cX12_loudAt 40 = .ok (.bipush 8, 2) := by decide +kernel
theorem dX12_loudAt_42 : decode cX12_loudAt 42 = .ok (.iaload, 1) := by decide +kernel
theorem dX12_loudAt_43 : decode cX12_loudAt 43 = .ok (.bipush 9, 2) := by decide +kernel
theorem dX12_loudAt_45 : decode cX12_loudAt 45 = .ok (.isub, 1) := by decide +kernel
theorem dX12_loudAt_46 : decode cX12_loudAt 46 = .ok (.iload_n 3, 1) := by decide +kernel
theorem dX12_loudAt_47 : decode cX12_loudAt 47 = .ok (.iload_n 2, 1) := by decide +kernel
theorem dX12_loudAt_48 : decode cX12_loudAt 48 = .ok (.isub, 1) := by decide +kernel
theorem dX12_loudAt_49 : decode cX12_loudAt 49 = .ok (.imul, 1) := by decide +kernel
theorem dX12_loudAt_50 : decode cX12_loudAt 50 = .ok (.iadd, 1) := by decide +kernel
theorem dX12_loudAt_51 : decode cX12_loudAt 51 = .ok (.istore 6, 2) := by decide +kernel
theorem dX12_loudAt_53 : decode cX12_loudAt 53 = .ok (.iload 4, 2) := by decide +kernel
theorem dX12_loudAt_55 : decode cX12_loudAt 55 = .ok (.istore 7, 2) := by decide +kernel
theorem dX12_loudAt_57 : decode cX12_loudAt 57 = .ok (.iload 7, 2) := by decide +kernel
theorem dX12_loudAt_59 : decode cX12_loudAt 59 = .ok (.iload 5, 2) := by decide +kernel
theorem dX12_loudAt_61 : decode cX12_loudAt 61 = .ok (.if_icmp .ge 21, 3) := by decide +kernel
theorem dX12_loudAt_64 : decode cX12_loudAt 64 = .ok (.iload 6, 2) := by decide +kernel
theorem dX12_loudAt_66 : decode cX12_loudAt 66 = .ok (.aload_n 0, 1) := by decide +kernel
theorem dX12_loudAt_67 : decode cX12_loudAt 67 = .ok (.getfield 22, 3) := by decide +kernel
theorem dX12_loudAt_70 : decode cX12_loudAt 70 = .ok (.iload 7, 2) := by decide +kernel
theorem dX12_loudAt_72 : decode cX12_loudAt 72 = .ok (.iaload, 1) := by decide +kernel
theorem dX12_loudAt_73 : decode cX12_loudAt 73 = .ok (.isub, 1) := by decide +kernel
theorem dX12_loudAt_74 : decode cX12_loudAt 74 = .ok (.istore 6, 2) := by decide +kernel
theorem dX12_loudAt_76 : decode cX12_loudAt 76 = .ok (.iinc 7 1, 3) := by decide +kernel
theorem dX12_loudAt_79 : decode cX12_loudAt 79 = .ok (.goto (-22), 3) := by decide +kernel
theorem dX12_loudAt_82 : decode cX12_loudAt 82 = .ok (.iload 6, 2) := by decide +kernel
theorem dX12_loudAt_84 : decode cX12_loudAt 84 = .ok (.ireturn, 1) := by decide +kernel
set_option maxRecDepth 20000 in
theorem ggX12_hears_X12_loudAt : GoodIn wsX12_hears wsX12_loudAt := goodIn_r _ [7, 8, 1, 9, 10, 11, 12, 13, 14, 15, 16, 17, 18, 19, 20, 21, 22, 23, 24, 25, 26, 27, 28, 29, 30, 31, 32, 33, 34, 35, 36, 37, 38, 39, 40, 41, 42, 43] (by decide +kernel) (by decide +kernel)
set_option maxRecDepth 20000 in
theorem gX12_hears_X12_loudAt : GoodIn wsX12_hears (wsV RX12 173 RX12 yX12_loudAt wsX12_loudAt) := goodIn_app (goodIn_of _ (by decide +kernel)) ggX12_hears_X12_loudAt
theorem dX12_hears_0 : decode cX12_hears 0 = .ok (.aload_n 0, 1) := by decide +kernel
theorem dX12_hears_1 : decode cX12_hears 1 = .ok (.iload_n 2, 1) := by decide +kernel
theorem dX12_hears_2 : decode cX12_hears 2 = .ok (.iload_n 3, 1) := by decide +kernel
theorem dX12_hears_3 : decode cX12_hears 3 = .ok (.aload_n 0, 1) := by decide +kernel
theorem dX12_hears_4 : decode cX12_hears 4 = .ok (.getfield 22, 3) := by decide +kernel
theorem dX12_hears_7 : decode cX12_hears 7 = .ok (.bipush 9, 2) := by decide +kernel
theorem dX12_hears_9 : decode cX12_hears 9 = .ok (.iload_n 1, 1) := by decide +kernel
theorem dX12_hears_10 : decode cX12_hears 10 = .ok (.iadd, 1) := by decide +kernel
theorem dX12_hears_11 : decode cX12_hears 11 = .ok (.iaload, 1) := by decide +kernel
theorem dX12_hears_12 : decode cX12_hears 12 = .ok (.invokevirtual 173, 3) := by decide +kernel
theorem dX12_hears_15 : decode cX12_hears 15 = .ok (.aload_n 0, 1) := by decide +kernel
theorem dX12_hears_16 : decode cX12_hears 16 = .ok (.getfield 16, 3) := by decide +kernel
theorem dX12_hears_19 : decode cX12_hears 19 = .ok (.iload_n 1, 1) := by decide +kernel
theorem dX12_hears_20 : decode cX12_hears 20 = .ok (.iaload, 1) := by decide +kernel
theorem dX12_hears_21 : decode cX12_hears 21 = .ok (.if_icmp .lt 7, 3) := by decide +kernel
theorem dX12_hears_24 : decode cX12_hears 24 = .ok (.iconst 1, 1) := by decide +kernel
theorem dX12_hears_25 : decode cX12_hears 25 = .ok (.goto 4, 3) := by decide +kernel
theorem dX12_hears_28 : decode cX12_hears 28 = .ok (.iconst 0, 1) := by decide +kernel
theorem dX12_hears_29 : decode cX12_hears 29 = .ok (.ireturn, 1) := by decide +kernel
set_option maxRecDepth 20000 in
theorem ggX12_hearsTone_X12_loudAt : GoodIn wsX12_hearsTone wsX12_loudAt := goodIn_r _ [7, 8, 1, 9, 10, 11, 12, 13, 14, 15, 16, 17, 18, 19, 20, 21, 22, 23, 24, 25, 26, 27, 28, 29, 30, 31, 32, 33, 34, 35, 36, 37, 38, 39, 40, 41, 42, 43] (by decide +kernel) (by decide +kernel)
set_option maxRecDepth 20000 in
theorem gX12_hearsTone_X12_loudAt : GoodIn wsX12_hearsTone (wsV RX12 173 RX12 yX12_loudAt wsX12_loudAt) := goodIn_app (goodIn_of _ (by decide +kernel)) ggX12_hearsTone_X12_loudAt
theorem dX12_hearsTone_0 : decode cX12_hearsTone 0 = .ok (.aload_n 0, 1) := by decide +kernel
theorem dX12_hearsTone_1 : decode cX12_hearsTone 1 = .ok (.iload_n 2, 1) := by decide +kernel
theorem dX12_hearsTone_2 : decode cX12_hearsTone 2 = .ok (.iload_n 3, 1) := by decide +kernel
theorem dX12_hearsTone_3 : decode cX12_hearsTone 3 = .ok (.aload_n 0, 1) := by decide +kernel
theorem dX12_hearsTone_4 : decode cX12_hearsTone 4 = .ok (.getfield 22, 3) := by decide +kernel
theorem dX12_hearsTone_7 : decode cX12_hearsTone 7 = .ok (.bipush 9, 2) := by decide +kernel
theorem dX12_hearsTone_9 : decode cX12_hearsTone 9 = .ok (.iload_n 1, 1) := by decide +kernel
theorem dX12_hearsTone_10 : decode cX12_hearsTone 10 = .ok (.iadd, 1) := by decide +kernel
theorem dX12_hearsTone_11 : decode cX12_hearsTone 11 = .ok (.iaload, 1) := by decide +kernel
theorem dX12_hearsTone_12 : decode cX12_hearsTone 12 = .ok (.invokevirtual 173, 3) := by decide +kernel
theorem dX12_hearsTone_15 : decode cX12_hearsTone 15 = .ok (.aload_n 0, 1) := by decide +kernel
theorem dX12_hearsTone_16 : decode cX12_hearsTone 16 = .ok (.getfield 16, 3) := by decide +kernel
theorem dX12_hearsTone_19 : decode cX12_hearsTone 19 = .ok (.iload_n 1, 1) := by decide +kernel
theorem dX12_hearsTone_20 : decode cX12_hearsTone 20 = .ok (.iaload, 1) := by decide +kernel
theorem dX12_hearsTone_21 : decode cX12_hearsTone 21 = .ok (.iconst 5, 1) := by decide +kernel
theorem dX12_hearsTone_22 : decode cX12_hearsTone 22 = .ok (.iadd, 1) := by decide +kernel
theorem dX12_hearsTone_23 : decode cX12_hearsTone 23 = .ok (.if_icmp .lt 7, 3) := by decide +kernel
theorem dX12_hearsTone_26 : decode cX12_hearsTone 26 = .ok (.iconst 1, 1) := by decide +kernel
theorem dX12_hearsTone_27 : decode cX12_hearsTone 27 = .ok (.goto 4, 3) := by decide +kernel
theorem dX12_hearsTone_30 : decode cX12_hearsTone 30 = .ok (.iconst 0, 1) := by decide +kernel
theorem dX12_hearsTone_31 : decode cX12_hearsTone 31 = .ok (.ireturn, 1) := by decide +kernel
theorem dX12_widowers_0 : decode cX12_widowers 0 = .ok (.aload_n 0, 1) := by decide +kernel
theorem dX12_widowers_1 : decode cX12_widowers 1 = .ok (.getfield 86, 3) := by decide +kernel
theorem dX12_widowers_4 : decode cX12_widowers 4 = .ok (.ifCond .ne 7, 3) := by decide +kernel
theorem dX12_widowers_7 : decode cX12_widowers 7 = .ok (.iconst 0, 1) := by decide +kernel
theorem dX12_widowers_8 : decode cX12_widowers 8 = .ok (.goto 11, 3) := by decide +kernel
theorem dX12_widowers_11 : decode cX12_widowers 11 = .ok (.iconst 2, 1) := by decide +kernel
theorem dX12_widowers_12 : decode cX12_widowers 12 = .ok (.aload_n 0, 1) := by decide +kernel
theorem dX12_widowers_13 : decode cX12_widowers 13 = .ok (.getfield 13, 3) := by decide +kernel
theorem dX12_widowers_16 : decode cX12_widowers 16 = .ok (.iconst 0, 1) := by decide +kernel
theorem dX12_widowers_17 : decode cX12_widowers 17 = .ok (.iaload, 1) := by decide +kernel
theorem dX12_widowers_18 : decode cX12_widowers 18 = .ok (.iadd, 1) := by decide +kernel
theorem dX12_widowers_19 : decode cX12_widowers 19 = .ok (.ireturn, 1) := by decide +kernel
set_option maxRecDepth 20000 in
theorem ggX12_sayingOf_X12_widowers : GoodIn wsX12_sayingOf wsX12_widowers := goodIn_r _ [7, 8, 2, 24, 25, 26, 27, 28, 29, 30, 31, 32, 33, 34, 35, 36, 37, 38, 39, 40, 41, 42, 43, 44, 45, 46, 47, 48, 49, 50, 51, 52, 53, 54, 55, 56, 57, 58] (by decide +kernel) (by decide +kernel)
set_option maxRecDepth 20000 in
theorem gX12_sayingOf_X12_widowers : GoodIn wsX12_sayingOf (wsV RX12 177 RX12 yX12_widowers wsX12_widowers) := goodIn_app (goodIn_of _ (by decide +kernel)) ggX12_sayingOf_X12_widowers
set_option maxRecDepth 20000 in
theorem ggX12_sayingOf_X12_hearsTone : GoodIn wsX12_sayingOf wsX12_hearsTone := goodIn_r _ [12, 13, 14, 15, 16, 17, 6, 18, 19, 24, 25, 26, 27, 28, 29, 30, 31, 32, 33, 34, 35, 36, 37, 38, 39, 40, 41, 42, 43, 44, 45, 46, 47, 48, 49, 50, 51, 52, 53, 54, 55, 56, 57, 58] (by decide +kernel) (by decide +kernel)
set_option maxRecDepth 20000 in
theorem gX12_sayingOf_X12_hearsTone : GoodIn wsX12_sayingOf (wsV RX12 180 RX12 yX12_hearsTone wsX12_hearsTone) := goodIn_app (goodIn_of _ (by decide +kernel)) ggX12_sayingOf_X12_hearsTone
set_option maxRecDepth 20000 in
theorem ggX12_sayingOf_X12_hears : GoodIn wsX12_sayingOf wsX12_hears := goodIn_r _ [23, 13, 14, 15, 16, 17, 6, 18, 19, 24, 25, 26, 27, 28, 29, 30, 31, 32, 33, 34, 35, 36, 37, 38, 39, 40, 41, 42, 43, 44, 45, 46, 47, 48, 49, 50, 51, 52, 53, 54, 55, 56, 57, 58] (by decide +kernel) (by decide +kernel)
set_option maxRecDepth 20000 in
theorem gX12_sayingOf_X12_hears : GoodIn wsX12_sayingOf (wsV RX12 184 RX12 yX12_hears wsX12_hears) := goodIn_app (goodIn_of _ (by decide +kernel)) ggX12_sayingOf_X12_hears
theorem dX12_sayingOf_0 : decode cX12_sayingOf 0 = .ok (.aload_n 0, 1) := by decide +kernel
theorem dX12_sayingOf_1 : decode cX12_sayingOf 1 = .ok (.getfield 19, 3) := by decide +kernel
theorem dX12_sayingOf_4 : decode cX12_sayingOf 4 = .ok (.iload_n 1, 1) := by decide +kernel
theorem dX12_sayingOf_5 : decode cX12_sayingOf 5 = .ok (.iaload, 1) := by decide +kernel
theorem dX12_sayingOf_6 : decode cX12_sayingOf 6 = .ok (.ifCond .eq 22, 3) := by decide +kernel
theorem dX12_sayingOf_9 : decode cX12_sayingOf 9 = .ok (.aload_n 0, 1) := by decide +kernel
theorem dX12_sayingOf_10 : decode cX12_sayingOf 10 = .ok (.getfield 19, 3) := by decide +kernel
theorem dX12_sayingOf_13 : decode cX12_sayingOf 13 = .ok (.iload_n 1, 1) := by decide +kernel
theorem dX12_sayingOf_14 : decode cX12_sayingOf 14 = .ok (.iaload, 1) := by decide +kernel
theorem dX12_sayingOf_15 : decode cX12_sayingOf 15 = .ok (.iconst 1, 1) := by decide +kernel
theorem dX12_sayingOf_16 : decode cX12_sayingOf 16 = .ok (.if_icmp .ne 10, 3) := by decide +kernel
theorem dX12_sayingOf_19 : decode cX12_sayingOf 19 = .ok (.aload_n 0, 1) := by decide +kernel
theorem dX12_sayingOf_20 : decode cX12_sayingOf 20 = .ok (.invokevirtual 177, 3) := by decide +kernel
theorem dX12_sayingOf_23 : decode cX12_sayingOf 23 = .ok (.goto 4, 3) := by decide +kernel
theorem dX12_sayingOf_26 : decode cX12_sayingOf 26 = .ok (.iconst 0, 1) := by decide +kernel
theorem dX12_sayingOf_27 : decode cX12_sayingOf 27 = .ok (.ireturn, 1) := by decide +kernel
theorem dX12_sayingOf_28 : decode cX12_sayingOf 28 = .ok (.aload_n 0, 1) := by decide +kernel
theorem dX12_sayingOf_29 : decode cX12_sayingOf 29 = .ok (.iload_n 1, 1) := by decide +kernel
theorem dX12_sayingOf_30 : decode cX12_sayingOf 30 = .ok (.iload_n 2, 1) := by decide +kernel
theorem dX12_sayingOf_31 : decode cX12_sayingOf 31 = .ok (.iload_n 3, 1) := by decide +kernel
theorem dX12_sayingOf_32 : decode cX12_sayingOf 32 = .ok (.invokevirtual 180, 3) := by decide +kernel
theorem dX12_sayingOf_35 : decode cX12_sayingOf 35 = .ok (.ifCond .eq 14, 3) := by decide +kernel
theorem dX12_sayingOf_38 : decode cX12_sayingOf 38 = .ok (.iconst 2, 1) := by decide +kernel
theorem dX12_sayingOf_39 : decode cX12_sayingOf 39 = .ok (.aload_n 0, 1) := by decide +kernel
theorem dX12_sayingOf_40 : decode cX12_sayingOf 40 = .ok (.getfield 13, 3) := by decide +kernel
theorem dX12_sayingOf_43 : decode cX12_sayingOf 43 = .ok (.iload_n 2, 1) := by decide +kernel
theorem dX12_sayingOf_44 : decode cX12_sayingOf 44 = .ok (.iaload, 1) := by decide +kernel
theorem dX12_sayingOf_45 : decode cX12_sayingOf 45 = .ok (.iadd, 1) := by decide +kernel
theorem dX12_sayingOf_46 : decode cX12_sayingOf 46 = .ok (.goto 18, 3) := by decide +kernel
theorem dX12_sayingOf_49 : decode cX12_sayingOf 49 = .ok (.aload_n 0, 1) := by decide +kernel
theorem dX12_sayingOf_50 : decode cX12_sayingOf 50 = .ok (.iload_n 1, 1) := by decide +kernel
theorem dX12_sayingOf_51 : decode cX12_sayingOf 51 = .ok (.iload_n 2, 1) := by decide +kernel
theorem dX12_sayingOf_52 : decode cX12_sayingOf 52 = .ok (.iload_n 3, 1) := by decide +kernel
theorem dX12_sayingOf_53 : decode cX12_sayingOf 53 = .ok (.invokevirtual 184, 3) := by decide +kernel
theorem dX12_sayingOf_56 : decode cX12_sayingOf 56 = .ok (.ifCond .eq 7, 3) := by decide +kernel
theorem dX12_sayingOf_59 : decode cX12_sayingOf 59 = .ok (.iconst 1, 1) := by decide +kernel
theorem dX12_sayingOf_60 : decode cX12_sayingOf 60 = .ok (.goto 4, 3) := by decide +kernel
theorem dX12_sayingOf_63 : decode cX12_sayingOf 63 = .ok (.iconst 0, 1) := by decide +kernel
theorem dX12_sayingOf_64 : decode cX12_sayingOf 64 = .ok (.ireturn, 1) := by decide +kernel
theorem dX12_remember_0 : decode cX12_remember 0 = .ok (.aload_n 0, 1) := by decide +kernel
theorem dX12_remember_1 : decode cX12_remember 1 = .ok (.getfield 162, 3) := by decide +kernel
theorem dX12_remember_4 : decode cX12_remember 4 = .ok (.bipush 20, 2) := by decide +kernel
theorem dX12_remember_6 : decode cX12_remember 6 = .ok (.if_icmp .ne 44, 3) := by decide +kernel
theorem dX12_remember_9 : decode cX12_remember 9 = .ok (.bipush 28, 2) := by decide +kernel
theorem dX12_remember_11 : decode cX12_remember 11 = .ok (.istore_n 1, 1) := by decide +kernel
theorem dX12_remember_12 : decode cX12_remember 12 = .ok (.iload_n 1, 1) := by decide +kernel
theorem dX12_remember_13 : decode cX12_remember 13 = .ok (.sipush 560, 3) := by decide +kernel
theorem dX12_remember_16 : decode cX12_remember 16 = .ok (.if_icmp .ge 24, 3) := by decide +kernel
theorem dX12_remember_19 : decode cX12_remember 19 = .ok (.aload_n 0, 1) := by decide +kernel
theorem dX12_remember_20 : decode cX12_remember 20 = .ok (.getfield 50, 3) := by decide +kernel
theorem dX12_remember_23 : decode cX12_remember 23 = .ok (.iload_n 1, 1) := by decide +kernel
theorem dX12_remember_24 : decode cX12_remember 24 = .ok (.bipush 28, 2) := by decide +kernel
theorem dX12_remember_26 : decode cX12_remember 26 = .ok (.isub, 1) := by decide +kernel
theorem dX12_remember_27 : decode cX12_remember 27 = .ok (.aload_n 0, 1) := by decide +kernel
theorem dX12_remember_28 : decode cX12_remember 28 = .ok (.getfield 50, 3) := by decide +kernel
theorem dX12_remember_31 : decode cX12_remember 31 = .ok (.iload_n 1, 1) := by decide +kernel
theorem dX12_remember_32 : decode cX12_remember 32 = .ok (.iaload, 1) := by decide +kernel
theorem dX12_remember_33 : decode cX12_remember 33 = .ok (.iastore, 1) := by decide +kernel
theorem dX12_remember_34 : decode cX12_remember 34 = .ok (.iinc 1 1, 3) := by decide +kernel
theorem dX12_remember_37 : decode cX12_remember 37 = .ok (.goto (-25), 3) := by decide +kernel
theorem dX12_remember_40 : decode cX12_remember 40 = .ok (.aload_n 0, 1) := by decide +kernel
theorem dX12_remember_41 : decode cX12_remember 41 = .ok (.dup, 1) := by decide +kernel
theorem dX12_remember_42 : decode cX12_remember 42 = .ok (.getfield 162, 3) := by decide +kernel
theorem dX12_remember_45 : decode cX12_remember 45 = .ok (.iconst 1, 1) := by decide +kernel
theorem dX12_remember_46 : decode cX12_remember 46 = .ok (.isub, 1) := by decide +kernel
theorem dX12_remember_47 : decode cX12_remember 47 = .ok (.putfield 162, 3) := by decide +kernel
theorem dX12_remember_50 : decode cX12_remember 50 = .ok (.iconst 0, 1) := by decide +kernel
theorem dX12_remember_51 : decode cX12_remember 51 = .ok (.istore_n 1, 1) := by decide +kernel
theorem dX12_remember_52 : decode cX12_remember 52 = .ok (.iload_n 1, 1) := by decide +kernel
theorem dX12_remember_53 : decode cX12_remember 53 = .ok (.bipush 28, 2) := by decide +kernel
theorem dX12_remember_55 : decode cX12_remember 55 = .ok (.if_icmp .ge 29, 3) := by decide +kernel
theorem dX12_remember_58 : decode cX12_remember 58 = .ok (.aload_n 0, 1) := by decide +kernel
theorem dX12_remember_59 : decode cX12_remember 59 = .ok (.getfield 50, 3) := by decide +kernel
theorem dX12_remember_62 : decode cX12_remember 62 = .ok (.bipush 28, 2) := by decide +kernel
theorem dX12_remember_64 : decode cX12_remember 64 = .ok (.aload_n 0, 1) := by decide +kernel
theorem dX12_remember_65 : decode cX12_remember 65 = .ok (.getfield 162, 3) := by decide +kernel
theorem dX12_remember_68 : decode cX12_remember 68 = .ok (.imul, 1) := by decide +kernel
theorem dX12_remember_69 : decode cX12_remember 69 = .ok (.iload_n 1, 1) := by decide +kernel
theorem dX12_remember_70 : decode cX12_remember 70 = .ok (.iadd, 1) := by decide +kernel
theorem dX12_remember_71 : decode cX12_remember 71 = .ok (.aload_n 0, 1) := by decide +kernel
theorem dX12_remember_72 : decode cX12_remember 72 = .ok (.getfield 22, 3) := by decide +kernel
theorem dX12_remember_75 : decode cX12_remember 75 = .ok (.iload_n 1, 1) := by decide +kernel
theorem dX12_remember_76 : decode cX12_remember 76 = .ok (.iaload, 1) := by decide +kernel
theorem dX12_remember_77 : decode cX12_remember 77 = .ok (.iastore, 1) := by decide +kernel
theorem dX12_remember_78 : decode cX12_remember 78 = .ok (.iinc 1 1, 3) := by decide +kernel
theorem dX12_remember_81 : decode cX12_remember 81 = .ok (.goto (-29), 3) := by decide +kernel
theorem dX12_remember_84 : decode cX12_remember 84 = .ok (.aload_n 0, 1) := by decide +kernel
theorem dX12_remember_85 : decode cX12_remember 85 = .ok (.dup, 1) := by decide +kernel
theorem dX12_remember_86 : decode cX12_remember 86 = .ok (.getfield 162, 3) := by decide +kernel
theorem dX12_remember_89 : decode cX12_remember 89 = .ok (.iconst 1, 1) := by decide +kernel
theorem dX12_remember_90 : decode cX12_remember 90 = .ok (.iadd, 1) := by decide +kernel
theorem dX12_remember_91 : decode cX12_remember 91 = .ok (.putfield 162, 3) := by decide +kernel
theorem dX12_remember_94 : decode cX12_remember 94 = .ok (.return_, 1) := by decide +kernel
set_option maxRecDepth 20000 in
theorem ggX12_morningOf_X12_hears : GoodIn wsX12_morningOf wsX12_hears := goodIn_r _ [7, 1, 8, 9, 10, 11, 6, 12, 13, 29, 30, 31, 32, 33, 34, 35, 36, 37, 38, 39, 40, 41, 42, 43, 44, 45, 46, 47, 48, 49, 50, 51, 52, 53, 54, 55, 56, 57, 58, 59, 60, 61, 62, 63] (by decide +kernel) (by decide +kernel)
set_option maxRecDepth 20000 in
theorem gX12_morningOf_X12_hears : GoodIn wsX12_morningOf (wsV RX12 184 RX12 yX12_hears wsX12_hears) := goodIn_app (goodIn_of _ (by decide +kernel)) ggX12_morningOf_X12_hears
set_option maxRecDepth 20000 in
theorem ggX12_morningOf_X12_hearsTone : GoodIn wsX12_morningOf wsX12_hearsTone := goodIn_r _ [17, 1, 8, 9, 10, 11, 6, 12, 13, 29, 30, 31, 32, 33, 34, 35, 36, 37, 38, 39, 40, 41, 42, 43, 44, 45, 46, 47, 48, 49, 50, 51, 52, 53, 54, 55, 56, 57, 58, 59, 60, 61, 62, 63] (by decide +kernel) (by decide +kernel)
set_option maxRecDepth 20000 in
theorem gX12_morningOf_X12_hearsTone : GoodIn wsX12_morningOf (wsV RX12 180 RX12 yX12_hearsTone wsX12_hearsTone) := goodIn_app (goodIn_of _ (by decide +kernel)) ggX12_morningOf_X12_hearsTone
set_option maxRecDepth 20000 in
theorem ggX12_morningOf_X12_sayingOf : GoodIn wsX12_morningOf wsX12_sayingOf := goodIn_r _ [21, 22, 23, 24, 25, 26, 6, 27, 28, 14, 15, 16, 17, 1, 8, 9, 10, 11, 12, 13, 3, 4, 5, 7, 29, 30, 31, 32, 33, 34, 35, 36, 37, 38, 39, 40, 41, 42, 43, 44, 45, 46, 47, 48, 49, 50, 51, 52, 53, 54, 55, 56, 57, 58, 59, 60, 61, 62, 63] (by decide +kernel) (by decide +kernel)
set_option maxRecDepth 20000 in
theorem gX12_morningOf_X12_sayingOf : GoodIn wsX12_morningOf (wsV RX12 187 RX12 yX12_sayingOf wsX12_sayingOf) := goodIn_app (goodIn_of _ (by decide +kernel)) ggX12_morningOf_X12_sayingOf
theorem dX12_morningOf_0 : decode cX12_morningOf 0 = .ok (.aload_n 0, 1) := by decide +kernel
theorem dX12_morningOf_1 : decode cX12_morningOf 1 = .ok (.getfield 22, 3) := by decide +kernel
theorem dX12_morningOf_4 : decode cX12_morningOf 4 = .ok (.bipush 16, 2) := by decide +kernel
theorem dX12_morningOf_6 : decode cX12_morningOf 6 = .ok (.dup2, 1) := by decide +kernel
theorem dX12_morningOf_7 : decode cX12_morningOf 7 = .ok (.iaload, 1) := by decide +kernel
theorem dX12_morningOf_8 : decode cX12_morningOf 8 = .ok (.iconst 1, 1) := by decide +kernel
theorem dX12_morningOf_9 : decode cX12_morningOf 9 = .ok (.iadd, 1) := by decide +kernel
theorem dX12_morningOf_10 : decode cX12_morningOf 10 = .ok (.iastore, 1) := by decide +kernel
theorem dX12_morningOf_11 : decode cX12_morningOf 11 = .ok (.aload_n 0, 1) := by decide +kernel
theorem dX12_morningOf_12 : decode cX12_morningOf 12 = .ok (.getfield 22, 3) := by decide +kernel
theorem dX12_morningOf_15 : decode cX12_morningOf 15 = .ok (.bipush 17, 2) := by decide +kernel
theorem dX12_morningOf_17 : decode cX12_morningOf 17 = .ok (.iload_n 1, 1) := by decide +kernel
theorem dX12_morningOf_18 : decode cX12_morningOf 18 = .ok (.iastore, 1) := by decide +kernel
theorem dX12_morningOf_19 : decode cX12_morningOf 19 = .ok (.aload_n 0, 1) := by decide +kernel
theorem dX12_morningOf_20 : decode cX12_morningOf 20 = .ok (.getfield 22, 3) := by decide +kernel
theorem dX12_morningOf_23 : decode cX12_morningOf 23 = .ok (.bipush 18, 2) := by decide +kernel
theorem dX12_morningOf_25 : decode cX12_morningOf 25 = .ok (.iload_n 2, 1) := by decide +kernel
theorem dX12_morningOf_26 : decode cX12_morningOf 26 = .ok (.iastore, 1) := by decide +kernel
theorem dX12_morningOf_27 : decode cX12_morningOf 27 = .ok (.aload_n 0, 1) := by decide +kernel
theorem dX12_morningOf_28 : decode cX12_morningOf 28 = .ok (.getfield 22, 3) := by decide +kernel
theorem dX12_morningOf_31 : decode cX12_morningOf 31 = .ok (.bipush 19, 2) := by decide +kernel
theorem dX12_morningOf_33 : decode cX12_morningOf 33 = .ok (.iconst 0, 1) := by decide +kernel
theorem dX12_morningOf_34 : decode cX12_morningOf 34 = .ok (.iastore, 1) := by decide +kernel
theorem dX12_morningOf_35 : decode cX12_morningOf 35 = .ok (.aload_n 0, 1) := by decide +kernel
theorem dX12_morningOf_36 : decode cX12_morningOf 36 = .ok (.getfield 22, 3) := by decide +kernel
theorem dX12_morningOf_39 : decode cX12_morningOf 39 = .ok (.bipush 20, 2) := by decide +kernel
theorem dX12_morningOf_41 : decode cX12_morningOf 41 = .ok (.iconst 0, 1) := by decide +kernel
theorem dX12_morningOf_42 : decode cX12_morningOf 42 = .ok (.iastore, 1) := by decide +kernel
theorem dX12_morningOf_43 : decode cX12_morningOf 43 = .ok (.iconst 0, 1) := by decide +kernel
theorem dX12_morningOf_44 : decode cX12_morningOf 44 = .ok (.istore_n 3, 1) := by decide +kernel
theorem dX12_morningOf_45 : decode cX12_morningOf 45 = .ok (.iload_n 3, 1) := by decide +kernel
theorem dX12_morningOf_46 : decode cX12_morningOf 46 = .ok (.aload_n 0, 1) := by decide +kernel
theorem dX12_morningOf_47 : decode cX12_morningOf 47 = .ok (.getfield 89, 3) := by decide +kernel
theorem dX12_morningOf_50 : decode cX12_morningOf 50 = .ok (.if_icmp .ge 79, 3) := by decide +kernel
theorem dX12_morningOf_53 : decode cX12_morningOf 53 = .ok (.aload_n 0, 1) := by decide +kernel
theorem dX12_morningOf_54 : decode cX12_morningOf 54 = .ok (.getfield 22, 3) := by decide +kernel
theorem dX12_morningOf_57 : decode cX12_morningOf 57 = .ok (.bipush 19, 2) := by decide +kernel
theorem dX12_morningOf_59 : decode cX12_morningOf 59 = .ok (.dup2, 1) := by decide +kernel
theorem dX12_morningOf_60 : decode cX12_morningOf 60 = .ok (.iaload, 1) := by decide +kernel
theorem dX12_morningOf_61 : decode cX12_morningOf 61 = .ok (.aload_n 0, 1) := by decide +kernel
theorem dX12_morningOf_62 : decode cX12_morningOf 62 = .ok (.iload_n 3, 1) := by decide +kernel
theorem dX12_morningOf_63 : decode cX12_morningOf 63 = .ok (.iload_n 1, 1) := by decide +kernel
theorem dX12_morningOf_64 : decode cX12_morningOf 64 = .ok (.iload_n 2, 1) := by decide +kernel
theorem dX12_morningOf_65 : decode cX12_morningOf 65 = .ok (.invokevirtual 184, 3) := by decide +kernel
theorem dX12_morningOf_68 : decode cX12_morningOf 68 = .ok (.ifCond .eq 9, 3) := by decide +kernel
theorem dX12_morningOf_71 : decode cX12_morningOf 71 = .ok (.iconst 1, 1) := by decide +kernel
theorem dX12_morningOf_72 : decode cX12_morningOf 72 = .ok (.iload_n 3, 1) := by decide +kernel
theorem dX12_morningOf_73 : decode cX12_morningOf 73 = .ok (.ishl, 1) := by decide +kernel
theorem dX12_morningOf_74 : decode cX12_morningOf 74 = .ok (.goto 4, 3) := by decide +kernel
theorem dX12_morningOf_77 : decode cX12_morningOf 77 = .ok (.iconst 0, 1) := by decide +kernel
theorem dX12_morningOf_78 : decode cX12_morningOf 78 = .ok (.ior, 1) := by decide +kernel
theorem dX12_morningOf_79 : decode cX12_morningOf 79 = .ok (.iastore, 1) := by decide +kernel
theorem dX12_morningOf_80 : decode cX12_morningOf 80 = .ok (.aload_n 0, 1) := by decide +kernel
theorem dX12_morningOf_81 : decode cX12_morningOf 81 = .ok (.getfield 22, 3) := by decide +kernel
theorem dX12_morningOf_84 : decode cX12_morningOf 84 = .ok (.bipush 20, 2) := by decide +kernel
theorem dX12_morningOf_86 : decode cX12_morningOf 86 = .ok (.dup2, 1) := by decide +kernel
theorem dX12_morningOf_87 : decode cX12_morningOf 87 = .ok (.iaload, 1) := by decide +kernel
theorem dX12_morningOf_88 : decode cX12_morningOf 88 = .ok (.aload_n 0, 1) := by decide +kernel
theorem dX12_morningOf_89 : decode cX12_morningOf 89 = .ok (.iload_n 3, 1) := by decide +kernel
theorem dX12_morningOf_90 : decode cX12_morningOf 90 = .ok (.iload_n 1, 1) := by decide +kernel
theorem dX12_morningOf_91 : decode cX12_morningOf 91 = .ok (.iload_n 2, 1) := by decide +kernel
theorem dX12_morningOf_92 : decode cX12_morningOf 92 = .ok (.invokevirtual 180, 3) := by decide +kernel
theorem dX12_morningOf_95 : decode cX12_morningOf 95 = .ok (.ifCond .eq 9, 3) := by decide +kernel
theorem dX12_morningOf_98 : decode cX12_morningOf 98 = .ok (.iconst 1, 1) := by decide +kernel
theorem dX12_morningOf_99 : decode cX12_morningOf 99 = .ok (.iload_n 3, 1) := by decide +kernel
theorem dX12_morningOf_100 : decode cX12_morningOf 100 = .ok (.ishl, 1) := by decide +kernel
theorem dX12_morningOf_101 : decode cX12_morningOf 101 = .ok (.goto 4, 3) := by decide +kernel
theorem dX12_morningOf_104 : decode cX12_morningOf 104 = .ok (.iconst 0, 1) := by decide +kernel
theorem dX12_morningOf_105 : decode cX12_morningOf 105 = .ok (.ior, 1) := by decide +kernel
theorem dX12_morningOf_106 : decode cX12_morningOf 106 = .ok (.iastore, 1) := by decide +kernel
theorem dX12_morningOf_107 : decode cX12_morningOf 107 = .ok (.aload_n 0, 1) := by decide +kernel
theorem dX12_morningOf_108 : decode cX12_morningOf 108 = .ok (.getfield 22, 3) := by decide +kernel
theorem dX12_morningOf_111 : decode cX12_morningOf 111 = .ok (.bipush 21, 2) := by decide +kernel
theorem dX12_morningOf_113 : decode cX12_morningOf 113 = .ok (.iload_n 3, 1) := by decide +kernel
theorem dX12_morningOf_114 : decode cX12_morningOf 114 = .ok (.iadd, 1) := by decide +kernel
theorem dX12_morningOf_115 : decode cX12_morningOf 115 = .ok (.aload_n 0, 1) := by decide +kernel
theorem dX12_morningOf_116 : decode cX12_morningOf 116 = .ok (.iload_n 3, 1) := by decide +kernel
theorem dX12_morningOf_117 : decode cX12_morningOf 117 = .ok (.iload_n 1, 1) := by decide +kernel
theorem dX12_morningOf_118 : decode cX12_morningOf 118 = .ok (.iload_n 2, 1) := by decide +kernel
theorem dX12_morningOf_119 : decode cX12_morningOf 119 = .ok (.invokevirtual 187, 3) := by decide +kernel
theorem dX12_morningOf_122 : decode cX12_morningOf 122 = .ok (.iastore, 1) := by decide +kernel
theorem dX12_morningOf_123 : decode cX12_morningOf 123 = .ok (.iinc 3 1, 3) := by decide +kernel
theorem dX12_morningOf_126 : decode cX12_morningOf 126 = .ok (.goto (-81), 3) := by decide +kernel
theorem dX12_morningOf_129 : decode cX12_morningOf 129 = .ok (.return_, 1) := by decide +kernel
set_option maxRecDepth 20000 in
theorem ggX12_morning_X12_isSound : GoodIn wsX12_morning wsX12_isSound := goodIn_r _ [8, 9, 10, 11, 7, 12, 57, 58, 59, 60, 61, 62, 63, 64, 65, 66, 67, 68, 69, 70, 71, 72, 73, 74, 75, 76, 77, 78, 79, 80, 81, 82, 83, 84, 85, 86, 87, 88, 89, 90, 91] (by decide +kernel) (by decide +kernel)
set_option maxRecDepth 20000 in
theorem gX12_morning_X12_isSound : GoodIn wsX12_morning (wsV RX12 166 RX12 yX12_isSound wsX12_isSound) := goodIn_app (goodIn_of _ (by decide +kernel)) ggX12_morning_X12_isSound
set_option maxRecDepth 20000 in
theorem ggX12_morning_X12_isPlace : GoodIn wsX12_morning wsX12_isPlace := goodIn_r _ [16, 17, 18, 19, 7, 20, 21, 10, 11, 12, 57, 58, 59, 60, 61, 62, 63, 64, 65, 66, 67, 68, 69, 70, 71, 72, 73, 74, 75, 76, 77, 78, 79, 80, 81, 82, 83, 84, 85, 86, 87, 88, 89, 90, 91] (by decide +kernel) (by decide +kernel)
set_option maxRecDepth 20000 in
theorem gX12_morning_X12_isPlace : GoodIn wsX12_morning (wsV RX12 190 RX12 yX12_isPlace wsX12_isPlace) := goodIn_app (goodIn_of _ (by decide +kernel)) ggX12_morning_X12_isPlace
set_option maxRecDepth 20000 in
theorem ggX12_morning_X12_remember : GoodIn wsX12_morning wsX12_remember := goodIn_r _ [25, 26, 27, 2, 57, 58, 59, 60, 61, 62, 63, 64, 65, 66, 67, 68, 69, 70, 71, 72, 73, 74, 75, 76, 77, 78, 79, 80, 81, 82, 83, 84, 85, 86, 87, 88, 89, 90, 91] (by decide +kernel) (by decide +kernel)
set_option maxRecDepth 20000 in
theorem gX12_morning_X12_remember : GoodIn wsX12_morning (wsV RX12 193 RX12 yX12_remember wsX12_remember) := goodIn_app (goodIn_of _ (by decide +kernel)) ggX12_morning_X12_remember
set_option maxRecDepth 20000 in
theorem ggX12_morning_X12_morningOf : GoodIn wsX12_morning wsX12_morningOf := goodIn_r _ [31, 2, 32, 33, 34, 35, 7, 36, 37, 38, 39, 40, 41, 42, 43, 44, 45, 46, 47, 48, 49, 50, 51, 52, 53, 54, 55, 56, 9, 57, 58, 59, 60, 61, 62, 63, 64, 65, 66, 67, 68, 69, 70, 71, 72, 73, 74, 75, 76, 77, 78, 79, 80, 81, 82, 83, 84, 85, 86, 87, 88, 89, 90, 91] (by decide +kernel) (by decide +kernel)
set_option maxRecDepth 20000 in
theorem gX12_morning_X12_morningOf : GoodIn wsX12_morning (wsV RX12 196 RX12 yX12_morningOf wsX12_morningOf) := goodIn_app (goodIn_of _ (by decide +kernel)) ggX12_morning_X12_morningOf
theorem dX12_morning_0 : decode cX12_morning 0 = .ok (.aload_n 0, 1) := by decide +kernel
theorem dX12_morning_1 : decode cX12_morning 1 = .ok (.iload_n 1, 1) := by decide +kernel
theorem dX12_morning_2 : decode cX12_morning 2 = .ok (.invokevirtual 166, 3) := by decide +kernel
theorem dX12_morning_5 : decode cX12_morning 5 = .ok (.ifCond .eq 11, 3) := by decide +kernel
theorem dX12_morning_8 : decode cX12_morning 8 = .ok (.aload_n 0, 1) := by decide +kernel
theorem dX12_morning_9 : decode cX12_morning 9 = .ok (.iload_n 2, 1) := by decide +kernel
theorem dX12_morning_10 : decode cX12_morning 10 = .ok (.invokevirtual 190, 3) := by decide +kernel
theorem dX12_morning_13 : decode cX12_morning 13 = .ok (.ifCond .ne 6, 3) := by decide +kernel
theorem dX12_morning_16 : decode cX12_morning 16 = .ok (.ldc 165, 2) := by decide +kernel
theorem dX12_morning_18 : decode cX12_morning 18 = .ok (.ireturn, 1) := by decide +kernel
theorem dX12_morning_19 : decode cX12_morning 19 = .ok (.aload_n 0, 1) := by decide +kernel
theorem dX12_morning_20 : decode cX12_morning 20 = .ok (.getfield 22, 3) := by decide +kernel
theorem dX12_morning_23 : decode cX12_morning 23 = .ok (.bipush 16, 2) := by decide +kernel
theorem dX12_morning_25 : decode cX12_morning 25 = .ok (.iaload, 1) := by decide +kernel
theorem dX12_morning_26 : decode cX12_morning 26 = .ok (.sipush 9000, 3) := by decide +kernel
theorem dX12_morning_29 : decode cX12_morning 29 = .ok (.if_icmp .le 6, 3) := by decide +kernel
theorem dX12_morning_32 : decode cX12_morning 32 = .ok (.ldc 98, 2) := by decide +kernel
theorem dX12_morning_34 : decode cX12_morning 34 = .ok (.ireturn, 1) := by decide +kernel
theorem dX12_morning_35 : decode cX12_morning 35 = .ok (.aload_n 0, 1) := by decide +kernel
theorem dX12_morning_36 : decode cX12_morning 36 = .ok (.invokevirtual 193, 3) := by decide +kernel
theorem dX12_morning_39 : decode cX12_morning 39 = .ok (.aload_n 0, 1) := by decide +kernel
theorem dX12_morning_40 : decode cX12_morning 40 = .ok (.iload_n 1, 1) := by decide +kernel
theorem dX12_morning_41 : decode cX12_morning 41 = .ok (.iload_n 2, 1) := by decide +kernel
theorem dX12_morning_42 : decode cX12_morning 42 = .ok (.invokevirtual 196, 3) := by decide +kernel
theorem dX12_morning_45 : decode cX12_morning 45 = .ok (.aload_n 0, 1) := by decide +kernel
theorem dX12_morning_46 : decode cX12_morning 46 = .ok (.getfield 22, 3) := by decide +kernel
theorem dX12_morning_49 : decode cX12_morning 49 = .ok (.bipush 19, 2) := by decide +kernel
theorem dX12_morning_51 : decode cX12_morning 51 = .ok (.iaload, 1) := by decide +kernel
theorem dX12_morning_52 : decode cX12_morning 52 = .ok (.ireturn, 1) := by decide +kernel
set_option maxRecDepth 20000 in
theorem ggX12_move_X12_isWitness : GoodIn wsX12_move wsX12_isWitness := goodIn_r _ [7, 8, 9, 10, 6, 11, 27, 28, 29, 30, 31, 32, 33, 34, 35, 36, 37, 38, 39, 40, 41, 42, 43, 44, 45, 46, 47, 48, 49, 50, 51, 52, 53, 54, 55, 56, 57, 58, 59, 60, 61] (by decide +kernel) (by decide +kernel)
set_option maxRecDepth 20000 in
theorem gX12_move_X12_isWitness : GoodIn wsX12_move (wsV RX12 170 RX12 yX12_isWitness wsX12_isWitness) := goodIn_app (goodIn_of _ (by decide +kernel)) ggX12_move_X12_isWitness
set_option maxRecDepth 20000 in
theorem ggX12_move_X12_isPlace : GoodIn wsX12_move wsX12_isPlace := goodIn_r _ [15, 16, 17, 18, 6, 19, 20, 9, 10, 11, 27, 28, 29, 30, 31, 32, 33, 34, 35, 36, 37, 38, 39, 40, 41, 42, 43, 44, 45, 46, 47, 48, 49, 50, 51, 52, 53, 54, 55, 56, 57, 58, 59, 60, 61] (by decide +kernel) (by decide +kernel)
set_option maxRecDepth 20000 in
theorem gX12_move_X12_isPlace : GoodIn wsX12_move (wsV RX12 190 RX12 yX12_isPlace wsX12_isPlace) := goodIn_app (goodIn_of _ (by decide +kernel)) ggX12_move_X12_isPlace
set_option maxRecDepth 20000 in
theorem ggX12_move_X12_remember : GoodIn wsX12_move wsX12_remember := goodIn_r _ [24, 25, 26, 2, 27, 28, 29, 30, 31, 32, 33, 34, 35, 36, 37, 38, 39, 40, 41, 42, 43, 44, 45, 46, 47, 48, 49, 50, 51, 52, 53, 54, 55, 56, 57, 58, 59, 60, 61] (by decide +kernel) (by decide +kernel)
set_option maxRecDepth 20000 in
theorem gX12_move_X12_remember : GoodIn wsX12_move (wsV RX12 193 RX12 yX12_remember wsX12_remember) := goodIn_app (goodIn_of _ (by decide +kernel)) ggX12_move_X12_remember
theorem dX12_move_0 : decode cX12_move 0 = .ok (.aload_n 0, 1) := by decide +kernel
theorem dX12_move_1 : decode cX12_move 1 = .ok (.iload_n 1, 1) := by decide +kernel
theorem dX12_move_2 : decode cX12_move 2 = .ok (.invokevirtual 170, 3) := by decide +kernel
theorem dX12_move_5 : decode cX12_move 5 = .ok (.ifCond .eq 11, 3) := by decide +kernel
theorem dX12_move_8 : decode cX12_move 8 = .ok (.aload_n 0, 1) := by decide +kernel
theorem dX12_move_9 : decode cX12_move 9 = .ok (.iload_n 2, 1) := by decide +kernel
theorem dX12_move_10 : decode cX12_move 10 = .ok (.invokevirtual 190, 3) := by decide +kernel
theorem dX12_move_13 : decode cX12_move 13 = .ok (.ifCond .ne 6, 3) := by decide +kernel
theorem dX12_move_16 : decode cX12_move 16 = .ok (.ldc 165, 2) := by decide +kernel
theorem dX12_move_18 : decode cX12_move 18 = .ok (.ireturn, 1) := by decide +kernel
theorem dX12_move_19 : decode cX12_move 19 = .ok (.aload_n 0, 1) := by decide +kernel
theorem dX12_move_20 : decode cX12_move 20 = .ok (.invokevirtual 193, 3) := by decide +kernel
theorem dX12_move_23 : decode cX12_move 23 = .ok (.aload_n 0, 1) := by decide +kernel
theorem dX12_move_24 : decode cX12_move 24 = .ok (.getfield 22, 3) := by decide +kernel
theorem dX12_move_27 : decode cX12_move 27 = .ok (.bipush 9, 2) := by decide +kernel
theorem dX12_move_29 : decode cX12_move 29 = .ok (.iload_n 1, 1) := by decide +kernel
theorem dX12_move_30 : decode cX12_move 30 = .ok (.iadd, 1) := by decide +kernel
theorem dX12_move_31 : decode cX12_move 31 = .ok (.iaload, 1) := by decide +kernel
theorem dX12_move_32 : decode cX12_move 32 = .ok (.istore_n 3, 1) := by decide +kernel
theorem dX12_move_33 : decode cX12_move 33 = .ok (.aload_n 0, 1) := by decide +kernel
theorem dX12_move_34 : decode cX12_move 34 = .ok (.getfield 22, 3) := by decide +kernel
theorem dX12_move_37 : decode cX12_move 37 = .ok (.bipush 9, 2) := by decide +kernel
theorem dX12_move_39 : decode cX12_move 39 = .ok (.iload_n 1, 1) := by decide +kernel
theorem dX12_move_40 : decode cX12_move 40 = .ok (.iadd, 1) := by decide +kernel
theorem dX12_move_41 : decode cX12_move 41 = .ok (.iload_n 2, 1) := by decide +kernel
theorem dX12_move_42 : decode cX12_move 42 = .ok (.iastore, 1) := by decide +kernel
theorem dX12_move_43 : decode cX12_move 43 = .ok (.iload_n 3, 1) := by decide +kernel
theorem dX12_move_44 : decode cX12_move 44 = .ok (.ireturn, 1) := by decide +kernel
set_option maxRecDepth 20000 in
theorem ggX12_wall_X12_in : GoodIn wsX12_wall wsX12_in := goodIn_r _ [9] (by decide +kernel) (by decide +kernel)
set_option maxRecDepth 20000 in
theorem gX12_wall_X12_in : GoodIn wsX12_wall (va_wsS RX12 82 yX12_in wsX12_in) := goodIn_app (goodIn_of _ (by decide +kernel)) ggX12_wall_X12_in
set_option maxRecDepth 20000 in
theorem ggX12_wall_X12_remember : GoodIn wsX12_wall wsX12_remember := goodIn_r _ [13, 14, 15, 5, 16, 17, 18, 19, 20, 21, 22, 23, 24, 25, 26, 27, 28, 29, 30, 31, 32, 33, 34, 35, 36, 37, 38, 39, 40, 41, 42, 43, 44, 45, 46, 47, 48, 49, 50] (by decide +kernel) (by decide +kernel)
set_option maxRecDepth 20000 in
theorem gX12_wall_X12_remember : GoodIn wsX12_wall (wsV RX12 193 RX12 yX12_remember wsX12_remember) := goodIn_app (goodIn_of _ (by decide +kernel)) ggX12_wall_X12_remember
theorem dX12_wall_0 : decode cX12_wall 0 = .ok (.iload_n 1, 1) := by decide +kernel
theorem dX12_wall_1 : decode cX12_wall 1 = .ok (.i2l, 1) := by decide +kernel
theorem dX12_wall_2 : decode cX12_wall 2 = .ok (.lconst 0, 1) := by decide +kernel
theorem dX12_wall_3 : decode cX12_wall 3 = .ok (.aload_n 0, 1) := by decide +kernel
theorem dX12_wall_4 : decode cX12_wall 4 = .ok (.getfield 75, 3) := by decide +kernel
theorem dX12_wall_7 : decode cX12_wall 7 = .ok (.iconst 1, 1) := by decide +kernel
theorem dX12_wall_8 : decode cX12_wall 8 = .ok (.isub, 1) := by decide +kernel
theorem dX12_wall_9 : decode cX12_wall 9 = .ok (.i2l, 1) := by decide +kernel
theorem dX12_wall_10 : decode cX12_wall 10 = .ok (.invokestatic 82, 3) := by decide +kernel
theorem dX12_wall_13 : decode cX12_wall 13 = .ok (.ifCond .ne 6, 3) := by decide +kernel
theorem dX12_wall_16 : decode cX12_wall 16 = .ok (.ldc 165, 2) := by decide +kernel
theorem dX12_wall_18 : decode cX12_wall 18 = .ok (.ireturn, 1) := by decide +kernel
theorem dX12_wall_19 : decode cX12_wall 19 = .ok (.iload_n 2, 1) := by decide +kernel
theorem dX12_wall_20 : decode cX12_wall 20 = .ok (.i2l, 1) := by decide +kernel
theorem dX12_wall_21 : decode cX12_wall 21 = .ok (.lconst 0, 1) := by decide +kernel
theorem dX12_wall_22 : decode cX12_wall 22 = .ok (.ldc2_w 200, 3) := by decide +kernel
theorem dX12_wall_25 : decode cX12_wall 25 = .ok (.invokestatic 82, 3) := by decide +kernel
theorem dX12_wall_28 : decode cX12_wall 28 = .ok (.ifCond .ne 6, 3) := by decide +kernel
theorem dX12_wall_31 : decode cX12_wall 31 = .ok (.ldc 94, 2) := by decide +kernel
theorem dX12_wall_33 : decode cX12_wall 33 = .ok (.ireturn, 1) := by decide +kernel
theorem dX12_wall_34 : decode cX12_wall 34 = .ok (.aload_n 0, 1) := by decide +kernel
theorem dX12_wall_35 : decode cX12_wall 35 = .ok (.invokevirtual 193, 3) := by decide +kernel
theorem dX12_wall_38 : decode cX12_wall 38 = .ok (.aload_n 0, 1) := by decide +kernel
theorem dX12_wall_39 : decode cX12_wall 39 = .ok (.getfield 22, 3) := by decide +kernel
theorem dX12_wall_42 : decode cX12_wall 42 = .ok (.iload_n 1, 1) := by decide +kernel
theorem dX12_wall_43 : decode cX12_wall 43 = .ok (.iaload, 1) := by decide +kernel
theorem dX12_wall_44 : decode cX12_wall 44 = .ok (.istore_n 3, 1) := by decide +kernel
theorem dX12_wall_45 : decode cX12_wall 45 = .ok (.aload_n 0, 1) := by decide +kernel
theorem dX12_wall_46 : decode cX12_wall 46 = .ok (.getfield 22, 3) := by decide +kernel
theorem dX12_wall_49 : decode cX12_wall 49 = .ok (.iload_n 1, 1) := by decide +kernel
theorem dX12_wall_50 : decode cX12_wall 50 = .ok (.iload_n 2, 1) := by decide +kernel
theorem dX12_wall_51 : decode cX12_wall 51 = .ok (.iastore, 1) := by decide +kernel
theorem dX12_wall_52 : decode cX12_wall 52 = .ok (.iload_n 3, 1) := by decide +kernel
theorem dX12_wall_53 : decode cX12_wall 53 = .ok (.ireturn, 1) := by decide +kernel
set_option maxRecDepth 20000 in
theorem ggX12_wind_X12_in : GoodIn wsX12_wind wsX12_in := goodIn_r _ [9] (by decide +kernel) (by decide +kernel)
set_option maxRecDepth 20000 in
theorem gX12_wind_X12_in : GoodIn wsX12_wind (va_wsS RX12 82 yX12_in wsX12_in) := goodIn_app (goodIn_of _ (by decide +kernel)) ggX12_wind_X12_in
set_option maxRecDepth 20000 in
theorem ggX12_wind_X12_remember : GoodIn wsX12_wind wsX12_remember := goodIn_r _ [13, 14, 15, 5, 16, 17, 18, 19, 20, 21, 22, 23, 24, 25, 26, 27, 28, 29, 30, 31, 32, 33, 34, 35, 36, 37, 38, 39, 40, 41, 42, 43, 44, 45, 46, 47, 48, 49, 50] (by decide +kernel) (by decide +kernel)
set_option maxRecDepth 20000 in
theorem gX12_wind_X12_remember : GoodIn wsX12_wind (wsV RX12 193 RX12 yX12_remember wsX12_remember) := goodIn_app (goodIn_of _ (by decide +kernel)) ggX12_wind_X12_remember
theorem dX12_wind_0 : decode cX12_wind 0 = .ok (.iload_n 1, 1) := by decide +kernel
theorem dX12_wind_1 : decode cX12_wind 1 = .ok (.i2l, 1) := by decide +kernel
theorem dX12_wind_2 : decode cX12_wind 2 = .ok (.lconst 0, 1) := by decide +kernel
theorem dX12_wind_3 : decode cX12_wind 3 = .ok (.ldc2_w 202, 3) := by decide +kernel
theorem dX12_wind_6 : decode cX12_wind 6 = .ok (.invokestatic 82, 3) := by decide +kernel
theorem dX12_wind_9 : decode cX12_wind 9 = .ok (.ifCond .ne 6, 3) := by decide +kernel
theorem dX12_wind_12 : decode cX12_wind 12 = .ok (.ldc 94, 2) := by decide +kernel
theorem dX12_wind_14 : decode cX12_wind 14 = .ok (.ireturn, 1) := by decide +kernel
theorem dX12_wind_15 : decode cX12_wind 15 = .ok (.aload_n 0, 1) := by decide +kernel
theorem dX12_wind_16 : decode cX12_wind 16 = .ok (.getfield 75, 3) := by decide +kernel
theorem dX12_wind_19 : decode cX12_wind 19 = .ok (.ifCond .ne 6, 3) := by decide +kernel
theorem dX12_wind_22 : decode cX12_wind 22 = .ok (.ldc 204, 2) := by decide +kernel
theorem dX12_wind_24 : decode cX12_wind 24 = .ok (.ireturn, 1) := by decide +kernel
theorem dX12_wind_25 : decode cX12_wind 25 = .ok (.aload_n 0, 1) := by decide +kernel
theorem dX12_wind_26 : decode cX12_wind 26 = .ok (.invokevirtual 193, 3) := by decide +kernel
theorem dX12_wind_29 : decode cX12_wind 29 = .ok (.aload_n 0, 1) := by decide +kernel
theorem dX12_wind_30 : decode cX12_wind 30 = .ok (.getfield 22, 3) := by decide +kernel
theorem dX12_wind_33 : decode cX12_wind 33 = .ok (.bipush 8, 2) := by decide +kernel
theorem dX12_wind_35 : decode cX12_wind 35 = .ok (.iaload, 1) := by decide +kernel
theorem dX12_wind_36 : decode cX12_wind 36 = .ok (.istore_n 2, 1) := by decide +kernel
theorem dX12_wind_37 : decode cX12_wind 37 = .ok (.aload_n 0, 1) := by decide +kernel
theorem dX12_wind_38 : decode cX12_wind 38 = .ok (.getfield 22, 3) := by decide +kernel
theorem dX12_wind_41 : decode cX12_wind 41 = .ok (.bipush 8, 2) := by decide +kernel
theorem dX12_wind_43 : decode cX12_wind 43 = .ok (.iload_n 1, 1) := by decide +kernel
theorem dX12_wind_44 : decode cX12_wind 44 = .ok (.iastore, 1) := by decide +kernel
theorem dX12_wind_45 : decode cX12_wind 45 = .ok (.iload_n 2, 1) := by decide +kernel
theorem dX12_wind_46 : decode cX12_wind 46 = .ok (.ireturn, 1) := by decide +kernel
theorem dX12_draw_0 : decode cX12_draw 0 = .ok (.aload_n 0, 1) := by decide +kernel
theorem dX12_draw_1 : decode cX12_draw 1 = .ok (.aload_n 0, 1) := by decide +kernel
theorem dX12_draw_2 : decode cX12_draw 2 = .ok (.getfield 205, 3) := by decide +kernel
theorem dX12_draw_5 : decode cX12_draw 5 = .ok (.i2l, 1) := by decide +kernel
theorem dX12_draw_6 : decode cX12_draw 6 = .ok (.ldc2_w 208, 3) := by decide +kernel
theorem dX12_draw_9 : decode cX12_draw 9 = .ok (.lmul, 1) := by decide +kernel
theorem dX12_draw_10 : decode cX12_draw 10 = .ok (.ldc2_w 210, 3) := by decide +kernel
theorem dX12_draw_13 : decode cX12_draw 13 = .ok (.ladd, 1) := by decide +kernel
theorem dX12_draw_14 : decode cX12_draw 14 = .ok (.ldc2_w 212, 3) := by decide +kernel
theorem dX12_draw_17 : decode cX12_draw 17 = .ok (.lrem, 1) := by decide +kernel
theorem dX12_draw_18 : decode cX12_draw 18 = .ok (.l2i, 1) := by decide +kernel
theorem dX12_draw_19 : decode cX12_draw 19 = .ok (.putfield 205, 3) := by decide +kernel
theorem dX12_draw_22 : decode cX12_draw 22 = .ok (.aload_n 0, 1) := by decide +kernel
theorem dX12_draw_23 : decode cX12_draw 23 = .ok (.getfield 205, 3) := by decide +kernel
theorem dX12_draw_26 : decode cX12_draw 26 = .ok (.ldc 214, 2) := by decide +kernel
theorem dX12_draw_28 : decode cX12_draw 28 = .ok (.idiv, 1) := by decide +kernel
theorem dX12_draw_29 : decode cX12_draw 29 = .ok (.iload_n 1, 1) := by decide +kernel
theorem dX12_draw_30 : decode cX12_draw 30 = .ok (.irem, 1) := by decide +kernel
theorem dX12_draw_31 : decode cX12_draw 31 = .ok (.ireturn, 1) := by decide +kernel
set_option maxRecDepth 20000 in
theorem ggX12_drift_X12_in : GoodIn wsX12_drift wsX12_in := goodIn_r _ [11] (by decide +kernel) (by decide +kernel)
set_option maxRecDepth 20000 in
theorem gX12_drift_X12_in : GoodIn wsX12_drift (va_wsS RX12 82 yX12_in wsX12_in) := goodIn_app (goodIn_of _ (by decide +kernel)) ggX12_drift_X12_in
set_option maxRecDepth 20000 in
theorem ggX12_drift_X12_remember : GoodIn wsX12_drift wsX12_remember := goodIn_r _ [15, 16, 17, 5, 60, 61, 62, 63, 64, 65, 66, 67, 68, 69, 70, 71, 72, 73, 74, 75, 76, 77, 78, 79, 80, 81, 82, 83, 84, 85, 86, 87, 88, 89, 90, 91, 92, 93, 94] (by decide +kernel) (by decide +kernel)
set_option maxRecDepth 20000 in
theorem gX12_drift_X12_remember : GoodIn wsX12_drift (wsV RX12 193 RX12 yX12_remember wsX12_remember) := goodIn_app (goodIn_of _ (by decide +kernel)) ggX12_drift_X12_remember
set_option maxRecDepth 20000 in
theorem ggX12_drift_X12_draw : GoodIn wsX12_drift wsX12_draw := goodIn_r _ [21, 22, 23, 24, 25, 26, 60, 61, 62, 63, 64, 65, 66, 67, 68, 69, 70, 71, 72, 73, 74, 75, 76, 77, 78, 79, 80, 81, 82, 83, 84, 85, 86, 87, 88, 89, 90, 91, 92, 93, 94] (by decide +kernel) (by decide +kernel)
set_option maxRecDepth 20000 in
theorem gX12_drift_X12_draw : GoodIn wsX12_drift (wsV RX12 217 RX12 yX12_draw wsX12_draw) := goodIn_app (goodIn_of _ (by decide +kernel)) ggX12_drift_X12_draw
set_option maxRecDepth 20000 in
theorem ggX12_drift_X12_places : GoodIn wsX12_drift wsX12_places := goodIn_r _ [30, 3, 60, 61, 62, 63, 64, 65, 66, 67, 68, 69, 70, 71, 72, 73, 74, 75, 76, 77, 78, 79, 80, 81, 82, 83, 84, 85, 86, 87, 88, 89, 90, 91, 92, 93, 94] (by decide +kernel) (by decide +kernel)
set_option maxRecDepth 20000 in
theorem gX12_drift_X12_places : GoodIn wsX12_drift (wsV RX12 78 RX12 yX12_places wsX12_places) := goodIn_app (goodIn_of _ (by decide +kernel)) ggX12_drift_X12_places
set_option maxRecDepth 20000 in
theorem ggX12_drift_X12_morningOf : GoodIn wsX12_drift wsX12_morningOf := goodIn_r _ [34, 5, 35, 36, 37, 38, 10, 39, 40, 41, 42, 43, 44, 45, 46, 47, 48, 49, 50, 51, 52, 53, 54, 55, 56, 57, 58, 59, 7, 60, 61, 62, 63, 64, 65, 66, 67, 68, 69, 70, 71, 72, 73, 74, 75, 76, 77, 78, 79, 80, 81, 82, 83, 84, 85, 86, 87, 88, 89, 90, 91, 92, 93, 94] (by decide +kernel) (by decide +kernel)
set_option maxRecDepth 20000 in
theorem gX12_drift_X12_morningOf : GoodIn wsX12_drift (wsV RX12 196 RX12 yX12_morningOf wsX12_morningOf) := goodIn_app (goodIn_of _ (by decide +kernel)) ggX12_drift_X12_morningOf
theorem dX12_drift_0 : decode cX12_drift 0 = .ok (.iload_n 1, 1) := by decide +kernel
theorem dX12_drift_1 : decode cX12_drift 1 = .ok (.i2l, 1) := by decide +kernel
theorem dX12_drift_2 : decode cX12_drift 2 = .ok (.lconst 1, 1) := by decide +kernel
theorem dX12_drift_3 : decode cX12_drift 3 = .ok (.ldc2_w 215, 3) := by decide +kernel
theorem dX12_drift_6 : decode cX12_drift 6 = .ok (.invokestatic 82, 3) := by decide +kernel
theorem dX12_drift_9 : decode cX12_drift 9 = .ok (.ifCond .ne 6, 3) := by decide +kernel
theorem dX12_drift_12 : decode cX12_drift 12 = .ok (.ldc 94, 2) := by decide +kernel
theorem dX12_drift_14 : decode cX12_drift 14 = .ok (.ireturn, 1) := by decide +kernel
theorem dX12_drift_15 : decode cX12_drift 15 = .ok (.aload_n 0, 1) := by decide +kernel
theorem dX12_drift_16 : decode cX12_drift 16 = .ok (.getfield 75, 3) := by decide +kernel
theorem dX12_drift_19 : decode cX12_drift 19 = .ok (.ifCond .ne 6, 3) := by decide +kernel
theorem dX12_drift_22 : decode cX12_drift 22 = .ok (.ldc 204, 2) := by decide +kernel
theorem dX12_drift_24 : decode cX12_drift 24 = .ok (.ireturn, 1) := by decide +kernel
theorem dX12_drift_25 : decode cX12_drift 25 = .ok (.aload_n 0, 1) := by decide +kernel
theorem dX12_drift_26 : decode cX12_drift 26 = .ok (.getfield 22, 3) := by decide +kernel
theorem dX12_drift_29 : decode cX12_drift 29 = .ok (.bipush 16, 2) := by decide +kernel
theorem dX12_drift_31 : decode cX12_drift 31 = .ok (.iaload, 1) := by decide +kernel
theorem dX12_drift_32 : decode cX12_drift 32 = .ok (.sipush 9000, 3) := by decide +kernel
theorem dX12_drift_35 : decode cX12_drift 35 = .ok (.if_icmp .le 6, 3) := by decide +kernel
theorem dX12_drift_38 : decode cX12_drift 38 = .ok (.ldc 98, 2) := by decide +kernel
theorem dX12_drift_40 : decode cX12_drift 40 = .ok (.ireturn, 1) := by decide +kernel
theorem dX12_drift_41 : decode cX12_drift 41 = .ok (.aload_n 0, 1) := by decide +kernel
theorem dX12_drift_42 : decode cX12_drift 42 = .ok (.invokevirtual 193, 3) := by decide +kernel
theorem dX12_drift_45 : decode cX12_drift 45 = .ok (.iconst 0, 1) := by decide +kernel
theorem dX12_drift_46 : decode cX12_drift 46 = .ok (.istore_n 2, 1) := by decide +kernel
theorem dX12_drift_47 : decode cX12_drift 47 = .ok (.iload_n 2, 1) := by decide +kernel
theorem dX12_drift_48 : decode cX12_drift 48 = .ok (.iload_n 1, 1) := by decide +kernel
theorem dX12_drift_49 : decode cX12_drift 49 = .ok (.if_icmp .ge 55, 3) := by decide +kernel
theorem dX12_drift_52 : decode cX12_drift 52 = .ok (.aload_n 0, 1) := by decide +kernel
theorem dX12_drift_53 : decode cX12_drift 53 = .ok (.getfield 86, 3) := by decide +kernel
theorem dX12_drift_56 : decode cX12_drift 56 = .ok (.ifCond .le 48, 3) := by decide +kernel
theorem dX12_drift_59 : decode cX12_drift 59 = .ok (.aload_n 0, 1) := by decide +kernel
theorem dX12_drift_60 : decode cX12_drift 60 = .ok (.aload_n 0, 1) := by decide +kernel
theorem dX12_drift_61 : decode cX12_drift 61 = .ok (.getfield 86, 3) := by decide +kernel
theorem dX12_drift_64 : decode cX12_drift 64 = .ok (.invokevirtual 217, 3) := by decide +kernel
theorem dX12_drift_67 : decode cX12_drift 67 = .ok (.istore_n 3, 1) := by decide +kernel
theorem dX12_drift_68 : decode cX12_drift 68 = .ok (.aload_n 0, 1) := by decide +kernel
theorem dX12_drift_69 : decode cX12_drift 69 = .ok (.iload_n 3, 1) := by decide +kernel
theorem dX12_drift_70 : decode cX12_drift 70 = .ok (.aload_n 0, 1) := by decide +kernel
theorem dX12_drift_71 : decode cX12_drift 71 = .ok (.aload_n 0, 1) := by decide +kernel
theorem dX12_drift_72 : decode cX12_drift 72 = .ok (.invokevirtual 78, 3) := by decide +kernel
theorem dX12_drift_75 : decode cX12_drift 75 = .ok (.invokevirtual 217, 3) := by decide +kernel
theorem dX12_drift_78 : decode cX12_drift 78 = .ok (.invokevirtual 196, 3) := by decide +kernel
theorem dX12_drift_81 : decode cX12_drift 81 = .ok (.aload_n 0, 1) := by decide +kernel
theorem dX12_drift_82 : decode cX12_drift 82 = .ok (.getfield 22, 3) := by decide +kernel
theorem dX12_drift_85 : decode cX12_drift 85 = .ok (.bipush 8, 2) := by decide +kernel
theorem dX12_drift_87 : decode cX12_drift 87 = .ok (.aload_n 0, 1) := by decide +kernel
theorem dX12_drift_88 : decode cX12_drift 88 = .ok (.iconst 5, 1) := by decide +kernel
theorem dX12_drift_89 : decode cX12_drift 89 = .ok (.invokevirtual 217, 3) := by decide +kernel
theorem dX12_drift_92 : decode cX12_drift 92 = .ok (.iconst 2, 1) := by decide +kernel
theorem dX12_drift_93 : decode cX12_drift 93 = .ok (.isub, 1) := by decide +kernel
theorem dX12_drift_94 : decode cX12_drift 94 = .ok (.bipush 9, 2) := by decide +kernel
theorem dX12_drift_96 : decode cX12_drift 96 = .ok (.iadd, 1) := by decide +kernel
theorem dX12_drift_97 : decode cX12_drift 97 = .ok (.iastore, 1) := by decide +kernel
theorem dX12_drift_98 : decode cX12_drift 98 = .ok (.iinc 2 1, 3) := by decide +kernel
theorem dX12_drift_101 : decode cX12_drift 101 = .ok (.goto (-54), 3) := by decide +kernel
theorem dX12_drift_104 : decode cX12_drift 104 = .ok (.aload_n 0, 1) := by decide +kernel
theorem dX12_drift_105 : decode cX12_drift 105 = .ok (.getfield 22, 3) := by decide +kernel
theorem dX12_drift_108 : decode cX12_drift 108 = .ok (.bipush 19, 2) := by decide +kernel
theorem dX12_drift_110 : decode cX12_drift 110 = .ok (.iaload, 1) := by decide +kernel
theorem dX12_drift_111 : decode cX12_drift 111 = .ok (.ireturn, 1) := by decide +kernel
theorem dX12_undo_0 : decode cX12_undo 0 = .ok (.aload_n 0, 1) := by decide +kernel
theorem dX12_undo_1 : decode cX12_undo 1 = .ok (.getfield 162, 3) := by decide +kernel
theorem dX12_undo_4 : decode cX12_undo 4 = .ok (.ifCond .ne 6, 3) := by decide +kernel
theorem dX12_undo_7 : decode cX12_undo 7 = .ok (.ldc 204, 2) := by decide +kernel
theorem dX12_undo_9 : decode cX12_undo 9 = .ok (.ireturn, 1) := by decide +kernel
theorem dX12_undo_10 : decode cX12_undo 10 = .ok (.aload_n 0, 1) := by decide +kernel
theorem dX12_undo_11 : decode cX12_undo 11 = .ok (.dup, 1) := by decide +kernel
theorem dX12_undo_12 : decode cX12_undo 12 = .ok (.getfield 162, 3) := by decide +kernel
theorem dX12_undo_15 : decode cX12_undo 15 = .ok (.iconst 1, 1) := by decide +kernel
theorem dX12_undo_16 : decode cX12_undo 16 = .ok (.isub, 1) := by decide +kernel
theorem dX12_undo_17 : decode cX12_undo 17 = .ok (.putfield 162, 3) := by decide +kernel
theorem dX12_undo_20 : decode cX12_undo 20 = .ok (.iconst 0, 1) := by decide +kernel
theorem dX12_undo_21 : decode cX12_undo 21 = .ok (.istore_n 1, 1) := by decide +kernel
theorem dX12_undo_22 : decode cX12_undo 22 = .ok (.iload_n 1, 1) := by decide +kernel
theorem dX12_undo_23 : decode cX12_undo 23 = .ok (.bipush 28, 2) := by decide +kernel
theorem dX12_undo_25 : decode cX12_undo 25 = .ok (.if_icmp .ge 29, 3) := by decide +kernel
theorem dX12_undo_28 : decode cX12_undo 28 = .ok (.aload_n 0, 1) := by decide +kernel
theorem dX12_undo_29 : decode cX12_undo 29 = .ok (.getfield 22, 3) := by decide +kernel
theorem dX12_undo_32 : decode cX12_undo 32 = .ok (.iload_n 1, 1) := by decide +kernel
theorem dX12_undo_33 : decode cX12_undo 33 = .ok (.aload_n 0, 1) := by decide +kernel
theorem dX12_undo_34 : decode cX12_undo 34 = .ok (.getfield 50, 3) := by decide +kernel
theorem dX12_undo_37 : decode cX12_undo 37 = .ok (.bipush 28, 2) := by decide +kernel
theorem dX12_undo_39 : decode cX12_undo 39 = .ok (.aload_n 0, 1) := by decide +kernel
theorem dX12_undo_40 : decode cX12_undo 40 = .ok (.getfield 162, 3) := by decide +kernel
theorem dX12_undo_43 : decode cX12_undo 43 = .ok (.imul, 1) := by decide +kernel
theorem dX12_undo_44 : decode cX12_undo 44 = .ok (.iload_n 1, 1) := by decide +kernel
theorem dX12_undo_45 : decode cX12_undo 45 = .ok (.iadd, 1) := by decide +kernel
theorem dX12_undo_46 : decode cX12_undo 46 = .ok (.iaload, 1) := by decide +kernel
theorem dX12_undo_47 : decode cX12_undo 47 = .ok (.iastore, 1) := by decide +kernel
theorem dX12_undo_48 : decode cX12_undo 48 = .ok (.iinc 1 1, 3) := by decide +kernel
theorem dX12_undo_51 : decode cX12_undo 51 = .ok (.goto (-29), 3) := by decide +kernel
theorem dX12_undo_54 : decode cX12_undo 54 = .ok (.aload_n 0, 1) := by decide +kernel
theorem dX12_undo_55 : decode cX12_undo 55 = .ok (.getfield 162, 3) := by decide +kernel
theorem dX12_undo_58 : decode cX12_undo 58 = .ok (.ireturn, 1) := by decide +kernel
set_option maxRecDepth 20000 in
theorem ggX12_comes_X12_isSound : GoodIn wsX12_comes wsX12_isSound := goodIn_r _ [6, 7, 8, 9, 5, 10, 26, 27, 28, 29, 30, 31, 32, 33, 34, 35, 36, 37, 38, 39, 40, 41, 42, 43, 44, 45, 46, 47, 48, 49, 50, 51, 52, 53, 54, 55, 56, 57, 58, 59, 60] (by decide +kernel) (by decide +kernel)
set_option maxRecDepth 20000 in
theorem gX12_comes_X12_isSound : GoodIn wsX12_comes (wsV RX12 166 RX12 yX12_isSound wsX12_isSound) := goodIn_app (goodIn_of _ (by decide +kernel)) ggX12_comes_X12_isSound
set_option maxRecDepth 20000 in
theorem ggX12_comes_X12_isPlace : GoodIn wsX12_comes wsX12_isPlace := goodIn_r _ [14, 15, 16, 17, 5, 18, 19, 8, 9, 10, 26, 27, 28, 29, 30, 31, 32, 33, 34, 35, 36, 37, 38, 39, 40, 41, 42, 43, 44, 45, 46, 47, 48, 49, 50, 51, 52, 53, 54, 55, 56, 57, 58, 59, 60] (by decide +kernel) (by decide +kernel)
set_option maxRecDepth 20000 in
theorem gX12_comes_X12_isPlace : GoodIn wsX12_comes (wsV RX12 190 RX12 yX12_isPlace wsX12_isPlace) := goodIn_app (goodIn_of _ (by decide +kernel)) ggX12_comes_X12_isPlace
set_option maxRecDepth 20000 in
theorem ggX12_comes_X12_loudAt : GoodIn wsX12_comes wsX12_loudAt := goodIn_r _ [23, 24, 25, 26, 27, 28, 29, 30, 31, 32, 33, 34, 35, 36, 37, 38, 39, 40, 41, 42, 43, 44, 45, 46, 47, 48, 49, 50, 51, 52, 53, 54, 55, 56, 57, 58, 59, 60] (by decide +kernel) (by decide +kernel)
set_option maxRecDepth 20000 in
theorem gX12_comes_X12_loudAt : GoodIn wsX12_comes (wsV RX12 173 RX12 yX12_loudAt wsX12_loudAt) := goodIn_app (goodIn_of _ (by decide +kernel)) ggX12_comes_X12_loudAt
theorem dX12_comes_0 : decode cX12_comes 0 = .ok (.aload_n 0, 1) := by decide +kernel
theorem dX12_comes_1 : decode cX12_comes 1 = .ok (.iload_n 1, 1) := by decide +kernel
theorem dX12_comes_2 : decode cX12_comes 2 = .ok (.invokevirtual 166, 3) := by decide +kernel
theorem dX12_comes_5 : decode cX12_comes 5 = .ok (.ifCond .eq 33, 3) := by decide +kernel
theorem dX12_comes_8 : decode cX12_comes 8 = .ok (.aload_n 0, 1) := by decide +kernel
theorem dX12_comes_9 : decode cX12_comes 9 = .ok (.iload_n 2, 1) := by decide +kernel
theorem dX12_comes_10 : decode cX12_comes 10 = .ok (.invokevirtual 190, 3) := by decide +kernel
theorem dX12_comes_13 : decode cX12_comes 13 = .ok (.ifCond .eq 25, 3) := by decide +kernel
theorem dX12_comes_16 : decode cX12_comes 16 = .ok (.aload_n 0, 1) := by decide +kernel
theorem dX12_comes_17 : decode cX12_comes 17 = .ok (.iload_n 3, 1) := by decide +kernel
theorem dX12_comes_18 : decode cX12_comes 18 = .ok (.invokevirtual 190, 3) := by decide +kernel
theorem dX12_comes_21 : decode cX12_comes 21 = .ok (.ifCond .eq 17, 3) := by decide +kernel
theorem dX12_comes_24 : decode cX12_comes 24 = .ok (.aload_n 0, 1) := by decide +kernel
theorem dX12_comes_25 : decode cX12_comes 25 = .ok (.iload_n 1, 1) := by decide +kernel
theorem dX12_comes_26 : decode cX12_comes 26 = .ok (.iload_n 2, 1) := by decide +kernel
theorem dX12_comes_27 : decode cX12_comes 27 = .ok (.iload_n 3, 1) := by decide +kernel
theorem dX12_comes_28 : decode cX12_comes 28 = .ok (.invokevirtual 173, 3) := by decide +kernel
theorem dX12_comes_31 : decode cX12_comes 31 = .ok (.sipush 1000, 3) := by decide +kernel
theorem dX12_comes_34 : decode cX12_comes 34 = .ok (.iadd, 1) := by decide +kernel
theorem dX12_comes_35 : decode cX12_comes 35 = .ok (.goto 5, 3) := by decide +kernel
theorem dX12_comes_38 : decode cX12_comes 38 = .ok (.ldc 165, 2) := by decide +kernel
theorem dX12_comes_40 : decode cX12_comes 40 = .ok (.ireturn, 1) := by decide +kernel
set_option maxRecDepth 20000 in
theorem ggX12_says_X12_isWitness : GoodIn wsX12_says wsX12_isWitness := goodIn_r _ [6, 7, 8, 9, 5, 10, 50, 51, 52, 53, 54, 55, 56, 57, 58, 59, 60, 61, 62, 63, 64, 65, 66, 67, 68, 69, 70, 71, 72, 73, 74, 75, 76, 77, 78, 79, 80, 81, 82, 83, 84] (by decide +kernel) (by decide +kernel)
set_option maxRecDepth 20000 in
theorem gX12_says_X12_isWitness : GoodIn wsX12_says (wsV RX12 170 RX12 yX12_isWitness wsX12_isWitness) := goodIn_app (goodIn_of _ (by decide +kernel)) ggX12_says_X12_isWitness
set_option maxRecDepth 20000 in
theorem ggX12_says_X12_isSound : GoodIn wsX12_says wsX12_isSound := goodIn_r _ [14, 15, 8, 9, 5, 10, 50, 51, 52, 53, 54, 55, 56, 57, 58, 59, 60, 61, 62, 63, 64, 65, 66, 67, 68, 69, 70, 71, 72, 73, 74, 75, 76, 77, 78, 79, 80, 81, 82, 83, 84] (by decide +kernel) (by decide +kernel)
set_option maxRecDepth 20000 in
theorem gX12_says_X12_isSound : GoodIn wsX12_says (wsV RX12 166 RX12 yX12_isSound wsX12_isSound) := goodIn_app (goodIn_of _ (by decide +kernel)) ggX12_says_X12_isSound
set_option maxRecDepth 20000 in
theorem ggX12_says_X12_isPlace : GoodIn wsX12_says wsX12_isPlace := goodIn_r _ [19, 20, 21, 22, 5, 23, 24, 8, 9, 10, 50, 51, 52, 53, 54, 55, 56, 57, 58, 59, 60, 61, 62, 63, 64, 65, 66, 67, 68, 69, 70, 71, 72, 73, 74, 75, 76, 77, 78, 79, 80, 81, 82, 83, 84] (by decide +kernel) (by decide +kernel)
set_option maxRecDepth 20000 in
theorem gX12_says_X12_isPlace : GoodIn wsX12_says (wsV RX12 190 RX12 yX12_isPlace wsX12_isPlace) := goodIn_app (goodIn_of _ (by decide +kernel)) ggX12_says_X12_isPlace
set_option maxRecDepth 20000 in
theorem ggX12_says_X12_sayingOf : GoodIn wsX12_says wsX12_sayingOf := goodIn_r _ [28, 29, 30, 31, 32, 33, 5, 34, 15, 35, 36, 37, 38, 39, 40, 41, 42, 43, 44, 45, 46, 47, 48, 49, 50, 51, 52, 53, 54, 55, 56, 57, 58, 59, 60, 61, 62, 63, 64, 65, 66, 67, 68, 69, 70, 71, 72, 73, 74, 75, 76, 77, 78, 79, 80, 81, 82, 83, 84] (by decide +kernel) (by decide +kernel)
set_option maxRecDepth 20000 in
theorem gX12_says_X12_sayingOf : GoodIn wsX12_says (wsV RX12 187 RX12 yX12_sayingOf wsX12_sayingOf) := goodIn_app (goodIn_of _ (by decide +kernel)) ggX12_says_X12_sayingOf
theorem dX12_says_0 : decode cX12_says 0 = .ok (.aload_n 0, 1) := by decide +kernel
theorem dX12_says_1 : decode cX12_says 1 = .ok (.iload_n 1, 1) := by decide +kernel
theorem dX12_says_2 : decode cX12_says 2 = .ok (.invokevirtual 170, 3) := by decide +kernel
theorem dX12_says_5 : decode cX12_says 5 = .ok (.ifCond .eq 29, 3) := by decide +kernel
theorem dX12_says_8 : decode cX12_says 8 = .ok (.aload_n 0, 1) := by decide +kernel
theorem dX12_says_9 : decode cX12_says 9 = .ok (.iload_n 2, 1) := by decide +kernel
theorem dX12_says_10 : decode cX12_says 10 = .ok (.invokevirtual 166, 3) := by decide +kernel
theorem dX12_says_13 : decode cX12_says 13 = .ok (.ifCond .eq 21, 3) := by decide +kernel
theorem dX12_says_16 : decode cX12_says 16 = .ok (.aload_n 0, 1) := by decide +kernel
theorem dX12_says_17 : decode cX12_says 17 = .ok (.iload_n 3, 1) := by decide +kernel
theorem dX12_says_18 : decode cX12_says 18 = .ok (.invokevirtual 190, 3) := by decide +kernel
theorem dX12_says_21 : decode cX12_says 21 = .ok (.ifCond .eq 13, 3) := by decide +kernel
theorem dX12_says_24 : decode cX12_says 24 = .ok (.aload_n 0, 1) := by decide +kernel
theorem dX12_says_25 : decode cX12_says 25 = .ok (.iload_n 1, 1) := by decide +kernel
theorem dX12_says_26 : decode cX12_says 26 = .ok (.iload_n 2, 1) := by decide +kernel
theorem dX12_says_27 : decode cX12_says 27 = .ok (.iload_n 3, 1) := by decide +kernel
theorem dX12_says_28 : decode cX12_says 28 = .ok (.invokevirtual 187, 3) := by decide +kernel
theorem dX12_says_31 : decode cX12_says 31 = .ok (.goto 5, 3) := by decide +kernel
theorem dX12_says_34 : decode cX12_says 34 = .ok (.ldc 165, 2) := by decide +kernel
theorem dX12_says_36 : decode cX12_says 36 = .ok (.ireturn, 1) := by decide +kernel
set_option maxRecDepth 20000 in
theorem ggX12_listenTo_X12_places : GoodIn wsX12_listenTo wsX12_places := goodIn_r _ [5, 6, 13, 14, 15, 16, 17, 18, 19, 20, 21, 22, 23, 24, 25, 26, 27, 28, 29, 30, 31, 32, 33, 34, 35, 36, 37, 38, 39, 40, 41, 42, 43, 44, 45, 46, 47] (by decide +kernel) (by decide +kernel)
set_option maxRecDepth 20000 in
theorem gX12_listenTo_X12_places : GoodIn wsX12_listenTo (wsV RX12 78 RX12 yX12_places wsX12_places) := goodIn_app (goodIn_of _ (by decide +kernel)) ggX12_listenTo_X12_places
set_option maxRecDepth 20000 in
theorem ggX12_listenTo_X12_loudAt : GoodIn wsX12_listenTo wsX12_loudAt := goodIn_r _ [10, 11, 12, 13, 14, 15, 16, 17, 18, 19, 20, 21, 22, 23, 24, 25, 26, 27, 28, 29, 30, 31, 32, 33, 34, 35, 36, 37, 38, 39, 40, 41, 42, 43, 44, 45, 46, 47] (by decide +kernel) (by decide +kernel)
set_option maxRecDepth 20000 in
theorem gX12_listenTo_X12_loudAt : GoodIn wsX12_listenTo (wsV RX12 173 RX12 yX12_loudAt wsX12_loudAt) := goodIn_app (goodIn_of _ (by decide +kernel)) ggX12_listenTo_X12_loudAt
theorem dX12_listenTo_0 : decode cX12_listenTo 0 = .ok (.iconst 0, 1) := by decide +kernel
theorem dX12_listenTo_1 : decode cX12_listenTo 1 = .ok (.istore 4, 2) := by decide +kernel
theorem dX12_listenTo_3 : decode cX12_listenTo 3 = .ok (.iconst 0, 1) := by decide +kernel
theorem dX12_listenTo_4 : decode cX12_listenTo 4 = .ok (.istore 5, 2) := by decide +kernel
theorem dX12_listenTo_6 : decode cX12_listenTo 6 = .ok (.iload 5, 2) := by decide +kernel
theorem dX12_listenTo_8 : decode cX12_listenTo 8 = .ok (.aload_n 0, 1) := by decide +kernel
theorem dX12_listenTo_9 : decode cX12_listenTo 9 = .ok (.invokevirtual 78, 3) := by decide +kernel
theorem dX12_listenTo_12 : decode cX12_listenTo 12 = .ok (.if_icmp .ge 34, 3) := by decide +kernel
theorem dX12_listenTo_15 : decode cX12_listenTo 15 = .ok (.iload 4, 2) := by decide +kernel
theorem dX12_listenTo_17 : decode cX12_listenTo 17 = .ok (.aload_n 0, 1) := by decide +kernel
theorem dX12_listenTo_18 : decode cX12_listenTo 18 = .ok (.iload_n 1, 1) := by decide +kernel
theorem dX12_listenTo_19 : decode cX12_listenTo 19 = .ok (.iload_n 2, 1) := by decide +kernel
theorem dX12_listenTo_20 : decode cX12_listenTo 20 = .ok (.iload 5, 2) := by decide +kernel
theorem dX12_listenTo_22 : decode cX12_listenTo 22 = .ok (.invokevirtual 173, 3) := by decide +kernel
theorem dX12_listenTo_25 : decode cX12_listenTo 25 = .ok (.iload_n 3, 1) := by decide +kernel
theorem dX12_listenTo_26 : decode cX12_listenTo 26 = .ok (.if_icmp .lt 10, 3) := by decide +kernel
theorem dX12_listenTo_29 : decode cX12_listenTo 29 = .ok (.iconst 1, 1) := by decide +kernel
theorem dX12_listenTo_30 : decode cX12_listenTo 30 = .ok (.iload 5, 2) := by decide +kernel
theorem dX12_listenTo_32 : decode cX12_listenTo 32 = .ok (.ishl, 1) := by decide +kernel
theorem dX12_listenTo_33 : decode cX12_listenTo 33 = .ok (.goto 4, 3) := by decide +kernel
theorem dX12_listenTo_36 : decode cX12_listenTo 36 = .ok (.iconst 0, 1) := by decide +kernel
theorem dX12_listenTo_37 : decode cX12_listenTo 37 = .ok (.ior, 1) := by decide +kernel
theorem dX12_listenTo_38 : decode cX12_listenTo 38 = .ok (.istore 4, 2) := by decide +kernel
theorem dX12_listenTo_40 : decode cX12_listenTo 40 = .ok (.iinc 5 1, 3) := by decide +kernel
theorem dX12_listenTo_43 : decode cX12_listenTo 43 = .ok (.goto (-37), 3) := by decide +kernel
theorem dX12_listenTo_46 : decode cX12_listenTo 46 = .ok (.iload 4, 2) := by decide +kernel
theorem dX12_listenTo_48 : decode cX12_listenTo 48 = .ok (.ireturn, 1) := by decide +kernel
set_option maxRecDepth 20000 in
theorem ggX12_listen_X12_isSound : GoodIn wsX12_listen wsX12_isSound := goodIn_r _ [8, 9, 10, 11, 7, 12, 32, 33, 34, 35, 36, 37, 38, 39, 40, 41, 42, 43, 44, 45, 46, 47, 48, 49, 50, 51, 52, 53, 54, 55, 56, 57, 58, 59, 60, 61, 62, 63, 64, 65, 66] (by decide +kernel) (by decide +kernel)
set_option maxRecDepth 20000 in
theorem gX12_listen_X12_isSound : GoodIn wsX12_listen (wsV RX12 166 RX12 yX12_isSound wsX12_isSound) := goodIn_app (goodIn_of _ (by decide +kernel)) ggX12_listen_X12_isSound
set_option maxRecDepth 20000 in
theorem ggX12_listen_X12_isPlace : GoodIn wsX12_listen wsX12_isPlace := goodIn_r _ [16, 17, 18, 19, 7, 20, 21, 10, 11, 12, 32, 33, 34, 35, 36, 37, 38, 39, 40, 41, 42, 43, 44, 45, 46, 47, 48, 49, 50, 51, 52, 53, 54, 55, 56, 57, 58, 59, 60, 61, 62, 63, 64, 65, 66] (by decide +kernel) (by decide +kernel)
set_option maxRecDepth 20000 in
theorem gX12_listen_X12_isPlace : GoodIn wsX12_listen (wsV RX12 190 RX12 yX12_isPlace wsX12_isPlace) := goodIn_app (goodIn_of _ (by decide +kernel)) ggX12_listen_X12_isPlace
set_option maxRecDepth 20000 in
theorem ggX12_listen_X12_in : GoodIn wsX12_listen wsX12_in := goodIn_r _ [12] (by decide +kernel) (by decide +kernel)
set_option maxRecDepth 20000 in
theorem gX12_listen_X12_in : GoodIn wsX12_listen (va_wsS RX12 82 yX12_in wsX12_in) := goodIn_app (goodIn_of _ (by decide +kernel)) ggX12_listen_X12_in
set_option maxRecDepth 20000 in
theorem ggX12_listen_X12_listenTo : GoodIn wsX12_listen wsX12_listenTo := goodIn_r _ [25, 17, 18, 19, 7, 20, 21, 26, 27, 28, 29, 30, 31, 32, 33, 34, 35, 36, 37, 38, 39, 40, 41, 42, 43, 44, 45, 46, 47, 48, 49, 50, 51, 52, 53, 54, 55, 56, 57, 58, 59, 60, 61, 62, 63, 64, 65, 66] (by decide +kernel) (by decide +kernel)
set_option maxRecDepth 20000 in
theorem gX12_listen_X12_listenTo : GoodIn wsX12_listen (wsV RX12 223 RX12 yX12_listenTo wsX12_listenTo) := goodIn_app (goodIn_of _ (by decide +kernel)) ggX12_listen_X12_listenTo
theorem dX12_listen_0 : decode cX12_listen 0 = .ok (.aload_n 0, 1) := by decide +kernel
theorem dX12_listen_1 : decode cX12_listen 1 = .ok (.iload_n 1, 1) := by decide +kernel
theorem dX12_listen_2 : decode cX12_listen 2 = .ok (.invokevirtual 166, 3) := by decide +kernel
theorem dX12_listen_5 : decode cX12_listen 5 = .ok (.ifCond .eq 11, 3) := by decide +kernel
theorem dX12_listen_8 : decode cX12_listen 8 = .ok (.aload_n 0, 1) := by decide +kernel
theorem dX12_listen_9 : decode cX12_listen 9 = .ok (.iload_n 2, 1) := by decide +kernel
theorem dX12_listen_10 : decode cX12_listen 10 = .ok (.invokevirtual 190, 3) := by decide +kernel
theorem dX12_listen_13 : decode cX12_listen 13 = .ok (.ifCond .ne 6, 3) := by decide +kernel
theorem dX12_listen_16 : decode cX12_listen 16 = .ok (.ldc 165, 2) := by decide +kernel
theorem dX12_listen_18 : decode cX12_listen 18 = .ok (.ireturn, 1) := by decide +kernel
theorem dX12_listen_19 : decode cX12_listen 19 = .ok (.iload_n 3, 1) := by decide +kernel
theorem dX12_listen_20 : decode cX12_listen 20 = .ok (.i2l, 1) := by decide +kernel
theorem dX12_listen_21 : decode cX12_listen 21 = .ok (.lconst 0, 1) := by decide +kernel
theorem dX12_listen_22 : decode cX12_listen 22 = .ok (.ldc2_w 221, 3) := by decide +kernel
theorem dX12_listen_25 : decode cX12_listen 25 = .ok (.invokestatic 82, 3) := by decide +kernel
theorem dX12_listen_28 : decode cX12_listen 28 = .ok (.ifCond .eq 13, 3) := by decide +kernel
theorem dX12_listen_31 : decode cX12_listen 31 = .ok (.aload_n 0, 1) := by decide +kernel
theorem dX12_listen_32 : decode cX12_listen 32 = .ok (.iload_n 1, 1) := by decide +kernel
theorem dX12_listen_33 : decode cX12_listen 33 = .ok (.iload_n 2, 1) := by decide +kernel
theorem dX12_listen_34 : decode cX12_listen 34 = .ok (.iload_n 3, 1) := by decide +kernel
theorem dX12_listen_35 : decode cX12_listen 35 = .ok (.invokevirtual 223, 3) := by decide +kernel
theorem dX12_listen_38 : decode cX12_listen 38 = .ok (.goto 5, 3) := by decide +kernel
theorem dX12_listen_41 : decode cX12_listen 41 = .ok (.ldc 94, 2) := by decide +kernel
theorem dX12_listen_43 : decode cX12_listen 43 = .ok (.ireturn, 1) := by decide +kernel
set_option maxRecDepth 20000 in
theorem ggX12_isHeard_X12_hears : GoodIn wsX12_isHeard wsX12_hears := goodIn_r _ [6, 7, 8, 9, 10, 11, 5, 12, 13, 14, 15, 16, 17, 18, 19, 20, 21, 22, 23, 24, 25, 26, 27, 28, 29, 30, 31, 32, 33, 34, 35, 36, 37, 38, 39, 40, 41, 42, 43, 44, 45, 46, 47, 48] (by decide +kernel) (by decide +kernel)
set_option maxRecDepth 20000 in
theorem gX12_isHeard_X12_hears : GoodIn wsX12_isHeard (wsV RX12 184 RX12 yX12_hears wsX12_hears) := goodIn_app (goodIn_of _ (by decide +kernel)) ggX12_isHeard_X12_hears
theorem dX12_isHeard_0 : decode cX12_isHeard 0 = .ok (.iconst 0, 1) := by decide +kernel
theorem dX12_isHeard_1 : decode cX12_isHeard 1 = .ok (.istore_n 3, 1) := by decide +kernel
theorem dX12_isHeard_2 : decode cX12_isHeard 2 = .ok (.iconst 0, 1) := by decide +kernel
theorem dX12_isHeard_3 : decode cX12_isHeard 3 = .ok (.istore 4, 2) := by decide +kernel
theorem dX12_isHeard_5 : decode cX12_isHeard 5 = .ok (.iload 4, 2) := by decide +kernel
theorem dX12_isHeard_7 : decode cX12_isHeard 7 = .ok (.aload_n 0, 1) := by decide +kernel
theorem dX12_isHeard_8 : decode cX12_isHeard 8 = .ok (.getfield 89, 3) := by decide +kernel
theorem dX12_isHeard_11 : decode cX12_isHeard 11 = .ok (.if_icmp .ge 30, 3) := by decide +kernel
theorem dX12_isHeard_14 : decode cX12_isHeard 14 = .ok (.iload_n 3, 1) := by decide +kernel
theorem dX12_isHeard_15 : decode cX12_isHeard 15 = .ok (.ifCond .ne 14, 3) := by decide +kernel
theorem dX12_isHeard_18 : decode cX12_isHeard 18 = .ok (.aload_n 0, 1) := by decide +kernel
theorem dX12_isHeard_19 : decode cX12_isHeard 19 = .ok (.iload 4, 2) := by decide +kernel
theorem dX12_isHeard_21 : decode cX12_isHeard 21 = .ok (.iload_n 1, 1) := by decide +kernel
theorem dX12_isHeard_22 : decode cX12_isHeard 22 = .ok (.iload_n 2, 1) := by decide +kernel
theorem dX12_isHeard_23 : decode cX12_isHeard 23 = .ok (.invokevirtual 184, 3) := by decide +kernel
theorem dX12_isHeard_26 : decode cX12_isHeard 26 = .ok (.ifCond .eq 7, 3) := by decide +kernel
theorem dX12_isHeard_29 : decode cX12_isHeard 29 = .ok (.iconst 1, 1) := by decide +kernel
theorem dX12_isHeard_30 : decode cX12_isHeard 30 = .ok (.goto 4, 3) := by decide +kernel
theorem dX12_isHeard_33 : decode cX12_isHeard 33 = .ok (.iconst 0, 1) := by decide +kernel
theorem dX12_isHeard_34 : decode cX12_isHeard 34 = .ok (.istore_n 3, 1) := by decide +kernel
theorem dX12_isHeard_35 : decode cX12_isHeard 35 = .ok (.iinc 4 1, 3) := by decide +kernel
theorem dX12_isHeard_38 : decode cX12_isHeard 38 = .ok (.goto (-33), 3) := by decide +kernel
theorem dX12_isHeard_41 : decode cX12_isHeard 41 = .ok (.iload_n 3, 1) := by decide +kernel
theorem dX12_isHeard_42 : decode cX12_isHeard 42 = .ok (.ireturn, 1) := by decide +kernel
set_option maxRecDepth 20000 in
theorem ggX12_deaf_X12_isSound : GoodIn wsX12_deaf wsX12_isSound := goodIn_r _ [6, 7, 8, 9, 5, 10, 32, 33, 34, 35, 36, 37, 38, 39, 40, 41, 42, 43, 44, 45, 46, 47, 48, 49, 50, 51, 52, 53, 54, 55, 56, 57, 58, 59, 60, 61, 62, 63, 64, 65, 66] (by decide +kernel) (by decide +kernel)
set_option maxRecDepth 20000 in
theorem gX12_deaf_X12_isSound : GoodIn wsX12_deaf (wsV RX12 166 RX12 yX12_isSound wsX12_isSound) := goodIn_app (goodIn_of _ (by decide +kernel)) ggX12_deaf_X12_isSound
set_option maxRecDepth 20000 in
theorem ggX12_deaf_X12_places : GoodIn wsX12_deaf wsX12_places := goodIn_r _ [14, 15, 32, 33, 34, 35, 36, 37, 38, 39, 40, 41, 42, 43, 44, 45, 46, 47, 48, 49, 50, 51, 52, 53, 54, 55, 56, 57, 58, 59, 60, 61, 62, 63, 64, 65, 66] (by decide +kernel) (by decide +kernel)
set_option maxRecDepth 20000 in
theorem gX12_deaf_X12_places : GoodIn wsX12_deaf (wsV RX12 78 RX12 yX12_places wsX12_places) := goodIn_app (goodIn_of _ (by decide +kernel)) ggX12_deaf_X12_places
set_option maxRecDepth 20000 in
theorem ggX12_deaf_X12_isHeard : GoodIn wsX12_deaf wsX12_isHeard := goodIn_r _ [19, 20, 21, 22, 23, 5, 24, 25, 26, 27, 28, 29, 30, 31, 32, 33, 34, 35, 36, 37, 38, 39, 40, 41, 42, 43, 44, 45, 46, 47, 48, 49, 50, 51, 52, 53, 54, 55, 56, 57, 58, 59, 60, 61, 62, 63, 64, 65, 66] (by decide +kernel) (by decide +kernel)
set_option maxRecDepth 20000 in
theorem gX12_deaf_X12_isHeard : GoodIn wsX12_deaf (wsV RX12 226 RX12 yX12_isHeard wsX12_isHeard) := goodIn_app (goodIn_of _ (by decide +kernel)) ggX12_deaf_X12_isHeard
theorem dX12_deaf_0 : decode cX12_deaf 0 = .ok (.aload_n 0, 1) := by decide +kernel
theorem dX12_deaf_1 : decode cX12_deaf 1 = .ok (.iload_n 1, 1) := by decide +kernel
theorem dX12_deaf_2 : decode cX12_deaf 2 = .ok (.invokevirtual 166, 3) := by decide +kernel
theorem dX12_deaf_5 : decode cX12_deaf 5 = .ok (.ifCond .ne 6, 3) := by decide +kernel
theorem dX12_deaf_8 : decode cX12_deaf 8 = .ok (.ldc 165, 2) := by decide +kernel
theorem dX12_deaf_10 : decode cX12_deaf 10 = .ok (.ireturn, 1) := by decide +kernel
theorem dX12_deaf_11 : decode cX12_deaf 11 = .ok (.iconst 0, 1) := by decide +kernel
theorem dX12_deaf_12 : decode cX12_deaf 12 = .ok (.istore_n 2, 1) := by decide +kernel
theorem dX12_deaf_13 : decode cX12_deaf 13 = .ok (.iconst 0, 1) := by decide +kernel
theorem dX12_deaf_14 : decode cX12_deaf 14 = .ok (.istore_n 3, 1) := by decide +kernel
theorem dX12_deaf_15 : decode cX12_deaf 15 = .ok (.iload_n 3, 1) := by decide +kernel
theorem dX12_deaf_16 : decode cX12_deaf 16 = .ok (.aload_n 0, 1) := by decide +kernel
theorem dX12_deaf_17 : decode cX12_deaf 17 = .ok (.invokevirtual 78, 3) := by decide +kernel
theorem dX12_deaf_20 : decode cX12_deaf 20 = .ok (.if_icmp .ge 28, 3) := by decide +kernel
theorem dX12_deaf_23 : decode cX12_deaf 23 = .ok (.iload_n 2, 1) := by decide +kernel
theorem dX12_deaf_24 : decode cX12_deaf 24 = .ok (.aload_n 0, 1) := by decide +kernel
theorem dX12_deaf_25 : decode cX12_deaf 25 = .ok (.iload_n 1, 1) := by decide +kernel
theorem dX12_deaf_26 : decode cX12_deaf 26 = .ok (.iload_n 3, 1) := by decide +kernel
theorem dX12_deaf_27 : decode cX12_deaf 27 = .ok (.invokevirtual 226, 3) := by decide +kernel
theorem dX12_deaf_30 : decode cX12_deaf 30 = .ok (.ifCond .eq 7, 3) := by decide +kernel
theorem dX12_deaf_33 : decode cX12_deaf 33 = .ok (.iconst 0, 1) := by decide +kernel
theorem dX12_deaf_34 : decode cX12_deaf 34 = .ok (.goto 6, 3) := by decide +kernel
theorem dX12_deaf_37 : decode cX12_deaf 37 = .ok (.iconst 1, 1) := by decide +kernel
theorem dX12_deaf_38 : decode cX12_deaf 38 = .ok (.iload_n 3, 1) := by decide +kernel
theorem dX12_deaf_39 : decode cX12_deaf 39 = .ok (.ishl, 1) := by decide +kernel
theorem dX12_deaf_40 : decode cX12_deaf 40 = .ok (.ior, 1) := by decide +kernel
theorem dX12_deaf_41 : decode cX12_deaf 41 = .ok (.istore_n 2, 1) := by decide +kernel
theorem dX12_deaf_42 : decode cX12_deaf 42 = .ok (.iinc 3 1, 3) := by decide +kernel
theorem dX12_deaf_45 : decode cX12_deaf 45 = .ok (.goto (-30), 3) := by decide +kernel
theorem dX12_deaf_48 : decode cX12_deaf 48 = .ok (.iload_n 2, 1) := by decide +kernel
theorem dX12_deaf_49 : decode cX12_deaf 49 = .ok (.ireturn, 1) := by decide +kernel
set_option maxRecDepth 20000 in
theorem ggX12_allHeard_X12_places : GoodIn wsX12_allHeard wsX12_places := goodIn_r _ [5, 6, 20, 21, 22, 23, 24, 25, 26, 27, 28, 29, 30, 31, 32, 33, 34, 35, 36, 37, 38, 39, 40, 41, 42, 43, 44, 45, 46, 47, 48, 49, 50, 51, 52, 53, 54] (by decide +kernel) (by decide +kernel)
set_option maxRecDepth 20000 in
theorem gX12_allHeard_X12_places : GoodIn wsX12_allHeard (wsV RX12 78 RX12 yX12_places wsX12_places) := goodIn_app (goodIn_of _ (by decide +kernel)) ggX12_allHeard_X12_places
set_option maxRecDepth 20000 in
theorem ggX12_allHeard_X12_has : GoodIn wsX12_allHeard wsX12_has := goodIn_r _ [9] (by decide +kernel) (by decide +kernel)
set_option maxRecDepth 20000 in
theorem gX12_allHeard_X12_has : GoodIn wsX12_allHeard (va_wsS RX12 230 yX12_has wsX12_has) := goodIn_app (goodIn_of _ (by decide +kernel)) ggX12_allHeard_X12_has
set_option maxRecDepth 20000 in
theorem ggX12_allHeard_X12_listenTo : GoodIn wsX12_allHeard wsX12_listenTo := goodIn_r _ [13, 1, 2, 3, 4, 5, 6, 14, 15, 16, 17, 18, 19, 20, 21, 22, 23, 24, 25, 26, 27, 28, 29, 30, 31, 32, 33, 34, 35, 36, 37, 38, 39, 40, 41, 42, 43, 44, 45, 46, 47, 48, 49, 50, 51, 52, 53, 54] (by decide +kernel) (by decide +kernel)
set_option maxRecDepth 20000 in
theorem gX12_allHeard_X12_listenTo : GoodIn wsX12_allHeard (wsV RX12 223 RX12 yX12_listenTo wsX12_listenTo) := goodIn_app (goodIn_of _ (by decide +kernel)) ggX12_allHeard_X12_listenTo
theorem dX12_allHeard_0 : decode cX12_allHeard 0 = .ok (.iconst 1, 1) := by decide +kernel
theorem dX12_allHeard_1 : decode cX12_allHeard 1 = .ok (.istore 5, 2) := by decide +kernel
theorem dX12_allHeard_3 : decode cX12_allHeard 3 = .ok (.iconst 0, 1) := by decide +kernel
theorem dX12_allHeard_4 : decode cX12_allHeard 4 = .ok (.istore 6, 2) := by decide +kernel
theorem dX12_allHeard_6 : decode cX12_allHeard 6 = .ok (.iload 6, 2) := by decide +kernel
theorem dX12_allHeard_8 : decode cX12_allHeard 8 = .ok (.aload_n 0, 1) := by decide +kernel
theorem dX12_allHeard_9 : decode cX12_allHeard 9 = .ok (.invokevirtual 78, 3) := by decide +kernel
theorem dX12_allHeard_12 : decode cX12_allHeard 12 = .ok (.if_icmp .ge 44, 3) := by decide +kernel
theorem dX12_allHeard_15 : decode cX12_allHeard 15 = .ok (.iload 5, 2) := by decide +kernel
theorem dX12_allHeard_17 : decode cX12_allHeard 17 = .ok (.ifCond .eq 30, 3) := by decide +kernel
theorem dX12_allHeard_20 : decode cX12_allHeard 20 = .ok (.iload_n 2, 1) := by decide +kernel
theorem dX12_allHeard_21 : decode cX12_allHeard 21 = .ok (.iload 6, 2) := by decide +kernel
theorem dX12_allHeard_23 : decode cX12_allHeard 23 = .ok (.invokestatic 230, 3) := by decide +kernel
theorem dX12_allHeard_26 : decode cX12_allHeard 26 = .ok (.ifCond .eq 17, 3) := by decide +kernel
theorem dX12_allHeard_29 : decode cX12_allHeard 29 = .ok (.aload_n 0, 1) := by decide +kernel
theorem dX12_allHeard_30 : decode cX12_allHeard 30 = .ok (.iload_n 1, 1) := by decide +kernel
theorem dX12_allHeard_31 : decode cX12_allHeard 31 = .ok (.iload 6, 2) := by decide +kernel
theorem dX12_allHeard_33 : decode cX12_allHeard 33 = .ok (.iload_n 3, 1) := by decide +kernel
theorem dX12_allHeard_34 : decode cX12_allHeard 34 = .ok (.invokevirtual 223, 3) := by decide +kernel
theorem dX12_allHeard_37 : decode cX12_allHeard 37 = .ok (.iload 4, 2) := by decide +kernel
theorem dX12_allHeard_39 : decode cX12_allHeard 39 = .ok (.iand, 1) := by decide +kernel
theorem dX12_allHeard_40 : decode cX12_allHeard 40 = .ok (.ifCond .eq 7, 3) := by decide +kernel
theorem dX12_allHeard_43 : decode cX12_allHeard 43 = .ok (.iconst 1, 1) := by decide +kernel
theorem dX12_allHeard_44 : decode cX12_allHeard 44 = .ok (.goto 4, 3) := by decide +kernel
theorem dX12_allHeard_47 : decode cX12_allHeard 47 = .ok (.iconst 0, 1) := by decide +kernel
theorem dX12_allHeard_48 : decode cX12_allHeard 48 = .ok (.istore 5, 2) := by decide +kernel
theorem dX12_allHeard_50 : decode cX12_allHeard 50 = .ok (.iinc 6 1, 3) := by decide +kernel
theorem dX12_allHeard_53 : decode cX12_allHeard 53 = .ok (.goto (-47), 3) := by decide +kernel
theorem dX12_allHeard_56 : decode cX12_allHeard 56 = .ok (.iload 5, 2) := by decide +kernel
theorem dX12_allHeard_58 : decode cX12_allHeard 58 = .ok (.ireturn, 1) := by decide +kernel
set_option maxRecDepth 20000 in
theorem ggX12_ears_X12_isSound : GoodIn wsX12_ears wsX12_isSound := goodIn_r _ [8, 9, 10, 11, 7, 12, 42, 43, 44, 45, 46, 47, 48, 49, 50, 51, 52, 53, 54, 55, 56, 57, 58, 59, 60, 61, 62, 63, 64, 65, 66, 67, 68, 69, 70, 71, 72, 73, 74, 75, 76] (by decide +kernel) (by decide +kernel)
set_option maxRecDepth 20000 in
theorem gX12_ears_X12_isSound : GoodIn wsX12_ears (wsV RX12 166 RX12 yX12_isSound wsX12_isSound) := goodIn_app (goodIn_of _ (by decide +kernel)) ggX12_ears_X12_isSound
set_option maxRecDepth 20000 in
theorem ggX12_ears_X12_isPlaces : GoodIn wsX12_ears wsX12_isPlaces := goodIn_r _ [16, 17, 18, 19, 7, 20, 21, 10, 11, 12, 42, 43, 44, 45, 46, 47, 48, 49, 50, 51, 52, 53, 54, 55, 56, 57, 58, 59, 60, 61, 62, 63, 64, 65, 66, 67, 68, 69, 70, 71, 72, 73, 74, 75, 76] (by decide +kernel) (by decide +kernel)
set_option maxRecDepth 20000 in
theorem gX12_ears_X12_isPlaces : GoodIn wsX12_ears (wsV RX12 233 RX12 yX12_isPlaces wsX12_isPlaces) := goodIn_app (goodIn_of _ (by decide +kernel)) ggX12_ears_X12_isPlaces
set_option maxRecDepth 20000 in
theorem ggX12_ears_X12_in : GoodIn wsX12_ears wsX12_in := goodIn_r _ [12] (by decide +kernel) (by decide +kernel)
set_option maxRecDepth 20000 in
theorem gX12_ears_X12_in : GoodIn wsX12_ears (va_wsS RX12 82 yX12_in wsX12_in) := goodIn_app (goodIn_of _ (by decide +kernel)) ggX12_ears_X12_in
set_option maxRecDepth 20000 in
theorem ggX12_ears_X12_places : GoodIn wsX12_ears wsX12_places := goodIn_r _ [20, 21, 42, 43, 44, 45, 46, 47, 48, 49, 50, 51, 52, 53, 54, 55, 56, 57, 58, 59, 60, 61, 62, 63, 64, 65, 66, 67, 68, 69, 70, 71, 72, 73, 74, 75, 76] (by decide +kernel) (by decide +kernel)
set_option maxRecDepth 20000 in
theorem gX12_ears_X12_places : GoodIn wsX12_ears (wsV RX12 78 RX12 yX12_places wsX12_places) := goodIn_app (goodIn_of _ (by decide +kernel)) ggX12_ears_X12_places
set_option maxRecDepth 20000 in
theorem ggX12_ears_X12_bits : GoodIn wsX12_ears wsX12_bits := goodIn_r _ [24] (by decide +kernel) (by decide +kernel)
set_option maxRecDepth 20000 in
theorem gX12_ears_X12_bits : GoodIn wsX12_ears (va_wsS RX12 236 yX12_bits wsX12_bits) := goodIn_app (goodIn_of _ (by decide +kernel)) ggX12_ears_X12_bits
set_option maxRecDepth 20000 in
theorem ggX12_ears_X12_allHeard : GoodIn wsX12_ears wsX12_allHeard := goodIn_r _ [28, 17, 18, 19, 7, 20, 21, 29, 30, 31, 32, 33, 34, 35, 36, 37, 38, 39, 40, 41, 42, 43, 44, 45, 46, 47, 48, 49, 50, 51, 52, 53, 54, 55, 56, 57, 58, 59, 60, 61, 62, 63, 64, 65, 66, 67, 68, 69, 70, 71, 72, 73, 74, 75, 76] (by decide +kernel) (by decide +kernel)
set_option maxRecDepth 20000 in
theorem gX12_ears_X12_allHeard : GoodIn wsX12_ears (wsV RX12 239 RX12 yX12_allHeard wsX12_allHeard) := goodIn_app (goodIn_of _ (by decide +kernel)) ggX12_ears_X12_allHeard
theorem dX12_ears_0 : decode cX12_ears 0 = .ok (.aload_n 0, 1) := by decide +kernel
theorem dX12_ears_1 : decode cX12_ears 1 = .ok (.iload_n 1, 1) := by decide +kernel
theorem dX12_ears_2 : decode cX12_ears 2 = .ok (.invokevirtual 166, 3) := by decide +kernel
theorem dX12_ears_5 : decode cX12_ears 5 = .ok (.ifCond .eq 11, 3) := by decide +kernel
theorem dX12_ears_8 : decode cX12_ears 8 = .ok (.aload_n 0, 1) := by decide +kernel
theorem dX12_ears_9 : decode cX12_ears 9 = .ok (.iload_n 2, 1) := by decide +kernel
theorem dX12_ears_10 : decode cX12_ears 10 = .ok (.invokevirtual 233, 3) := by decide +kernel
theorem dX12_ears_13 : decode cX12_ears 13 = .ok (.ifCond .ne 6, 3) := by decide +kernel
theorem dX12_ears_16 : decode cX12_ears 16 = .ok (.ldc 165, 2) := by decide +kernel
theorem dX12_ears_18 : decode cX12_ears 18 = .ok (.ireturn, 1) := by decide +kernel
theorem dX12_ears_19 : decode cX12_ears 19 = .ok (.iload_n 3, 1) := by decide +kernel
theorem dX12_ears_20 : decode cX12_ears 20 = .ok (.i2l, 1) := by decide +kernel
theorem dX12_ears_21 : decode cX12_ears 21 = .ok (.lconst 0, 1) := by decide +kernel
theorem dX12_ears_22 : decode cX12_ears 22 = .ok (.ldc2_w 221, 3) := by decide +kernel
theorem dX12_ears_25 : decode cX12_ears 25 = .ok (.invokestatic 82, 3) := by decide +kernel
theorem dX12_ears_28 : decode cX12_ears 28 = .ok (.ifCond .ne 6, 3) := by decide +kernel
theorem dX12_ears_31 : decode cX12_ears 31 = .ok (.ldc 94, 2) := by decide +kernel
theorem dX12_ears_33 : decode cX12_ears 33 = .ok (.ireturn, 1) := by decide +kernel
theorem dX12_ears_34 : decode cX12_ears 34 = .ok (.iconst (-1), 1) := by decide +kernel
theorem dX12_ears_35 : decode cX12_ears 35 = .ok (.istore 4, 2) := by decide +kernel
theorem dX12_ears_37 : decode cX12_ears 37 = .ok (.iconst 0, 1) := by decide +kernel
theorem dX12_ears_38 : decode cX12_ears 38 = .ok (.istore 5, 2) := by decide +kernel
theorem dX12_ears_40 : decode cX12_ears 40 = .ok (.iload 5, 2) := by decide +kernel
theorem dX12_ears_42 : decode cX12_ears 42 = .ok (.iconst 1, 1) := by decide +kernel
theorem dX12_ears_43 : decode cX12_ears 43 = .ok (.aload_n 0, 1) := by decide +kernel
theorem dX12_ears_44 : decode cX12_ears 44 = .ok (.invokevirtual 78, 3) := by decide +kernel
theorem dX12_ears_47 : decode cX12_ears 47 = .ok (.ishl, 1) := by decide +kernel
theorem dX12_ears_48 : decode cX12_ears 48 = .ok (.if_icmp .ge 60, 3) := by decide +kernel
theorem dX12_ears_51 : decode cX12_ears 51 = .ok (.iload 4, 2) := by decide +kernel
theorem dX12_ears_53 : decode cX12_ears 53 = .ok (.ifCond .lt 16, 3) := by decide +kernel
theorem dX12_ears_56 : decode cX12_ears 56 = .ok (.iload 5, 2) := by decide +kernel
theorem dX12_ears_58 : decode cX12_ears 58 = .ok (.invokestatic 236, 3) := by decide +kernel
theorem dX12_ears_61 : decode cX12_ears 61 = .ok (.iload 4, 2) := by decide +kernel
theorem dX12_ears_63 : decode cX12_ears 63 = .ok (.invokestatic 236, 3) := by decide +kernel
theorem dX12_ears_66 : decode cX12_ears 66 = .ok (.if_icmp .ge 7, 3) := by decide +kernel
theorem dX12_ears_69 : decode cX12_ears 69 = .ok (.iconst 1, 1) := by decide +kernel
theorem dX12_ears_70 : decode cX12_ears 70 = .ok (.goto 4, 3) := by decide +kernel
theorem dX12_ears_73 : decode cX12_ears 73 = .ok (.iconst 0, 1) := by decide +kernel
theorem dX12_ears_74 : decode cX12_ears 74 = .ok (.istore 6, 2) := by decide +kernel
theorem dX12_ears_76 : decode cX12_ears 76 = .ok (.iload 6, 2) := by decide +kernel
theorem dX12_ears_78 : decode cX12_ears 78 = .ok (.ifCond .eq 20, 3) := by decide +kernel
theorem dX12_ears_81 : decode cX12_ears 81 = .ok (.aload_n 0, 1) := by decide +kernel
theorem dX12_ears_82 : decode cX12_ears 82 = .ok (.iload_n 1, 1) := by decide +kernel
theorem dX12_ears_83 : decode cX12_ears 83 = .ok (.iload_n 2, 1) := by decide +kernel
theorem dX12_ears_84 : decode cX12_ears 84 = .ok (.iload_n 3, 1) := by decide +kernel
theorem dX12_ears_85 : decode cX12_ears 85 = .ok (.iload 5, 2) := by decide +kernel
theorem dX12_ears_87 : decode cX12_ears 87 = .ok (.invokevirtual 239, 3) := by decide +kernel
theorem dX12_ears_90 : decode cX12_ears 90 = .ok (.ifCond .eq 8, 3) := by decide +kernel
theorem dX12_ears_93 : decode cX12_ears 93 = .ok (.iload 5, 2) := by decide +kernel
theorem dX12_ears_95 : decode cX12_ears 95 = .ok (.goto 5, 3) := by decide +kernel
theorem dX12_ears_98 : decode cX12_ears 98 = .ok (.iload 4, 2) := by decide +kernel
theorem dX12_ears_100 : decode cX12_ears 100 = .ok (.istore 4, 2) := by decide +kernel
theorem dX12_ears_102 : decode cX12_ears 102 = .ok (.iinc 5 1, 3) := by decide +kernel
theorem dX12_ears_105 : decode cX12_ears 105 = .ok (.goto (-65), 3) := by decide +kernel
theorem dX12_ears_108 : decode cX12_ears 108 = .ok (.iload 4, 2) := by decide +kernel
theorem dX12_ears_110 : decode cX12_ears 110 = .ok (.ireturn, 1) := by decide +kernel
set_option maxRecDepth 20000 in
theorem ggX12_areAlike_X12_sayingOf : GoodIn wsX12_areAlike wsX12_sayingOf := goodIn_r _ [6, 7, 8, 9, 10, 11, 5, 12, 13, 14, 15, 16, 17, 18, 19, 20, 21, 22, 23, 24, 25, 26, 27, 28, 29, 30, 31, 32, 33, 34, 35, 36, 37, 38, 39, 40, 41, 42, 43, 44, 45, 46, 47, 48, 49, 50, 51, 52, 53, 54, 55, 56, 57, 58, 59, 60, 61, 62, 63] (by decide +kernel) (by decide +kernel)
set_option maxRecDepth 20000 in
theorem gX12_areAlike_X12_sayingOf : GoodIn wsX12_areAlike (wsV RX12 187 RX12 yX12_sayingOf wsX12_sayingOf) := goodIn_app (goodIn_of _ (by decide +kernel)) ggX12_areAlike_X12_sayingOf
theorem dX12_areAlike_0 : decode cX12_areAlike 0 = .ok (.iconst 1, 1) := by decide +kernel
theorem dX12_areAlike_1 : decode cX12_areAlike 1 = .ok (.istore 4, 2) := by decide +kernel
theorem dX12_areAlike_3 : decode cX12_areAlike 3 = .ok (.iconst 0, 1) := by decide +kernel
theorem dX12_areAlike_4 : decode cX12_areAlike 4 = .ok (.istore 5, 2) := by decide +kernel
theorem dX12_areAlike_6 : decode cX12_areAlike 6 = .ok (.iload 5, 2) := by decide +kernel
theorem dX12_areAlike_8 : decode cX12_areAlike 8 = .ok (.aload_n 0, 1) := by decide +kernel
theorem dX12_areAlike_9 : decode cX12_areAlike 9 = .ok (.getfield 89, 3) := by decide +kernel
theorem dX12_areAlike_12 : decode cX12_areAlike 12 = .ok (.if_icmp .ge 40, 3) := by decide +kernel
theorem dX12_areAlike_15 : decode cX12_areAlike 15 = .ok (.iload 4, 2) := by decide +kernel
theorem dX12_areAlike_17 : decode cX12_areAlike 17 = .ok (.ifCond .eq 26, 3) := by decide +kernel
theorem dX12_areAlike_20 : decode cX12_areAlike 20 = .ok (.aload_n 0, 1) := by decide +kernel
theorem dX12_areAlike_21 : decode cX12_areAlike 21 = .ok (.iload 5, 2) := by decide +kernel
theorem dX12_areAlike_23 : decode cX12_areAlike 23 = .ok (.iload_n 1, 1) := by decide +kernel
theorem dX12_areAlike_24 : decode cX12_areAlike 24 = .ok (.iload_n 3, 1) := by decide +kernel
theorem dX12_areAlike_25 : decode cX12_areAlike 25 = .ok (.invokevirtual 187, 3) := by decide +kernel
theorem dX12_areAlike_28 : decode cX12_areAlike 28 = .ok (.aload_n 0, 1) := by decide +kernel
theorem dX12_areAlike_29 : decode cX12_areAlike 29 = .ok (.iload 5, 2) := by decide +kernel
theorem dX12_areAlike_31 : decode cX12_areAlike 31 = .ok (.iload_n 2, 1) := by decide +kernel
theorem dX12_areAlike_32 : decode cX12_areAlike 32 = .ok (.iload_n 3, 1) := by decide +kernel
theorem dX12_areAlike_33 : decode cX12_areAlike 33 = .ok (.invokevirtual 187, 3) := by decide +kernel
theorem dX12_areAlike_36 : decode cX12_areAlike 36 = .ok (.if_icmp .ne 7, 3) := by decide +kernel
theorem dX12_areAlike_39 : decode cX12_areAlike 39 = .ok (.iconst 1, 1) := by decide +kernel
theorem dX12_areAlike_40 : decode cX12_areAlike 40 = .ok (.goto 4, 3) := by decide +kernel
theorem dX12_areAlike_43 : decode cX12_areAlike 43 = .ok (.iconst 0, 1) := by decide +kernel
theorem dX12_areAlike_44 : decode cX12_areAlike 44 = .ok (.istore 4, 2) := by decide +kernel
theorem dX12_areAlike_46 : decode cX12_areAlike 46 = .ok (.iinc 5 1, 3) := by decide +kernel
theorem dX12_areAlike_49 : decode cX12_areAlike 49 = .ok (.goto (-43), 3) := by decide +kernel
theorem dX12_areAlike_52 : decode cX12_areAlike 52 = .ok (.iload 4, 2) := by decide +kernel
theorem dX12_areAlike_54 : decode cX12_areAlike 54 = .ok (.ireturn, 1) := by decide +kernel
set_option maxRecDepth 20000 in
theorem ggX12_alike_X12_isPlace : GoodIn wsX12_alike wsX12_isPlace := goodIn_r _ [7, 8, 9, 10, 6, 11, 12, 13, 14, 15, 46, 47, 48, 49, 50, 51, 52, 53, 54, 55, 56, 57, 58, 59, 60, 61, 62, 63, 64, 65, 66, 67, 68, 69, 70, 71, 72, 73, 74, 75, 76, 77, 78, 79, 80] (by decide +kernel) (by decide +kernel)
set_option maxRecDepth 20000 in
theorem gX12_alike_X12_isPlace : GoodIn wsX12_alike (wsV RX12 190 RX12 yX12_isPlace wsX12_isPlace) := goodIn_app (goodIn_of _ (by decide +kernel)) ggX12_alike_X12_isPlace
set_option maxRecDepth 20000 in
theorem ggX12_alike_X12_areAlike : GoodIn wsX12_alike wsX12_areAlike := goodIn_r _ [19, 20, 21, 22, 23, 6, 24, 25, 26, 27, 28, 29, 30, 2, 31, 32, 33, 34, 35, 36, 37, 38, 39, 40, 41, 42, 43, 44, 45, 46, 47, 48, 49, 50, 51, 52, 53, 54, 55, 56, 57, 58, 59, 60, 61, 62, 63, 64, 65, 66, 67, 68, 69, 70, 71, 72, 73, 74, 75, 76, 77, 78, 79, 80] (by decide +kernel) (by decide +kernel)
set_option maxRecDepth 20000 in
theorem gX12_alike_X12_areAlike : GoodIn wsX12_alike (wsV RX12 243 RX12 yX12_areAlike wsX12_areAlike) := goodIn_app (goodIn_of _ (by decide +kernel)) ggX12_alike_X12_areAlike
theorem dX12_alike_0 : decode cX12_alike 0 = .ok (.aload_n 0, 1) := by decide +kernel
theorem dX12_alike_1 : decode cX12_alike 1 = .ok (.iload_n 1, 1) := by decide +kernel
theorem dX12_alike_2 : decode cX12_alike 2 = .ok (.invokevirtual 190, 3) := by decide +kernel
theorem dX12_alike_5 : decode cX12_alike 5 = .ok (.ifCond .ne 6, 3) := by decide +kernel
theorem dX12_alike_8 : decode cX12_alike 8 = .ok (.ldc 165, 2) := by decide +kernel
theorem dX12_alike_10 : decode cX12_alike 10 = .ok (.ireturn, 1) := by decide +kernel
theorem dX12_alike_11 : decode cX12_alike 11 = .ok (.iconst 0, 1) := by decide +kernel
theorem dX12_alike_12 : decode cX12_alike 12 = .ok (.istore_n 3, 1) := by decide +kernel
theorem dX12_alike_13 : decode cX12_alike 13 = .ok (.iconst 0, 1) := by decide +kernel
theorem dX12_alike_14 : decode cX12_alike 14 = .ok (.istore 4, 2) := by decide +kernel
theorem dX12_alike_16 : decode cX12_alike 16 = .ok (.iload 4, 2) := by decide +kernel
theorem dX12_alike_18 : decode cX12_alike 18 = .ok (.bipush 36, 2) := by decide +kernel
theorem dX12_alike_20 : decode cX12_alike 20 = .ok (.if_icmp .ge 68, 3) := by decide +kernel
theorem dX12_alike_23 : decode cX12_alike 23 = .ok (.iload 4, 2) := by decide +kernel
theorem dX12_alike_25 : decode cX12_alike 25 = .ok (.bipush 6, 2) := by decide +kernel
theorem dX12_alike_27 : decode cX12_alike 27 = .ok (.idiv, 1) := by decide +kernel
theorem dX12_alike_28 : decode cX12_alike 28 = .ok (.istore 5, 2) := by decide +kernel
theorem dX12_alike_30 : decode cX12_alike 30 = .ok (.iload 4, 2) := by decide +kernel
theorem dX12_alike_32 : decode cX12_alike 32 = .ok (.bipush 6, 2) := by decide +kernel
theorem dX12_alike_34 : decode cX12_alike 34 = .ok (.irem, 1) := by decide +kernel
theorem dX12_alike_35 : decode cX12_alike 35 = .ok (.istore 6, 2) := by decide +kernel
theorem dX12_alike_37 : decode cX12_alike 37 = .ok (.iload 5, 2) := by decide +kernel
theorem dX12_alike_39 : decode cX12_alike 39 = .ok (.iload 6, 2) := by decide +kernel
theorem dX12_alike_41 : decode cX12_alike 41 = .ok (.if_icmp .ge 41, 3) := by decide +kernel
theorem dX12_alike_44 : decode cX12_alike 44 = .ok (.iload 6, 2) := by decide +kernel
theorem dX12_alike_46 : decode cX12_alike 46 = .ok (.aload_n 0, 1) := by decide +kernel
theorem dX12_alike_47 : decode cX12_alike 47 = .ok (.getfield 86, 3) := by decide +kernel
theorem dX12_alike_50 : decode cX12_alike 50 = .ok (.if_icmp .ge 32, 3) := by decide +kernel
theorem dX12_alike_53 : decode cX12_alike 53 = .ok (.aload_n 0, 1) := by decide +kernel
theorem dX12_alike_54 : decode cX12_alike 54 = .ok (.iload 5, 2) := by decide +kernel
theorem dX12_alike_56 : decode cX12_alike 56 = .ok (.iload 6, 2) := by decide +kernel
theorem dX12_alike_58 : decode cX12_alike 58 = .ok (.iload_n 1, 1) := by decide +kernel
theorem dX12_alike_59 : decode cX12_alike 59 = .ok (.invokevirtual 243, 3) := by decide +kernel
theorem dX12_alike_62 : decode cX12_alike 62 = .ok (.ifCond .eq 20, 3) := by decide +kernel
theorem dX12_alike_65 : decode cX12_alike 65 = .ok (.iload_n 3, 1) := by decide +kernel
theorem dX12_alike_66 : decode cX12_alike 66 = .ok (.iload_n 2, 1) := by decide +kernel
theorem dX12_alike_67 : decode cX12_alike 67 = .ok (.if_icmp .ne 12, 3) := by decide +kernel
theorem dX12_alike_70 : decode cX12_alike 70 = .ok (.bipush 10, 2) := by decide +kernel
theorem dX12_alike_72 : decode cX12_alike 72 = .ok (.iload 5, 2) := by decide +kernel
theorem dX12_alike_74 : decode cX12_alike 74 = .ok (.imul, 1) := by decide +kernel
theorem dX12_alike_75 : decode cX12_alike 75 = .ok (.iload 6, 2) := by decide +kernel
theorem dX12_alike_77 : decode cX12_alike 77 = .ok (.iadd, 1) := by decide +kernel
theorem dX12_alike_78 : decode cX12_alike 78 = .ok (.ireturn, 1) := by decide +kernel
theorem dX12_alike_79 : decode cX12_alike 79 = .ok (.iinc 3 1, 3) := by decide +kernel
theorem dX12_alike_82 : decode cX12_alike 82 = .ok (.iinc 4 1, 3) := by decide +kernel
theorem dX12_alike_85 : decode cX12_alike 85 = .ok (.goto (-69), 3) := by decide +kernel
theorem dX12_alike_88 : decode cX12_alike 88 = .ok (.iload_n 2, 1) := by decide +kernel
theorem dX12_alike_89 : decode cX12_alike 89 = .ok (.iconst (-1), 1) := by decide +kernel
theorem dX12_alike_90 : decode cX12_alike 90 = .ok (.if_icmp .ne 7, 3) := by decide +kernel
theorem dX12_alike_93 : decode cX12_alike 93 = .ok (.iload_n 3, 1) := by decide +kernel
theorem dX12_alike_94 : decode cX12_alike 94 = .ok (.goto 4, 3) := by decide +kernel
theorem dX12_alike_97 : decode cX12_alike 97 = .ok (.iconst (-1), 1) := by decide +kernel
theorem dX12_alike_98 : decode cX12_alike 98 = .ok (.ireturn, 1) := by decide +kernel
set_option maxRecDepth 20000 in
theorem ggX12_hides_X12_in : GoodIn wsX12_hides wsX12_in := goodIn_r _ [7] (by decide +kernel) (by decide +kernel)
set_option maxRecDepth 20000 in
theorem gX12_hides_X12_in : GoodIn wsX12_hides (va_wsS RX12 82 yX12_in wsX12_in) := goodIn_app (goodIn_of _ (by decide +kernel)) ggX12_hides_X12_in
set_option maxRecDepth 20000 in
theorem ggX12_hides_X12_isSound : GoodIn wsX12_hides wsX12_isSound := goodIn_r _ [11, 12, 4, 5, 6, 7, 36, 37, 38, 39, 40, 41, 42, 43, 44, 45, 46, 47, 48, 49, 50, 51, 52, 53, 54, 55, 56, 57, 58, 59, 60, 61, 62, 63, 64, 65, 66, 67, 68, 69, 70] (by decide +kernel) (by decide +kernel)
set_option maxRecDepth 20000 in
theorem gX12_hides_X12_isSound : GoodIn wsX12_hides (wsV RX12 166 RX12 yX12_isSound wsX12_isSound) := goodIn_app (goodIn_of _ (by decide +kernel)) ggX12_hides_X12_isSound
set_option maxRecDepth 20000 in
theorem ggX12_hides_X12_isPlace : GoodIn wsX12_hides wsX12_isPlace := goodIn_r _ [16, 17, 18, 19, 6, 20, 1, 4, 5, 7, 36, 37, 38, 39, 40, 41, 42, 43, 44, 45, 46, 47, 48, 49, 50, 51, 52, 53, 54, 55, 56, 57, 58, 59, 60, 61, 62, 63, 64, 65, 66, 67, 68, 69, 70] (by decide +kernel) (by decide +kernel)
set_option maxRecDepth 20000 in
theorem gX12_hides_X12_isPlace : GoodIn wsX12_hides (wsV RX12 190 RX12 yX12_isPlace wsX12_isPlace) := goodIn_app (goodIn_of _ (by decide +kernel)) ggX12_hides_X12_isPlace
set_option maxRecDepth 20000 in
theorem ggX12_hides_X12_isHeard : GoodIn wsX12_hides wsX12_isHeard := goodIn_r _ [24, 25, 26, 27, 28, 6, 29, 3, 30, 31, 32, 33, 34, 35, 36, 37, 38, 39, 40, 41, 42, 43, 44, 45, 46, 47, 48, 49, 50, 51, 52, 53, 54, 55, 56, 57, 58, 59, 60, 61, 62, 63, 64, 65, 66, 67, 68, 69, 70] (by decide +kernel) (by decide +kernel)
set_option maxRecDepth 20000 in
theorem gX12_hides_X12_isHeard : GoodIn wsX12_hides (wsV RX12 226 RX12 yX12_isHeard wsX12_isHeard) := goodIn_app (goodIn_of _ (by decide +kernel)) ggX12_hides_X12_isHeard
theorem dX12_hides_0 : decode cX12_hides 0 = .ok (.iload_n 1, 1) := by decide +kernel
theorem dX12_hides_1 : decode cX12_hides 1 = .ok (.i2l, 1) := by decide +kernel
theorem dX12_hides_2 : decode cX12_hides 2 = .ok (.lconst 0, 1) := by decide +kernel
theorem dX12_hides_3 : decode cX12_hides 3 = .ok (.aload_n 0, 1) := by decide +kernel
theorem dX12_hides_4 : decode cX12_hides 4 = .ok (.getfield 75, 3) := by decide +kernel
theorem dX12_hides_7 : decode cX12_hides 7 = .ok (.iconst 1, 1) := by decide +kernel
theorem dX12_hides_8 : decode cX12_hides 8 = .ok (.isub, 1) := by decide +kernel
theorem dX12_hides_9 : decode cX12_hides 9 = .ok (.i2l, 1) := by decide +kernel
theorem dX12_hides_10 : decode cX12_hides 10 = .ok (.invokestatic 82, 3) := by decide +kernel
theorem dX12_hides_13 : decode cX12_hides 13 = .ok (.ifCond .eq 19, 3) := by decide +kernel
theorem dX12_hides_16 : decode cX12_hides 16 = .ok (.aload_n 0, 1) := by decide +kernel
theorem dX12_hides_17 : decode cX12_hides 17 = .ok (.iload_n 2, 1) := by decide +kernel
theorem dX12_hides_18 : decode cX12_hides 18 = .ok (.invokevirtual 166, 3) := by decide +kernel
theorem dX12_hides_21 : decode cX12_hides 21 = .ok (.ifCond .eq 11, 3) := by decide +kernel
theorem dX12_hides_24 : decode cX12_hides 24 = .ok (.aload_n 0, 1) := by decide +kernel
theorem dX12_hides_25 : decode cX12_hides 25 = .ok (.iload_n 3, 1) := by decide +kernel
theorem dX12_hides_26 : decode cX12_hides 26 = .ok (.invokevirtual 190, 3) := by decide +kernel
theorem dX12_hides_29 : decode cX12_hides 29 = .ok (.ifCond .ne 6, 3) := by decide +kernel
theorem dX12_hides_32 : decode cX12_hides 32 = .ok (.ldc 165, 2) := by decide +kernel
theorem dX12_hides_34 : decode cX12_hides 34 = .ok (.ireturn, 1) := by decide +kernel
theorem dX12_hides_35 : decode cX12_hides 35 = .ok (.aload_n 0, 1) := by decide +kernel
theorem dX12_hides_36 : decode cX12_hides 36 = .ok (.getfield 22, 3) := by decide +kernel
theorem dX12_hides_39 : decode cX12_hides 39 = .ok (.iload_n 1, 1) := by decide +kernel
theorem dX12_hides_40 : decode cX12_hides 40 = .ok (.iaload, 1) := by decide +kernel
theorem dX12_hides_41 : decode cX12_hides 41 = .ok (.istore 4, 2) := by decide +kernel
theorem dX12_hides_43 : decode cX12_hides 43 = .ok (.iconst (-1), 1) := by decide +kernel
theorem dX12_hides_44 : decode cX12_hides 44 = .ok (.istore 5, 2) := by decide +kernel
theorem dX12_hides_46 : decode cX12_hides 46 = .ok (.bipush 99, 2) := by decide +kernel
theorem dX12_hides_48 : decode cX12_hides 48 = .ok (.istore 6, 2) := by decide +kernel
theorem dX12_hides_50 : decode cX12_hides 50 = .ok (.iload 6, 2) := by decide +kernel
theorem dX12_hides_52 : decode cX12_hides 52 = .ok (.ifCond .lt 35, 3) := by decide +kernel
theorem dX12_hides_55 : decode cX12_hides 55 = .ok (.aload_n 0, 1) := by decide +kernel
theorem dX12_hides_56 : decode cX12_hides 56 = .ok (.getfield 22, 3) := by decide +kernel
theorem dX12_hides_59 : decode cX12_hides 59 = .ok (.iload_n 1, 1) := by decide +kernel
theorem dX12_hides_60 : decode cX12_hides 60 = .ok (.iload 6, 2) := by decide +kernel
theorem dX12_hides_62 : decode cX12_hides 62 = .ok (.iastore, 1) := by decide +kernel
theorem dX12_hides_63 : decode cX12_hides 63 = .ok (.aload_n 0, 1) := by decide +kernel
theorem dX12_hides_64 : decode cX12_hides 64 = .ok (.iload_n 2, 1) := by decide +kernel
theorem dX12_hides_65 : decode cX12_hides 65 = .ok (.iload_n 3, 1) := by decide +kernel
theorem dX12_hides_66 : decode cX12_hides 66 = .ok (.invokevirtual 226, 3) := by decide +kernel
theorem dX12_hides_69 : decode cX12_hides 69 = .ok (.ifCond .eq 8, 3) := by decide +kernel
theorem dX12_hides_72 : decode cX12_hides 72 = .ok (.iload 5, 2) := by decide +kernel
theorem dX12_hides_74 : decode cX12_hides 74 = .ok (.goto 5, 3) := by decide +kernel
theorem dX12_hides_77 : decode cX12_hides 77 = .ok (.iload 6, 2) := by decide +kernel
theorem dX12_hides_79 : decode cX12_hides 79 = .ok (.istore 5, 2) := by decide +kernel
theorem dX12_hides_81 : decode cX12_hides 81 = .ok (.iinc 6 (-1), 3) := by decide +kernel
theorem dX12_hides_84 : decode cX12_hides 84 = .ok (.goto (-34), 3) := by decide +kernel
theorem dX12_hides_87 : decode cX12_hides 87 = .ok (.aload_n 0, 1) := by decide +kernel
theorem dX12_hides_88 : decode cX12_hides 88 = .ok (.getfield 22, 3) := by decide +kernel
theorem dX12_hides_91 : decode cX12_hides 91 = .ok (.iload_n 1, 1) := by decide +kernel
theorem dX12_hides_92 : decode cX12_hides 92 = .ok (.iload 4, 2) := by decide +kernel
theorem dX12_hides_94 : decode cX12_hides 94 = .ok (.iastore, 1) := by decide +kernel
theorem dX12_hides_95 : decode cX12_hides 95 = .ok (.iload 5, 2) := by decide +kernel
theorem dX12_hides_97 : decode cX12_hides 97 = .ok (.ireturn, 1) := by decide +kernel
set_option maxRecDepth 20000 in
theorem ggX12_midwife_X12_in : GoodIn wsX12_midwife wsX12_in := goodIn_r _ [7] (by decide +kernel) (by decide +kernel)
set_option maxRecDepth 20000 in
theorem gX12_midwife_X12_in : GoodIn wsX12_midwife (va_wsS RX12 82 yX12_in wsX12_in) := goodIn_app (goodIn_of _ (by decide +kernel)) ggX12_midwife_X12_in
theorem dX12_midwife_0 : decode cX12_midwife 0 = .ok (.iload_n 2, 1) := by decide +kernel
theorem dX12_midwife_1 : decode cX12_midwife 1 = .ok (.i2l, 1) := by decide +kernel
theorem dX12_midwife_2 : decode cX12_midwife 2 = .ok (.lconst 0, 1) := by decide +kernel
theorem dX12_midwife_3 : decode cX12_midwife 3 = .ok (.ldc2_w 246, 3) := by decide +kernel
theorem dX12_midwife_6 : decode cX12_midwife 6 = .ok (.invokestatic 82, 3) := by decide +kernel
theorem dX12_midwife_9 : decode cX12_midwife 9 = .ok (.ifCond .eq 41, 3) := by decide +kernel
theorem dX12_midwife_12 : decode cX12_midwife 12 = .ok (.iload_n 3, 1) := by decide +kernel
theorem dX12_midwife_13 : decode cX12_midwife 13 = .ok (.i2l, 1) := by decide +kernel
theorem dX12_midwife_14 : decode cX12_midwife 14 = .ok (.lconst 0, 1) := by decide +kernel
theorem dX12_midwife_15 : decode cX12_midwife 15 = .ok (.ldc2_w 246, 3) := by decide +kernel
theorem dX12_midwife_18 : decode cX12_midwife 18 = .ok (.invokestatic 82, 3) := by decide +kernel
theorem dX12_midwife_21 : decode cX12_midwife 21 = .ok (.ifCond .eq 29, 3) := by decide +kernel
theorem dX12_midwife_24 : decode cX12_midwife 24 = .ok (.iload 4, 2) := by decide +kernel
theorem dX12_midwife_26 : decode cX12_midwife 26 = .ok (.i2l, 1) := by decide +kernel
theorem dX12_midwife_27 : decode cX12_midwife 27 = .ok (.lconst 0, 1) := by decide +kernel
theorem dX12_midwife_28 : decode cX12_midwife 28 = .ok (.ldc2_w 246, 3) := by decide +kernel
theorem dX12_midwife_31 : decode cX12_midwife 31 = .ok (.invokestatic 82, 3) := by decide +kernel
theorem dX12_midwife_34 : decode cX12_midwife 34 = .ok (.ifCond .eq 16, 3) := by decide +kernel
theorem dX12_midwife_37 : decode cX12_midwife 37 = .ok (.iload 5, 2) := by decide +kernel
theorem dX12_midwife_39 : decode cX12_midwife 39 = .ok (.i2l, 1) := by decide +kernel
theorem dX12_midwife_40 : decode cX12_midwife 40 = .ok (.lconst 0, 1) := by decide +kernel
theorem dX12_midwife_41 : decode cX12_midwife 41 = .ok (.ldc2_w 248, 3) := by decide +kernel
theorem dX12_midwife_44 : decode cX12_midwife 44 = .ok (.invokestatic 82, 3) := by decide +kernel
theorem dX12_midwife_47 : decode cX12_midwife 47 = .ok (.ifCond .ne 6, 3) := by decide +kernel
theorem dX12_midwife_50 : decode cX12_midwife 50 = .ok (.ldc 94, 2) := by decide +kernel
theorem dX12_midwife_52 : decode cX12_midwife 52 = .ok (.ireturn, 1) := by decide +kernel
theorem dX12_midwife_53 : decode cX12_midwife 53 = .ok (.iload 4, 2) := by decide +kernel
theorem dX12_midwife_55 : decode cX12_midwife 55 = .ok (.iload 5, 2) := by decide +kernel
theorem dX12_midwife_57 : decode cX12_midwife 57 = .ok (.imul, 1) := by decide +kernel
theorem dX12_midwife_58 : decode cX12_midwife 58 = .ok (.bipush 100, 2) := by decide +kernel
theorem dX12_midwife_60 : decode cX12_midwife 60 = .ok (.idiv, 1) := by decide +kernel
theorem dX12_midwife_61 : decode cX12_midwife 61 = .ok (.istore 6, 2) := by decide +kernel
theorem dX12_midwife_63 : decode cX12_midwife 63 = .ok (.iload_n 1, 1) := by decide +kernel
theorem dX12_midwife_64 : decode cX12_midwife 64 = .ok (.ifCond .eq 7, 3) := by decide +kernel
theorem dX12_midwife_67 : decode cX12_midwife 67 = .ok (.iload_n 2, 1) := by decide +kernel
theorem dX12_midwife_68 : decode cX12_midwife 68 = .ok (.goto 4, 3) := by decide +kernel
theorem dX12_midwife_71 : decode cX12_midwife 71 = .ok (.iload_n 3, 1) := by decide +kernel
theorem dX12_midwife_72 : decode cX12_midwife 72 = .ok (.istore 7, 2) := by decide +kernel
theorem dX12_midwife_74 : decode cX12_midwife 74 = .ok (.iload_n 1, 1) := by decide +kernel
theorem dX12_midwife_75 : decode cX12_midwife 75 = .ok (.ifCond .eq 7, 3) := by decide +kernel
theorem dX12_midwife_78 : decode cX12_midwife 78 = .ok (.iload_n 3, 1) := by decide +kernel
theorem dX12_midwife_79 : decode cX12_midwife 79 = .ok (.goto 4, 3) := by decide +kernel
theorem dX12_midwife_82 : decode cX12_midwife 82 = .ok (.iload_n 2, 1) := by decide +kernel
theorem dX12_midwife_83 : decode cX12_midwife 83 = .ok (.iload 6, 2) := by decide +kernel
theorem dX12_midwife_85 : decode cX12_midwife 85 = .ok (.isub, 1) := by decide +kernel
theorem dX12_midwife_86 : decode cX12_midwife 86 = .ok (.istore 8, 2) := by decide +kernel
theorem dX12_midwife_88 : decode cX12_midwife 88 = .ok (.iload 8, 2) := by decide +kernel
theorem dX12_midwife_90 : decode cX12_midwife 90 = .ok (.iload 7, 2) := by decide +kernel
theorem dX12_midwife_92 : decode cX12_midwife 92 = .ok (.if_icmp .le 7, 3) := by decide +kernel
theorem dX12_midwife_95 : decode cX12_midwife 95 = .ok (.iconst 1, 1) := by decide +kernel
theorem dX12_midwife_96 : decode cX12_midwife 96 = .ok (.goto 4, 3) := by decide +kernel
theorem dX12_midwife_99 : decode cX12_midwife 99 = .ok (.iconst 0, 1) := by decide +kernel
theorem dX12_midwife_100 : decode cX12_midwife 100 = .ok (.istore 9, 2) := by decide +kernel
theorem dX12_midwife_102 : decode cX12_midwife 102 = .ok (.iload_n 1, 1) := by decide +kernel
theorem dX12_midwife_103 : decode cX12_midwife 103 = .ok (.iload 9, 2) := by decide +kernel
theorem dX12_midwife_105 : decode cX12_midwife 105 = .ok (.if_icmp .ne 7, 3) := by decide +kernel
theorem dX12_midwife_108 : decode cX12_midwife 108 = .ok (.iconst 0, 1) := by decide +kernel
theorem dX12_midwife_109 : decode cX12_midwife 109 = .ok (.goto 4, 3) := by decide +kernel
theorem dX12_midwife_112 : decode cX12_midwife 112 = .ok (.iconst 1, 1) := by decide +kernel
theorem dX12_midwife_113 : decode cX12_midwife 113 = .ok (.ireturn, 1) := by decide +kernel
set_option maxRecDepth 20000 in
theorem ggX12_bargain_X12_in : GoodIn wsX12_bargain wsX12_in := goodIn_r _ [8] (by decide +kernel) (by decide +kernel)
set_option maxRecDepth 20000 in
theorem gX12_bargain_X12_in : GoodIn wsX12_bargain (va_wsS RX12 82 yX12_in wsX12_in) := goodIn_app (goodIn_of _ (by decide +kernel)) ggX12_bargain_X12_in
theorem dX12_bargain_0 : decode cX12_bargain 0 = .ok (.iload_n 1, 1) := by decide +kernel
theorem dX12_bargain_1 : decode cX12_bargain 1 = .ok (.i2l, 1) := by decide +kernel
theorem dX12_bargain_2 : decode cX12_bargain 2 = .ok (.lconst 0, 1) := by decide +kernel
theorem dX12_bargain_3 : decode cX12_bargain 3 = .ok (.ldc2_w 246, 3) := by decide +kernel
theorem dX12_bargain_6 : decode cX12_bargain 6 = .ok (.invokestatic 82, 3) := by decide +kernel
theorem dX12_bargain_9 : decode cX12_bargain 9 = .ok (.ifCond .eq 38, 3) := by decide +kernel
theorem dX12_bargain_12 : decode cX12_bargain 12 = .ok (.iload_n 2, 1) := by decide +kernel
theorem dX12_bargain_13 : decode cX12_bargain 13 = .ok (.i2l, 1) := by decide +kernel
theorem dX12_bargain_14 : decode cX12_bargain 14 = .ok (.lconst 0, 1) := by decide +kernel
theorem dX12_bargain_15 : decode cX12_bargain 15 = .ok (.ldc2_w 250, 3) := by decide +kernel
theorem dX12_bargain_18 : decode cX12_bargain 18 = .ok (.invokestatic 82, 3) := by decide +kernel
theorem dX12_bargain_21 : decode cX12_bargain 21 = .ok (.ifCond .eq 26, 3) := by decide +kernel
theorem dX12_bargain_24 : decode cX12_bargain 24 = .ok (.iload_n 3, 1) := by decide +kernel
theorem dX12_bargain_25 : decode cX12_bargain 25 = .ok (.i2l, 1) := by decide +kernel
theorem dX12_bargain_26 : decode cX12_bargain 26 = .ok (.lconst 0, 1) := by decide +kernel
theorem dX12_bargain_27 : decode cX12_bargain 27 = .ok (.ldc2_w 252, 3) := by decide +kernel
theorem dX12_bargain_30 : decode cX12_bargain 30 = .ok (.invokestatic 82, 3) := by decide +kernel
theorem dX12_bargain_33 : decode cX12_bargain 33 = .ok (.ifCond .eq 14, 3) := by decide +kernel
theorem dX12_bargain_36 : decode cX12_bargain 36 = .ok (.iload 4, 2) := by decide +kernel
theorem dX12_bargain_38 : decode cX12_bargain 38 = .ok (.i2l, 1) := by decide +kernel
theorem dX12_bargain_39 : decode cX12_bargain 39 = .ok (.lconst 0, 1) := by decide +kernel
theorem dX12_bargain_40 : decode cX12_bargain 40 = .ok (.lconst 1, 1) := by decide +kernel
theorem dX12_bargain_41 : decode cX12_bargain 41 = .ok (.invokestatic 82, 3) := by decide +kernel
theorem dX12_bargain_44 : decode cX12_bargain 44 = .ok (.ifCond .ne 6, 3) := by decide +kernel
theorem dX12_bargain_47 : decode cX12_bargain 47 = .ok (.ldc 94, 2) := by decide +kernel
theorem dX12_bargain_49 : decode cX12_bargain 49 = .ok (.ireturn, 1) := by decide +kernel
theorem dX12_bargain_50 : decode cX12_bargain 50 = .ok (.iload_n 1, 1) := by decide +kernel
theorem dX12_bargain_51 : decode cX12_bargain 51 = .ok (.i2l, 1) := by decide +kernel
theorem dX12_bargain_52 : decode cX12_bargain 52 = .ok (.iload_n 2, 1) := by decide +kernel
theorem dX12_bargain_53 : decode cX12_bargain 53 = .ok (.i2l, 1) := by decide +kernel
theorem dX12_bargain_54 : decode cX12_bargain 54 = .ok (.lmul, 1) := by decide +kernel
theorem dX12_bargain_55 : decode cX12_bargain 55 = .ok (.ldc2_w 250, 3) := by decide +kernel
theorem dX12_bargain_58 : decode cX12_bargain 58 = .ok (.ldiv, 1) := by decide +kernel
theorem dX12_bargain_59 : decode cX12_bargain 59 = .ok (.l2i, 1) := by decide +kernel
theorem dX12_bargain_60 : decode cX12_bargain 60 = .ok (.iload_n 3, 1) := by decide +kernel
theorem dX12_bargain_61 : decode cX12_bargain 61 = .ok (.isub, 1) := by decide +kernel
theorem dX12_bargain_62 : decode cX12_bargain 62 = .ok (.istore 5, 2) := by decide +kernel
theorem dX12_bargain_64 : decode cX12_bargain 64 = .ok (.iload 5, 2) := by decide +kernel
theorem dX12_bargain_66 : decode cX12_bargain 66 = .ok (.ifCond .le 8, 3) := by decide +kernel
theorem dX12_bargain_69 : decode cX12_bargain 69 = .ok (.iload 5, 2) := by decide +kernel
theorem dX12_bargain_71 : decode cX12_bargain 71 = .ok (.goto 4, 3) := by decide +kernel
theorem dX12_bargain_74 : decode cX12_bargain 74 = .ok (.iconst 0, 1) := by decide +kernel
theorem dX12_bargain_75 : decode cX12_bargain 75 = .ok (.istore 5, 2) := by decide +kernel
theorem dX12_bargain_77 : decode cX12_bargain 77 = .ok (.iload 5, 2) := by decide +kernel
theorem dX12_bargain_79 : decode cX12_bargain 79 = .ok (.iconst 2, 1) := by decide +kernel
theorem dX12_bargain_80 : decode cX12_bargain 80 = .ok (.iload_n 3, 1) := by decide +kernel
theorem dX12_bargain_81 : decode cX12_bargain 81 = .ok (.imul, 1) := by decide +kernel
theorem dX12_bargain_82 : decode cX12_bargain 82 = .ok (.iadd, 1) := by decide +kernel
theorem dX12_bargain_83 : decode cX12_bargain 83 = .ok (.iload_n 1, 1) := by decide +kernel
theorem dX12_bargain_84 : decode cX12_bargain 84 = .ok (.if_icmp .ge 12, 3) := by decide +kernel
theorem dX12_bargain_87 : decode cX12_bargain 87 = .ok (.iload 5, 2) := by decide +kernel
theorem dX12_bargain_89 : decode cX12_bargain 89 = .ok (.iconst 2, 1) := by decide +kernel
theorem dX12_bargain_90 : decode cX12_bargain 90 = .ok (.iload_n 3, 1) := by decide +kernel
theorem dX12_bargain_91 : decode cX12_bargain 91 = .ok (.imul, 1) := by decide +kernel
theorem dX12_bargain_92 : decode cX12_bargain 92 = .ok (.iadd, 1) := by decide +kernel
theorem dX12_bargain_93 : decode cX12_bargain 93 = .ok (.goto 4, 3) := by decide +kernel
theorem dX12_bargain_96 : decode cX12_bargain 96 = .ok (.iload_n 1, 1) := by decide +kernel
theorem dX12_bargain_97 : decode cX12_bargain 97 = .ok (.istore 6, 2) := by decide +kernel
theorem dX12_bargain_99 : decode cX12_bargain 99 = .ok (.iload 4, 2) := by decide +kernel
theorem dX12_bargain_101 : decode cX12_bargain 101 = .ok (.ifCond .ne 8, 3) := by decide +kernel
theorem dX12_bargain_104 : decode cX12_bargain 104 = .ok (.iload 5, 2) := by decide +kernel
theorem dX12_bargain_106 : decode cX12_bargain 106 = .ok (.goto 5, 3) := by decide +kernel
theorem dX12_bargain_109 : decode cX12_bargain 109 = .ok (.iload 6, 2) := by decide +kernel
theorem dX12_bargain_111 : decode cX12_bargain 111 = .ok (.ireturn, 1) := by decide +kernel
set_option maxRecDepth 20000 in
theorem ggX12_found_X12_isPlaces : GoodIn wsX12_found wsX12_isPlaces := goodIn_r _ [8, 9, 10, 11, 7, 12, 13, 14, 15, 16, 36, 37, 38, 39, 40, 41, 42, 43, 44, 45, 46, 47, 48, 49, 50, 51, 52, 53, 54, 55, 56, 57, 58, 59, 60, 61, 62, 63, 64, 65, 66, 67, 68, 69, 70] (by decide +kernel) (by decide +kernel)
set_option maxRecDepth 20000 in
theorem gX12_found_X12_isPlaces : GoodIn wsX12_found (wsV RX12 233 RX12 yX12_isPlaces wsX12_isPlaces) := goodIn_app (goodIn_of _ (by decide +kernel)) ggX12_found_X12_isPlaces
set_option maxRecDepth 20000 in
theorem ggX12_found_X12_places : GoodIn wsX12_found wsX12_places := goodIn_r _ [12, 13, 36, 37, 38, 39, 40, 41, 42, 43, 44, 45, 46, 47, 48, 49, 50, 51, 52, 53, 54, 55, 56, 57, 58, 59, 60, 61, 62, 63, 64, 65, 66, 67, 68, 69, 70] (by decide +kernel) (by decide +kernel)
set_option maxRecDepth 20000 in
theorem gX12_found_X12_places : GoodIn wsX12_found (wsV RX12 78 RX12 yX12_places wsX12_places) := goodIn_app (goodIn_of _ (by decide +kernel)) ggX12_found_X12_places
set_option maxRecDepth 20000 in
theorem ggX12_found_X12_has : GoodIn wsX12_found wsX12_has := goodIn_r _ [19] (by decide +kernel) (by decide +kernel)
set_option maxRecDepth 20000 in
theorem gX12_found_X12_has : GoodIn wsX12_found (va_wsS RX12 230 yX12_has wsX12_has) := goodIn_app (goodIn_of _ (by decide +kernel)) ggX12_found_X12_has
set_option maxRecDepth 20000 in
theorem ggX12_found_X12_isHeard : GoodIn wsX12_found wsX12_isHeard := goodIn_r _ [23, 24, 25, 26, 27, 7, 28, 29, 30, 31, 32, 33, 34, 35, 36, 37, 38, 39, 40, 41, 42, 43, 44, 45, 46, 47, 48, 49, 50, 51, 52, 53, 54, 55, 56, 57, 58, 59, 60, 61, 62, 63, 64, 65, 66, 67, 68, 69, 70] (by decide +kernel) (by decide +kernel)
set_option maxRecDepth 20000 in
theorem gX12_found_X12_isHeard : GoodIn wsX12_found (wsV RX12 226 RX12 yX12_isHeard wsX12_isHeard) := goodIn_app (goodIn_of _ (by decide +kernel)) ggX12_found_X12_isHeard
theorem dX12_found_0 : decode cX12_found 0 = .ok (.aload_n 0, 1) := by decide +kernel
theorem dX12_found_1 : decode cX12_found 1 = .ok (.iload_n 1, 1) := by decide +kernel
theorem dX12_found_2 : decode cX12_found 2 = .ok (.invokevirtual 233, 3) := by decide +kernel
theorem dX12_found_5 : decode cX12_found 5 = .ok (.ifCond .ne 6, 3) := by decide +kernel
theorem dX12_found_8 : decode cX12_found 8 = .ok (.ldc 165, 2) := by decide +kernel
theorem dX12_found_10 : decode cX12_found 10 = .ok (.ireturn, 1) := by decide +kernel
theorem dX12_found_11 : decode cX12_found 11 = .ok (.iconst 0, 1) := by decide +kernel
theorem dX12_found_12 : decode cX12_found 12 = .ok (.istore_n 2, 1) := by decide +kernel
theorem dX12_found_13 : decode cX12_found 13 = .ok (.iconst 0, 1) := by decide +kernel
theorem dX12_found_14 : decode cX12_found 14 = .ok (.istore_n 3, 1) := by decide +kernel
theorem dX12_found_15 : decode cX12_found 15 = .ok (.iconst 0, 1) := by decide +kernel
theorem dX12_found_16 : decode cX12_found 16 = .ok (.istore 4, 2) := by decide +kernel
theorem dX12_found_18 : decode cX12_found 18 = .ok (.iload 4, 2) := by decide +kernel
theorem dX12_found_20 : decode cX12_found 20 = .ok (.aload_n 0, 1) := by decide +kernel
theorem dX12_found_21 : decode cX12_found 21 = .ok (.getfield 86, 3) := by decide +kernel
theorem dX12_found_24 : decode cX12_found 24 = .ok (.if_icmp .ge 64, 3) := by decide +kernel
theorem dX12_found_27 : decode cX12_found 27 = .ok (.iconst 0, 1) := by decide +kernel
theorem dX12_found_28 : decode cX12_found 28 = .ok (.istore 5, 2) := by decide +kernel
theorem dX12_found_30 : decode cX12_found 30 = .ok (.iload 5, 2) := by decide +kernel
theorem dX12_found_32 : decode cX12_found 32 = .ok (.aload_n 0, 1) := by decide +kernel
theorem dX12_found_33 : decode cX12_found 33 = .ok (.invokevirtual 78, 3) := by decide +kernel
theorem dX12_found_36 : decode cX12_found 36 = .ok (.if_icmp .ge 46, 3) := by decide +kernel
theorem dX12_found_39 : decode cX12_found 39 = .ok (.iload_n 2, 1) := by decide +kernel
theorem dX12_found_40 : decode cX12_found 40 = .ok (.iload_n 1, 1) := by decide +kernel
theorem dX12_found_41 : decode cX12_found 41 = .ok (.iload 5, 2) := by decide +kernel
theorem dX12_found_43 : decode cX12_found 43 = .ok (.ishr, 1) := by decide +kernel
theorem dX12_found_44 : decode cX12_found 44 = .ok (.iconst 1, 1) := by decide +kernel
theorem dX12_found_45 : decode cX12_found 45 = .ok (.iand, 1) := by decide +kernel
theorem dX12_found_46 : decode cX12_found 46 = .ok (.iadd, 1) := by decide +kernel
theorem dX12_found_47 : decode cX12_found 47 = .ok (.istore_n 2, 1) := by decide +kernel
theorem dX12_found_48 : decode cX12_found 48 = .ok (.iload_n 3, 1) := by decide +kernel
theorem dX12_found_49 : decode cX12_found 49 = .ok (.iload_n 1, 1) := by decide +kernel
theorem dX12_found_50 : decode cX12_found 50 = .ok (.iload 5, 2) := by decide +kernel
theorem dX12_found_52 : decode cX12_found 52 = .ok (.invokestatic 230, 3) := by decide +kernel
theorem dX12_found_55 : decode cX12_found 55 = .ok (.ifCond .eq 18, 3) := by decide +kernel
theorem dX12_found_58 : decode cX12_found 58 = .ok (.aload_n 0, 1) := by decide +kernel
theorem dX12_found_59 : decode cX12_found 59 = .ok (.iload 4, 2) := by decide +kernel
theorem dX12_found_61 : decode cX12_found 61 = .ok (.iload 5, 2) := by decide +kernel
theorem dX12_found_63 : decode cX12_found 63 = .ok (.invokevirtual 226, 3) := by decide +kernel
theorem dX12_found_66 : decode cX12_found 66 = .ok (.ifCond .eq 7, 3) := by decide +kernel
theorem dX12_found_69 : decode cX12_found 69 = .ok (.iconst 1, 1) := by decide +kernel
theorem dX12_found_70 : decode cX12_found 70 = .ok (.goto 4, 3) := by decide +kernel
theorem dX12_found_73 : decode cX12_found 73 = .ok (.iconst 0, 1) := by decide +kernel
theorem dX12_found_74 : decode cX12_found 74 = .ok (.iadd, 1) := by decide +kernel
theorem dX12_found_75 : decode cX12_found 75 = .ok (.istore_n 3, 1) := by decide +kernel
theorem dX12_found_76 : decode cX12_found 76 = .ok (.iinc 5 1, 3) := by decide +kernel
theorem dX12_found_79 : decode cX12_found 79 = .ok (.goto (-49), 3) := by decide +kernel
theorem dX12_found_82 : decode cX12_found 82 = .ok (.iinc 4 1, 3) := by decide +kernel
theorem dX12_found_85 : decode cX12_found 85 = .ok (.goto (-67), 3) := by decide +kernel
theorem dX12_found_88 : decode cX12_found 88 = .ok (.iload_n 2, 1) := by decide +kernel
theorem dX12_found_89 : decode cX12_found 89 = .ok (.ifCond .ne 7, 3) := by decide +kernel
theorem dX12_found_92 : decode cX12_found 92 = .ok (.iconst 0, 1) := by decide +kernel
theorem dX12_found_93 : decode cX12_found 93 = .ok (.goto 13, 3) := by decide +kernel
theorem dX12_found_96 : decode cX12_found 96 = .ok (.iload_n 3, 1) := by decide +kernel
theorem dX12_found_97 : decode cX12_found 97 = .ok (.i2l, 1) := by decide +kernel
theorem dX12_found_98 : decode cX12_found 98 = .ok (.ldc2_w 250, 3) := by decide +kernel
theorem dX12_found_101 : decode cX12_found 101 = .ok (.lmul, 1) := by decide +kernel
theorem dX12_found_102 : decode cX12_found 102 = .ok (.iload_n 2, 1) := by decide +kernel
theorem dX12_found_103 : decode cX12_found 103 = .ok (.i2l, 1) := by decide +kernel
theorem dX12_found_104 : decode cX12_found 104 = .ok (.ldiv, 1) := by decide +kernel
theorem dX12_found_105 : decode cX12_found 105 = .ok (.l2i, 1) := by decide +kernel
theorem dX12_found_106 : decode cX12_found 106 = .ok (.ireturn, 1) := by decide +kernel
set_option maxRecDepth 20000 in
theorem ggX12_say_X12_isWitness : GoodIn wsX12_say wsX12_isWitness := goodIn_r _ [12, 13, 14, 15, 11, 16, 17, 18, 19, 20, 21, 22, 23, 24, 25, 26, 27, 28, 29, 30, 31, 32, 33, 34, 35, 36, 37, 38, 39, 40, 41, 42, 43, 44, 45, 46, 47, 48, 49, 50, 51] (by decide +kernel) (by decide +kernel)
set_option maxRecDepth 20000 in
theorem gX12_say_X12_isWitness : GoodIn wsX12_say (wsV RX12 170 RX12 yX12_isWitness wsX12_isWitness) := goodIn_app (goodIn_of _ (by decide +kernel)) ggX12_say_X12_isWitness
set_option maxRecDepth 20000 in
theorem ggX12_say_X12_in : GoodIn wsX12_say wsX12_in := goodIn_r _ [16] (by decide +kernel) (by decide +kernel)
set_option maxRecDepth 20000 in
theorem gX12_say_X12_in : GoodIn wsX12_say (va_wsS RX12 82 yX12_in wsX12_in) := goodIn_app (goodIn_of _ (by decide +kernel)) ggX12_say_X12_in
theorem dX12_say_0 : decode cX12_say 0 = .ok (.aload_n 0, 1) := by decide +kernel
theorem dX12_say_1 : decode cX12_say 1 = .ok (.iload_n 1, 1) := by decide +kernel
theorem dX12_say_2 : decode cX12_say 2 = .ok (.invokevirtual 170, 3) := by decide +kernel
theorem dX12_say_5 : decode cX12_say 5 = .ok (.ifCond .ne 6, 3) := by decide +kernel
theorem dX12_say_8 : decode cX12_say 8 = .ok (.ldc 165, 2) := by decide +kernel
theorem dX12_say_10 : decode cX12_say 10 = .ok (.ireturn, 1) := by decide +kernel
theorem dX12_say_11 : decode cX12_say 11 = .ok (.iload_n 2, 1) := by decide +kernel
theorem dX12_say_12 : decode cX12_say 12 = .ok (.i2l, 1) := by decide +kernel
theorem dX12_say_13 : decode cX12_say 13 = .ok (.lconst 0, 1) := by decide +kernel
theorem dX12_say_14 : decode cX12_say 14 = .ok (.ldc2_w 254, 3) := by decide +kernel
theorem dX12_say_17 : decode cX12_say 17 = .ok (.invokestatic 82, 3) := by decide +kernel
theorem dX12_say_20 : decode cX12_say 20 = .ok (.ifCond .ne 6, 3) := by decide +kernel
theorem dX12_say_23 : decode cX12_say 23 = .ok (.ldc 94, 2) := by decide +kernel
theorem dX12_say_25 : decode cX12_say 25 = .ok (.ireturn, 1) := by decide +kernel
theorem dX12_say_26 : decode cX12_say 26 = .ok (.aload_n 0, 1) := by decide +kernel
theorem dX12_say_27 : decode cX12_say 27 = .ok (.getfield 156, 3) := by decide +kernel
theorem dX12_say_30 : decode cX12_say 30 = .ok (.bipush 8, 2) := by decide +kernel
theorem dX12_say_32 : decode cX12_say 32 = .ok (.if_icmp .ne 6, 3) := by decide +kernel
theorem dX12_say_35 : decode cX12_say 35 = .ok (.ldc 98, 2) := by decide +kernel
theorem dX12_say_37 : decode cX12_say 37 = .ok (.ireturn, 1) := by decide +kernel
theorem dX12_say_38 : decode cX12_say 38 = .ok (.aload_n 0, 1) := by decide +kernel
theorem dX12_say_39 : decode cX12_say 39 = .ok (.getfield 53, 3) := by decide +kernel
theorem dX12_say_42 : decode cX12_say 42 = .ok (.aload_n 0, 1) := by decide +kernel
theorem dX12_say_43 : decode cX12_say 43 = .ok (.getfield 156, 3) := by decide +kernel
theorem dX12_say_46 : decode cX12_say 46 = .ok (.iload_n 1, 1) := by decide +kernel
theorem dX12_say_47 : decode cX12_say 47 = .ok (.iastore, 1) := by decide +kernel
theorem dX12_say_48 : decode cX12_say 48 = .ok (.aload_n 0, 1) := by decide +kernel
theorem dX12_say_49 : decode cX12_say 49 = .ok (.getfield 56, 3) := by decide +kernel
theorem dX12_say_52 : decode cX12_say 52 = .ok (.aload_n 0, 1) := by decide +kernel
theorem dX12_say_53 : decode cX12_say 53 = .ok (.getfield 156, 3) := by decide +kernel
theorem dX12_say_56 : decode cX12_say 56 = .ok (.iload_n 2, 1) := by decide +kernel
theorem dX12_say_57 : decode cX12_say 57 = .ok (.iastore, 1) := by decide +kernel
theorem dX12_say_58 : decode cX12_say 58 = .ok (.aload_n 0, 1) := by decide +kernel
theorem dX12_say_59 : decode cX12_say 59 = .ok (.dup, 1) := by decide +kernel
theorem dX12_say_60 : decode cX12_say 60 = .ok (.getfield 156, 3) := by decide +kernel
theorem dX12_say_63 : decode cX12_say 63 = .ok (.iconst 1, 1) := by decide +kernel
theorem dX12_say_64 : decode cX12_say 64 = .ok (.iadd, 1) := by decide +kernel
theorem dX12_say_65 : decode cX12_say 65 = .ok (.putfield 156, 3) := by decide +kernel
theorem dX12_say_68 : decode cX12_say 68 = .ok (.aload_n 0, 1) := by decide +kernel
theorem dX12_say_69 : decode cX12_say 69 = .ok (.getfield 156, 3) := by decide +kernel
theorem dX12_say_72 : decode cX12_say 72 = .ok (.ireturn, 1) := by decide +kernel
set_option maxRecDepth 20000 in
theorem ggX12_isPair_X12_isSound : GoodIn wsX12_isPair wsX12_isSound := goodIn_r _ [5, 6, 7, 8, 4, 9, 19, 20, 21, 22, 23, 24, 25, 26, 27, 28, 29, 30, 31, 32, 33, 34, 35, 36, 37, 38, 39, 40, 41, 42, 43, 44, 45, 46, 47, 48, 49, 50, 51, 52, 53] (by decide +kernel) (by decide +kernel)
set_option maxRecDepth 20000 in
theorem gX12_isPair_X12_isSound : GoodIn wsX12_isPair (wsV RX12 166 RX12 yX12_isSound wsX12_isSound) := goodIn_app (goodIn_of _ (by decide +kernel)) ggX12_isPair_X12_isSound
set_option maxRecDepth 20000 in
theorem ggX12_isPair_X12_isPlace : GoodIn wsX12_isPair wsX12_isPlace := goodIn_r _ [13, 14, 15, 16, 4, 17, 18, 7, 8, 9, 19, 20, 21, 22, 23, 24, 25, 26, 27, 28, 29, 30, 31, 32, 33, 34, 35, 36, 37, 38, 39, 40, 41, 42, 43, 44, 45, 46, 47, 48, 49, 50, 51, 52, 53] (by decide +kernel) (by decide +kernel)
set_option maxRecDepth 20000 in
theorem gX12_isPair_X12_isPlace : GoodIn wsX12_isPair (wsV RX12 190 RX12 yX12_isPlace wsX12_isPlace) := goodIn_app (goodIn_of _ (by decide +kernel)) ggX12_isPair_X12_isPlace
theorem dX12_isPair_0 : decode cX12_isPair 0 = .ok (.iload_n 1, 1) := by decide +kernel
theorem dX12_isPair_1 : decode cX12_isPair 1 = .ok (.bipush 100, 2) := by decide +kernel
theorem dX12_isPair_3 : decode cX12_isPair 3 = .ok (.if_icmp .eq 29, 3) := by decide +kernel
theorem dX12_isPair_6 : decode cX12_isPair 6 = .ok (.iload_n 1, 1) := by decide +kernel
theorem dX12_isPair_7 : decode cX12_isPair 7 = .ok (.ifCond .lt 29, 3) := by decide +kernel
theorem dX12_isPair_10 : decode cX12_isPair 10 = .ok (.aload_n 0, 1) := by decide +kernel
theorem dX12_isPair_11 : decode cX12_isPair 11 = .ok (.iload_n 1, 1) := by decide +kernel
theorem dX12_isPair_12 : decode cX12_isPair 12 = .ok (.bipush 10, 2) := by decide +kernel
theorem dX12_isPair_14 : decode cX12_isPair 14 = .ok (.idiv, 1) := by decide +kernel
theorem dX12_isPair_15 : decode cX12_isPair 15 = .ok (.invokevirtual 166, 3) := by decide +kernel
theorem dX12_isPair_18 : decode cX12_isPair 18 = .ok (.ifCond .eq 18, 3) := by decide +kernel
theorem dX12_isPair_21 : decode cX12_isPair 21 = .ok (.aload_n 0, 1) := by decide +kernel
theorem dX12_isPair_22 : decode cX12_isPair 22 = .ok (.iload_n 1, 1) := by decide +kernel
theorem dX12_isPair_23 : decode cX12_isPair 23 = .ok (.bipush 10, 2) := by decide +kernel
theorem dX12_isPair_25 : decode cX12_isPair 25 = .ok (.irem, 1) := by decide +kernel
theorem dX12_isPair_26 : decode cX12_isPair 26 = .ok (.invokevirtual 190, 3) := by decide +kernel
theorem dX12_isPair_29 : decode cX12_isPair 29 = .ok (.ifCond .eq 7, 3) := by decide +kernel
theorem dX12_isPair_32 : decode cX12_isPair 32 = .ok (.iconst 1, 1) := by decide +kernel
theorem dX12_isPair_33 : decode cX12_isPair 33 = .ok (.goto 4, 3) := by decide +kernel
theorem dX12_isPair_36 : decode cX12_isPair 36 = .ok (.iconst 0, 1) := by decide +kernel
theorem dX12_isPair_37 : decode cX12_isPair 37 = .ok (.ireturn, 1) := by decide +kernel
set_option maxRecDepth 20000 in
theorem ggX12_sayingFor_X12_sayingOf : GoodIn wsX12_sayingFor wsX12_sayingOf := goodIn_r _ [6, 1, 7, 8, 9, 10, 5, 11, 12, 13, 14, 15, 16, 17, 18, 19, 20, 21, 22, 23, 24, 25, 26, 27, 28, 29, 30, 31, 32, 33, 34, 35, 36, 37, 38, 39, 40, 41, 42, 43, 44, 45, 46, 47, 48, 49, 50, 51, 52, 53, 54, 55, 56, 57, 58, 59, 60, 61, 62] (by decide +kernel) (by decide +kernel)
set_option maxRecDepth 20000 in
theorem gX12_sayingFor_X12_sayingOf : GoodIn wsX12_sayingFor (wsV RX12 187 RX12 yX12_sayingOf wsX12_sayingOf) := goodIn_app (goodIn_of _ (by decide +kernel)) ggX12_sayingFor_X12_sayingOf
set_option maxRecDepth 20000 in
theorem ggX12_sayingFor_X12_widowers : GoodIn wsX12_sayingFor wsX12_widowers := goodIn_r _ [11, 12, 7, 28, 29, 30, 31, 32, 33, 34, 35, 36, 37, 38, 39, 40, 41, 42, 43, 44, 45, 46, 47, 48, 49, 50, 51, 52, 53, 54, 55, 56, 57, 58, 59, 60, 61, 62] (by decide +kernel) (by decide +kernel)
set_option maxRecDepth 20000 in
theorem gX12_sayingFor_X12_widowers : GoodIn wsX12_sayingFor (wsV RX12 177 RX12 yX12_widowers wsX12_widowers) := goodIn_app (goodIn_of _ (by decide +kernel)) ggX12_sayingFor_X12_widowers
theorem dX12_sayingFor_0 : decode cX12_sayingFor 0 = .ok (.iload_n 2, 1) := by decide +kernel
theorem dX12_sayingFor_1 : decode cX12_sayingFor 1 = .ok (.bipush 100, 2) := by decide +kernel
theorem dX12_sayingFor_3 : decode cX12_sayingFor 3 = .ok (.if_icmp .eq 19, 3) := by decide +kernel
theorem dX12_sayingFor_6 : decode cX12_sayingFor 6 = .ok (.aload_n 0, 1) := by decide +kernel
theorem dX12_sayingFor_7 : decode cX12_sayingFor 7 = .ok (.iload_n 1, 1) := by decide +kernel
theorem dX12_sayingFor_8 : decode cX12_sayingFor 8 = .ok (.iload_n 2, 1) := by decide +kernel
theorem dX12_sayingFor_9 : decode cX12_sayingFor 9 = .ok (.bipush 10, 2) := by decide +kernel
theorem dX12_sayingFor_11 : decode cX12_sayingFor 11 = .ok (.idiv, 1) := by decide +kernel
theorem dX12_sayingFor_12 : decode cX12_sayingFor 12 = .ok (.iload_n 2, 1) := by decide +kernel
theorem dX12_sayingFor_13 : decode cX12_sayingFor 13 = .ok (.bipush 10, 2) := by decide +kernel
theorem dX12_sayingFor_15 : decode cX12_sayingFor 15 = .ok (.irem, 1) := by decide +kernel
theorem dX12_sayingFor_16 : decode cX12_sayingFor 16 = .ok (.invokevirtual 187, 3) := by decide +kernel
theorem dX12_sayingFor_19 : decode cX12_sayingFor 19 = .ok (.goto 21, 3) := by decide +kernel
theorem dX12_sayingFor_22 : decode cX12_sayingFor 22 = .ok (.aload_n 0, 1) := by decide +kernel
theorem dX12_sayingFor_23 : decode cX12_sayingFor 23 = .ok (.getfield 19, 3) := by decide +kernel
theorem dX12_sayingFor_26 : decode cX12_sayingFor 26 = .ok (.iload_n 1, 1) := by decide +kernel
theorem dX12_sayingFor_27 : decode cX12_sayingFor 27 = .ok (.iaload, 1) := by decide +kernel
theorem dX12_sayingFor_28 : decode cX12_sayingFor 28 = .ok (.iconst 1, 1) := by decide +kernel
theorem dX12_sayingFor_29 : decode cX12_sayingFor 29 = .ok (.if_icmp .ne 10, 3) := by decide +kernel
theorem dX12_sayingFor_32 : decode cX12_sayingFor 32 = .ok (.aload_n 0, 1) := by decide +kernel
theorem dX12_sayingFor_33 : decode cX12_sayingFor 33 = .ok (.invokevirtual 177, 3) := by decide +kernel
theorem dX12_sayingFor_36 : decode cX12_sayingFor 36 = .ok (.goto 4, 3) := by decide +kernel
theorem dX12_sayingFor_39 : decode cX12_sayingFor 39 = .ok (.iconst 0, 1) := by decide +kernel
theorem dX12_sayingFor_40 : decode cX12_sayingFor 40 = .ok (.ireturn, 1) := by decide +kernel
set_option maxRecDepth 20000 in
theorem ggX12_liarsOf_X12_sayingFor : GoodIn wsX12_liarsOf wsX12_sayingFor := goodIn_r _ [8, 9, 10, 11, 12, 7, 13, 14, 15, 16, 17, 18, 19, 20, 21, 22, 23, 24, 25, 26, 27, 28, 29, 30, 31, 32, 33, 34, 35, 36, 37, 38, 39, 40, 41, 42, 43, 44, 45, 46, 47, 48, 49, 50, 51, 52, 53, 54, 55, 56, 57, 58, 59, 60, 61, 62, 63, 64, 65, 66, 67, 68, 69] (by decide +kernel) (by decide +kernel)
set_option maxRecDepth 20000 in
theorem gX12_liarsOf_X12_sayingFor : GoodIn wsX12_liarsOf (wsV RX12 256 RX12 yX12_sayingFor wsX12_sayingFor) := goodIn_app (goodIn_of _ (by decide +kernel)) ggX12_liarsOf_X12_sayingFor
theorem dX12_liarsOf_0 : decode cX12_liarsOf 0 = .ok (.iconst 0, 1) := by decide +kernel
theorem dX12_liarsOf_1 : decode cX12_liarsOf 1 = .ok (.istore_n 2, 1) := by decide +kernel
theorem dX12_liarsOf_2 : decode cX12_liarsOf 2 = .ok (.iconst 0, 1) := by decide +kernel
theorem dX12_liarsOf_3 : decode cX12_liarsOf 3 = .ok (.istore_n 3, 1) := by decide +kernel
theorem dX12_liarsOf_4 : decode cX12_liarsOf 4 = .ok (.iload_n 3, 1) := by decide +kernel
theorem dX12_liarsOf_5 : decode cX12_liarsOf 5 = .ok (.aload_n 0, 1) := by decide +kernel
theorem dX12_liarsOf_6 : decode cX12_liarsOf 6 = .ok (.getfield 156, 3) := by decide +kernel
theorem dX12_liarsOf_9 : decode cX12_liarsOf 9 = .ok (.if_icmp .ge 37, 3) := by decide +kernel
theorem dX12_liarsOf_12 : decode cX12_liarsOf 12 = .ok (.iload_n 2, 1) := by decide +kernel
theorem dX12_liarsOf_13 : decode cX12_liarsOf 13 = .ok (.aload_n 0, 1) := by decide +kernel
theorem dX12_liarsOf_14 : decode cX12_liarsOf 14 = .ok (.aload_n 0, 1) := by decide +kernel
theorem dX12_liarsOf_15 : decode cX12_liarsOf 15 = .ok (.getfield 53, 3) := by decide +kernel
theorem dX12_liarsOf_18 : decode cX12_liarsOf 18 = .ok (.iload_n 3, 1) := by decide +kernel
theorem dX12_liarsOf_19 : decode cX12_liarsOf 19 = .ok (.iaload, 1) := by decide +kernel
theorem dX12_liarsOf_20 : decode cX12_liarsOf 20 = .ok (.iload_n 1, 1) := by decide +kernel
theorem dX12_liarsOf_21 : decode cX12_liarsOf 21 = .ok (.invokevirtual 256, 3) := by decide +kernel
theorem dX12_liarsOf_24 : decode cX12_liarsOf 24 = .ok (.aload_n 0, 1) := by decide +kernel
theorem dX12_liarsOf_25 : decode cX12_liarsOf 25 = .ok (.getfield 56, 3) := by decide +kernel
theorem dX12_liarsOf_28 : decode cX12_liarsOf 28 = .ok (.iload_n 3, 1) := by decide +kernel
theorem dX12_liarsOf_29 : decode cX12_liarsOf 29 = .ok (.iaload, 1) := by decide +kernel
theorem dX12_liarsOf_30 : decode cX12_liarsOf 30 = .ok (.if_icmp .eq 7, 3) := by decide +kernel
theorem dX12_liarsOf_33 : decode cX12_liarsOf 33 = .ok (.iconst 1, 1) := by decide +kernel
theorem dX12_liarsOf_34 : decode cX12_liarsOf 34 = .ok (.goto 4, 3) := by decide +kernel
theorem dX12_liarsOf_37 : decode cX12_liarsOf 37 = .ok (.iconst 0, 1) := by decide +kernel
theorem dX12_liarsOf_38 : decode cX12_liarsOf 38 = .ok (.iadd, 1) := by decide +kernel
theorem dX12_liarsOf_39 : decode cX12_liarsOf 39 = .ok (.istore_n 2, 1) := by decide +kernel
theorem dX12_liarsOf_40 : decode cX12_liarsOf 40 = .ok (.iinc 3 1, 3) := by decide +kernel
theorem dX12_liarsOf_43 : decode cX12_liarsOf 43 = .ok (.goto (-39), 3) := by decide +kernel
theorem dX12_liarsOf_46 : decode cX12_liarsOf 46 = .ok (.iload_n 2, 1) := by decide +kernel
theorem dX12_liarsOf_47 : decode cX12_liarsOf 47 = .ok (.ireturn, 1) := by decide +kernel
set_option maxRecDepth 20000 in
theorem ggX12_births_X12_isPair : GoodIn wsX12_births wsX12_isPair := goodIn_r _ [7, 8, 9, 10, 6, 11, 12, 13, 14, 15, 16, 17, 18, 19, 20, 21, 22, 23, 1, 60, 61, 62, 63, 64, 65, 66, 67, 68, 69, 70, 71, 72, 73, 74, 75, 76, 77, 78, 79, 80, 81, 82, 83, 84, 85, 86, 87, 88, 89, 90, 91, 92, 93, 94] (by decide +kernel) (by decide +kernel)
set_option maxRecDepth 20000 in
theorem gX12_births_X12_isPair : GoodIn wsX12_births (wsV RX12 259 RX12 yX12_isPair wsX12_isPair) := goodIn_app (goodIn_of _ (by decide +kernel)) ggX12_births_X12_isPair
set_option maxRecDepth 20000 in
theorem ggX12_births_X12_liarsOf : GoodIn wsX12_births wsX12_liarsOf := goodIn_r _ [27, 28, 29, 30, 31, 32, 33, 6, 34, 35, 36, 37, 38, 39, 40, 41, 42, 43, 44, 12, 45, 46, 47, 48, 49, 50, 51, 52, 53, 54, 55, 56, 57, 58, 59, 60, 61, 62, 63, 64, 65, 66, 67, 68, 69, 70, 71, 72, 73, 74, 75, 76, 77, 78, 79, 80, 81, 82, 83, 84, 85, 86, 87, 88, 89, 90, 91, 92, 93, 94] (by decide +kernel) (by decide +kernel)
set_option maxRecDepth 20000 in
theorem gX12_births_X12_liarsOf : GoodIn wsX12_births (wsV RX12 262 RX12 yX12_liarsOf wsX12_liarsOf) := goodIn_app (goodIn_of _ (by decide +kernel)) ggX12_births_X12_liarsOf
theorem dX12_births_0 : decode cX12_births 0 = .ok (.aload_n 0, 1) := by decide +kernel
theorem dX12_births_1 : decode cX12_births 1 = .ok (.getfield 75, 3) := by decide +kernel
theorem dX12_births_4 : decode cX12_births 4 = .ok (.ifCond .ne 6, 3) := by decide +kernel
theorem dX12_births_7 : decode cX12_births 7 = .ok (.ldc 204, 2) := by decide +kernel
theorem dX12_births_9 : decode cX12_births 9 = .ok (.ireturn, 1) := by decide +kernel
theorem dX12_births_10 : decode cX12_births 10 = .ok (.iconst 0, 1) := by decide +kernel
theorem dX12_births_11 : decode cX12_births 11 = .ok (.istore_n 2, 1) := by decide +kernel
theorem dX12_births_12 : decode cX12_births 12 = .ok (.iconst 0, 1) := by decide +kernel
theorem dX12_births_13 : decode cX12_births 13 = .ok (.istore_n 3, 1) := by decide +kernel
theorem dX12_births_14 : decode cX12_births 14 = .ok (.iload_n 3, 1) := by decide +kernel
theorem dX12_births_15 : decode cX12_births 15 = .ok (.bipush 100, 2) := by decide +kernel
theorem dX12_births_17 : decode cX12_births 17 = .ok (.if_icmp .gt 35, 3) := by decide +kernel
theorem dX12_births_20 : decode cX12_births 20 = .ok (.aload_n 0, 1) := by decide +kernel
theorem dX12_births_21 : decode cX12_births 21 = .ok (.iload_n 3, 1) := by decide +kernel
theorem dX12_births_22 : decode cX12_births 22 = .ok (.invokevirtual 259, 3) := by decide +kernel
theorem dX12_births_25 : decode cX12_births 25 = .ok (.ifCond .eq 21, 3) := by decide +kernel
theorem dX12_births_28 : decode cX12_births 28 = .ok (.aload_n 0, 1) := by decide +kernel
theorem dX12_births_29 : decode cX12_births 29 = .ok (.iload_n 3, 1) := by decide +kernel
theorem dX12_births_30 : decode cX12_births 30 = .ok (.invokevirtual 262, 3) := by decide +kernel
theorem dX12_births_33 : decode cX12_births 33 = .ok (.ifCond .ne 13, 3) := by decide +kernel
theorem dX12_births_36 : decode cX12_births 36 = .ok (.iload_n 2, 1) := by decide +kernel
theorem dX12_births_37 : decode cX12_births 37 = .ok (.iload_n 1, 1) := by decide +kernel
theorem dX12_births_38 : decode cX12_births 38 = .ok (.if_icmp .ne 5, 3) := by decide +kernel
theorem dX12_births_41 : decode cX12_births 41 = .ok (.iload_n 3, 1) := by decide +kernel
theorem dX12_births_42 : decode cX12_births 42 = .ok (.ireturn, 1) := by decide +kernel
theorem dX12_births_43 : decode cX12_births 43 = .ok (.iinc 2 1, 3) := by decide +kernel
theorem dX12_births_46 : decode cX12_births 46 = .ok (.iinc 3 1, 3) := by decide +kernel
theorem dX12_births_49 : decode cX12_births 49 = .ok (.goto (-35), 3) := by decide +kernel
theorem dX12_births_52 : decode cX12_births 52 = .ok (.iload_n 1, 1) := by decide +kernel
theorem dX12_births_53 : decode cX12_births 53 = .ok (.iconst (-1), 1) := by decide +kernel
theorem dX12_births_54 : decode cX12_births 54 = .ok (.if_icmp .ne 7, 3) := by decide +kernel
theorem dX12_births_57 : decode cX12_births 57 = .ok (.iload_n 2, 1) := by decide +kernel
theorem dX12_births_58 : decode cX12_births 58 = .ok (.goto 4, 3) := by decide +kernel
theorem dX12_births_61 : decode cX12_births 61 = .ok (.iconst (-1), 1) := by decide +kernel
theorem dX12_births_62 : decode cX12_births 62 = .ok (.ireturn, 1) := by decide +kernel
set_option maxRecDepth 20000 in
theorem ggX12_liars_X12_isPair : GoodIn wsX12_liars wsX12_isPair := goodIn_r _ [8, 9, 10, 11, 7, 12, 13, 14, 15, 16, 17, 18, 19, 20, 21, 22, 23, 24, 2, 61, 62, 63, 64, 65, 66, 67, 68, 69, 70, 71, 72, 73, 74, 75, 76, 77, 78, 79, 80, 81, 82, 83, 84, 85, 86, 87, 88, 89, 90, 91, 92, 93, 94, 95] (by decide +kernel) (by decide +kernel)
set_option maxRecDepth 20000 in
theorem gX12_liars_X12_isPair : GoodIn wsX12_liars (wsV RX12 259 RX12 yX12_isPair wsX12_isPair) := goodIn_app (goodIn_of _ (by decide +kernel)) ggX12_liars_X12_isPair
set_option maxRecDepth 20000 in
theorem ggX12_liars_X12_liarsOf : GoodIn wsX12_liars wsX12_liarsOf := goodIn_r _ [28, 29, 30, 31, 32, 33, 34, 7, 35, 36, 37, 38, 39, 40, 41, 42, 43, 44, 45, 13, 46, 47, 48, 49, 50, 51, 52, 53, 54, 55, 56, 57, 58, 59, 60, 61, 62, 63, 64, 65, 66, 67, 68, 69, 70, 71, 72, 73, 74, 75, 76, 77, 78, 79, 80, 81, 82, 83, 84, 85, 86, 87, 88, 89, 90, 91, 92, 93, 94, 95] (by decide +kernel) (by decide +kernel)
set_option maxRecDepth 20000 in
theorem gX12_liars_X12_liarsOf : GoodIn wsX12_liars (wsV RX12 262 RX12 yX12_liarsOf wsX12_liarsOf) := goodIn_app (goodIn_of _ (by decide +kernel)) ggX12_liars_X12_liarsOf
theorem dX12_liars_0 : decode cX12_liars 0 = .ok (.aload_n 0, 1) := by decide +kernel
theorem dX12_liars_1 : decode cX12_liars 1 = .ok (.iload_n 1, 1) := by decide +kernel
theorem dX12_liars_2 : decode cX12_liars 2 = .ok (.invokevirtual 259, 3) := by decide +kernel
theorem dX12_liars_5 : decode cX12_liars 5 = .ok (.ifCond .ne 6, 3) := by decide +kernel
theorem dX12_liars_8 : decode cX12_liars 8 = .ok (.ldc 165, 2) := by decide +kernel
theorem dX12_liars_10 : decode cX12_liars 10 = .ok (.ireturn, 1) := by decide +kernel
theorem dX12_liars_11 : decode cX12_liars 11 = .ok (.aload_n 0, 1) := by decide +kernel
theorem dX12_liars_12 : decode cX12_liars 12 = .ok (.getfield 75, 3) := by decide +kernel
theorem dX12_liars_15 : decode cX12_liars 15 = .ok (.ifCond .ne 8, 3) := by decide +kernel
theorem dX12_liars_18 : decode cX12_liars 18 = .ok (.ldc 204, 2) := by decide +kernel
theorem dX12_liars_20 : decode cX12_liars 20 = .ok (.goto 8, 3) := by decide +kernel
theorem dX12_liars_23 : decode cX12_liars 23 = .ok (.aload_n 0, 1) := by decide +kernel
theorem dX12_liars_24 : decode cX12_liars 24 = .ok (.iload_n 1, 1) := by decide +kernel
theorem dX12_liars_25 : decode cX12_liars 25 = .ok (.invokevirtual 262, 3) := by decide +kernel
theorem dX12_liars_28 : decode cX12_liars 28 = .ok (.ireturn, 1) := by decide +kernel
set_option maxRecDepth 20000 in
theorem ggX12_leastLiars_X12_in : GoodIn wsX12_leastLiars wsX12_in := goodIn_r _ [7] (by decide +kernel) (by decide +kernel)
set_option maxRecDepth 20000 in
theorem gX12_leastLiars_X12_in : GoodIn wsX12_leastLiars (va_wsS RX12 82 yX12_in wsX12_in) := goodIn_app (goodIn_of _ (by decide +kernel)) ggX12_leastLiars_X12_in
set_option maxRecDepth 20000 in
theorem ggX12_leastLiars_X12_isPair : GoodIn wsX12_leastLiars wsX12_isPair := goodIn_r _ [11, 12, 13, 14, 6, 15, 16, 4, 5, 7, 17, 18, 19, 20, 21, 22, 23, 24, 2, 61, 62, 63, 64, 65, 66, 67, 68, 69, 70, 71, 72, 73, 74, 75, 76, 77, 78, 79, 80, 81, 82, 83, 84, 85, 86, 87, 88, 89, 90, 91, 92, 93, 94, 95] (by decide +kernel) (by decide +kernel)
set_option maxRecDepth 20000 in
theorem gX12_leastLiars_X12_isPair : GoodIn wsX12_leastLiars (wsV RX12 259 RX12 yX12_isPair wsX12_isPair) := goodIn_app (goodIn_of _ (by decide +kernel)) ggX12_leastLiars_X12_isPair
set_option maxRecDepth 20000 in
theorem ggX12_leastLiars_X12_liarsOf : GoodIn wsX12_leastLiars wsX12_liarsOf := goodIn_r _ [28, 29, 30, 31, 32, 33, 34, 6, 35, 36, 37, 38, 39, 40, 41, 42, 43, 44, 45, 16, 46, 47, 48, 49, 50, 51, 52, 53, 54, 55, 56, 57, 58, 59, 60, 61, 62, 63, 64, 65, 66, 67, 68, 69, 70, 71, 72, 73, 74, 75, 76, 77, 78, 79, 80, 81, 82, 83, 84, 85, 86, 87, 88, 89, 90, 91, 92, 93, 94, 95] (by decide +kernel) (by decide +kernel)
set_option maxRecDepth 20000 in
theorem gX12_leastLiars_X12_liarsOf : GoodIn wsX12_leastLiars (wsV RX12 262 RX12 yX12_liarsOf wsX12_liarsOf) := goodIn_app (goodIn_of _ (by decide +kernel)) ggX12_leastLiars_X12_liarsOf
theorem dX12_leastLiars_0 : decode cX12_leastLiars 0 = .ok (.iload_n 1, 1) := by decide +kernel
theorem dX12_leastLiars_1 : decode cX12_leastLiars 1 = .ok (.i2l, 1) := by decide +kernel
theorem dX12_leastLiars_2 : decode cX12_leastLiars 2 = .ok (.lconst 0, 1) := by decide +kernel
theorem dX12_leastLiars_3 : decode cX12_leastLiars 3 = .ok (.lconst 1, 1) := by decide +kernel
theorem dX12_leastLiars_4 : decode cX12_leastLiars 4 = .ok (.invokestatic 82, 3) := by decide +kernel
theorem dX12_leastLiars_7 : decode cX12_leastLiars 7 = .ok (.ifCond .ne 6, 3) := by decide +kernel
theorem dX12_leastLiars_10 : decode cX12_leastLiars 10 = .ok (.ldc 94, 2) := by decide +kernel
theorem dX12_leastLiars_12 : decode cX12_leastLiars 12 = .ok (.ireturn, 1) := by decide +kernel
theorem dX12_leastLiars_13 : decode cX12_leastLiars 13 = .ok (.aload_n 0, 1) := by decide +kernel
theorem dX12_leastLiars_14 : decode cX12_leastLiars 14 = .ok (.getfield 75, 3) := by decide +kernel
theorem dX12_leastLiars_17 : decode cX12_leastLiars 17 = .ok (.ifCond .ne 6, 3) := by decide +kernel
theorem dX12_leastLiars_20 : decode cX12_leastLiars 20 = .ok (.ldc 204, 2) := by decide +kernel
theorem dX12_leastLiars_22 : decode cX12_leastLiars 22 = .ok (.ireturn, 1) := by decide +kernel
theorem dX12_leastLiars_23 : decode cX12_leastLiars 23 = .ok (.bipush 100, 2) := by decide +kernel
theorem dX12_leastLiars_25 : decode cX12_leastLiars 25 = .ok (.istore_n 2, 1) := by decide +kernel
theorem dX12_leastLiars_26 : decode cX12_leastLiars 26 = .ok (.bipush 100, 2) := by decide +kernel
theorem dX12_leastLiars_28 : decode cX12_leastLiars 28 = .ok (.istore_n 3, 1) := by decide +kernel
theorem dX12_leastLiars_29 : decode cX12_leastLiars 29 = .ok (.iload_n 3, 1) := by decide +kernel
theorem dX12_leastLiars_30 : decode cX12_leastLiars 30 = .ok (.ifCond .lt 36, 3) := by decide +kernel
theorem dX12_leastLiars_33 : decode cX12_leastLiars 33 = .ok (.aload_n 0, 1) := by decide +kernel
theorem dX12_leastLiars_34 : decode cX12_leastLiars 34 = .ok (.iload_n 3, 1) := by decide +kernel
theorem dX12_leastLiars_35 : decode cX12_leastLiars 35 = .ok (.invokevirtual 259, 3) := by decide +kernel
theorem dX12_leastLiars_38 : decode cX12_leastLiars 38 = .ok (.ifCond .eq 20, 3) := by decide +kernel
theorem dX12_leastLiars_41 : decode cX12_leastLiars 41 = .ok (.aload_n 0, 1) := by decide +kernel
theorem dX12_leastLiars_42 : decode cX12_leastLiars 42 = .ok (.iload_n 3, 1) := by decide +kernel
theorem dX12_leastLiars_43 : decode cX12_leastLiars 43 = .ok (.invokevirtual 262, 3) := by decide +kernel
theorem dX12_leastLiars_46 : decode cX12_leastLiars 46 = .ok (.aload_n 0, 1) := by decide +kernel
theorem dX12_leastLiars_47 : decode cX12_leastLiars 47 = .ok (.iload_n 2, 1) := by decide +kernel
theorem dX12_leastLiars_48 : decode cX12_leastLiars 48 = .ok (.invokevirtual 262, 3) := by decide +kernel
theorem dX12_leastLiars_51 : decode cX12_leastLiars 51 = .ok (.if_icmp .gt 7, 3) := by decide +kernel
theorem dX12_leastLiars_54 : decode cX12_leastLiars 54 = .ok (.iload_n 3, 1) := by decide +kernel
theorem dX12_leastLiars_55 : decode cX12_leastLiars 55 = .ok (.goto 4, 3) := by decide +kernel
theorem dX12_leastLiars_58 : decode cX12_leastLiars 58 = .ok (.iload_n 2, 1) := by decide +kernel
theorem dX12_leastLiars_59 : decode cX12_leastLiars 59 = .ok (.istore_n 2, 1) := by decide +kernel
theorem dX12_leastLiars_60 : decode cX12_leastLiars 60 = .ok (.iinc 3 (-1), 3) := by decide +kernel
theorem dX12_leastLiars_63 : decode cX12_leastLiars 63 = .ok (.goto (-34), 3) := by decide +kernel
theorem dX12_leastLiars_66 : decode cX12_leastLiars 66 = .ok (.iload_n 1, 1) := by decide +kernel
theorem dX12_leastLiars_67 : decode cX12_leastLiars 67 = .ok (.ifCond .ne 7, 3) := by decide +kernel
theorem dX12_leastLiars_70 : decode cX12_leastLiars 70 = .ok (.iload_n 2, 1) := by decide +kernel
theorem dX12_leastLiars_71 : decode cX12_leastLiars 71 = .ok (.goto 8, 3) := by decide +kernel
theorem dX12_leastLiars_74 : decode cX12_leastLiars 74 = .ok (.aload_n 0, 1) := by decide +kernel
theorem dX12_leastLiars_75 : decode cX12_leastLiars 75 = .ok (.iload_n 2, 1) := by decide +kernel
theorem dX12_leastLiars_76 : decode cX12_leastLiars 76 = .ok (.invokevirtual 262, 3) := by decide +kernel
theorem dX12_leastLiars_79 : decode cX12_leastLiars 79 = .ok (.ireturn, 1) := by decide +kernel
set_option maxRecDepth 20000 in
theorem ggX12_greatestPart_X12_isPair : GoodIn wsX12_greatestPart wsX12_isPair := goodIn_r _ [6, 7, 8, 9, 5, 10, 11, 12, 13, 14, 15, 16, 17, 18, 19, 20, 21, 22, 23, 60, 61, 62, 63, 64, 65, 66, 67, 68, 69, 70, 71, 72, 73, 74, 75, 76, 77, 78, 79, 80, 81, 82, 83, 84, 85, 86, 87, 88, 89, 90, 91, 92, 93, 94] (by decide +kernel) (by decide +kernel)
set_option maxRecDepth 20000 in
theorem gX12_greatestPart_X12_isPair : GoodIn wsX12_greatestPart (wsV RX12 259 RX12 yX12_isPair wsX12_isPair) := goodIn_app (goodIn_of _ (by decide +kernel)) ggX12_greatestPart_X12_isPair
set_option maxRecDepth 20000 in
theorem ggX12_greatestPart_X12_liarsOf : GoodIn wsX12_greatestPart wsX12_liarsOf := goodIn_r _ [27, 28, 29, 30, 31, 32, 33, 5, 34, 35, 36, 37, 38, 39, 40, 41, 42, 43, 44, 11, 45, 46, 47, 48, 49, 50, 51, 52, 53, 54, 55, 56, 57, 58, 59, 60, 61, 62, 63, 64, 65, 66, 67, 68, 69, 70, 71, 72, 73, 74, 75, 76, 77, 78, 79, 80, 81, 82, 83, 84, 85, 86, 87, 88, 89, 90, 91, 92, 93, 94] (by decide +kernel) (by decide +kernel)
set_option maxRecDepth 20000 in
theorem gX12_greatestPart_X12_liarsOf : GoodIn wsX12_greatestPart (wsV RX12 262 RX12 yX12_liarsOf wsX12_liarsOf) := goodIn_app (goodIn_of _ (by decide +kernel)) ggX12_greatestPart_X12_liarsOf
set_option maxRecDepth 20000 in
theorem ggX12_greatestPart_X12_sayingFor : GoodIn wsX12_greatestPart wsX12_sayingFor := goodIn_r _ [34, 35, 36, 37, 38, 5, 39, 40, 41, 42, 43, 44, 11, 45, 46, 47, 48, 49, 50, 51, 52, 53, 54, 55, 56, 57, 58, 59, 60, 61, 62, 63, 64, 65, 66, 67, 68, 69, 70, 71, 72, 73, 74, 75, 76, 77, 78, 79, 80, 81, 82, 83, 84, 85, 86, 87, 88, 89, 90, 91, 92, 93, 94] (by decide +kernel) (by decide +kernel)
set_option maxRecDepth 20000 in
theorem gX12_greatestPart_X12_sayingFor : GoodIn wsX12_greatestPart (wsV RX12 256 RX12 yX12_sayingFor wsX12_sayingFor) := goodIn_app (goodIn_of _ (by decide +kernel)) ggX12_greatestPart_X12_sayingFor
theorem dX12_greatestPart_0 : decode cX12_greatestPart 0 = .ok (.iconst 0, 1) := by decide +kernel
theorem dX12_greatestPart_1 : decode cX12_greatestPart 1 = .ok (.istore_n 2, 1) := by decide +kernel
theorem dX12_greatestPart_2 : decode cX12_greatestPart 2 = .ok (.iload_n 2, 1) := by decide +kernel
theorem dX12_greatestPart_3 : decode cX12_greatestPart 3 = .ok (.bipush 12, 2) := by decide +kernel
theorem dX12_greatestPart_5 : decode cX12_greatestPart 5 = .ok (.if_icmp .ge 16, 3) := by decide +kernel
theorem dX12_greatestPart_8 : decode cX12_greatestPart 8 = .ok (.aload_n 0, 1) := by decide +kernel
theorem dX12_greatestPart_9 : decode cX12_greatestPart 9 = .ok (.getfield 59, 3) := by decide +kernel
theorem dX12_greatestPart_12 : decode cX12_greatestPart 12 = .ok (.iload_n 2, 1) := by decide +kernel
theorem dX12_greatestPart_13 : decode cX12_greatestPart 13 = .ok (.iconst 0, 1) := by decide +kernel
theorem dX12_greatestPart_14 : decode cX12_greatestPart 14 = .ok (.iastore, 1) := by decide +kernel
theorem dX12_greatestPart_15 : decode cX12_greatestPart 15 = .ok (.iinc 2 1, 3) := by decide +kernel
theorem dX12_greatestPart_18 : decode cX12_greatestPart 18 = .ok (.goto (-16), 3) := by decide +kernel
theorem dX12_greatestPart_21 : decode cX12_greatestPart 21 = .ok (.iconst 0, 1) := by decide +kernel
theorem dX12_greatestPart_22 : decode cX12_greatestPart 22 = .ok (.istore_n 2, 1) := by decide +kernel
theorem dX12_greatestPart_23 : decode cX12_greatestPart 23 = .ok (.iconst 0, 1) := by decide +kernel
theorem dX12_greatestPart_24 : decode cX12_greatestPart 24 = .ok (.istore_n 3, 1) := by decide +kernel
theorem dX12_greatestPart_25 : decode cX12_greatestPart 25 = .ok (.iload_n 3, 1) := by decide +kernel
theorem dX12_greatestPart_26 : decode cX12_greatestPart 26 = .ok (.bipush 100, 2) := by decide +kernel
theorem dX12_greatestPart_28 : decode cX12_greatestPart 28 = .ok (.if_icmp .gt 67, 3) := by decide +kernel
theorem dX12_greatestPart_31 : decode cX12_greatestPart 31 = .ok (.aload_n 0, 1) := by decide +kernel
theorem dX12_greatestPart_32 : decode cX12_greatestPart 32 = .ok (.iload_n 3, 1) := by decide +kernel
theorem dX12_greatestPart_33 : decode cX12_greatestPart 33 = .ok (.invokevirtual 259, 3) := by decide +kernel
theorem dX12_greatestPart_36 : decode cX12_greatestPart 36 = .ok (.ifCond .eq 53, 3) := by decide +kernel
theorem dX12_greatestPart_39 : decode cX12_greatestPart 39 = .ok (.aload_n 0, 1) := by decide +kernel
theorem dX12_greatestPart_40 : decode cX12_greatestPart 40 = .ok (.iload_n 3, 1) := by decide +kernel
theorem dX12_greatestPart_41 : decode cX12_greatestPart 41 = .ok (.invokevirtual 262, 3) := by decide +kernel
theorem dX12_greatestPart_44 : decode cX12_greatestPart 44 = .ok (.ifCond .ne 45, 3) := by decide +kernel
theorem dX12_greatestPart_47 : decode cX12_greatestPart 47 = .ok (.aload_n 0, 1) := by decide +kernel
theorem dX12_greatestPart_48 : decode cX12_greatestPart 48 = .ok (.iload_n 1, 1) := by decide +kernel
theorem dX12_greatestPart_49 : decode cX12_greatestPart 49 = .ok (.iload_n 3, 1) := by decide +kernel
theorem dX12_greatestPart_50 : decode cX12_greatestPart 50 = .ok (.invokevirtual 256, 3) := by decide +kernel
theorem dX12_greatestPart_53 : decode cX12_greatestPart 53 = .ok (.istore 4, 2) := by decide +kernel
theorem dX12_greatestPart_55 : decode cX12_greatestPart 55 = .ok (.aload_n 0, 1) := by decide +kernel
theorem dX12_greatestPart_56 : decode cX12_greatestPart 56 = .ok (.getfield 59, 3) := by decide +kernel
theorem dX12_greatestPart_59 : decode cX12_greatestPart 59 = .ok (.iload 4, 2) := by decide +kernel
theorem dX12_greatestPart_61 : decode cX12_greatestPart 61 = .ok (.dup2, 1) := by decide +kernel
theorem dX12_greatestPart_62 : decode cX12_greatestPart 62 = .ok (.iaload, 1) := by decide +kernel
theorem dX12_greatestPart_63 : decode cX12_greatestPart 63 = .ok (.iconst 1, 1) := by decide +kernel
theorem dX12_greatestPart_64 : decode cX12_greatestPart 64 = .ok (.iadd, 1) := by decide +kernel
theorem dX12_greatestPart_65 : decode cX12_greatestPart 65 = .ok (.iastore, 1) := by decide +kernel
theorem dX12_greatestPart_66 : decode cX12_greatestPart 66 = .ok (.aload_n 0, 1) := by decide +kernel
theorem dX12_greatestPart_67 : decode cX12_greatestPart 67 = .ok (.getfield 59, 3) := by decide +kernel
theorem dX12_greatestPart_70 : decode cX12_greatestPart 70 = .ok (.iload 4, 2) := by decide +kernel
theorem dX12_greatestPart_72 : decode cX12_greatestPart 72 = .ok (.iaload, 1) := by decide +kernel
theorem dX12_greatestPart_73 : decode cX12_greatestPart 73 = .ok (.iload_n 2, 1) := by decide +kernel
theorem dX12_greatestPart_74 : decode cX12_greatestPart 74 = .ok (.if_icmp .le 13, 3) := by decide +kernel
theorem dX12_greatestPart_77 : decode cX12_greatestPart 77 = .ok (.aload_n 0, 1) := by decide +kernel
theorem dX12_greatestPart_78 : decode cX12_greatestPart 78 = .ok (.getfield 59, 3) := by decide +kernel
theorem dX12_greatestPart_81 : decode cX12_greatestPart 81 = .ok (.iload 4, 2) := by decide +kernel
theorem dX12_greatestPart_83 : decode cX12_greatestPart 83 = .ok (.iaload, 1) := by decide +kernel
theorem dX12_greatestPart_84 : decode cX12_greatestPart 84 = .ok (.goto 4, 3) := by decide +kernel
theorem dX12_greatestPart_87 : decode cX12_greatestPart 87 = .ok (.iload_n 2, 1) := by decide +kernel
theorem dX12_greatestPart_88 : decode cX12_greatestPart 88 = .ok (.istore_n 2, 1) := by decide +kernel
theorem dX12_greatestPart_89 : decode cX12_greatestPart 89 = .ok (.iinc 3 1, 3) := by decide +kernel
theorem dX12_greatestPart_92 : decode cX12_greatestPart 92 = .ok (.goto (-67), 3) := by decide +kernel
theorem dX12_greatestPart_95 : decode cX12_greatestPart 95 = .ok (.iload_n 2, 1) := by decide +kernel
theorem dX12_greatestPart_96 : decode cX12_greatestPart 96 = .ok (.ireturn, 1) := by decide +kernel
set_option maxRecDepth 20000 in
theorem ggX12_ask_X12_births : GoodIn wsX12_ask wsX12_births := goodIn_r _ [8, 1, 2, 9, 10, 11, 7, 12, 13, 14, 15, 16, 17, 18, 19, 20, 21, 22, 23, 24, 25, 26, 27, 28, 29, 30, 31, 32, 33, 34, 35, 36, 37, 38, 39, 40, 41, 42, 43, 44, 45, 46, 47, 48, 49, 50, 51, 52, 53, 54, 55, 56, 57, 58, 59, 60, 61, 62, 63, 64, 70, 71, 72, 73, 74, 75, 76, 77, 78, 79, 80, 81, 82, 83, 84, 85, 86, 87, 88, 89, 90, 91, 92, 93, 94, 95, 96, 97, 98, 99, 100, 101, 102, 103, 104] (by decide +kernel) (by decide +kernel)
set_option maxRecDepth 20000 in
theorem gX12_ask_X12_births : GoodIn wsX12_ask (wsV RX12 265 RX12 yX12_births wsX12_births) := goodIn_app (goodIn_of _ (by decide +kernel)) ggX12_ask_X12_births
set_option maxRecDepth 20000 in
theorem ggX12_ask_X12_greatestPart : GoodIn wsX12_ask wsX12_greatestPart := goodIn_r _ [68, 69, 9, 10, 11, 7, 12, 13, 14, 15, 16, 17, 18, 19, 20, 21, 22, 23, 24, 25, 26, 27, 28, 1, 29, 30, 31, 32, 33, 34, 35, 36, 37, 38, 39, 40, 41, 42, 43, 44, 45, 46, 47, 48, 49, 50, 51, 52, 53, 54, 55, 56, 57, 58, 59, 60, 61, 62, 63, 64, 70, 71, 72, 73, 74, 75, 76, 77, 78, 79, 80, 81, 82, 83, 84, 85, 86, 87, 88, 89, 90, 91, 92, 93, 94, 95, 96, 97, 98, 99, 100, 101, 102, 103, 104] (by decide +kernel) (by decide +kernel)
set_option maxRecDepth 20000 in
theorem gX12_ask_X12_greatestPart : GoodIn wsX12_ask (wsV RX12 268 RX12 yX12_greatestPart wsX12_greatestPart) := goodIn_app (goodIn_of _ (by decide +kernel)) ggX12_ask_X12_greatestPart
theorem dX12_ask_0 : decode cX12_ask 0 = .ok (.aload_n 0, 1) := by decide +kernel
theorem dX12_ask_1 : decode cX12_ask 1 = .ok (.getfield 75, 3) := by decide +kernel
theorem dX12_ask_4 : decode cX12_ask 4 = .ok (.ifCond .ne 6, 3) := by decide +kernel
theorem dX12_ask_7 : decode cX12_ask 7 = .ok (.ldc 204, 2) := by decide +kernel
theorem dX12_ask_9 : decode cX12_ask 9 = .ok (.ireturn, 1) := by decide +kernel
theorem dX12_ask_10 : decode cX12_ask 10 = .ok (.iconst (-1), 1) := by decide +kernel
theorem dX12_ask_11 : decode cX12_ask 11 = .ok (.istore_n 1, 1) := by decide +kernel
theorem dX12_ask_12 : decode cX12_ask 12 = .ok (.aload_n 0, 1) := by decide +kernel
theorem dX12_ask_13 : decode cX12_ask 13 = .ok (.iconst (-1), 1) := by decide +kernel
theorem dX12_ask_14 : decode cX12_ask 14 = .ok (.invokevirtual 265, 3) := by decide +kernel
theorem dX12_ask_17 : decode cX12_ask 17 = .ok (.istore_n 2, 1) := by decide +kernel
theorem dX12_ask_18 : decode cX12_ask 18 = .ok (.iconst 0, 1) := by decide +kernel
theorem dX12_ask_19 : decode cX12_ask 19 = .ok (.istore_n 3, 1) := by decide +kernel
theorem dX12_ask_20 : decode cX12_ask 20 = .ok (.iload_n 3, 1) := by decide +kernel
theorem dX12_ask_21 : decode cX12_ask 21 = .ok (.aload_n 0, 1) := by decide +kernel
theorem dX12_ask_22 : decode cX12_ask 22 = .ok (.getfield 89, 3) := by decide +kernel
theorem dX12_ask_25 : decode cX12_ask 25 = .ok (.if_icmp .ge 41, 3) := by decide +kernel
theorem dX12_ask_28 : decode cX12_ask 28 = .ok (.aload_n 0, 1) := by decide +kernel
theorem dX12_ask_29 : decode cX12_ask 29 = .ok (.iload_n 3, 1) := by decide +kernel
theorem dX12_ask_30 : decode cX12_ask 30 = .ok (.invokevirtual 268, 3) := by decide +kernel
theorem dX12_ask_33 : decode cX12_ask 33 = .ok (.istore 4, 2) := by decide +kernel
theorem dX12_ask_35 : decode cX12_ask 35 = .ok (.iload 4, 2) := by decide +kernel
theorem dX12_ask_37 : decode cX12_ask 37 = .ok (.iload_n 2, 1) := by decide +kernel
theorem dX12_ask_38 : decode cX12_ask 38 = .ok (.if_icmp .ge 7, 3) := by decide +kernel
theorem dX12_ask_41 : decode cX12_ask 41 = .ok (.iload_n 3, 1) := by decide +kernel
theorem dX12_ask_42 : decode cX12_ask 42 = .ok (.goto 4, 3) := by decide +kernel
theorem dX12_ask_45 : decode cX12_ask 45 = .ok (.iload_n 1, 1) := by decide +kernel
theorem dX12_ask_46 : decode cX12_ask 46 = .ok (.istore_n 1, 1) := by decide +kernel
theorem dX12_ask_47 : decode cX12_ask 47 = .ok (.iload 4, 2) := by decide +kernel
theorem dX12_ask_49 : decode cX12_ask 49 = .ok (.iload_n 2, 1) := by decide +kernel
theorem dX12_ask_50 : decode cX12_ask 50 = .ok (.if_icmp .ge 8, 3) := by decide +kernel
theorem dX12_ask_53 : decode cX12_ask 53 = .ok (.iload 4, 2) := by decide +kernel
theorem dX12_ask_55 : decode cX12_ask 55 = .ok (.goto 4, 3) := by decide +kernel
theorem dX12_ask_58 : decode cX12_ask 58 = .ok (.iload_n 2, 1) := by decide +kernel
theorem dX12_ask_59 : decode cX12_ask 59 = .ok (.istore_n 2, 1) := by decide +kernel
theorem dX12_ask_60 : decode cX12_ask 60 = .ok (.iinc 3 1, 3) := by decide +kernel
theorem dX12_ask_63 : decode cX12_ask 63 = .ok (.goto (-43), 3) := by decide +kernel
theorem dX12_ask_66 : decode cX12_ask 66 = .ok (.iload_n 1, 1) := by decide +kernel
theorem dX12_ask_67 : decode cX12_ask 67 = .ok (.ireturn, 1) := by decide +kernel
set_option maxRecDepth 20000 in
theorem ggX12_write_X12_in : GoodIn wsX12_write wsX12_in := goodIn_r _ [9] (by decide +kernel) (by decide +kernel)
set_option maxRecDepth 20000 in
theorem gX12_write_X12_in : GoodIn wsX12_write (va_wsS RX12 82 yX12_in wsX12_in) := goodIn_app (goodIn_of _ (by decide +kernel)) ggX12_write_X12_in
theorem dX12_write_0 : decode cX12_write 0 = .ok (.iload_n 1, 1) := by decide +kernel
theorem dX12_write_1 : decode cX12_write 1 = .ok (.i2l, 1) := by decide +kernel
theorem dX12_write_2 : decode cX12_write 2 = .ok (.lconst 0, 1) := by decide +kernel
theorem dX12_write_3 : decode cX12_write 3 = .ok (.ldc2_w 271, 3) := by decide +kernel
theorem dX12_write_6 : decode cX12_write 6 = .ok (.invokestatic 82, 3) := by decide +kernel
theorem dX12_write_9 : decode cX12_write 9 = .ok (.ifCond .ne 6, 3) := by decide +kernel
theorem dX12_write_12 : decode cX12_write 12 = .ok (.ldc 94, 2) := by decide +kernel
theorem dX12_write_14 : decode cX12_write 14 = .ok (.ireturn, 1) := by decide +kernel
theorem dX12_write_15 : decode cX12_write 15 = .ok (.aload_n 0, 1) := by decide +kernel
theorem dX12_write_16 : decode cX12_write 16 = .ok (.getfield 159, 3) := by decide +kernel
theorem dX12_write_19 : decode cX12_write 19 = .ok (.bipush 15, 2) := by decide +kernel
theorem dX12_write_21 : decode cX12_write 21 = .ok (.if_icmp .ne 6, 3) := by decide +kernel
theorem dX12_write_24 : decode cX12_write 24 = .ok (.ldc 98, 2) := by decide +kernel
theorem dX12_write_26 : decode cX12_write 26 = .ok (.ireturn, 1) := by decide +kernel
theorem dX12_write_27 : decode cX12_write 27 = .ok (.aload_n 0, 1) := by decide +kernel
theorem dX12_write_28 : decode cX12_write 28 = .ok (.getfield 62, 3) := by decide +kernel
theorem dX12_write_31 : decode cX12_write 31 = .ok (.aload_n 0, 1) := by decide +kernel
theorem dX12_write_32 : decode cX12_write 32 = .ok (.getfield 159, 3) := by decide +kernel
theorem dX12_write_35 : decode cX12_write 35 = .ok (.iload_n 1, 1) := by decide +kernel
theorem dX12_write_36 : decode cX12_write 36 = .ok (.iastore, 1) := by decide +kernel
theorem dX12_write_37 : decode cX12_write 37 = .ok (.aload_n 0, 1) := by decide +kernel
theorem dX12_write_38 : decode cX12_write 38 = .ok (.dup, 1) := by decide +kernel
theorem dX12_write_39 : decode cX12_write 39 = .ok (.getfield 159, 3) := by decide +kernel
theorem dX12_write_42 : decode cX12_write 42 = .ok (.iconst 1, 1) := by decide +kernel
theorem dX12_write_43 : decode cX12_write 43 = .ok (.iadd, 1) := by decide +kernel
theorem dX12_write_44 : decode cX12_write 44 = .ok (.putfield 159, 3) := by decide +kernel
theorem dX12_write_47 : decode cX12_write 47 = .ok (.aload_n 0, 1) := by decide +kernel
theorem dX12_write_48 : decode cX12_write 48 = .ok (.getfield 159, 3) := by decide +kernel
theorem dX12_write_51 : decode cX12_write 51 = .ok (.ireturn, 1) := by decide +kernel
theorem dX12_tear_0 : decode cX12_tear 0 = .ok (.aload_n 0, 1) := by decide +kernel
theorem dX12_tear_1 : decode cX12_tear 1 = .ok (.getfield 156, 3) := by decide +kernel
theorem dX12_tear_4 : decode cX12_tear 4 = .ok (.aload_n 0, 1) := by decide +kernel
theorem dX12_tear_5 : decode cX12_tear 5 = .ok (.getfield 159, 3) := by decide +kernel
theorem dX12_tear_8 : decode cX12_tear 8 = .ok (.iadd, 1) := by decide +kernel
theorem dX12_tear_9 : decode cX12_tear 9 = .ok (.istore_n 1, 1) := by decide +kernel
theorem dX12_tear_10 : decode cX12_tear 10 = .ok (.aload_n 0, 1) := by decide +kernel
theorem dX12_tear_11 : decode cX12_tear 11 = .ok (.iconst 0, 1) := by decide +kernel
theorem dX12_tear_12 : decode cX12_tear 12 = .ok (.putfield 156, 3) := by decide +kernel
theorem dX12_tear_15 : decode cX12_tear 15 = .ok (.aload_n 0, 1) := by decide +kernel
theorem dX12_tear_16 : decode cX12_tear 16 = .ok (.iconst 0, 1) := by decide +kernel
theorem dX12_tear_17 : decode cX12_tear 17 = .ok (.putfield 159, 3) := by decide +kernel
theorem dX12_tear_20 : decode cX12_tear 20 = .ok (.iload_n 1, 1) := by decide +kernel
theorem dX12_tear_21 : decode cX12_tear 21 = .ok (.ireturn, 1) := by decide +kernel
set_option maxRecDepth 20000 in
theorem ggX12_judge_X12_bits : GoodIn wsX12_judge wsX12_bits := goodIn_r _ [7] (by decide +kernel) (by decide +kernel)
set_option maxRecDepth 20000 in
theorem gX12_judge_X12_bits : GoodIn wsX12_judge (va_wsS RX12 236 yX12_bits wsX12_bits) := goodIn_app (goodIn_of _ (by decide +kernel)) ggX12_judge_X12_bits
theorem dX12_judge_0 : decode cX12_judge 0 = .ok (.iconst 0, 1) := by decide +kernel
theorem dX12_judge_1 : decode cX12_judge 1 = .ok (.istore_n 1, 1) := by decide +kernel
theorem dX12_judge_2 : decode cX12_judge 2 = .ok (.iload_n 1, 1) := by decide +kernel
theorem dX12_judge_3 : decode cX12_judge 3 = .ok (.aload_n 0, 1) := by decide +kernel
theorem dX12_judge_4 : decode cX12_judge 4 = .ok (.getfield 159, 3) := by decide +kernel
theorem dX12_judge_7 : decode cX12_judge 7 = .ok (.if_icmp .ge 30, 3) := by decide +kernel
theorem dX12_judge_10 : decode cX12_judge 10 = .ok (.aload_n 0, 1) := by decide +kernel
theorem dX12_judge_11 : decode cX12_judge 11 = .ok (.getfield 22, 3) := by decide +kernel
theorem dX12_judge_14 : decode cX12_judge 14 = .ok (.bipush 19, 2) := by decide +kernel
theorem dX12_judge_16 : decode cX12_judge 16 = .ok (.iaload, 1) := by decide +kernel
theorem dX12_judge_17 : decode cX12_judge 17 = .ok (.invokestatic 236, 3) := by decide +kernel
theorem dX12_judge_20 : decode cX12_judge 20 = .ok (.aload_n 0, 1) := by decide +kernel
theorem dX12_judge_21 : decode cX12_judge 21 = .ok (.getfield 62, 3) := by decide +kernel
theorem dX12_judge_24 : decode cX12_judge 24 = .ok (.iload_n 1, 1) := by decide +kernel
theorem dX12_judge_25 : decode cX12_judge 25 = .ok (.iaload, 1) := by decide +kernel
theorem dX12_judge_26 : decode cX12_judge 26 = .ok (.if_icmp .eq 5, 3) := by decide +kernel
theorem dX12_judge_29 : decode cX12_judge 29 = .ok (.iload_n 1, 1) := by decide +kernel
theorem dX12_judge_30 : decode cX12_judge 30 = .ok (.ireturn, 1) := by decide +kernel
theorem dX12_judge_31 : decode cX12_judge 31 = .ok (.iinc 1 1, 3) := by decide +kernel
theorem dX12_judge_34 : decode cX12_judge 34 = .ok (.goto (-32), 3) := by decide +kernel
theorem dX12_judge_37 : decode cX12_judge 37 = .ok (.iconst (-1), 1) := by decide +kernel
theorem dX12_judge_38 : decode cX12_judge 38 = .ok (.ireturn, 1) := by decide +kernel
theorem dX12_seed_0 : decode cX12_seed 0 = .ok (.iload_n 1, 1) := by decide +kernel
theorem dX12_seed_1 : decode cX12_seed 1 = .ok (.ifCond .ge 6, 3) := by decide +kernel
theorem dX12_seed_4 : decode cX12_seed 4 = .ok (.ldc 94, 2) := by decide +kernel
theorem dX12_seed_6 : decode cX12_seed 6 = .ok (.ireturn, 1) := by decide +kernel
theorem dX12_seed_7 : decode cX12_seed 7 = .ok (.aload_n 0, 1) := by decide +kernel
theorem dX12_seed_8 : decode cX12_seed 8 = .ok (.getfield 205, 3) := by decide +kernel
theorem dX12_seed_11 : decode cX12_seed 11 = .ok (.istore_n 2, 1) := by decide +kernel
theorem dX12_seed_12 : decode cX12_seed 12 = .ok (.aload_n 0, 1) := by decide +kernel
theorem dX12_seed_13 : decode cX12_seed 13 = .ok (.iload_n 1, 1) := by decide +kernel
theorem dX12_seed_14 : decode cX12_seed 14 = .ok (.putfield 205, 3) := by decide +kernel
theorem dX12_seed_17 : decode cX12_seed 17 = .ok (.iload_n 2, 1) := by decide +kernel
theorem dX12_seed_18 : decode cX12_seed 18 = .ok (.ireturn, 1) := by decide +kernel
set_option maxRecDepth 20000 in
theorem ggX12_keep_X12_in : GoodIn wsX12_keep wsX12_in := goodIn_r _ [10] (by decide +kernel) (by decide +kernel)
set_option maxRecDepth 20000 in
theorem gX12_keep_X12_in : GoodIn wsX12_keep (va_wsS RX12 82 yX12_in wsX12_in) := goodIn_app (goodIn_of _ (by decide +kernel)) ggX12_keep_X12_in
theorem dX12_keep_0 : decode cX12_keep 0 = .ok (.iload_n 1, 1) := by decide +kernel
theorem dX12_keep_1 : decode cX12_keep 1 = .ok (.i2l, 1) := by decide +kernel
theorem dX12_keep_2 : decode cX12_keep 2 = .ok (.lconst 0, 1) := by decide +kernel
theorem dX12_keep_3 : decode cX12_keep 3 = .ok (.lconst 1, 1) := by decide +kernel
theorem dX12_keep_4 : decode cX12_keep 4 = .ok (.invokestatic 82, 3) := by decide +kernel
theorem dX12_keep_7 : decode cX12_keep 7 = .ok (.ifCond .ne 6, 3) := by decide +kernel
theorem dX12_keep_10 : decode cX12_keep 10 = .ok (.ldc 165, 2) := by decide +kernel
theorem dX12_keep_12 : decode cX12_keep 12 = .ok (.ireturn, 1) := by decide +kernel
theorem dX12_keep_13 : decode cX12_keep 13 = .ok (.iconst 0, 1) := by decide +kernel
theorem dX12_keep_14 : decode cX12_keep 14 = .ok (.istore_n 2, 1) := by decide +kernel
theorem dX12_keep_15 : decode cX12_keep 15 = .ok (.iload_n 2, 1) := by decide +kernel
theorem dX12_keep_16 : decode cX12_keep 16 = .ok (.bipush 28, 2) := by decide +kernel
theorem dX12_keep_18 : decode cX12_keep 18 = .ok (.if_icmp .ge 26, 3) := by decide +kernel
theorem dX12_keep_21 : decode cX12_keep 21 = .ok (.aload_n 0, 1) := by decide +kernel
theorem dX12_keep_22 : decode cX12_keep 22 = .ok (.getfield 65, 3) := by decide +kernel
theorem dX12_keep_25 : decode cX12_keep 25 = .ok (.bipush 29, 2) := by decide +kernel
theorem dX12_keep_27 : decode cX12_keep 27 = .ok (.iload_n 1, 1) := by decide +kernel
theorem dX12_keep_28 : decode cX12_keep 28 = .ok (.imul, 1) := by decide +kernel
theorem dX12_keep_29 : decode cX12_keep 29 = .ok (.iload_n 2, 1) := by decide +kernel
theorem dX12_keep_30 : decode cX12_keep 30 = .ok (.iadd, 1) := by decide +kernel
theorem dX12_keep_31 : decode cX12_keep 31 = .ok (.aload_n 0, 1) := by decide +kernel
theorem dX12_keep_32 : decode cX12_keep 32 = .ok (.getfield 22, 3) := by decide +kernel
theorem dX12_keep_35 : decode cX12_keep 35 = .ok (.iload_n 2, 1) := by decide +kernel
theorem dX12_keep_36 : decode cX12_keep 36 = .ok (.iaload, 1) := by decide +kernel
theorem dX12_keep_37 : decode cX12_keep 37 = .ok (.iastore, 1) := by decide +kernel
theorem dX12_keep_38 : decode cX12_keep 38 = .ok (.iinc 2 1, 3) := by decide +kernel
theorem dX12_keep_41 : decode cX12_keep 41 = .ok (.goto (-26), 3) := by decide +kernel
theorem dX12_keep_44 : decode cX12_keep 44 = .ok (.aload_n 0, 1) := by decide +kernel
theorem dX12_keep_45 : decode cX12_keep 45 = .ok (.getfield 65, 3) := by decide +kernel
theorem dX12_keep_48 : decode cX12_keep 48 = .ok (.bipush 29, 2) := by decide +kernel
theorem dX12_keep_50 : decode cX12_keep 50 = .ok (.iload_n 1, 1) := by decide +kernel
theorem dX12_keep_51 : decode cX12_keep 51 = .ok (.imul, 1) := by decide +kernel
theorem dX12_keep_52 : decode cX12_keep 52 = .ok (.bipush 28, 2) := by decide +kernel
theorem dX12_keep_54 : decode cX12_keep 54 = .ok (.iadd, 1) := by decide +kernel
theorem dX12_keep_55 : decode cX12_keep 55 = .ok (.aload_n 0, 1) := by decide +kernel
theorem dX12_keep_56 : decode cX12_keep 56 = .ok (.getfield 205, 3) := by decide +kernel
theorem dX12_keep_59 : decode cX12_keep 59 = .ok (.iastore, 1) := by decide +kernel
theorem dX12_keep_60 : decode cX12_keep 60 = .ok (.aload_n 0, 1) := by decide +kernel
theorem dX12_keep_61 : decode cX12_keep 61 = .ok (.getfield 68, 3) := by decide +kernel
theorem dX12_keep_64 : decode cX12_keep 64 = .ok (.iload_n 1, 1) := by decide +kernel
theorem dX12_keep_65 : decode cX12_keep 65 = .ok (.iconst 1, 1) := by decide +kernel
theorem dX12_keep_66 : decode cX12_keep 66 = .ok (.bastore, 1) := by decide +kernel
theorem dX12_keep_67 : decode cX12_keep 67 = .ok (.aload_n 0, 1) := by decide +kernel
theorem dX12_keep_68 : decode cX12_keep 68 = .ok (.iconst 0, 1) := by decide +kernel
theorem dX12_keep_69 : decode cX12_keep 69 = .ok (.putfield 162, 3) := by decide +kernel
theorem dX12_keep_72 : decode cX12_keep 72 = .ok (.iconst 1, 1) := by decide +kernel
theorem dX12_keep_73 : decode cX12_keep 73 = .ok (.ireturn, 1) := by decide +kernel
set_option maxRecDepth 20000 in
theorem ggX12_goBack_X12_in : GoodIn wsX12_goBack wsX12_in := goodIn_r _ [11] (by decide +kernel) (by decide +kernel)
set_option maxRecDepth 20000 in
theorem gX12_goBack_X12_in : GoodIn wsX12_goBack (va_wsS RX12 82 yX12_in wsX12_in) := goodIn_app (goodIn_of _ (by decide +kernel)) ggX12_goBack_X12_in
theorem dX12_goBack_0 : decode cX12_goBack 0 = .ok (.iload_n 1, 1) := by decide +kernel
theorem dX12_goBack_1 : decode cX12_goBack 1 = .ok (.i2l, 1) := by decide +kernel
theorem dX12_goBack_2 : decode cX12_goBack 2 = .ok (.lconst 0, 1) := by decide +kernel
theorem dX12_goBack_3 : decode cX12_goBack 3 = .ok (.lconst 1, 1) := by decide +kernel
theorem dX12_goBack_4 : decode cX12_goBack 4 = .ok (.invokestatic 82, 3) := by decide +kernel
theorem dX12_goBack_7 : decode cX12_goBack 7 = .ok (.ifCond .ne 6, 3) := by decide +kernel
theorem dX12_goBack_10 : decode cX12_goBack 10 = .ok (.ldc 165, 2) := by decide +kernel
theorem dX12_goBack_12 : decode cX12_goBack 12 = .ok (.ireturn, 1) := by decide +kernel
theorem dX12_goBack_13 : decode cX12_goBack 13 = .ok (.aload_n 0, 1) := by decide +kernel
theorem dX12_goBack_14 : decode cX12_goBack 14 = .ok (.getfield 68, 3) := by decide +kernel
theorem dX12_goBack_17 : decode cX12_goBack 17 = .ok (.iload_n 1, 1) := by decide +kernel
theorem dX12_goBack_18 : decode cX12_goBack 18 = .ok (.baload, 1) := by decide +kernel
theorem dX12_goBack_19 : decode cX12_goBack 19 = .ok (.ifCond .ne 6, 3) := by decide +kernel
theorem dX12_goBack_22 : decode cX12_goBack 22 = .ok (.ldc 204, 2) := by decide +kernel
theorem dX12_goBack_24 : decode cX12_goBack 24 = .ok (.ireturn, 1) := by decide +kernel
theorem dX12_goBack_25 : decode cX12_goBack 25 = .ok (.iconst 0, 1) := by decide +kernel
theorem dX12_goBack_26 : decode cX12_goBack 26 = .ok (.istore_n 2, 1) := by decide +kernel
theorem dX12_goBack_27 : decode cX12_goBack 27 = .ok (.iload_n 2, 1) := by decide +kernel
theorem dX12_goBack_28 : decode cX12_goBack 28 = .ok (.bipush 28, 2) := by decide +kernel
theorem dX12_goBack_30 : decode cX12_goBack 30 = .ok (.if_icmp .ge 26, 3) := by decide +kernel
theorem dX12_goBack_33 : decode cX12_goBack 33 = .ok (.aload_n 0, 1) := by decide +kernel
theorem dX12_goBack_34 : decode cX12_goBack 34 = .ok (.getfield 22, 3) := by decide +kernel
theorem dX12_goBack_37 : decode cX12_goBack 37 = .ok (.iload_n 2, 1) := by decide +kernel
theorem dX12_goBack_38 : decode cX12_goBack 38 = .ok (.aload_n 0, 1) := by decide +kernel
theorem dX12_goBack_39 : decode cX12_goBack 39 = .ok (.getfield 65, 3) := by decide +kernel
theorem dX12_goBack_42 : decode cX12_goBack 42 = .ok (.bipush 29, 2) := by decide +kernel
theorem dX12_goBack_44 : decode cX12_goBack 44 = .ok (.iload_n 1, 1) := by decide +kernel
theorem dX12_goBack_45 : decode cX12_goBack 45 = .ok (.imul, 1) := by decide +kernel
theorem dX12_goBack_46 : decode cX12_goBack 46 = .ok (.iload_n 2, 1) := by decide +kernel
theorem dX12_goBack_47 : decode cX12_goBack 47 = .ok (.iadd, 1) := by decide +kernel
theorem dX12_goBack_48 : decode cX12_goBack 48 = .ok (.iaload, 1) := by decide +kernel
theorem dX12_goBack_49 : decode cX12_goBack 49 = .ok (.iastore, 1) := by decide +kernel
theorem dX12_goBack_50 : decode cX12_goBack 50 = .ok (.iinc 2 1, 3) := by decide +kernel
theorem dX12_goBack_53 : decode cX12_goBack 53 = .ok (.goto (-26), 3) := by decide +kernel
theorem dX12_goBack_56 : decode cX12_goBack 56 = .ok (.aload_n 0, 1) := by decide +kernel
theorem dX12_goBack_57 : decode cX12_goBack 57 = .ok (.aload_n 0, 1) := by decide +kernel
theorem dX12_goBack_58 : decode cX12_goBack 58 = .ok (.getfield 65, 3) := by decide +kernel
theorem dX12_goBack_61 : decode cX12_goBack 61 = .ok (.bipush 29, 2) := by decide +kernel
theorem dX12_goBack_63 : decode cX12_goBack 63 = .ok (.iload_n 1, 1) := by decide +kernel
theorem dX12_goBack_64 : decode cX12_goBack 64 = .ok (.imul, 1) := by decide +kernel
theorem dX12_goBack_65 : decode cX12_goBack 65 = .ok (.bipush 28, 2) := by decide +kernel
theorem dX12_goBack_67 : decode cX12_goBack 67 = .ok (.iadd, 1) := by decide +kernel
theorem dX12_goBack_68 : decode cX12_goBack 68 = .ok (.iaload, 1) := by decide +kernel
theorem dX12_goBack_69 : decode cX12_goBack 69 = .ok (.putfield 205, 3) := by decide +kernel
theorem dX12_goBack_72 : decode cX12_goBack 72 = .ok (.aload_n 0, 1) := by decide +kernel
theorem dX12_goBack_73 : decode cX12_goBack 73 = .ok (.iconst 0, 1) := by decide +kernel
theorem dX12_goBack_74 : decode cX12_goBack 74 = .ok (.putfield 162, 3) := by decide +kernel
theorem dX12_goBack_77 : decode cX12_goBack 77 = .ok (.iconst 1, 1) := by decide +kernel
theorem dX12_goBack_78 : decode cX12_goBack 78 = .ok (.ireturn, 1) := by decide +kernel
theorem dJ6_bitCount_0f7a4_0 : decode cJ6_bitCount_0f7a4 0 = .ok (.iload_n 0, 1) := by decide +kernel
theorem dJ6_bitCount_0f7a4_1 : decode cJ6_bitCount_0f7a4 1 = .ok (.iload_n 0, 1) := by decide +kernel
theorem dJ6_bitCount_0f7a4_2 : decode cJ6_bitCount_0f7a4 2 = .ok (.iconst 1, 1) := by decide +kernel
theorem dJ6_bitCount_0f7a4_3 : decode cJ6_bitCount_0f7a4 3 = .ok (.iushr, 1) := by decide +kernel
theorem dJ6_bitCount_0f7a4_4 : decode cJ6_bitCount_0f7a4 4 = .ok (.ldc_w 265, 3) := by decide +kernel
theorem dJ6_bitCount_0f7a4_7 : decode cJ6_bitCount_0f7a4 7 = .ok (.iand, 1) := by decide +kernel
theorem dJ6_bitCount_0f7a4_8 : decode cJ6_bitCount_0f7a4 8 = .ok (.isub, 1) := by decide +kernel
theorem dJ6_bitCount_0f7a4_9 : decode cJ6_bitCount_0f7a4 9 = .ok (.istore_n 0, 1) := by decide +kernel
theorem dJ6_bitCount_0f7a4_10 : decode cJ6_bitCount_0f7a4 10 = .ok (.iload_n 0, 1) := by decide +kernel
theorem dJ6_bitCount_0f7a4_11 : decode cJ6_bitCount_0f7a4 11 = .ok (.ldc_w 266, 3) := by decide +kernel
theorem dJ6_bitCount_0f7a4_14 : decode cJ6_bitCount_0f7a4 14 = .ok (.iand, 1) := by decide +kernel
theorem dJ6_bitCount_0f7a4_15 : decode cJ6_bitCount_0f7a4 15 = .ok (.iload_n 0, 1) := by decide +kernel
theorem dJ6_bitCount_0f7a4_16 : decode cJ6_bitCount_0f7a4 16 = .ok (.iconst 2, 1) := by decide +kernel
theorem dJ6_bitCount_0f7a4_17 : decode cJ6_bitCount_0f7a4 17 = .ok (.iushr, 1) := by decide +kernel
theorem dJ6_bitCount_0f7a4_18 : decode cJ6_bitCount_0f7a4 18 = .ok (.ldc_w 266, 3) := by decide +kernel
theorem dJ6_bitCount_0f7a4_21 : decode cJ6_bitCount_0f7a4 21 = .ok (.iand, 1) := by decide +kernel
theorem dJ6_bitCount_0f7a4_22 : decode cJ6_bitCount_0f7a4 22 = .ok (.iadd, 1) := by decide +kernel
theorem dJ6_bitCount_0f7a4_23 : decode cJ6_bitCount_0f7a4 23 = .ok (.istore_n 0, 1) := by decide +kernel
theorem dJ6_bitCount_0f7a4_24 : decode cJ6_bitCount_0f7a4 24 = .ok (.iload_n 0, 1) := by decide +kernel
theorem dJ6_bitCount_0f7a4_25 : decode cJ6_bitCount_0f7a4 25 = .ok (.iload_n 0, 1) := by decide +kernel
theorem dJ6_bitCount_0f7a4_26 : decode cJ6_bitCount_0f7a4 26 = .ok (.iconst 4, 1) := by decide +kernel
theorem dJ6_bitCount_0f7a4_27 : decode cJ6_bitCount_0f7a4 27 = .ok (.iushr, 1) := by decide +kernel
theorem dJ6_bitCount_0f7a4_28 : decode cJ6_bitCount_0f7a4 28 = .ok (.iadd, 1) := by decide +kernel
theorem dJ6_bitCount_0f7a4_29 : decode cJ6_bitCount_0f7a4 29 = .ok (.ldc_w 267, 3) := by decide +kernel
theorem dJ6_bitCount_0f7a4_32 : decode cJ6_bitCount_0f7a4 32 = .ok (.iand, 1) := by decide +kernel
theorem dJ6_bitCount_0f7a4_33 : decode cJ6_bitCount_0f7a4 33 = .ok (.istore_n 0, 1) := by decide +kernel
theorem dJ6_bitCount_0f7a4_34 : decode cJ6_bitCount_0f7a4 34 = .ok (.iload_n 0, 1) := by decide +kernel
theorem dJ6_bitCount_0f7a4_35 : decode cJ6_bitCount_0f7a4 35 = .ok (.iload_n 0, 1) := by decide +kernel
theorem dJ6_bitCount_0f7a4_36 : decode cJ6_bitCount_0f7a4 36 = .ok (.bipush 8, 2) := by decide +kernel
theorem dJ6_bitCount_0f7a4_38 : decode cJ6_bitCount_0f7a4 38 = .ok (.iushr, 1) := by decide +kernel
theorem dJ6_bitCount_0f7a4_39 : decode cJ6_bitCount_0f7a4 39 = .ok (.iadd, 1) := by decide +kernel
theorem dJ6_bitCount_0f7a4_40 : decode cJ6_bitCount_0f7a4 40 = .ok (.istore_n 0, 1) := by decide +kernel
theorem dJ6_bitCount_0f7a4_41 : decode cJ6_bitCount_0f7a4 41 = .ok (.iload_n 0, 1) := by decide +kernel
theorem dJ6_bitCount_0f7a4_42 : decode cJ6_bitCount_0f7a4 42 = .ok (.iload_n 0, 1) := by decide +kernel
theorem dJ6_bitCount_0f7a4_43 : decode cJ6_bitCount_0f7a4 43 = .ok (.bipush 16, 2) := by decide +kernel
theorem dJ6_bitCount_0f7a4_45 : decode cJ6_bitCount_0f7a4 45 = .ok (.iushr, 1) := by decide +kernel
theorem dJ6_bitCount_0f7a4_46 : decode cJ6_bitCount_0f7a4 46 = .ok (.iadd, 1) := by decide +kernel
theorem dJ6_bitCount_0f7a4_47 : decode cJ6_bitCount_0f7a4 47 = .ok (.istore_n 0, 1) := by decide +kernel
theorem dJ6_bitCount_0f7a4_48 : decode cJ6_bitCount_0f7a4 48 = .ok (.iload_n 0, 1) := by decide +kernel
theorem dJ6_bitCount_0f7a4_49 : decode cJ6_bitCount_0f7a4 49 = .ok (.bipush 63, 2) := by decide +kernel
theorem dJ6_bitCount_0f7a4_51 : decode cJ6_bitCount_0f7a4 51 = .ok (.iand, 1) := by decide +kernel
theorem dJ6_bitCount_0f7a4_52 : decode cJ6_bitCount_0f7a4 52 = .ok (.ireturn, 1) := by decide +kernel
theorem dJ9_max_7cf53_0 : decode cJ9_max_7cf53 0 = .ok (.iload_n 0, 1) := by decide +kernel
theorem dJ9_max_7cf53_1 : decode cJ9_max_7cf53 1 = .ok (.iload_n 1, 1) := by decide +kernel
theorem dJ9_max_7cf53_2 : decode cJ9_max_7cf53 2 = .ok (.if_icmp .lt 7, 3) := by decide +kernel
theorem dJ9_max_7cf53_5 : decode cJ9_max_7cf53 5 = .ok (.iload_n 0, 1) := by decide +kernel
theorem dJ9_max_7cf53_6 : decode cJ9_max_7cf53 6 = .ok (.goto 4, 3) := by decide +kernel
theorem dJ9_max_7cf53_9 : decode cJ9_max_7cf53 9 = .ok (.iload_n 1, 1) := by decide +kernel
theorem dJ9_max_7cf53_10 : decode cJ9_max_7cf53 10 = .ok (.ireturn, 1) := by decide +kernel
theorem dJ9_min_7cf53_0 : decode cJ9_min_7cf53 0 = .ok (.iload_n 0, 1) := by decide +kernel
theorem dJ9_min_7cf53_1 : decode cJ9_min_7cf53 1 = .ok (.iload_n 1, 1) := by decide +kernel
theorem dJ9_min_7cf53_2 : decode cJ9_min_7cf53 2 = .ok (.if_icmp .gt 7, 3) := by decide +kernel
theorem dJ9_min_7cf53_5 : decode cJ9_min_7cf53 5 = .ok (.iload_n 0, 1) := by decide +kernel
theorem dJ9_min_7cf53_6 : decode cJ9_min_7cf53 6 = .ok (.goto 4, 3) := by decide +kernel
theorem dJ9_min_7cf53_9 : decode cJ9_min_7cf53 9 = .ok (.iload_n 1, 1) := by decide +kernel
theorem dJ9_min_7cf53_10 : decode cJ9_min_7cf53 10 = .ok (.ireturn, 1) := by decide +kernel
